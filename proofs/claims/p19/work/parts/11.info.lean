/-- a method: name, bytes, locals, answer, handlers, class, the class's number, frames and words that it needs -/
abbrev so_I : Type := MethodName × ByteArray × Nat × Option FieldType × List (Nat × Nat × Nat × Nat) × String × Nat × Nat × Nat
def in_SR_init : so_I := (⟨"SortedRuns", "<init>", "(I)V"⟩, prog_1_method_1_code, 4, none, [], "SortedRuns", 0, 4, 86)
def in_Table_init : so_I := (⟨"SortedRuns$Table", "<init>", "()V"⟩, prog_11_method_1_code, 1, none, [], "SortedRuns$Table", 10, 2, 40)
def in_Fate_init : so_I := (⟨"SortedRuns$Fate", "<init>", "()V"⟩, prog_3_method_1_code, 1, none, [], "SortedRuns$Fate", 2, 1, 20)
def in_RunList_init : so_I := (⟨"SortedRuns$RunList", "<init>", "()V"⟩, prog_6_method_1_code, 3, none, [], "SortedRuns$RunList", 5, 2, 42)
def in_Run_init : so_I := (⟨"SortedRuns$Run", "<init>", "(II)V"⟩, prog_5_method_1_code, 3, none, [], "SortedRuns$Run", 4, 1, 20)
def in_Sheet_init : so_I := (⟨"SortedRuns$Sheet", "<init>", "()V"⟩, prog_8_method_1_code, 1, none, [], "SortedRuns$Sheet", 7, 1, 20)
def in_Pages_init : so_I := (⟨"SortedRuns$Pages", "<init>", "(I)V"⟩, prog_4_method_1_code, 2, none, [], "SortedRuns$Pages", 3, 1, 20)
def in_Space_init : so_I := (⟨"SortedRuns$Space", "<init>", "(I)V"⟩, prog_9_method_1_code, 2, none, [], "SortedRuns$Space", 8, 1, 20)
def in_Blend_init : so_I := (⟨"SortedRuns$Blend", "<init>", "(LSortedRuns$Table;LSortedRuns$Pages;LSortedRuns$Space;)V"⟩, prog_2_method_1_code, 5, none, [], "SortedRuns$Blend", 1, 3, 62)
def in_TableStream_init : so_I := (⟨"SortedRuns$TableStream", "<init>", "(LSortedRuns$Table;)V"⟩, prog_12_method_1_code, 2, none, [], "SortedRuns$TableStream", 11, 2, 40)
def in_Stream_init : so_I := (⟨"SortedRuns$Stream", "<init>", "()V"⟩, prog_10_method_1_code, 1, none, [], "SortedRuns$Stream", 9, 1, 20)
def in_RunStream_init : so_I := (⟨"SortedRuns$RunStream", "<init>", "(LSortedRuns$Pages;LSortedRuns$Space;)V"⟩, prog_7_method_1_code, 3, none, [], "SortedRuns$RunStream", 6, 2, 40)
def in_SR_fillHead : so_I := (⟨"SortedRuns", "fillHead", "(I)V"⟩, prog_1_method_23_code, 4, none, [], "SortedRuns", 0, 2, 42)
def in_Sheet_clear : so_I := (⟨"SortedRuns$Sheet", "clear", "()V"⟩, prog_8_method_2_code, 2, none, [], "SortedRuns$Sheet", 7, 0, 0)
def in_Sheet_two : so_I := (⟨"SortedRuns$Sheet", "two", "(I)V"⟩, prog_8_method_4_code, 2, none, [], "SortedRuns$Sheet", 7, 1, 21)
def in_Sheet_one : so_I := (⟨"SortedRuns$Sheet", "one", "(I)V"⟩, prog_8_method_3_code, 2, none, [], "SortedRuns$Sheet", 7, 0, 0)
def in_Sheet_seal : so_I := (⟨"SortedRuns$Sheet", "seal", "(I)V"⟩, prog_8_method_13_code, 5, none, [], "SortedRuns$Sheet", 7, 1, 25)
def in_Sheet_sumOf : so_I := (⟨"SortedRuns$Sheet", "sumOf", "([BII)J"⟩, prog_8_method_14_code, 6, (some .long), [], "SortedRuns$Sheet", 7, 0, 0)
def in_Pages_lay : so_I := (⟨"SortedRuns$Pages", "lay", "(ILSortedRuns$Sheet;I)V"⟩, prog_4_method_10_code, 5, none, [], "SortedRuns$Pages", 3, 1, 21)
def in_Pages_has : so_I := (⟨"SortedRuns$Pages", "has", "(I)Z"⟩, prog_4_method_2_code, 2, (some .boolean), [], "SortedRuns$Pages", 3, 0, 0)
def in_Pages_checkSum : so_I := (⟨"SortedRuns$Pages", "checkSum", "(I)V"⟩, prog_4_method_12_code, 6, none, [], "SortedRuns$Pages", 3, 1, 25)
def in_SR_state : so_I := (⟨"SortedRuns", "state", "()I"⟩, prog_1_method_32_code, 1, (some .int), [], "SortedRuns", 0, 0, 0)
def in_SR_badAt : so_I := (⟨"SortedRuns", "badAt", "()I"⟩, prog_1_method_42_code, 4, (some .int), [], "SortedRuns", 0, 3, 67)
def in_Pages_isRight : so_I := (⟨"SortedRuns$Pages", "isRight", "(I)Z"⟩, prog_4_method_6_code, 2, (some .boolean), [], "SortedRuns$Pages", 3, 1, 21)
def in_SR_leastWrong : so_I := (⟨"SortedRuns", "leastWrong", "(LSortedRuns$RunList;)I"⟩, prog_1_method_43_code, 6, (some .int), [], "SortedRuns", 0, 2, 42)
def in_Space_after : so_I := (⟨"SortedRuns$Space", "after", "(I)I"⟩, prog_9_method_6_code, 2, (some .int), [], "SortedRuns$Space", 8, 1, 21)
def in_Space_has : so_I := (⟨"SortedRuns$Space", "has", "(I)Z"⟩, prog_9_method_2_code, 2, (some .boolean), [], "SortedRuns$Space", 8, 0, 0)
def in_SR_down : so_I := (⟨"SortedRuns", "down", "()Z"⟩, prog_1_method_45_code, 1, (some .boolean), [], "SortedRuns", 0, 2, 42)
def in_SR_goDown : so_I := (⟨"SortedRuns", "goDown", "()V"⟩, prog_1_method_46_code, 2, none, [], "SortedRuns", 0, 1, 21)
def in_RunList_forget : so_I := (⟨"SortedRuns$RunList", "forget", "()V"⟩, prog_6_method_7_code, 1, none, [], "SortedRuns$RunList", 5, 0, 0)
def in_Space_clear : so_I := (⟨"SortedRuns$Space", "clear", "()V"⟩, prog_9_method_3_code, 2, none, [], "SortedRuns$Space", 8, 0, 0)
def in_La_cell : so_I := (⟨"SortedRunsLaw", "cell", "([II)I"⟩, method_2_code, 2, (some .int), [], "SortedRunsLaw", 12, 0, 0)
def in_SR_put : so_I := (⟨"SortedRuns", "put", "(JJ)I"⟩, prog_1_method_2_code, 5, (some .int), [], "SortedRuns", 0, 8, 136)
def in_SR_enterOne : so_I := (⟨"SortedRuns", "enterOne", "(JIJ)I"⟩, prog_1_method_5_code, 6, (some .int), [], "SortedRuns", 0, 7, 111)
def in_SR_requireUp : so_I := (⟨"SortedRuns", "requireUp", "()V"⟩, prog_1_method_6_code, 1, none, [], "SortedRuns", 0, 6, 91)
def in_Table_hasPlaceFor : so_I := (⟨"SortedRuns$Table", "hasPlaceFor", "(J)Z"⟩, prog_11_method_4_code, 3, (some .boolean), [], "SortedRuns$Table", 10, 1, 26)
def in_Table_placeOf : so_I := (⟨"SortedRuns$Table", "placeOf", "(J)I"⟩, prog_11_method_2_code, 7, (some .int), [], "SortedRuns$Table", 10, 0, 0)
def in_Table_holds : so_I := (⟨"SortedRuns$Table", "holds", "(IJ)Z"⟩, prog_11_method_3_code, 4, (some .boolean), [], "SortedRuns$Table", 10, 0, 0)
def in_Table_enter : so_I := (⟨"SortedRuns$Table", "enter", "(JIJ)V"⟩, prog_11_method_5_code, 7, none, [], "SortedRuns$Table", 10, 1, 26)
def in_Fate_begin : so_I := (⟨"SortedRuns$Fate", "begin", "(IJ)V"⟩, prog_3_method_2_code, 4, none, [], "SortedRuns$Fate", 2, 0, 0)
def in_Fate_layUpon : so_I := (⟨"SortedRuns$Fate", "layUpon", "(IJ)V"⟩, prog_3_method_4_code, 4, none, [], "SortedRuns$Fate", 2, 0, 0)
def in_Table_shiftFrom : so_I := (⟨"SortedRuns$Table", "shiftFrom", "(I)V"⟩, prog_11_method_6_code, 3, none, [], "SortedRuns$Table", 10, 0, 0)
def in_SR_remove : so_I := (⟨"SortedRuns", "remove", "(J)I"⟩, prog_1_method_3_code, 3, (some .int), [], "SortedRuns", 0, 8, 136)
def in_SR_fold : so_I := (⟨"SortedRuns", "fold", "(JJ)I"⟩, prog_1_method_4_code, 5, (some .int), [], "SortedRuns", 0, 8, 136)
def in_SR_many : so_I := (⟨"SortedRuns", "many", "(IIJJ)I"⟩, prog_1_method_7_code, 10, (some .int), [], "SortedRuns", 0, 7, 171)
def in_SR_isKind : so_I := (⟨"SortedRuns", "isKind", "(I)Z"⟩, prog_1_method_8_code, 1, (some .boolean), [], "SortedRuns", 0, 0, 0)
def in_RunList_countUpTo : so_I := (⟨"SortedRuns$RunList", "countUpTo", "(I)I"⟩, prog_6_method_2_code, 3, (some .int), [], "SortedRuns$RunList", 5, 0, 0)
def in_SR_mergeRuns : so_I := (⟨"SortedRuns", "mergeRuns", "()I"⟩, prog_1_method_12_code, 5, (some .int), [], "SortedRuns", 0, 6, 147)
def in_SR_readRuns : so_I := (⟨"SortedRuns", "readRuns", "(LSortedRuns$RunList;II)Z"⟩, prog_1_method_16_code, 8, (some .boolean), [], "SortedRuns", 0, 3, 63)
def in_Pages_readsRight : so_I := (⟨"SortedRuns$Pages", "readsRight", "(I)Z"⟩, prog_4_method_7_code, 2, (some .boolean), [], "SortedRuns$Pages", 3, 2, 42)
def in_SR_blendRuns : so_I := (⟨"SortedRuns", "blendRuns", "(I)V"⟩, prog_1_method_18_code, 3, none, [], "SortedRuns", 0, 4, 92)
def in_Blend_begin : so_I := (⟨"SortedRuns$Blend", "begin", "(Z)V"⟩, prog_2_method_2_code, 2, none, [], "SortedRuns$Blend", 1, 0, 0)
def in_Blend_addRun : so_I := (⟨"SortedRuns$Blend", "addRun", "(LSortedRuns$Run;J)V"⟩, prog_2_method_4_code, 5, none, [], "SortedRuns$Blend", 1, 3, 68)
def in_RunStream_start : so_I := (⟨"SortedRuns$RunStream", "start", "(LSortedRuns$Run;J)V"⟩, prog_7_method_2_code, 4, none, [], "SortedRuns$RunStream", 6, 2, 44)
def in_Space_beginsAbove : so_I := (⟨"SortedRuns$Space", "beginsAbove", "(IJ)Z"⟩, prog_9_method_7_code, 4, (some .boolean), [], "SortedRuns$Space", 8, 1, 21)
def in_RunStream_step : so_I := (⟨"SortedRuns$RunStream", "step", "()V"⟩, prog_7_method_4_code, 2, none, [], "SortedRuns$RunStream", 6, 2, 47)
def in_Pages_peek : so_I := (⟨"SortedRuns$Pages", "peek", "(II)I"⟩, prog_4_method_3_code, 3, (some .int), [], "SortedRuns$Pages", 3, 1, 21)
def in_RunStream_readKey : so_I := (⟨"SortedRuns$RunStream", "readKey", "()V"⟩, prog_7_method_5_code, 5, none, [], "SortedRuns$RunStream", 6, 1, 22)
def in_RunStream_nextOctet : so_I := (⟨"SortedRuns$RunStream", "nextOctet", "()I"⟩, prog_7_method_7_code, 3, (some .int), [], "SortedRuns$RunStream", 6, 0, 0)
def in_RunStream_readValue : so_I := (⟨"SortedRuns$RunStream", "readValue", "()J"⟩, prog_7_method_6_code, 6, (some .long), [], "SortedRuns$RunStream", 6, 1, 22)
def in_Blend_addInput : so_I := (⟨"SortedRuns$Blend", "addInput", "(LSortedRuns$Stream;)V"⟩, prog_2_method_5_code, 2, none, [], "SortedRuns$Blend", 1, 0, 0)
def in_SR_mostPages : so_I := (⟨"SortedRuns", "mostPages", "(I)I"⟩, prog_1_method_13_code, 1, (some .int), [], "SortedRuns", 0, 0, 0)
def in_SR_countPages : so_I := (⟨"SortedRuns", "countPages", "(I)I"⟩, prog_1_method_19_code, 4, (some .int), [], "SortedRuns", 0, 4, 91)
def in_Blend_advance : so_I := (⟨"SortedRuns$Blend", "advance", "()Z"⟩, prog_2_method_6_code, 4, (some .boolean), [], "SortedRuns$Blend", 1, 3, 68)
def in_Blend_findLeast : so_I := (⟨"SortedRuns$Blend", "findLeast", "()Z"⟩, prog_2_method_7_code, 4, (some .boolean), [], "SortedRuns$Blend", 1, 0, 0)
def in_TableStream_step : so_I := (⟨"SortedRuns$TableStream", "step", "()V"⟩, prog_12_method_3_code, 1, none, [], "SortedRuns$TableStream", 11, 0, 0)
def in_Sheet_fits : so_I := (⟨"SortedRuns$Sheet", "fits", "(JLSortedRuns$Fate;)Z"⟩, prog_8_method_6_code, 5, (some .boolean), [], "SortedRuns$Sheet", 7, 1, 25)
def in_Sheet_shared : so_I := (⟨"SortedRuns$Sheet", "shared", "(J)I"⟩, prog_8_method_10_code, 6, (some .int), [], "SortedRuns$Sheet", 7, 0, 0)
def in_Sheet_folded : so_I := (⟨"SortedRuns$Sheet", "folded", "(J)J"⟩, prog_8_method_11_code, 2, (some .long), [], "SortedRuns$Sheet", 7, 0, 0)
def in_Sheet_sizeOf : so_I := (⟨"SortedRuns$Sheet", "sizeOf", "(J)I"⟩, prog_8_method_12_code, 3, (some .int), [], "SortedRuns$Sheet", 7, 0, 0)
def in_Sheet_beginPage : so_I := (⟨"SortedRuns$Sheet", "beginPage", "(I)V"⟩, prog_8_method_5_code, 2, none, [], "SortedRuns$Sheet", 7, 2, 42)
def in_Sheet_append : so_I := (⟨"SortedRuns$Sheet", "append", "(JLSortedRuns$Fate;)V"⟩, prog_8_method_7_code, 8, none, [], "SortedRuns$Sheet", 7, 2, 47)
def in_Sheet_appendValue : so_I := (⟨"SortedRuns$Sheet", "appendValue", "(J)V"⟩, prog_8_method_8_code, 6, none, [], "SortedRuns$Sheet", 7, 1, 22)
def in_SR_writeMerged : so_I := (⟨"SortedRuns", "writeMerged", "(III)I"⟩, prog_1_method_14_code, 7, (some .int), [], "SortedRuns", 0, 5, 121)
def in_SR_writeRun : so_I := (⟨"SortedRuns", "writeRun", "(I)LSortedRuns$Run;"⟩, prog_1_method_20_code, 6, (some (.object "SortedRuns$Run")), [], "SortedRuns", 0, 4, 96)
def in_Space_leastFree : so_I := (⟨"SortedRuns$Space", "leastFree", "(I)I"⟩, prog_9_method_4_code, 3, (some .int), [], "SortedRuns$Space", 8, 1, 21)
def in_SR_writePage : so_I := (⟨"SortedRuns", "writePage", "(LSortedRuns$Run;II)V"⟩, prog_1_method_21_code, 4, none, [], "SortedRuns", 0, 3, 73)
def in_Sheet_finishPage : so_I := (⟨"SortedRuns$Sheet", "finishPage", "(I)V"⟩, prog_8_method_9_code, 2, none, [], "SortedRuns$Sheet", 7, 0, 0)
def in_Space_claim : so_I := (⟨"SortedRuns$Space", "claim", "(IIJ)V"⟩, prog_9_method_5_code, 5, none, [], "SortedRuns$Space", 8, 1, 21)
def in_Pages_store : so_I := (⟨"SortedRuns$Pages", "store", "(ILSortedRuns$Sheet;)Z"⟩, prog_4_method_9_code, 4, (some .boolean), [], "SortedRuns$Pages", 3, 2, 50)
def in_Run_note : so_I := (⟨"SortedRuns$Run", "note", "(J)V"⟩, prog_5_method_2_code, 5, none, [], "SortedRuns$Run", 4, 1, 22)
def in_Run_hashOf : so_I := (⟨"SortedRuns$Run", "hashOf", "(J)J"⟩, prog_5_method_5_code, 3, (some .long), [], "SortedRuns$Run", 4, 0, 0)
def in_Run_setBit : so_I := (⟨"SortedRuns$Run", "setBit", "(J)V"⟩, prog_5_method_6_code, 3, none, [], "SortedRuns$Run", 4, 0, 0)
def in_SR_letGo : so_I := (⟨"SortedRuns", "letGo", "(LSortedRuns$Run;)V"⟩, prog_1_method_15_code, 2, none, [], "SortedRuns", 0, 2, 44)
def in_Space_giveBack : so_I := (⟨"SortedRuns$Space", "giveBack", "(LSortedRuns$Run;)V"⟩, prog_9_method_8_code, 4, none, [], "SortedRuns$Space", 8, 1, 21)
def in_RunList_dropFirst : so_I := (⟨"SortedRuns$RunList", "dropFirst", "(I)V"⟩, prog_6_method_5_code, 4, none, [], "SortedRuns$RunList", 5, 1, 21)
def in_RunList_putFirst : so_I := (⟨"SortedRuns$RunList", "putFirst", "(LSortedRuns$Run;)V"⟩, prog_6_method_3_code, 3, none, [], "SortedRuns$RunList", 5, 0, 0)
def in_SR_writeHead : so_I := (⟨"SortedRuns", "writeHead", "()V"⟩, prog_1_method_22_code, 2, none, [], "SortedRuns", 0, 3, 73)
def in_SR_flushTable : so_I := (⟨"SortedRuns", "flushTable", "()I"⟩, prog_1_method_11_code, 2, (some .int), [], "SortedRuns", 0, 5, 121)
def in_SR_blendTable : so_I := (⟨"SortedRuns", "blendTable", "()V"⟩, prog_1_method_17_code, 1, none, [], "SortedRuns", 0, 2, 41)
def in_Blend_addTable : so_I := (⟨"SortedRuns$Blend", "addTable", "()V"⟩, prog_2_method_3_code, 1, none, [], "SortedRuns$Blend", 1, 1, 21)
def in_TableStream_start : so_I := (⟨"SortedRuns$TableStream", "start", "()V"⟩, prog_12_method_2_code, 1, none, [], "SortedRuns$TableStream", 11, 0, 0)
def in_SR_flush : so_I := (⟨"SortedRuns", "flush", "()I"⟩, prog_1_method_9_code, 2, (some .int), [], "SortedRuns", 0, 7, 142)
def in_SR_merge : so_I := (⟨"SortedRuns", "merge", "()I"⟩, prog_1_method_10_code, 1, (some .int), [], "SortedRuns", 0, 7, 171)
def in_SR_mark : so_I := (⟨"SortedRuns", "mark", "()I"⟩, prog_1_method_24_code, 3, (some .int), [], "SortedRuns", 0, 7, 142)
def in_SR_leastFreeMark : so_I := (⟨"SortedRuns", "leastFreeMark", "()I"⟩, prog_1_method_25_code, 2, (some .int), [], "SortedRuns", 0, 0, 0)
def in_RunList_keep : so_I := (⟨"SortedRuns$RunList", "keep", "(LSortedRuns$RunList;)V"⟩, prog_6_method_6_code, 3, none, [], "SortedRuns$RunList", 5, 1, 21)
def in_RunList_putLast : so_I := (⟨"SortedRuns$RunList", "putLast", "(LSortedRuns$Run;)V"⟩, prog_6_method_4_code, 2, none, [], "SortedRuns$RunList", 5, 0, 0)
def in_SR_release : so_I := (⟨"SortedRuns", "release", "(I)I"⟩, prog_1_method_26_code, 5, (some .int), [], "SortedRuns", 0, 8, 132)
def in_SR_runsOfMark : so_I := (⟨"SortedRuns", "runsOfMark", "(I)LSortedRuns$RunList;"⟩, prog_1_method_27_code, 2, (some (.object "SortedRuns$RunList")), [], "SortedRuns", 0, 7, 111)
def in_SR_get : so_I := (⟨"SortedRuns", "get", "(IJ)J"⟩, prog_1_method_29_code, 5, (some .long), [], "SortedRuns", 0, 9, 153)
def in_SR_runsOf : so_I := (⟨"SortedRuns", "runsOf", "(I)LSortedRuns$RunList;"⟩, prog_1_method_28_code, 2, (some (.object "SortedRuns$RunList")), [], "SortedRuns", 0, 8, 132)
def in_Table_lookUp : so_I := (⟨"SortedRuns$Table", "lookUp", "(JLSortedRuns$Fate;)V"⟩, prog_11_method_7_code, 5, none, [], "SortedRuns$Table", 10, 1, 26)
def in_SR_lookThrough : so_I := (⟨"SortedRuns", "lookThrough", "(LSortedRuns$RunList;J)Z"⟩, prog_1_method_30_code, 6, (some .boolean), [], "SortedRuns", 0, 4, 91)
def in_Fate_wantsOlder : so_I := (⟨"SortedRuns$Fate", "wantsOlder", "()Z"⟩, prog_3_method_3_code, 1, (some .boolean), [], "SortedRuns$Fate", 2, 0, 0)
def in_Run_spans : so_I := (⟨"SortedRuns$Run", "spans", "(J)Z"⟩, prog_5_method_3_code, 3, (some .boolean), [], "SortedRuns$Run", 4, 0, 0)
def in_Run_bars : so_I := (⟨"SortedRuns$Run", "bars", "(J)Z"⟩, prog_5_method_4_code, 5, (some .boolean), [], "SortedRuns$Run", 4, 1, 22)
def in_Run_hasBit : so_I := (⟨"SortedRuns$Run", "hasBit", "(J)Z"⟩, prog_5_method_7_code, 3, (some .boolean), [], "SortedRuns$Run", 4, 0, 0)
def in_RunStream_startPage : so_I := (⟨"SortedRuns$RunStream", "startPage", "(I)V"⟩, prog_7_method_3_code, 2, none, [], "SortedRuns$RunStream", 6, 0, 0)
def in_SR_findInPage : so_I := (⟨"SortedRuns", "findInPage", "(J)V"⟩, prog_1_method_31_code, 4, none, [], "SortedRuns", 0, 3, 68)
def in_SR_range : so_I := (⟨"SortedRuns", "range", "(IJJ)I"⟩, prog_1_method_34_code, 8, (some .int), [], "SortedRuns", 0, 9, 153)
def in_SR_gatherAnswers : so_I := (⟨"SortedRuns", "gatherAnswers", "(JJ)I"⟩, prog_1_method_35_code, 7, (some .int), [], "SortedRuns", 0, 4, 91)
def in_SR_noteAnswer : so_I := (⟨"SortedRuns", "noteAnswer", "(JJ)V"⟩, prog_1_method_36_code, 5, none, [], "SortedRuns", 0, 0, 0)
def in_SR_at : so_I := (⟨"SortedRuns", "at", "(II)J"⟩, prog_1_method_37_code, 3, (some .long), [], "SortedRuns", 0, 6, 91)
def in_SR_run : so_I := (⟨"SortedRuns", "run", "(II)I"⟩, prog_1_method_38_code, 4, (some .int), [], "SortedRuns", 0, 6, 91)
def in_SR_hidden : so_I := (⟨"SortedRuns", "hidden", "(J)Z"⟩, prog_1_method_33_code, 4, (some .boolean), [], "SortedRuns", 0, 7, 111)
def in_SR_octet : so_I := (⟨"SortedRuns", "octet", "(II)I"⟩, prog_1_method_39_code, 3, (some .int), [], "SortedRuns", 0, 7, 113)
def in_SR_requireOctet : so_I := (⟨"SortedRuns", "requireOctet", "(II)V"⟩, prog_1_method_40_code, 3, none, [], "SortedRuns", 0, 6, 91)
def in_SR_poke : so_I := (⟨"SortedRuns", "poke", "(III)V"⟩, prog_1_method_41_code, 4, none, [], "SortedRuns", 0, 7, 113)
def in_Pages_turn : so_I := (⟨"SortedRuns$Pages", "turn", "(III)V"⟩, prog_4_method_11_code, 4, none, [], "SortedRuns$Pages", 3, 2, 50)
def in_SR_cut : so_I := (⟨"SortedRuns", "cut", "(II)V"⟩, prog_1_method_44_code, 3, none, [], "SortedRuns", 0, 6, 91)
def in_SR_open : so_I := (⟨"SortedRuns", "open", "()I"⟩, prog_1_method_47_code, 7, (some .int), [], "SortedRuns", 0, 6, 139)
def in_SR_newestHead : so_I := (⟨"SortedRuns", "newestHead", "()I"⟩, prog_1_method_48_code, 3, (some .int), [], "SortedRuns", 0, 5, 117)
def in_SR_headIsRight : so_I := (⟨"SortedRuns", "headIsRight", "(I)Z"⟩, prog_1_method_49_code, 11, (some .boolean), [], "SortedRuns", 0, 4, 87)
def in_Pages_four : so_I := (⟨"SortedRuns$Pages", "four", "(II)J"⟩, prog_4_method_5_code, 3, (some .long), [], "SortedRuns$Pages", 3, 3, 65)
def in_Pages_two : so_I := (⟨"SortedRuns$Pages", "two", "(II)I"⟩, prog_4_method_4_code, 3, (some .int), [], "SortedRuns$Pages", 3, 2, 43)
def in_SR_openRun : so_I := (⟨"SortedRuns", "openRun", "(LSortedRuns$Run;I)I"⟩, prog_1_method_50_code, 7, (some .int), [], "SortedRuns", 0, 4, 98)
def in_SR_openPage : so_I := (⟨"SortedRuns", "openPage", "(LSortedRuns$Run;I)Z"⟩, prog_1_method_51_code, 5, (some .boolean), [], "SortedRuns", 0, 3, 74)
def in_Pages_bodyIs : so_I := (⟨"SortedRuns$Pages", "bodyIs", "(ILSortedRuns$Sheet;)Z"⟩, prog_4_method_8_code, 4, (some .boolean), [], "SortedRuns$Pages", 3, 2, 43)
def in_SR_told : so_I := (⟨"SortedRuns", "told", "(I)I"⟩, prog_1_method_52_code, 2, (some .int), [], "SortedRuns", 0, 6, 91)
def in_SR_countMarks : so_I := (⟨"SortedRuns", "countMarks", "()I"⟩, prog_1_method_53_code, 3, (some .int), [], "SortedRuns", 0, 0, 0)
def in_Mo_init : so_I := (⟨"SortedRunsModel", "<init>", "(I)V"⟩, prog_14_method_1_code, 3, none, [], "SortedRunsModel", 13, 2, 52)
def in_Mo_layHead : so_I := (⟨"SortedRunsModel", "layHead", "()V"⟩, prog_14_method_9_code, 4, none, [], "SortedRunsModel", 13, 1, 22)
def in_Mo_clearDraft : so_I := (⟨"SortedRunsModel", "clearDraft", "()V"⟩, prog_14_method_8_code, 2, none, [], "SortedRunsModel", 13, 0, 0)
def in_Mo_put2 : so_I := (⟨"SortedRunsModel", "put2", "(II)I"⟩, prog_14_method_7_code, 3, (some .int), [], "SortedRunsModel", 13, 0, 0)
def in_Mo_write : so_I := (⟨"SortedRunsModel", "write", "(I)Z"⟩, prog_14_method_5_code, 7, (some .boolean), [], "SortedRunsModel", 13, 1, 26)
def in_Mo_sumOf : so_I := (⟨"SortedRunsModel", "sumOf", "(IZ)J"⟩, prog_14_method_3_code, 7, (some .long), [], "SortedRunsModel", 13, 0, 0)
def in_Mo_goDown : so_I := (⟨"SortedRunsModel", "goDown", "()V"⟩, prog_14_method_6_code, 2, none, [], "SortedRunsModel", 13, 0, 0)
def in_Mo_thrown : so_I := (⟨"SortedRunsModel", "thrown", "()I"⟩, prog_14_method_2_code, 1, (some .int), [], "SortedRunsModel", 13, 0, 0)
def in_Mo_put : so_I := (⟨"SortedRunsModel", "put", "(JJ)I"⟩, prog_14_method_28_code, 5, (some .int), [], "SortedRunsModel", 13, 3, 75)
def in_Mo_enter : so_I := (⟨"SortedRunsModel", "enter", "(JIJ)I"⟩, prog_14_method_27_code, 6, (some .int), [], "SortedRunsModel", 13, 2, 50)
def in_Mo_hasPlace : so_I := (⟨"SortedRunsModel", "hasPlace", "(J)Z"⟩, prog_14_method_25_code, 4, (some .boolean), [], "SortedRunsModel", 13, 1, 23)
def in_Mo_placeOf : so_I := (⟨"SortedRunsModel", "placeOf", "(J)I"⟩, prog_14_method_24_code, 4, (some .int), [], "SortedRunsModel", 13, 0, 0)
def in_Mo_come : so_I := (⟨"SortedRunsModel", "come", "(JIJ)V"⟩, prog_14_method_26_code, 8, none, [], "SortedRunsModel", 13, 1, 23)
def in_Mo_remove : so_I := (⟨"SortedRunsModel", "remove", "(J)I"⟩, prog_14_method_29_code, 3, (some .int), [], "SortedRunsModel", 13, 3, 75)
def in_Mo_fold : so_I := (⟨"SortedRunsModel", "fold", "(JJ)I"⟩, prog_14_method_30_code, 5, (some .int), [], "SortedRunsModel", 13, 3, 75)
def in_Mo_many : so_I := (⟨"SortedRunsModel", "many", "(IIJJ)I"⟩, prog_14_method_31_code, 11, (some .int), [], "SortedRunsModel", 13, 6, 149)
def in_Mo_atLevelNought : so_I := (⟨"SortedRunsModel", "atLevelNought", "()I"⟩, prog_14_method_32_code, 2, (some .int), [], "SortedRunsModel", 13, 0, 0)
def in_Mo_mergeNow : so_I := (⟨"SortedRunsModel", "mergeNow", "()I"⟩, prog_14_method_40_code, 9, (some .int), [], "SortedRunsModel", 13, 5, 121)
def in_Mo_below : so_I := (⟨"SortedRunsModel", "below", "(I)I"⟩, prog_14_method_37_code, 7, (some .int), [], "SortedRunsModel", 13, 2, 50)
def in_Mo_isRight : so_I := (⟨"SortedRunsModel", "isRight", "(I)Z"⟩, prog_14_method_4_code, 5, (some .boolean), [], "SortedRunsModel", 13, 1, 26)
def in_Mo_see : so_I := (⟨"SortedRunsModel", "see", "(I)V"⟩, prog_14_method_36_code, 12, none, [], "SortedRunsModel", 13, 0, 0)
def in_Mo_copy : so_I := (⟨"SortedRunsModel", "copy", "(I)V"⟩, prog_14_method_38_code, 2, none, [], "SortedRunsModel", 13, 0, 0)
def in_Mo_ripe : so_I := (⟨"SortedRunsModel", "ripe", "(Z)I"⟩, prog_14_method_39_code, 4, (some .int), [], "SortedRunsModel", 13, 0, 0)
def in_Mo_pagesFor : so_I := (⟨"SortedRunsModel", "pagesFor", "()I"⟩, prog_14_method_16_code, 4, (some .int), [], "SortedRunsModel", 13, 3, 70)
def in_Mo_sizeOf : so_I := (⟨"SortedRunsModel", "sizeOf", "(IZ)I"⟩, prog_14_method_15_code, 4, (some .int), [], "SortedRunsModel", 13, 2, 47)
def in_Mo_shared : so_I := (⟨"SortedRunsModel", "shared", "(JJ)I"⟩, prog_14_method_14_code, 5, (some .int), [], "SortedRunsModel", 13, 1, 23)
def in_Mo_keyOctet : so_I := (⟨"SortedRunsModel", "keyOctet", "(JI)I"⟩, prog_14_method_13_code, 4, (some .int), [], "SortedRunsModel", 13, 0, 0)
def in_Mo_vSize : so_I := (⟨"SortedRunsModel", "vSize", "(J)I"⟩, prog_14_method_12_code, 5, (some .int), [], "SortedRunsModel", 13, 0, 0)
def in_Mo_freeCount : so_I := (⟨"SortedRunsModel", "freeCount", "()I"⟩, prog_14_method_11_code, 3, (some .int), [], "SortedRunsModel", 13, 1, 22)
def in_Mo_markUsed : so_I := (⟨"SortedRunsModel", "markUsed", "()V"⟩, prog_14_method_10_code, 3, none, [], "SortedRunsModel", 13, 0, 0)
def in_Mo_writeRun : so_I := (⟨"SortedRunsModel", "writeRun", "(I)I"⟩, prog_14_method_17_code, 9, (some .int), [], "SortedRunsModel", 13, 4, 93)
def in_Mo_layEntry : so_I := (⟨"SortedRunsModel", "layEntry", "(IIZ)I"⟩, prog_14_method_18_code, 12, (some .int), [], "SortedRunsModel", 13, 2, 47)
def in_Mo_clearFilter : so_I := (⟨"SortedRunsModel", "clearFilter", "(I)V"⟩, prog_14_method_19_code, 3, none, [], "SortedRunsModel", 13, 0, 0)
def in_Mo_mark3 : so_I := (⟨"SortedRunsModel", "mark3", "(IJ)V"⟩, prog_14_method_22_code, 8, none, [], "SortedRunsModel", 13, 1, 22)
def in_Mo_hash : so_I := (⟨"SortedRunsModel", "hash", "(JI)J"⟩, prog_14_method_20_code, 3, (some .long), [], "SortedRunsModel", 13, 0, 0)
def in_Mo_bit : so_I := (⟨"SortedRunsModel", "bit", "(JI)I"⟩, prog_14_method_21_code, 3, (some .int), [], "SortedRunsModel", 13, 0, 0)
def in_Mo_writeHead : so_I := (⟨"SortedRunsModel", "writeHead", "()Z"⟩, prog_14_method_33_code, 1, (some .boolean), [], "SortedRunsModel", 13, 2, 52)
def in_Mo_flushNow : so_I := (⟨"SortedRunsModel", "flushNow", "()I"⟩, prog_14_method_34_code, 4, (some .int), [], "SortedRunsModel", 13, 5, 121)
def in_Mo_flush : so_I := (⟨"SortedRunsModel", "flush", "()I"⟩, prog_14_method_35_code, 1, (some .int), [], "SortedRunsModel", 13, 6, 144)
def in_Mo_merge : so_I := (⟨"SortedRunsModel", "merge", "()I"⟩, prog_14_method_41_code, 1, (some .int), [], "SortedRunsModel", 13, 6, 149)
def in_Mo_mark : so_I := (⟨"SortedRunsModel", "mark", "()I"⟩, prog_14_method_42_code, 3, (some .int), [], "SortedRunsModel", 13, 6, 144)
def in_Mo_release : so_I := (⟨"SortedRunsModel", "release", "(I)I"⟩, prog_14_method_43_code, 4, (some .int), [], "SortedRunsModel", 13, 2, 44)
def in_Mo_get : so_I := (⟨"SortedRunsModel", "get", "(IJ)J"⟩, prog_14_method_47_code, 12, (some .long), [], "SortedRunsModel", 13, 2, 50)
def in_Mo_isView : so_I := (⟨"SortedRunsModel", "isView", "(I)Z"⟩, prog_14_method_46_code, 2, (some .boolean), [], "SortedRunsModel", 13, 0, 0)
def in_Mo_runsOf : so_I := (⟨"SortedRunsModel", "runsOf", "(I)I"⟩, prog_14_method_44_code, 2, (some .int), [], "SortedRunsModel", 13, 0, 0)
def in_Mo_runOf : so_I := (⟨"SortedRunsModel", "runOf", "(II)I"⟩, prog_14_method_45_code, 3, (some .int), [], "SortedRunsModel", 13, 0, 0)
def in_Mo_bars : so_I := (⟨"SortedRunsModel", "bars", "(IJ)Z"⟩, prog_14_method_23_code, 8, (some .boolean), [], "SortedRunsModel", 13, 1, 22)
def in_Mo_state : so_I := (⟨"SortedRunsModel", "state", "()I"⟩, prog_14_method_48_code, 1, (some .int), [], "SortedRunsModel", 13, 0, 0)
def in_Mo_range : so_I := (⟨"SortedRunsModel", "range", "(IJJ)I"⟩, prog_14_method_49_code, 8, (some .int), [], "SortedRunsModel", 13, 3, 76)
def in_Mo_at : so_I := (⟨"SortedRunsModel", "at", "(II)J"⟩, prog_14_method_50_code, 3, (some .long), [], "SortedRunsModel", 13, 0, 0)
def in_Mo_run : so_I := (⟨"SortedRunsModel", "run", "(II)I"⟩, prog_14_method_51_code, 4, (some .int), [], "SortedRunsModel", 13, 0, 0)
def in_Mo_hidden : so_I := (⟨"SortedRunsModel", "hidden", "(J)Z"⟩, prog_14_method_52_code, 5, (some .boolean), [], "SortedRunsModel", 13, 2, 49)
def in_Mo_octet : so_I := (⟨"SortedRunsModel", "octet", "(II)I"⟩, prog_14_method_54_code, 3, (some .int), [], "SortedRunsModel", 13, 1, 22)
def in_Mo_isOctet : so_I := (⟨"SortedRunsModel", "isOctet", "(II)Z"⟩, prog_14_method_53_code, 3, (some .boolean), [], "SortedRunsModel", 13, 0, 0)
def in_Mo_poke : so_I := (⟨"SortedRunsModel", "poke", "(III)V"⟩, prog_14_method_55_code, 4, none, [], "SortedRunsModel", 13, 2, 50)
def in_Mo_badAt : so_I := (⟨"SortedRunsModel", "badAt", "()I"⟩, prog_14_method_56_code, 2, (some .int), [], "SortedRunsModel", 13, 2, 50)
def in_Mo_cut : so_I := (⟨"SortedRunsModel", "cut", "(II)V"⟩, prog_14_method_57_code, 3, none, [], "SortedRunsModel", 13, 0, 0)
def in_Mo_down : so_I := (⟨"SortedRunsModel", "down", "()Z"⟩, prog_14_method_58_code, 1, (some .boolean), [], "SortedRunsModel", 13, 1, 21)
def in_Mo_open : so_I := (⟨"SortedRunsModel", "open", "()I"⟩, prog_14_method_64_code, 12, (some .int), [], "SortedRunsModel", 13, 3, 73)
def in_Mo_generationOf : so_I := (⟨"SortedRunsModel", "generationOf", "(I)I"⟩, prog_14_method_60_code, 4, (some .int), [], "SortedRunsModel", 13, 2, 50)
def in_Mo_two : so_I := (⟨"SortedRunsModel", "two", "(I)I"⟩, prog_14_method_59_code, 2, (some .int), [], "SortedRunsModel", 13, 0, 0)
def in_Mo_areRuns : so_I := (⟨"SortedRunsModel", "areRuns", "(I)Z"⟩, prog_14_method_61_code, 8, (some .boolean), [], "SortedRunsModel", 13, 1, 21)
def in_Mo_isLaid : so_I := (⟨"SortedRunsModel", "isLaid", "(IZJ)Z"⟩, prog_14_method_62_code, 15, (some .boolean), [], "SortedRunsModel", 13, 1, 25)
def in_Mo_behindValue : so_I := (⟨"SortedRunsModel", "behindValue", "(II)I"⟩, prog_14_method_63_code, 6, (some .int), [], "SortedRunsModel", 13, 0, 0)
def in_Mo_told : so_I := (⟨"SortedRunsModel", "told", "(I)I"⟩, prog_14_method_65_code, 4, (some .int), [], "SortedRunsModel", 13, 2, 44)
def in_La_put : so_I := (⟨"SortedRunsLaw", "put", "(LSortedRuns;JJ[J)I"⟩, method_3_code, 7, (some .int), [(0, 11, 14, 13)], "SortedRunsLaw", 12, 9, 160)
def in_La_remove : so_I := (⟨"SortedRunsLaw", "remove", "(LSortedRuns;J[J)I"⟩, method_4_code, 5, (some .int), [(0, 9, 12, 13)], "SortedRunsLaw", 12, 9, 158)
def in_La_fold : so_I := (⟨"SortedRunsLaw", "fold", "(LSortedRuns;JJ[J)I"⟩, method_5_code, 7, (some .int), [(0, 11, 14, 13)], "SortedRunsLaw", 12, 9, 160)
def in_La_many : so_I := (⟨"SortedRunsLaw", "many", "(LSortedRuns;IIJJ[J)I"⟩, method_6_code, 9, (some .int), [(0, 14, 17, 13), (0, 14, 21, 26)], "SortedRunsLaw", 12, 8, 200)
def in_La_flush : so_I := (⟨"SortedRunsLaw", "flush", "(LSortedRuns;[J)I"⟩, method_7_code, 3, (some .int), [(0, 8, 11, 13)], "SortedRunsLaw", 12, 8, 163)
def in_La_merge : so_I := (⟨"SortedRunsLaw", "merge", "(LSortedRuns;[J)I"⟩, method_8_code, 3, (some .int), [(0, 8, 11, 13)], "SortedRunsLaw", 12, 8, 191)
def in_La_mark : so_I := (⟨"SortedRunsLaw", "mark", "(LSortedRuns;[J)I"⟩, method_9_code, 3, (some .int), [(0, 8, 11, 13)], "SortedRunsLaw", 12, 8, 164)
def in_La_release : so_I := (⟨"SortedRunsLaw", "release", "(LSortedRuns;I[J)I"⟩, method_10_code, 4, (some .int), [(0, 9, 12, 13), (0, 9, 15, 42)], "SortedRunsLaw", 12, 9, 156)
def in_La_get : so_I := (⟨"SortedRunsLaw", "get", "(LSortedRuns;IJ[J)I"⟩, method_11_code, 6, (some .int), [(0, 10, 13, 13), (0, 10, 17, 42)], "SortedRunsLaw", 12, 10, 177)
def in_La_range : so_I := (⟨"SortedRunsLaw", "range", "(LSortedRuns;IJJ[J)I"⟩, method_12_code, 8, (some .int), [(0, 13, 16, 13), (0, 13, 20, 42), (0, 13, 24, 26)], "SortedRunsLaw", 12, 10, 180)
def in_La_at : so_I := (⟨"SortedRunsLaw", "at", "(LSortedRuns;II[J)I"⟩, method_13_code, 5, (some .int), [(0, 9, 12, 42)], "SortedRunsLaw", 12, 7, 113)
def in_La_run : so_I := (⟨"SortedRunsLaw", "run", "(LSortedRuns;II[J)I"⟩, method_14_code, 5, (some .int), [(0, 10, 13, 42)], "SortedRunsLaw", 12, 7, 114)
def in_La_hidden : so_I := (⟨"SortedRunsLaw", "hidden", "(LSortedRuns;J[J)I"⟩, method_15_code, 5, (some .int), [(0, 16, 19, 13)], "SortedRunsLaw", 12, 8, 134)
def in_La_octet : so_I := (⟨"SortedRunsLaw", "octet", "(LSortedRuns;II[J)I"⟩, method_16_code, 5, (some .int), [(0, 10, 13, 42)], "SortedRunsLaw", 12, 8, 135)
def in_La_poke : so_I := (⟨"SortedRunsLaw", "poke", "(LSortedRuns;III)I"⟩, method_17_code, 5, (some .int), [(0, 7, 10, 42), (0, 7, 14, 13), (0, 7, 18, 26)], "SortedRunsLaw", 12, 8, 136)
def in_La_cut : so_I := (⟨"SortedRunsLaw", "cut", "(LSortedRuns;II)I"⟩, method_18_code, 4, (some .int), [(0, 6, 9, 26)], "SortedRunsLaw", 12, 7, 113)
def in_La_open : so_I := (⟨"SortedRunsLaw", "open", "(LSortedRuns;[J)I"⟩, method_19_code, 3, (some .int), [(0, 8, 11, 13)], "SortedRunsLaw", 12, 7, 165)
def in_La_told : so_I := (⟨"SortedRunsLaw", "told", "(LSortedRuns;I[J)I"⟩, method_20_code, 4, (some .int), [(0, 9, 12, 42)], "SortedRunsLaw", 12, 7, 112)
def in_La_law : so_I := (⟨"SortedRunsLaw", "law", "([I)Z"⟩, code, 8, (some .boolean), [], "SortedRunsLaw", 12, 11, 228)
def nm_mis : List (List so_I) := [[in_SR_init, in_Table_init, in_Fate_init, in_RunList_init, in_Run_init, in_Sheet_init, in_Pages_init, in_Space_init, in_Blend_init, in_TableStream_init, in_Stream_init, in_RunStream_init, in_SR_fillHead, in_Sheet_clear, in_Sheet_two, in_Sheet_one],
[in_Sheet_seal, in_Sheet_sumOf, in_Pages_lay, in_Pages_has, in_Pages_checkSum, in_SR_state, in_SR_badAt, in_Pages_isRight, in_SR_leastWrong, in_Space_after, in_Space_has, in_SR_down, in_SR_goDown, in_RunList_forget, in_Space_clear, in_La_cell],
[in_SR_put, in_SR_enterOne, in_SR_requireUp, in_Table_hasPlaceFor, in_Table_placeOf, in_Table_holds, in_Table_enter, in_Fate_begin, in_Fate_layUpon, in_Table_shiftFrom, in_SR_remove, in_SR_fold, in_SR_many, in_SR_isKind, in_RunList_countUpTo, in_SR_mergeRuns],
[in_SR_readRuns, in_Pages_readsRight, in_SR_blendRuns, in_Blend_begin, in_Blend_addRun, in_RunStream_start, in_Space_beginsAbove, in_RunStream_step, in_Pages_peek, in_RunStream_readKey, in_RunStream_nextOctet, in_RunStream_readValue, in_Blend_addInput, in_SR_mostPages, in_SR_countPages, in_Blend_advance],
[in_Blend_findLeast, in_TableStream_step, in_Sheet_fits, in_Sheet_shared, in_Sheet_folded, in_Sheet_sizeOf, in_Sheet_beginPage, in_Sheet_append, in_Sheet_appendValue, in_SR_writeMerged, in_SR_writeRun, in_Space_leastFree, in_SR_writePage, in_Sheet_finishPage, in_Space_claim, in_Pages_store],
[in_Run_note, in_Run_hashOf, in_Run_setBit, in_SR_letGo, in_Space_giveBack, in_RunList_dropFirst, in_RunList_putFirst, in_SR_writeHead, in_SR_flushTable, in_SR_blendTable, in_Blend_addTable, in_TableStream_start, in_SR_flush, in_SR_merge, in_SR_mark, in_SR_leastFreeMark],
[in_RunList_keep, in_RunList_putLast, in_SR_release, in_SR_runsOfMark, in_SR_get, in_SR_runsOf, in_Table_lookUp, in_SR_lookThrough, in_Fate_wantsOlder, in_Run_spans, in_Run_bars, in_Run_hasBit, in_RunStream_startPage, in_SR_findInPage, in_SR_range, in_SR_gatherAnswers],
[in_SR_noteAnswer, in_SR_at, in_SR_run, in_SR_hidden, in_SR_octet, in_SR_requireOctet, in_SR_poke, in_Pages_turn, in_SR_cut, in_SR_open, in_SR_newestHead, in_SR_headIsRight, in_Pages_four, in_Pages_two, in_SR_openRun, in_SR_openPage],
[in_Pages_bodyIs, in_SR_told, in_SR_countMarks, in_Mo_init, in_Mo_layHead, in_Mo_clearDraft, in_Mo_put2, in_Mo_write, in_Mo_sumOf, in_Mo_goDown, in_Mo_thrown, in_Mo_put, in_Mo_enter, in_Mo_hasPlace, in_Mo_placeOf, in_Mo_come],
[in_Mo_remove, in_Mo_fold, in_Mo_many, in_Mo_atLevelNought, in_Mo_mergeNow, in_Mo_below, in_Mo_isRight, in_Mo_see, in_Mo_copy, in_Mo_ripe, in_Mo_pagesFor, in_Mo_sizeOf, in_Mo_shared, in_Mo_keyOctet, in_Mo_vSize, in_Mo_freeCount],
[in_Mo_markUsed, in_Mo_writeRun, in_Mo_layEntry, in_Mo_clearFilter, in_Mo_mark3, in_Mo_hash, in_Mo_bit, in_Mo_writeHead, in_Mo_flushNow, in_Mo_flush, in_Mo_merge, in_Mo_mark, in_Mo_release, in_Mo_get, in_Mo_isView, in_Mo_runsOf],
[in_Mo_runOf, in_Mo_bars, in_Mo_state, in_Mo_range, in_Mo_at, in_Mo_run, in_Mo_hidden, in_Mo_octet, in_Mo_isOctet, in_Mo_poke, in_Mo_badAt, in_Mo_cut, in_Mo_down, in_Mo_open, in_Mo_generationOf, in_Mo_two],
[in_Mo_areRuns, in_Mo_isLaid, in_Mo_behindValue, in_Mo_told, in_La_put, in_La_remove, in_La_fold, in_La_many, in_La_flush, in_La_merge, in_La_mark, in_La_release, in_La_get, in_La_range, in_La_at, in_La_run],
[in_La_hidden, in_La_octet, in_La_poke, in_La_cut, in_La_open, in_La_told, in_La_law]]
def nm_mi (m : Nat) : so_I := ((nm_mis.getD (m / 16) []).getD (m % 16) (⟨"", "", ""⟩, ⟨#[]⟩, 0, none, [], "", 0, 0, 0))
/-- the pools: index, word, the word's place in lw_tbl -/
def nm_po0 : List (Nat × Cond × Nat) := [(1, .methodLink "SortedRuns" 1 ⟨"java/lang/Object", "<init>", "()V"⟩, 104),
  (7, .classLink "SortedRuns" 7 "SortedRuns$Table", 107),
  (10, .fieldLink "SortedRuns" 10 "SortedRuns" "table" "LSortedRuns$Table;", 480),
  (16, .classLink "SortedRuns" 16 "SortedRuns$RunList", 156),
  (18, .methodLink "SortedRuns" 18 ⟨"SortedRuns$RunList", "<init>", "()V"⟩, 158),
  (19, .fieldLink "SortedRuns" 19 "SortedRuns" "now" "LSortedRuns$RunList;", 481),
  (23, .fieldLink "SortedRuns" 23 "SortedRuns" "marks" "[LSortedRuns$RunList;", 482),
  (27, .classLink "SortedRuns" 27 "SortedRuns$Fate", 224),
  (30, .fieldLink "SortedRuns" 30 "SortedRuns" "found" "LSortedRuns$Fate;", 485),
  (34, .classLink "SortedRuns" 34 "SortedRuns$Sheet", 226),
  (37, .fieldLink "SortedRuns" 37 "SortedRuns" "sheet" "LSortedRuns$Sheet;", 486),
  (41, .fieldLink "SortedRuns" 41 "SortedRuns" "answerKeys" "[J", 487),
  (45, .fieldLink "SortedRuns" 45 "SortedRuns" "answerValues" "[J", 488),
  (48, .fieldLink "SortedRuns" 48 "SortedRuns" "answerCount" "I", 489),
  (52, .fieldLink "SortedRuns" 52 "SortedRuns" "generation" "I", 490),
  (55, .fieldLink "SortedRuns" 55 "SortedRuns" "nextNumber" "I", 491),
  (58, .fieldLink "SortedRuns" 58 "SortedRuns" "state" "I", 492),
  (61, .fieldLink "SortedRuns" 61 "SortedRuns" "down" "Z", 493),
  (65, .methodLink "SortedRuns" 65 ⟨"java/lang/Math", "min", "(II)I"⟩, 252),
  (71, .methodLink "SortedRuns" 71 ⟨"java/lang/Math", "max", "(II)I"⟩, 255),
  (74, .classLink "SortedRuns" 74 "SortedRuns$Pages", 258),
  (76, .methodLink "SortedRuns" 76 ⟨"SortedRuns$Pages", "<init>", "(I)V"⟩, 260),
  (79, .fieldLink "SortedRuns" 79 "SortedRuns" "pages" "LSortedRuns$Pages;", 478),
  (83, .classLink "SortedRuns" 83 "SortedRuns$Space", 292),
  (85, .methodLink "SortedRuns" 85 ⟨"SortedRuns$Space", "<init>", "(I)V"⟩, 294),
  (86, .fieldLink "SortedRuns" 86 "SortedRuns" "space" "LSortedRuns$Space;", 479),
  (90, .classLink "SortedRuns" 90 "SortedRuns$Blend", 315),
  (92, .methodLink "SortedRuns" 92 ⟨"SortedRuns$Blend", "<init>", "(LSortedRuns$Table;LSortedRuns$Pages;LSortedRuns$Space;)V"⟩, 317),
  (95, .fieldLink "SortedRuns" 95 "SortedRuns" "blend" "LSortedRuns$Blend;", 483),
  (99, .classLink "SortedRuns" 99 "SortedRuns$RunStream", 438),
  (101, .methodLink "SortedRuns" 101 ⟨"SortedRuns$RunStream", "<init>", "(LSortedRuns$Pages;LSortedRuns$Space;)V"⟩, 439),
  (104, .fieldLink "SortedRuns" 104 "SortedRuns" "finder" "LSortedRuns$RunStream;", 484),
  (108, .methodLink "SortedRuns" 108 ⟨"SortedRuns", "fillHead", "(I)V"⟩, 440),
  (111, .methodLink "SortedRuns" 111 ⟨"SortedRuns$Sheet", "seal", "(I)V"⟩, 457),
  (114, .methodLink "SortedRuns" 114 ⟨"SortedRuns$Pages", "lay", "(ILSortedRuns$Sheet;I)V"⟩, 465),
  (118, .methodLink "SortedRuns" 118 ⟨"SortedRuns$Pages", "checkSum", "(I)V"⟩, 473),
  (121, .methodLink "SortedRuns" 121 ⟨"SortedRuns", "enterOne", "(JIJ)I"⟩, 578),
  (125, .methodLink "SortedRuns" 125 ⟨"SortedRuns", "requireUp", "()V"⟩, 582),
  (128, .methodLink "SortedRuns" 128 ⟨"SortedRuns$Table", "hasPlaceFor", "(J)Z"⟩, 653),
  (132, .classLink "SortedRuns" 132 "java/lang/IllegalStateException", 586),
  (136, .methodLink "SortedRuns" 136 ⟨"java/lang/IllegalStateException", "<init>", "(Ljava/lang/String;)V"⟩, 628),
  (139, .methodLink "SortedRuns" 139 ⟨"SortedRuns$Table", "enter", "(JIJ)V"⟩, 666),
  (143, .fieldLink "SortedRuns" 143 "SortedRuns$Table" "size" "I", 144),
  (147, .methodLink "SortedRuns" 147 ⟨"SortedRuns", "isKind", "(I)Z"⟩, 704),
  (151, .classLink "SortedRuns" 151 "java/lang/IllegalArgumentException", 707),
  (155, .methodLink "SortedRuns" 155 ⟨"java/lang/IllegalArgumentException", "<init>", "(Ljava/lang/String;)V"⟩, 717),
  (156, .methodLink "SortedRuns" 156 ⟨"SortedRuns$RunList", "countUpTo", "(I)I"⟩, 723),
  (160, .methodLink "SortedRuns" 160 ⟨"SortedRuns", "mergeRuns", "()I"⟩, 727),
  (164, .methodLink "SortedRuns" 164 ⟨"SortedRuns", "flushTable", "()I"⟩, 921),
  (167, .fieldLink "SortedRuns" 167 "SortedRuns$RunList" "runs" "[LSortedRuns$Run;", 211),
  (171, .fieldLink "SortedRuns" 171 "SortedRuns$Run" "number" "I", 170),
  (172, .classLink "SortedRuns" 172 "SortedRuns$Run", 857),
  (176, .methodLink "SortedRuns" 176 ⟨"SortedRuns", "blendTable", "()V"⟩, 925),
  (179, .fieldLink "SortedRuns" 179 "SortedRuns$Space" "free" "I", 303),
  (182, .methodLink "SortedRuns" 182 ⟨"SortedRuns", "countPages", "(I)I"⟩, 793),
  (185, .methodLink "SortedRuns" 185 ⟨"SortedRuns", "writeRun", "(I)LSortedRuns$Run;"⟩, 853),
  (189, .methodLink "SortedRuns" 189 ⟨"SortedRuns$RunList", "putFirst", "(LSortedRuns$Run;)V"⟩, 913),
  (193, .methodLink "SortedRuns" 193 ⟨"SortedRuns", "writeHead", "()V"⟩, 917),
  (196, .constant "SortedRuns" 196 (-1000000), 731),
  (197, .methodLink "SortedRuns" 197 ⟨"SortedRuns", "readRuns", "(LSortedRuns$RunList;II)Z"⟩, 732),
  (201, .methodLink "SortedRuns" 201 ⟨"SortedRuns", "blendRuns", "(I)V"⟩, 741),
  (204, .methodLink "SortedRuns" 204 ⟨"SortedRuns", "mostPages", "(I)I"⟩, 790),
  (207, .methodLink "SortedRuns" 207 ⟨"SortedRuns", "writeMerged", "(III)I"⟩, 849),
  (211, .constant "SortedRuns" 211 (-2000000), 899),
  (212, .methodLink "SortedRuns" 212 ⟨"SortedRuns", "letGo", "(LSortedRuns$Run;)V"⟩, 900),
  (215, .methodLink "SortedRuns" 215 ⟨"SortedRuns$RunList", "dropFirst", "(I)V"⟩, 908),
  (218, .fieldLink "SortedRuns" 218 "SortedRuns$Run" "holders" "I", 190),
  (221, .methodLink "SortedRuns" 221 ⟨"SortedRuns$Space", "giveBack", "(LSortedRuns$Run;)V"⟩, 904),
  (224, .fieldLink "SortedRuns" 224 "SortedRuns$Run" "firstPage" "I", 178),
  (227, .fieldLink "SortedRuns" 227 "SortedRuns$Run" "pageCount" "I", 182),
  (230, .methodLink "SortedRuns" 230 ⟨"SortedRuns$Pages", "readsRight", "(I)Z"⟩, 736),
  (233, .methodLink "SortedRuns" 233 ⟨"SortedRuns$Space", "after", "(I)I"⟩, 543),
  (236, .methodLink "SortedRuns" 236 ⟨"SortedRuns$Blend", "begin", "(Z)V"⟩, 745),
  (240, .methodLink "SortedRuns" 240 ⟨"SortedRuns$Blend", "addTable", "()V"⟩, 929),
  (243, .fieldLink "SortedRuns" 243 "SortedRuns$RunList" "size" "I", 213),
  (244, .constantLong "SortedRuns" 244 (-9223372036854775808), 749),
  (246, .methodLink "SortedRuns" 246 ⟨"SortedRuns$Blend", "addRun", "(LSortedRuns$Run;J)V"⟩, 750),
  (250, .constant "SortedRuns" 250 1000000, 797),
  (251, .methodLink "SortedRuns" 251 ⟨"SortedRuns$Blend", "advance", "()Z"⟩, 798),
  (255, .fieldLink "SortedRuns" 255 "SortedRuns$Blend" "key" "J", 414),
  (259, .fieldLink "SortedRuns" 259 "SortedRuns$Blend" "fate" "LSortedRuns$Fate;", 412),
  (262, .methodLink "SortedRuns" 262 ⟨"SortedRuns$Sheet", "fits", "(JLSortedRuns$Fate;)Z"⟩, 816),
  (266, .methodLink "SortedRuns" 266 ⟨"SortedRuns$Sheet", "beginPage", "(I)V"⟩, 833),
  (269, .methodLink "SortedRuns" 269 ⟨"SortedRuns$Sheet", "append", "(JLSortedRuns$Fate;)V"⟩, 839),
  (273, .methodLink "SortedRuns" 273 ⟨"SortedRuns$Run", "<init>", "(II)V"⟩, 858),
  (276, .methodLink "SortedRuns" 276 ⟨"SortedRuns$Space", "leastFree", "(I)I"⟩, 859),
  (279, .methodLink "SortedRuns" 279 ⟨"SortedRuns", "writePage", "(LSortedRuns$Run;II)V"⟩, 864),
  (283, .methodLink "SortedRuns" 283 ⟨"SortedRuns$Run", "note", "(J)V"⟩, 884),
  (287, .methodLink "SortedRuns" 287 ⟨"SortedRuns$Sheet", "finishPage", "(I)V"⟩, 868),
  (290, .fieldLink "SortedRuns" 290 "SortedRuns$Sheet" "firstKey" "J", 238),
  (293, .methodLink "SortedRuns" 293 ⟨"SortedRuns$Space", "claim", "(IIJ)V"⟩, 872),
  (297, .methodLink "SortedRuns" 297 ⟨"SortedRuns$Pages", "store", "(ILSortedRuns$Sheet;)Z"⟩, 876),
  (301, .methodLink "SortedRuns" 301 ⟨"SortedRuns", "goDown", "()V"⟩, 555),
  (304, .methodLink "SortedRuns" 304 ⟨"SortedRuns$Sheet", "clear", "()V"⟩, 444),
  (307, .methodLink "SortedRuns" 307 ⟨"SortedRuns$Sheet", "two", "(I)V"⟩, 448),
  (310, .methodLink "SortedRuns" 310 ⟨"SortedRuns$Sheet", "one", "(I)V"⟩, 456),
  (313, .fieldLink "SortedRuns" 313 "SortedRuns$Run" "level" "I", 173),
  (316, .methodLink "SortedRuns" 316 ⟨"SortedRuns", "leastFreeMark", "()I"⟩, 959),
  (319, .methodLink "SortedRuns" 319 ⟨"SortedRuns$RunList", "keep", "(LSortedRuns$RunList;)V"⟩, 963),
  (323, .fieldLink "SortedRuns" 323 "SortedRuns$RunList" "kept" "Z", 215),
  (326, .methodLink "SortedRuns" 326 ⟨"SortedRuns", "runsOfMark", "(I)LSortedRuns$RunList;"⟩, 979),
  (330, .methodLink "SortedRuns" 330 ⟨"SortedRuns$RunList", "forget", "()V"⟩, 559),
  (333, .classLink "SortedRuns" 333 "java/lang/IndexOutOfBoundsException", 983),
  (337, .methodLink "SortedRuns" 337 ⟨"java/lang/IndexOutOfBoundsException", "<init>", "(Ljava/lang/String;)V"⟩, 993),
  (338, .methodLink "SortedRuns" 338 ⟨"SortedRuns", "runsOf", "(I)LSortedRuns$RunList;"⟩, 1006),
  (341, .methodLink "SortedRuns" 341 ⟨"SortedRuns$Fate", "begin", "(IJ)V"⟩, 1010),
  (344, .methodLink "SortedRuns" 344 ⟨"SortedRuns$Table", "lookUp", "(JLSortedRuns$Fate;)V"⟩, 1011),
  (347, .methodLink "SortedRuns" 347 ⟨"SortedRuns", "lookThrough", "(LSortedRuns$RunList;J)Z"⟩, 1015),
  (351, .fieldLink "SortedRuns" 351 "SortedRuns$Fate" "kind" "I", 123),
  (354, .fieldLink "SortedRuns" 354 "SortedRuns$Fate" "value" "J", 127),
  (357, .methodLink "SortedRuns" 357 ⟨"SortedRuns$Fate", "wantsOlder", "()Z"⟩, 1019),
  (360, .methodLink "SortedRuns" 360 ⟨"SortedRuns$Run", "spans", "(J)Z"⟩, 1023),
  (363, .methodLink "SortedRuns" 363 ⟨"SortedRuns$Run", "bars", "(J)Z"⟩, 1027),
  (366, .methodLink "SortedRuns" 366 ⟨"SortedRuns$RunStream", "start", "(LSortedRuns$Run;J)V"⟩, 1035),
  (369, .fieldLink "SortedRuns" 369 "SortedRuns$RunStream" "comingPage" "I", 387),
  (372, .methodLink "SortedRuns" 372 ⟨"SortedRuns$RunStream", "startPage", "(I)V"⟩, 1036),
  (375, .methodLink "SortedRuns" 375 ⟨"SortedRuns", "findInPage", "(J)V"⟩, 1040),
  (378, .methodLink "SortedRuns" 378 ⟨"SortedRuns$RunStream", "step", "()V"⟩, 1044),
  (381, .fieldLink "SortedRuns" 381 "SortedRuns$RunStream" "there" "Z", 344),
  (384, .fieldLink "SortedRuns" 384 "SortedRuns$RunStream" "key" "J", 351),
  (385, .fieldLink "SortedRuns" 385 "SortedRuns$RunStream" "kind" "I", 358),
  (386, .fieldLink "SortedRuns" 386 "SortedRuns$RunStream" "value" "J", 365),
  (387, .methodLink "SortedRuns" 387 ⟨"SortedRuns$Fate", "layUpon", "(IJ)V"⟩, 1045),
  (392, .methodLink "SortedRuns" 392 ⟨"SortedRuns", "gatherAnswers", "(JJ)I"⟩, 1054),
  (396, .methodLink "SortedRuns" 396 ⟨"SortedRuns", "noteAnswer", "(JJ)V"⟩, 1058),
  (404, .fieldLink "SortedRuns" 404 "SortedRuns$Run" "entries" "I", 184),
  (407, .methodLink "SortedRuns" 407 ⟨"SortedRuns", "requireOctet", "(II)V"⟩, 1092),
  (410, .methodLink "SortedRuns" 410 ⟨"SortedRuns$Pages", "peek", "(II)I"⟩, 1098),
  (413, .methodLink "SortedRuns" 413 ⟨"SortedRuns$Pages", "has", "(I)Z"⟩, 1096),
  (418, .methodLink "SortedRuns" 418 ⟨"SortedRuns$Pages", "isRight", "(I)Z"⟩, 535),
  (425, .methodLink "SortedRuns" 425 ⟨"SortedRuns$Pages", "turn", "(III)V"⟩, 1108),
  (429, .methodLink "SortedRuns" 429 ⟨"SortedRuns", "leastWrong", "(LSortedRuns$RunList;)I"⟩, 539),
  (435, .fieldLink "SortedRuns" 435 "SortedRuns$Pages" "cutIn" "I", 273),
  (438, .fieldLink "SortedRuns" 438 "SortedRuns$Pages" "cutBehind" "I", 275),
  (441, .methodLink "SortedRuns" 441 ⟨"SortedRuns$Space", "clear", "()V"⟩, 563),
  (444, .methodLink "SortedRuns" 444 ⟨"SortedRuns", "newestHead", "()I"⟩, 1128),
  (447, .methodLink "SortedRuns" 447 ⟨"SortedRuns$Pages", "two", "(II)I"⟩, 1145),
  (449, .methodLink "SortedRuns" 449 ⟨"SortedRuns", "openRun", "(LSortedRuns$Run;I)I"⟩, 1146),
  (453, .methodLink "SortedRuns" 453 ⟨"SortedRuns$RunList", "putLast", "(LSortedRuns$Run;)V"⟩, 1158),
  (456, .methodLink "SortedRuns" 456 ⟨"SortedRuns$Pages", "four", "(II)J"⟩, 1136),
  (460, .methodLink "SortedRuns" 460 ⟨"SortedRuns", "headIsRight", "(I)Z"⟩, 1132),
  (463, .methodLink "SortedRuns" 463 ⟨"SortedRuns", "openPage", "(LSortedRuns$Run;I)Z"⟩, 1150),
  (467, .fieldLink "SortedRuns" 467 "SortedRuns$Run" "lastKey" "J", 187),
  (470, .fieldLink "SortedRuns" 470 "SortedRuns$Sheet" "entries" "I", 236),
  (471, .methodLink "SortedRuns" 471 ⟨"SortedRuns$Pages", "bodyIs", "(ILSortedRuns$Sheet;)Z"⟩, 1154),
  (476, .fieldLink "SortedRuns" 476 "SortedRuns$Pages" "reads" "I", 269),
  (479, .fieldLink "SortedRuns" 479 "SortedRuns$Pages" "writes" "I", 271),
  (482, .methodLink "SortedRuns" 482 ⟨"SortedRuns", "countMarks", "()I"⟩, 1167)]
def nm_po1 : List (Nat × Cond × Nat) := [(3, .methodLink "SortedRuns$Blend" 3 ⟨"java/lang/Object", "<init>", "()V"⟩, 320),
  (9, .classLink "SortedRuns$Blend" 9 "SortedRuns$Fate", 321),
  (12, .fieldLink "SortedRuns$Blend" 12 "SortedRuns$Blend" "fate" "LSortedRuns$Fate;", 411),
  (18, .fieldLink "SortedRuns$Blend" 18 "SortedRuns$Blend" "key" "J", 413),
  (22, .classLink "SortedRuns$Blend" 22 "SortedRuns$RunStream", 323),
  (24, .fieldLink "SortedRuns$Blend" 24 "SortedRuns$Blend" "ofRuns" "[LSortedRuns$RunStream;", 416),
  (28, .classLink "SortedRuns$Blend" 28 "SortedRuns$Stream", 325),
  (30, .fieldLink "SortedRuns$Blend" 30 "SortedRuns$Blend" "inputs" "[LSortedRuns$Stream;", 417),
  (34, .fieldLink "SortedRuns$Blend" 34 "SortedRuns$Blend" "inputCount" "I", 418),
  (38, .fieldLink "SortedRuns$Blend" 38 "SortedRuns$Blend" "runCount" "I", 419),
  (41, .fieldLink "SortedRuns$Blend" 41 "SortedRuns$Blend" "oldest" "Z", 420),
  (45, .classLink "SortedRuns$Blend" 45 "SortedRuns$TableStream", 327),
  (47, .methodLink "SortedRuns$Blend" 47 ⟨"SortedRuns$TableStream", "<init>", "(LSortedRuns$Table;)V"⟩, 329),
  (50, .fieldLink "SortedRuns$Blend" 50 "SortedRuns$Blend" "ofTable" "LSortedRuns$TableStream;", 415),
  (54, .methodLink "SortedRuns$Blend" 54 ⟨"SortedRuns$RunStream", "<init>", "(LSortedRuns$Pages;LSortedRuns$Space;)V"⟩, 380),
  (57, .methodLink "SortedRuns$Blend" 57 ⟨"SortedRuns$TableStream", "start", "()V"⟩, 933),
  (60, .methodLink "SortedRuns$Blend" 60 ⟨"SortedRuns$TableStream", "step", "()V"⟩, 937),
  (63, .methodLink "SortedRuns$Blend" 63 ⟨"SortedRuns$Blend", "addInput", "(LSortedRuns$Stream;)V"⟩, 786),
  (67, .methodLink "SortedRuns$Blend" 67 ⟨"SortedRuns$RunStream", "start", "(LSortedRuns$Run;J)V"⟩, 754),
  (70, .methodLink "SortedRuns$Blend" 70 ⟨"SortedRuns$RunStream", "step", "()V"⟩, 763),
  (71, .constant "SortedRuns$Blend" 71 1000000, 802),
  (72, .methodLink "SortedRuns$Blend" 72 ⟨"SortedRuns$Blend", "findLeast", "()Z"⟩, 803),
  (76, .methodLink "SortedRuns$Blend" 76 ⟨"SortedRuns$Fate", "begin", "(IJ)V"⟩, 807),
  (80, .fieldLink "SortedRuns$Blend" 80 "SortedRuns$Stream" "there" "Z", 343),
  (83, .fieldLink "SortedRuns$Blend" 83 "SortedRuns$Stream" "key" "J", 350),
  (84, .fieldLink "SortedRuns$Blend" 84 "SortedRuns$Stream" "kind" "I", 357),
  (87, .fieldLink "SortedRuns$Blend" 87 "SortedRuns$Stream" "value" "J", 364),
  (90, .methodLink "SortedRuns$Blend" 90 ⟨"SortedRuns$Fate", "layUpon", "(IJ)V"⟩, 808),
  (93, .methodLink "SortedRuns$Blend" 93 ⟨"SortedRuns$Stream", "step", "()V"⟩, 809),
  (94, .fieldLink "SortedRuns$Blend" 94 "SortedRuns$Fate" "kind" "I", 122)]
def nm_po2 : List (Nat × Cond × Nat) := [(3, .methodLink "SortedRuns$Fate" 3 ⟨"java/lang/Object", "<init>", "()V"⟩, 118),
  (9, .fieldLink "SortedRuns$Fate" 9 "SortedRuns$Fate" "kind" "I", 119),
  (15, .fieldLink "SortedRuns$Fate" 15 "SortedRuns$Fate" "value" "J", 124)]
def nm_po3 : List (Nat × Cond × Nat) := [(3, .methodLink "SortedRuns$Pages" 3 ⟨"java/lang/Object", "<init>", "()V"⟩, 263),
  (9, .fieldLink "SortedRuns$Pages" 9 "SortedRuns$Pages" "reads" "I", 268),
  (15, .fieldLink "SortedRuns$Pages" 15 "SortedRuns$Pages" "writes" "I", 270),
  (18, .fieldLink "SortedRuns$Pages" 18 "SortedRuns$Pages" "cutIn" "I", 272),
  (21, .fieldLink "SortedRuns$Pages" 21 "SortedRuns$Pages" "cutBehind" "I", 274),
  (24, .fieldLink "SortedRuns$Pages" 24 "SortedRuns$Pages" "count" "I", 264),
  (27, .fieldLink "SortedRuns$Pages" 27 "SortedRuns$Pages" "octets" "[B", 265),
  (31, .fieldLink "SortedRuns$Pages" 31 "SortedRuns$Pages" "right" "[Z", 267),
  (35, .methodLink "SortedRuns$Pages" 35 ⟨"SortedRuns$Pages", "has", "(I)Z"⟩, 469),
  (39, .methodLink "SortedRuns$Pages" 39 ⟨"SortedRuns$Pages", "peek", "(II)I"⟩, 1144),
  (43, .methodLink "SortedRuns$Pages" 43 ⟨"SortedRuns$Pages", "two", "(II)I"⟩, 1140),
  (46, .methodLink "SortedRuns$Pages" 46 ⟨"SortedRuns$Pages", "isRight", "(I)Z"⟩, 740),
  (49, .fieldLink "SortedRuns$Pages" 49 "SortedRuns$Sheet" "octets" "[B", 233),
  (52, .methodLink "SortedRuns$Pages" 52 ⟨"SortedRuns$Sheet", "seal", "(I)V"⟩, 880),
  (56, .methodLink "SortedRuns$Pages" 56 ⟨"java/lang/Math", "max", "(II)I"⟩, 881),
  (61, .methodLink "SortedRuns$Pages" 61 ⟨"SortedRuns$Pages", "lay", "(ILSortedRuns$Sheet;I)V"⟩, 882),
  (65, .methodLink "SortedRuns$Pages" 65 ⟨"SortedRuns$Pages", "checkSum", "(I)V"⟩, 883),
  (68, .methodLink "SortedRuns$Pages" 68 ⟨"SortedRuns$Sheet", "sumOf", "([BII)J"⟩, 477)]
def nm_po4 : List (Nat × Cond × Nat) := [(1, .methodLink "SortedRuns$Run" 1 ⟨"java/lang/Object", "<init>", "()V"⟩, 168),
  (7, .fieldLink "SortedRuns$Run" 7 "SortedRuns$Run" "filter" "[J", 174),
  (13, .fieldLink "SortedRuns$Run" 13 "SortedRuns$Run" "firstPage" "I", 175),
  (17, .fieldLink "SortedRuns$Run" 17 "SortedRuns$Run" "pageCount" "I", 179),
  (20, .fieldLink "SortedRuns$Run" 20 "SortedRuns$Run" "entries" "I", 183),
  (23, .fieldLink "SortedRuns$Run" 23 "SortedRuns$Run" "firstKey" "J", 185),
  (27, .fieldLink "SortedRuns$Run" 27 "SortedRuns$Run" "lastKey" "J", 186),
  (30, .fieldLink "SortedRuns$Run" 30 "SortedRuns$Run" "holders" "I", 188),
  (33, .fieldLink "SortedRuns$Run" 33 "SortedRuns$Run" "number" "I", 169),
  (36, .fieldLink "SortedRuns$Run" 36 "SortedRuns$Run" "level" "I", 171),
  (39, .methodLink "SortedRuns$Run" 39 ⟨"SortedRuns$Run", "hashOf", "(J)J"⟩, 888),
  (43, .methodLink "SortedRuns$Run" 43 ⟨"SortedRuns$Run", "setBit", "(J)V"⟩, 894),
  (47, .methodLink "SortedRuns$Run" 47 ⟨"SortedRuns$Run", "hasBit", "(J)Z"⟩, 1031),
  (51, .constantLong "SortedRuns$Run" 51 7, 892),
  (53, .constantLong "SortedRuns$Run" 53 (-7046029254386353131), 893),
  (55, .constantLong "SortedRuns$Run" 55 63, 898)]
def nm_po5 : List (Nat × Cond × Nat) := [(3, .methodLink "SortedRuns$RunList" 3 ⟨"java/lang/Object", "<init>", "()V"⟩, 161),
  (9, .classLink "SortedRuns$RunList" 9 "SortedRuns$Run", 162),
  (11, .fieldLink "SortedRuns$RunList" 11 "SortedRuns$RunList" "runs" "[LSortedRuns$Run;", 210),
  (17, .fieldLink "SortedRuns$RunList" 17 "SortedRuns$RunList" "size" "I", 212),
  (21, .fieldLink "SortedRuns$RunList" 21 "SortedRuns$RunList" "kept" "Z", 214),
  (25, .methodLink "SortedRuns$RunList" 25 ⟨"SortedRuns$Run", "<init>", "(II)V"⟩, 165),
  (28, .fieldLink "SortedRuns$RunList" 28 "SortedRuns$Run" "level" "I", 172),
  (31, .fieldLink "SortedRuns$RunList" 31 "SortedRuns$Run" "holders" "I", 189),
  (34, .methodLink "SortedRuns$RunList" 34 ⟨"java/lang/Math", "max", "(II)I"⟩, 912),
  (40, .methodLink "SortedRuns$RunList" 40 ⟨"SortedRuns$RunList", "putLast", "(LSortedRuns$Run;)V"⟩, 967)]
def nm_po6 : List (Nat × Cond × Nat) := [(9, .fieldLink "SortedRuns$RunStream" 9 "SortedRuns$RunStream" "comingPage" "I", 386),
  (15, .fieldLink "SortedRuns$RunStream" 15 "SortedRuns$RunStream" "pagesLeft" "I", 388),
  (18, .fieldLink "SortedRuns$RunStream" 18 "SortedRuns$RunStream" "entriesLeft" "I", 389),
  (21, .fieldLink "SortedRuns$RunStream" 21 "SortedRuns$RunStream" "place" "I", 390),
  (24, .fieldLink "SortedRuns$RunStream" 24 "SortedRuns$RunStream" "placeEnd" "I", 391),
  (27, .fieldLink "SortedRuns$RunStream" 27 "SortedRuns$RunStream" "pages" "LSortedRuns$Pages;", 384),
  (31, .fieldLink "SortedRuns$RunStream" 31 "SortedRuns$RunStream" "space" "LSortedRuns$Space;", 385),
  (35, .fieldLink "SortedRuns$RunStream" 35 "SortedRuns$Run" "firstPage" "I", 176),
  (40, .fieldLink "SortedRuns$RunStream" 40 "SortedRuns$Run" "pageCount" "I", 180),
  (43, .methodLink "SortedRuns$RunStream" 43 ⟨"SortedRuns$Space", "after", "(I)I"⟩, 758),
  (49, .methodLink "SortedRuns$RunStream" 49 ⟨"SortedRuns$Space", "beginsAbove", "(IJ)Z"⟩, 759),
  (53, .methodLink "SortedRuns$RunStream" 53 ⟨"SortedRuns$Pages", "peek", "(II)I"⟩, 767),
  (59, .fieldLink "SortedRuns$RunStream" 59 "SortedRuns$RunStream" "there" "Z", 341),
  (63, .methodLink "SortedRuns$RunStream" 63 ⟨"SortedRuns$RunStream", "readKey", "()V"⟩, 771),
  (66, .methodLink "SortedRuns$RunStream" 66 ⟨"SortedRuns$RunStream", "nextOctet", "()I"⟩, 776),
  (70, .fieldLink "SortedRuns$RunStream" 70 "SortedRuns$RunStream" "kind" "I", 355),
  (73, .methodLink "SortedRuns$RunStream" 73 ⟨"SortedRuns$RunStream", "readValue", "()J"⟩, 782),
  (77, .fieldLink "SortedRuns$RunStream" 77 "SortedRuns$RunStream" "value" "J", 362),
  (81, .fieldLink "SortedRuns$RunStream" 81 "SortedRuns$RunStream" "key" "J", 348),
  (84, .constantLong "SortedRuns$RunStream" 84 (-9223372036854775808), 775),
  (86, .constantLong "SortedRuns$RunStream" 86 255, 780),
  (88, .constantLong "SortedRuns$RunStream" 88 (-1), 781),
  (90, .fieldLink "SortedRuns$RunStream" 90 "SortedRuns$Pages" "octets" "[B", 266)]
def nm_po7 : List (Nat × Cond × Nat) := [(3, .methodLink "SortedRuns$Sheet" 3 ⟨"java/lang/Object", "<init>", "()V"⟩, 231),
  (9, .fieldLink "SortedRuns$Sheet" 9 "SortedRuns$Sheet" "octets" "[B", 232),
  (15, .fieldLink "SortedRuns$Sheet" 15 "SortedRuns$Sheet" "used" "I", 234),
  (19, .fieldLink "SortedRuns$Sheet" 19 "SortedRuns$Sheet" "entries" "I", 235),
  (22, .fieldLink "SortedRuns$Sheet" 22 "SortedRuns$Sheet" "firstKey" "J", 237),
  (26, .fieldLink "SortedRuns$Sheet" 26 "SortedRuns$Sheet" "lastKey" "J", 239),
  (29, .methodLink "SortedRuns$Sheet" 29 ⟨"SortedRuns$Sheet", "one", "(I)V"⟩, 452),
  (33, .methodLink "SortedRuns$Sheet" 33 ⟨"SortedRuns$Sheet", "clear", "()V"⟩, 837),
  (36, .methodLink "SortedRuns$Sheet" 36 ⟨"SortedRuns$Sheet", "two", "(I)V"⟩, 838),
  (39, .methodLink "SortedRuns$Sheet" 39 ⟨"SortedRuns$Sheet", "shared", "(J)I"⟩, 820),
  (43, .fieldLink "SortedRuns$Sheet" 43 "SortedRuns$Fate" "kind" "I", 121),
  (48, .fieldLink "SortedRuns$Sheet" 48 "SortedRuns$Fate" "value" "J", 126),
  (51, .methodLink "SortedRuns$Sheet" 51 ⟨"SortedRuns$Sheet", "folded", "(J)J"⟩, 825),
  (55, .methodLink "SortedRuns$Sheet" 55 ⟨"SortedRuns$Sheet", "sizeOf", "(J)I"⟩, 830),
  (58, .constantLong "SortedRuns$Sheet" 58 (-9223372036854775808), 843),
  (60, .methodLink "SortedRuns$Sheet" 60 ⟨"SortedRuns$Sheet", "appendValue", "(J)V"⟩, 844),
  (64, .constantLong "SortedRuns$Sheet" 64 127, 848),
  (66, .constantLong "SortedRuns$Sheet" 66 255, 824),
  (68, .constantLong "SortedRuns$Sheet" 68 (-1), 828),
  (70, .constantLong "SortedRuns$Sheet" 70 2, 829),
  (72, .methodLink "SortedRuns$Sheet" 72 ⟨"SortedRuns$Sheet", "sumOf", "([BII)J"⟩, 461),
  (76, .constantLong "SortedRuns$Sheet" 76 1099511628211, 464)]
def nm_po8 : List (Nat × Cond × Nat) := [(3, .methodLink "SortedRuns$Space" 3 ⟨"java/lang/Object", "<init>", "()V"⟩, 297),
  (9, .fieldLink "SortedRuns$Space" 9 "SortedRuns$Space" "count" "I", 298),
  (15, .fieldLink "SortedRuns$Space" 15 "SortedRuns$Space" "holders" "[I", 299),
  (19, .fieldLink "SortedRuns$Space" 19 "SortedRuns$Space" "next" "[I", 300),
  (22, .fieldLink "SortedRuns$Space" 22 "SortedRuns$Space" "firstKeys" "[J", 301),
  (26, .fieldLink "SortedRuns$Space" 26 "SortedRuns$Space" "free" "I", 302),
  (29, .methodLink "SortedRuns$Space" 29 ⟨"java/lang/Math", "max", "(II)I"⟩, 863),
  (35, .methodLink "SortedRuns$Space" 35 ⟨"SortedRuns$Space", "has", "(I)Z"⟩, 547),
  (39, .fieldLink "SortedRuns$Space" 39 "SortedRuns$Run" "firstPage" "I", 177),
  (44, .fieldLink "SortedRuns$Space" 44 "SortedRuns$Run" "pageCount" "I", 181)]
def nm_po9 : List (Nat × Cond × Nat) := [(3, .methodLink "SortedRuns$Stream" 3 ⟨"java/lang/Object", "<init>", "()V"⟩, 335),
  (9, .fieldLink "SortedRuns$Stream" 9 "SortedRuns$Stream" "there" "Z", 338),
  (15, .fieldLink "SortedRuns$Stream" 15 "SortedRuns$Stream" "key" "J", 345),
  (19, .fieldLink "SortedRuns$Stream" 19 "SortedRuns$Stream" "kind" "I", 352),
  (23, .fieldLink "SortedRuns$Stream" 23 "SortedRuns$Stream" "value" "J", 359)]
def nm_po10 : List (Nat × Cond × Nat) := [(3, .methodLink "SortedRuns$Table" 3 ⟨"java/lang/Object", "<init>", "()V"⟩, 112),
  (9, .fieldLink "SortedRuns$Table" 9 "SortedRuns$Table" "keys" "[J", 135),
  (15, .fieldLink "SortedRuns$Table" 15 "SortedRuns$Table" "kinds" "[I", 137),
  (19, .fieldLink "SortedRuns$Table" 19 "SortedRuns$Table" "values" "[J", 139),
  (22, .classLink "SortedRuns$Table" 22 "SortedRuns$Fate", 113),
  (25, .fieldLink "SortedRuns$Table" 25 "SortedRuns$Table" "fate" "LSortedRuns$Fate;", 141),
  (29, .fieldLink "SortedRuns$Table" 29 "SortedRuns$Table" "size" "I", 142),
  (33, .methodLink "SortedRuns$Table" 33 ⟨"SortedRuns$Table", "placeOf", "(J)I"⟩, 657),
  (37, .methodLink "SortedRuns$Table" 37 ⟨"SortedRuns$Table", "holds", "(IJ)Z"⟩, 661),
  (41, .methodLink "SortedRuns$Table" 41 ⟨"SortedRuns$Fate", "begin", "(IJ)V"⟩, 670),
  (45, .methodLink "SortedRuns$Table" 45 ⟨"SortedRuns$Fate", "layUpon", "(IJ)V"⟩, 674),
  (48, .methodLink "SortedRuns$Table" 48 ⟨"SortedRuns$Table", "shiftFrom", "(I)V"⟩, 678),
  (52, .fieldLink "SortedRuns$Table" 52 "SortedRuns$Fate" "kind" "I", 120),
  (55, .fieldLink "SortedRuns$Table" 55 "SortedRuns$Fate" "value" "J", 125)]
def nm_po11 : List (Nat × Cond × Nat) := [(9, .fieldLink "SortedRuns$TableStream" 9 "SortedRuns$TableStream" "place" "I", 337),
  (15, .fieldLink "SortedRuns$TableStream" 15 "SortedRuns$TableStream" "table" "LSortedRuns$Table;", 336),
  (19, .fieldLink "SortedRuns$TableStream" 19 "SortedRuns$Table" "size" "I", 143),
  (24, .fieldLink "SortedRuns$TableStream" 24 "SortedRuns$TableStream" "there" "Z", 339),
  (28, .fieldLink "SortedRuns$TableStream" 28 "SortedRuns$Table" "keys" "[J", 136),
  (32, .fieldLink "SortedRuns$TableStream" 32 "SortedRuns$TableStream" "key" "J", 346),
  (36, .fieldLink "SortedRuns$TableStream" 36 "SortedRuns$Table" "kinds" "[I", 138),
  (40, .fieldLink "SortedRuns$TableStream" 40 "SortedRuns$TableStream" "kind" "I", 353),
  (43, .fieldLink "SortedRuns$TableStream" 43 "SortedRuns$Table" "values" "[J", 140),
  (46, .fieldLink "SortedRuns$TableStream" 46 "SortedRuns$TableStream" "value" "J", 360)]
def nm_po12 : List (Nat × Cond × Nat) := [(7, .methodLink "SortedRunsLaw" 7 ⟨"SortedRuns", "put", "(JJ)I"⟩, 574),
  (8, .classLink "SortedRunsLaw" 8 "SortedRuns", 99),
  (13, .classLink "SortedRunsLaw" 13 "java/lang/IllegalStateException", 573),
  (15, .methodLink "SortedRunsLaw" 15 ⟨"SortedRuns", "remove", "(J)I"⟩, 685),
  (19, .methodLink "SortedRunsLaw" 19 ⟨"SortedRuns", "fold", "(JJ)I"⟩, 692),
  (22, .methodLink "SortedRunsLaw" 22 ⟨"SortedRuns", "many", "(IIJJ)I"⟩, 700),
  (26, .classLink "SortedRunsLaw" 26 "java/lang/IllegalArgumentException", 699),
  (28, .methodLink "SortedRunsLaw" 28 ⟨"SortedRuns", "flush", "()I"⟩, 941),
  (32, .methodLink "SortedRunsLaw" 32 ⟨"SortedRuns", "merge", "()I"⟩, 948),
  (35, .methodLink "SortedRunsLaw" 35 ⟨"SortedRuns", "mark", "()I"⟩, 955),
  (38, .methodLink "SortedRunsLaw" 38 ⟨"SortedRuns", "release", "(I)I"⟩, 975),
  (42, .classLink "SortedRunsLaw" 42 "java/lang/IndexOutOfBoundsException", 974),
  (44, .methodLink "SortedRunsLaw" 44 ⟨"SortedRuns", "get", "(IJ)J"⟩, 1002),
  (48, .methodLink "SortedRunsLaw" 48 ⟨"SortedRuns", "range", "(IJJ)I"⟩, 1049),
  (52, .methodLink "SortedRunsLaw" 52 ⟨"SortedRuns", "at", "(II)J"⟩, 1065),
  (56, .methodLink "SortedRunsLaw" 56 ⟨"SortedRuns", "run", "(II)I"⟩, 1073),
  (60, .methodLink "SortedRunsLaw" 60 ⟨"SortedRuns", "hidden", "(J)Z"⟩, 1081),
  (64, .methodLink "SortedRunsLaw" 64 ⟨"SortedRuns", "octet", "(II)I"⟩, 1088),
  (67, .methodLink "SortedRunsLaw" 67 ⟨"SortedRuns", "poke", "(III)V"⟩, 1102),
  (71, .methodLink "SortedRunsLaw" 71 ⟨"SortedRuns", "cut", "(II)V"⟩, 1115),
  (75, .methodLink "SortedRunsLaw" 75 ⟨"SortedRuns", "open", "()I"⟩, 1123),
  (78, .methodLink "SortedRunsLaw" 78 ⟨"SortedRuns", "told", "(I)I"⟩, 1162),
  (81, .methodLink "SortedRunsLaw" 81 ⟨"SortedRunsLaw", "cell", "([II)I"⟩, 567),
  (87, .methodLink "SortedRunsLaw" 87 ⟨"SortedRuns", "<init>", "(I)V"⟩, 101),
  (90, .classLink "SortedRunsLaw" 90 "SortedRunsModel", 1171),
  (92, .methodLink "SortedRunsLaw" 92 ⟨"SortedRunsModel", "<init>", "(I)V"⟩, 1173),
  (93, .constantLong "SortedRunsLaw" 93 4294967295, 1595),
  (95, .methodLink "SortedRunsLaw" 95 ⟨"SortedRunsLaw", "put", "(LSortedRuns;JJ[J)I"⟩, 570),
  (98, .methodLink "SortedRunsLaw" 98 ⟨"SortedRunsModel", "put", "(JJ)I"⟩, 1362),
  (99, .methodLink "SortedRunsLaw" 99 ⟨"SortedRunsLaw", "remove", "(LSortedRuns;J[J)I"⟩, 682),
  (102, .methodLink "SortedRunsLaw" 102 ⟨"SortedRunsModel", "remove", "(J)I"⟩, 1382),
  (103, .methodLink "SortedRunsLaw" 103 ⟨"SortedRunsLaw", "fold", "(LSortedRuns;JJ[J)I"⟩, 689),
  (105, .methodLink "SortedRunsLaw" 105 ⟨"SortedRunsModel", "fold", "(JJ)I"⟩, 1386),
  (106, .methodLink "SortedRunsLaw" 106 ⟨"SortedRunsLaw", "many", "(LSortedRuns;IIJJ[J)I"⟩, 696),
  (109, .methodLink "SortedRunsLaw" 109 ⟨"SortedRunsModel", "many", "(IIJJ)I"⟩, 1390),
  (110, .methodLink "SortedRunsLaw" 110 ⟨"SortedRunsLaw", "flush", "(LSortedRuns;[J)I"⟩, 938),
  (113, .methodLink "SortedRunsLaw" 113 ⟨"SortedRunsModel", "flush", "()I"⟩, 1487),
  (114, .methodLink "SortedRunsLaw" 114 ⟨"SortedRunsLaw", "merge", "(LSortedRuns;[J)I"⟩, 945),
  (116, .methodLink "SortedRunsLaw" 116 ⟨"SortedRunsModel", "merge", "()I"⟩, 1491),
  (117, .methodLink "SortedRunsLaw" 117 ⟨"SortedRunsLaw", "mark", "(LSortedRuns;[J)I"⟩, 952),
  (119, .methodLink "SortedRunsLaw" 119 ⟨"SortedRunsModel", "mark", "()I"⟩, 1495),
  (120, .methodLink "SortedRunsLaw" 120 ⟨"SortedRunsLaw", "release", "(LSortedRuns;I[J)I"⟩, 971),
  (123, .methodLink "SortedRunsLaw" 123 ⟨"SortedRunsModel", "release", "(I)I"⟩, 1499),
  (124, .methodLink "SortedRunsLaw" 124 ⟨"SortedRunsLaw", "get", "(LSortedRuns;IJ[J)I"⟩, 999),
  (127, .methodLink "SortedRunsLaw" 127 ⟨"SortedRunsModel", "get", "(IJ)J"⟩, 1503),
  (128, .methodLink "SortedRunsLaw" 128 ⟨"SortedRuns", "state", "()I"⟩, 527),
  (131, .methodLink "SortedRunsLaw" 131 ⟨"SortedRunsModel", "state", "()I"⟩, 1523),
  (132, .methodLink "SortedRunsLaw" 132 ⟨"SortedRunsLaw", "range", "(LSortedRuns;IJJ[J)I"⟩, 1046),
  (135, .methodLink "SortedRunsLaw" 135 ⟨"SortedRunsModel", "range", "(IJJ)I"⟩, 1527),
  (136, .methodLink "SortedRunsLaw" 136 ⟨"SortedRunsLaw", "at", "(LSortedRuns;II[J)I"⟩, 1062),
  (139, .methodLink "SortedRunsLaw" 139 ⟨"SortedRunsModel", "at", "(II)J"⟩, 1531),
  (140, .methodLink "SortedRunsLaw" 140 ⟨"SortedRunsLaw", "run", "(LSortedRuns;II[J)I"⟩, 1070),
  (142, .methodLink "SortedRunsLaw" 142 ⟨"SortedRunsModel", "run", "(II)I"⟩, 1535),
  (143, .methodLink "SortedRunsLaw" 143 ⟨"SortedRunsLaw", "hidden", "(LSortedRuns;J[J)I"⟩, 1078),
  (145, .methodLink "SortedRunsLaw" 145 ⟨"SortedRunsModel", "hidden", "(J)Z"⟩, 1539),
  (146, .methodLink "SortedRunsLaw" 146 ⟨"SortedRunsLaw", "octet", "(LSortedRuns;II[J)I"⟩, 1085),
  (148, .methodLink "SortedRunsLaw" 148 ⟨"SortedRunsModel", "octet", "(II)I"⟩, 1543),
  (149, .methodLink "SortedRunsLaw" 149 ⟨"SortedRunsLaw", "poke", "(LSortedRuns;III)I"⟩, 1099),
  (152, .methodLink "SortedRunsLaw" 152 ⟨"SortedRunsModel", "poke", "(III)V"⟩, 1551),
  (153, .methodLink "SortedRunsLaw" 153 ⟨"SortedRuns", "badAt", "()I"⟩, 531),
  (156, .methodLink "SortedRunsLaw" 156 ⟨"SortedRunsModel", "badAt", "()I"⟩, 1555),
  (157, .methodLink "SortedRunsLaw" 157 ⟨"SortedRunsLaw", "cut", "(LSortedRuns;II)I"⟩, 1112),
  (160, .methodLink "SortedRunsLaw" 160 ⟨"SortedRunsModel", "cut", "(II)V"⟩, 1559),
  (161, .methodLink "SortedRunsLaw" 161 ⟨"SortedRunsModel", "thrown", "()I"⟩, 1358),
  (164, .methodLink "SortedRunsLaw" 164 ⟨"SortedRuns", "down", "()Z"⟩, 551),
  (168, .methodLink "SortedRunsLaw" 168 ⟨"SortedRunsModel", "down", "()Z"⟩, 1563),
  (169, .methodLink "SortedRunsLaw" 169 ⟨"SortedRunsLaw", "open", "(LSortedRuns;[J)I"⟩, 1120),
  (171, .methodLink "SortedRunsLaw" 171 ⟨"SortedRunsModel", "open", "()I"⟩, 1567),
  (172, .methodLink "SortedRunsLaw" 172 ⟨"SortedRunsLaw", "told", "(LSortedRuns;I[J)I"⟩, 1159),
  (174, .methodLink "SortedRunsLaw" 174 ⟨"SortedRunsModel", "told", "(I)I"⟩, 1591)]
def nm_po13 : List (Nat × Cond × Nat) := [(1, .methodLink "SortedRunsModel" 1 ⟨"java/lang/Object", "<init>", "()V"⟩, 1176),
  (7, .constant "SortedRunsModel" 7 131072, 1177),
  (8, .fieldLink "SortedRunsModel" 8 "SortedRunsModel" "octets" "[B", 1207),
  (14, .fieldLink "SortedRunsModel" 14 "SortedRunsModel" "tableKey" "[J", 1217),
  (18, .fieldLink "SortedRunsModel" 18 "SortedRunsModel" "tableKind" "[I", 1218),
  (22, .fieldLink "SortedRunsModel" 22 "SortedRunsModel" "tableValue" "[J", 1219),
  (25, .fieldLink "SortedRunsModel" 25 "SortedRunsModel" "users" "[I", 1220),
  (28, .fieldLink "SortedRunsModel" 28 "SortedRunsModel" "number" "[I", 1221),
  (31, .fieldLink "SortedRunsModel" 31 "SortedRunsModel" "level" "[I", 1222),
  (34, .fieldLink "SortedRunsModel" 34 "SortedRunsModel" "pageCount" "[I", 1223),
  (37, .fieldLink "SortedRunsModel" 37 "SortedRunsModel" "entryCount" "[I", 1224),
  (40, .constant "SortedRunsModel" 40 102400, 1178),
  (41, .fieldLink "SortedRunsModel" 41 "SortedRunsModel" "pageOf" "[I", 1225),
  (44, .fieldLink "SortedRunsModel" 44 "SortedRunsModel" "firstKey" "[J", 1226),
  (47, .fieldLink "SortedRunsModel" 47 "SortedRunsModel" "lastKey" "[J", 1227),
  (50, .fieldLink "SortedRunsModel" 50 "SortedRunsModel" "filter" "[J", 1228),
  (53, .fieldLink "SortedRunsModel" 53 "SortedRunsModel" "nowRun" "[I", 1230),
  (56, .fieldLink "SortedRunsModel" 56 "SortedRunsModel" "isMark" "[Z", 1231),
  (60, .fieldLink "SortedRunsModel" 60 "SortedRunsModel" "markCount" "[I", 1232),
  (63, .fieldLink "SortedRunsModel" 63 "SortedRunsModel" "markRun" "[I", 1233),
  (66, .fieldLink "SortedRunsModel" 66 "SortedRunsModel" "used" "[Z", 1234),
  (69, .fieldLink "SortedRunsModel" 69 "SortedRunsModel" "draft" "[B", 1235),
  (72, .constant "SortedRunsModel" 72 45000, 1179),
  (73, .fieldLink "SortedRunsModel" 73 "SortedRunsModel" "key" "[J", 1237),
  (76, .fieldLink "SortedRunsModel" 76 "SortedRunsModel" "kind" "[I", 1238),
  (79, .fieldLink "SortedRunsModel" 79 "SortedRunsModel" "value" "[J", 1239),
  (82, .fieldLink "SortedRunsModel" 82 "SortedRunsModel" "seenKey" "[J", 1241),
  (85, .fieldLink "SortedRunsModel" 85 "SortedRunsModel" "seenKind" "[I", 1242),
  (88, .fieldLink "SortedRunsModel" 88 "SortedRunsModel" "seenValue" "[J", 1243),
  (91, .fieldLink "SortedRunsModel" 91 "SortedRunsModel" "oldKey" "[J", 1244),
  (94, .fieldLink "SortedRunsModel" 94 "SortedRunsModel" "oldKind" "[I", 1245),
  (97, .fieldLink "SortedRunsModel" 97 "SortedRunsModel" "oldValue" "[J", 1246),
  (100, .fieldLink "SortedRunsModel" 100 "SortedRunsModel" "wholeKey" "[J", 1247),
  (103, .fieldLink "SortedRunsModel" 103 "SortedRunsModel" "wholeKind" "[I", 1248),
  (106, .fieldLink "SortedRunsModel" 106 "SortedRunsModel" "wholeValue" "[J", 1249),
  (109, .fieldLink "SortedRunsModel" 109 "SortedRunsModel" "rangeKey" "[J", 1251),
  (112, .fieldLink "SortedRunsModel" 112 "SortedRunsModel" "rangeValue" "[J", 1252),
  (115, .fieldLink "SortedRunsModel" 115 "SortedRunsModel" "laidKey" "[I", 1253),
  (118, .fieldLink "SortedRunsModel" 118 "SortedRunsModel" "laidBefore" "[I", 1254),
  (121, .fieldLink "SortedRunsModel" 121 "SortedRunsModel" "pages" "I", 1206),
  (125, .fieldLink "SortedRunsModel" 125 "SortedRunsModel" "generation" "I", 1209),
  (128, .fieldLink "SortedRunsModel" 128 "SortedRunsModel" "nextNumber" "I", 1210),
  (131, .methodLink "SortedRunsModel" 131 ⟨"SortedRunsModel", "layHead", "()V"⟩, 1180),
  (134, .methodLink "SortedRunsModel" 134 ⟨"SortedRunsModel", "write", "(I)Z"⟩, 1192),
  (138, .fieldLink "SortedRunsModel" 138 "SortedRunsModel" "writtenCount" "I", 1212),
  (141, .fieldLink "SortedRunsModel" 141 "SortedRunsModel" "code" "I", 1205),
  (144, .constantLong "SortedRunsModel" 144 1099511628211, 1200),
  (146, .methodLink "SortedRunsModel" 146 ⟨"SortedRunsModel", "sumOf", "(IZ)J"⟩, 1196),
  (150, .constantLong "SortedRunsModel" 150 255, 1411),
  (152, .fieldLink "SortedRunsModel" 152 "SortedRunsModel" "cutIn" "I", 1213),
  (155, .fieldLink "SortedRunsModel" 155 "SortedRunsModel" "cutAt" "I", 1214),
  (158, .methodLink "SortedRunsModel" 158 ⟨"SortedRunsModel", "goDown", "()V"⟩, 1201),
  (161, .fieldLink "SortedRunsModel" 161 "SortedRunsModel" "isDown" "Z", 1208),
  (165, .fieldLink "SortedRunsModel" 165 "SortedRunsModel" "tableCount" "I", 1216),
  (168, .fieldLink "SortedRunsModel" 168 "SortedRunsModel" "nowCount" "I", 1229),
  (171, .methodLink "SortedRunsModel" 171 ⟨"SortedRunsModel", "clearDraft", "()V"⟩, 1184),
  (174, .methodLink "SortedRunsModel" 174 ⟨"SortedRunsModel", "put2", "(II)I"⟩, 1188),
  (178, .methodLink "SortedRunsModel" 178 ⟨"SortedRunsModel", "markUsed", "()V"⟩, 1449),
  (181, .constantLong "SortedRunsModel" 181 2, 1444),
  (183, .constantLong "SortedRunsModel" 183 (-1), 1417),
  (185, .methodLink "SortedRunsModel" 185 ⟨"SortedRunsModel", "keyOctet", "(JI)I"⟩, 1438),
  (189, .methodLink "SortedRunsModel" 189 ⟨"SortedRunsModel", "shared", "(JJ)I"⟩, 1435),
  (193, .methodLink "SortedRunsModel" 193 ⟨"SortedRunsModel", "vSize", "(J)I"⟩, 1441),
  (197, .fieldLink "SortedRunsModel" 197 "SortedRunsModel" "count" "I", 1236),
  (200, .methodLink "SortedRunsModel" 200 ⟨"SortedRunsModel", "sizeOf", "(IZ)I"⟩, 1431),
  (204, .methodLink "SortedRunsModel" 204 ⟨"SortedRunsModel", "pagesFor", "()I"⟩, 1427),
  (208, .methodLink "SortedRunsModel" 208 ⟨"SortedRunsModel", "freeCount", "()I"⟩, 1445),
  (211, .methodLink "SortedRunsModel" 211 ⟨"SortedRunsModel", "layEntry", "(IIZ)I"⟩, 1457),
  (215, .methodLink "SortedRunsModel" 215 ⟨"SortedRunsModel", "clearFilter", "(I)V"⟩, 1461),
  (219, .methodLink "SortedRunsModel" 219 ⟨"SortedRunsModel", "mark3", "(IJ)V"⟩, 1465),
  (223, .constantLong "SortedRunsModel" 223 127, 1418),
  (225, .constantLong "SortedRunsModel" 225 128, 1416),
  (227, .constantLong "SortedRunsModel" 227 7, 1472),
  (229, .constantLong "SortedRunsModel" 229 (-7046029254386353131), 1473),
  (231, .constantLong "SortedRunsModel" 231 511, 1477),
  (233, .methodLink "SortedRunsModel" 233 ⟨"SortedRunsModel", "hash", "(JI)J"⟩, 1469),
  (237, .methodLink "SortedRunsModel" 237 ⟨"SortedRunsModel", "bit", "(JI)I"⟩, 1474),
  (240, .methodLink "SortedRunsModel" 240 ⟨"SortedRunsModel", "placeOf", "(J)I"⟩, 1374),
  (243, .methodLink "SortedRunsModel" 243 ⟨"SortedRunsModel", "hasPlace", "(J)Z"⟩, 1370),
  (247, .methodLink "SortedRunsModel" 247 ⟨"SortedRunsModel", "come", "(JIJ)V"⟩, 1378),
  (251, .methodLink "SortedRunsModel" 251 ⟨"SortedRunsModel", "enter", "(JIJ)I"⟩, 1366),
  (255, .methodLink "SortedRunsModel" 255 ⟨"SortedRunsModel", "atLevelNought", "()I"⟩, 1394),
  (258, .methodLink "SortedRunsModel" 258 ⟨"SortedRunsModel", "mergeNow", "()I"⟩, 1398),
  (261, .methodLink "SortedRunsModel" 261 ⟨"SortedRunsModel", "flushNow", "()I"⟩, 1483),
  (264, .methodLink "SortedRunsModel" 264 ⟨"SortedRunsModel", "writeRun", "(I)I"⟩, 1453),
  (268, .methodLink "SortedRunsModel" 268 ⟨"SortedRunsModel", "writeHead", "()Z"⟩, 1479),
  (272, .fieldLink "SortedRunsModel" 272 "SortedRunsModel" "seenCount" "I", 1240),
  (275, .fieldLink "SortedRunsModel" 275 "SortedRunsModel" "readCount" "I", 1211),
  (278, .methodLink "SortedRunsModel" 278 ⟨"SortedRunsModel", "isRight", "(I)Z"⟩, 1407),
  (281, .methodLink "SortedRunsModel" 281 ⟨"SortedRunsModel", "see", "(I)V"⟩, 1412),
  (284, .methodLink "SortedRunsModel" 284 ⟨"SortedRunsModel", "copy", "(I)V"⟩, 1419),
  (287, .constant "SortedRunsModel" 287 (-1000000), 1402),
  (288, .methodLink "SortedRunsModel" 288 ⟨"SortedRunsModel", "below", "(I)I"⟩, 1403),
  (291, .methodLink "SortedRunsModel" 291 ⟨"SortedRunsModel", "ripe", "(Z)I"⟩, 1423),
  (295, .constant "SortedRunsModel" 295 (-2000000), 1478),
  (296, .methodLink "SortedRunsModel" 296 ⟨"SortedRunsModel", "isView", "(I)Z"⟩, 1507),
  (299, .fieldLink "SortedRunsModel" 299 "SortedRunsModel" "state" "I", 1215),
  (302, .methodLink "SortedRunsModel" 302 ⟨"SortedRunsModel", "runsOf", "(I)I"⟩, 1511),
  (305, .methodLink "SortedRunsModel" 305 ⟨"SortedRunsModel", "runOf", "(II)I"⟩, 1515),
  (308, .methodLink "SortedRunsModel" 308 ⟨"SortedRunsModel", "bars", "(IJ)Z"⟩, 1519),
  (312, .fieldLink "SortedRunsModel" 312 "SortedRunsModel" "rangeCount" "I", 1250),
  (315, .methodLink "SortedRunsModel" 315 ⟨"SortedRunsModel", "isOctet", "(II)Z"⟩, 1547),
  (319, .methodLink "SortedRunsModel" 319 ⟨"SortedRunsModel", "two", "(I)I"⟩, 1575),
  (322, .methodLink "SortedRunsModel" 322 ⟨"SortedRunsModel", "areRuns", "(I)Z"⟩, 1579),
  (325, .methodLink "SortedRunsModel" 325 ⟨"SortedRunsModel", "behindValue", "(II)I"⟩, 1587),
  (328, .methodLink "SortedRunsModel" 328 ⟨"SortedRunsModel", "generationOf", "(I)I"⟩, 1571),
  (331, .methodLink "SortedRunsModel" 331 ⟨"SortedRunsModel", "isLaid", "(IZJ)Z"⟩, 1583)]
def nm_po : List (List (Nat × Cond × Nat)) := [nm_po0, nm_po1, nm_po2, nm_po3, nm_po4, nm_po5, nm_po6, nm_po7, nm_po8, nm_po9, nm_po10, nm_po11, nm_po12, nm_po13]
def so_lk : List (Nat × Cond × Nat) → Nat → Option Cond
  | [], _ => none
  | q :: l, i => if q.1 = i then some q.2.1 else so_lk l i
def so_pl (c i : Nat) : Option Cond := so_lk (nm_po.getD c []) i
def nm_pn : List (Nat × Nat × Cond) := [(0, 9, .methodLinkNest "SortedRuns" 9 ⟨"SortedRuns$Table", "<init>", "()V"⟩ "SortedRuns"),
  (0, 29, .methodLinkNest "SortedRuns" 29 ⟨"SortedRuns$Fate", "<init>", "()V"⟩ "SortedRuns"),
  (0, 36, .methodLinkNest "SortedRuns" 36 ⟨"SortedRuns$Sheet", "<init>", "()V"⟩ "SortedRuns"),
  (1, 11, .methodLinkNest "SortedRuns$Blend" 11 ⟨"SortedRuns$Fate", "<init>", "()V"⟩ "SortedRuns"),
  (6, 3, .methodLinkNest "SortedRuns$RunStream" 3 ⟨"SortedRuns$Stream", "<init>", "()V"⟩ "SortedRuns"),
  (10, 24, .methodLinkNest "SortedRuns$Table" 24 ⟨"SortedRuns$Fate", "<init>", "()V"⟩ "SortedRuns"),
  (11, 3, .methodLinkNest "SortedRuns$TableStream" 3 ⟨"SortedRuns$Stream", "<init>", "()V"⟩ "SortedRuns")]
def so_ln : List (Nat × Nat × Cond) → Nat → Nat → Option Cond
  | [], _, _ => none
  | q :: l, c, i => if q.1 = c ∧ q.2.1 = i then some q.2.2 else so_ln l c i
/-- of each method but the law's: the places of its code, (0 static, 1 not) and that word, its selects, its class's initialized -/
def nm_mw : List (Nat × Nat × Nat × Nat × Nat) := [(103, 1, 102, 99999, 79), (111, 1, 110, 99999, 80), (117, 1, 116, 99999, 81), (160, 1, 159, 99999, 82), (167, 1, 166, 99999, 83), (230, 1, 229, 99999, 84), (262, 1, 261, 99999, 86), (296, 1, 295, 99999, 87), (319, 1, 318, 99999, 88), (331, 1, 330, 99999, 90), (334, 1, 333, 99999, 89), (382, 1, 381, 99999, 91), (443, 1, 442, 0, 79), (447, 1, 445, 446, 84), (451, 1, 449, 450, 84), (455, 1, 453, 454, 84), (460, 1, 458, 459, 84), (463, 0, 462, 0, 84), (468, 1, 466, 467, 86), (472, 1, 470, 471, 86), (476, 1, 474, 475, 86), (530, 1, 528, 529, 79), (534, 1, 532, 533, 79), (538, 1, 536, 537, 86), (542, 1, 541, 1, 79), (546, 1, 544, 545, 87), (550, 1, 548, 549, 87), (554, 1, 552, 553, 79), (558, 1, 557, 2, 79), (562, 1, 560, 561, 82), (566, 1, 564, 565, 87), (569, 0, 568, 0, 78), (577, 1, 575, 576, 79), (581, 1, 580, 3, 79), (585, 1, 584, 4, 79), (656, 1, 654, 655, 80), (660, 1, 658, 659, 80), (664, 1, 662, 663, 80), (669, 1, 667, 668, 80), (673, 1, 671, 672, 81), (677, 1, 675, 676, 81), (681, 1, 680, 6, 80), (688, 1, 686, 687, 79), (695, 1, 693, 694, 79), (703, 1, 701, 702, 79), (706, 0, 705, 0, 79), (726, 1, 724, 725, 82), (730, 1, 729, 7, 79), (735, 1, 734, 8, 79), (739, 1, 737, 738, 86), (744, 1, 743, 9, 79), (748, 1, 746, 747, 88), (753, 1, 751, 752, 88), (757, 1, 755, 756, 91), (762, 1, 760, 761, 87), (766, 1, 764, 765, 91), (770, 1, 768, 769, 86), (774, 1, 773, 10, 91), (779, 1, 778, 11, 91), (785, 1, 784, 12, 91), (789, 1, 788, 13, 88), (792, 0, 791, 0, 79), (796, 1, 795, 14, 79), (801, 1, 799, 800, 88), (806, 1, 805, 15, 88), (815, 1, 814, 1597, 90), (819, 1, 817, 818, 84), (823, 1, 822, 16, 84), (827, 0, 826, 0, 84), (832, 0, 831, 0, 84), (836, 1, 834, 835, 84), (842, 1, 840, 841, 84), (847, 1, 846, 17, 84), (852, 1, 851, 18, 79), (856, 1, 855, 19, 79), (862, 1, 860, 861, 87), (867, 1, 866, 20, 79), (871, 1, 869, 870, 84), (875, 1, 873, 874, 87), (879, 1, 877, 878, 86), (887, 1, 885, 886, 83), (891, 1, 890, 21, 83), (897, 1, 896, 22, 83), (903, 1, 902, 23, 79), (907, 1, 905, 906, 87), (911, 1, 909, 910, 82), (916, 1, 914, 915, 82), (920, 1, 919, 24, 79), (924, 1, 923, 25, 79), (928, 1, 927, 26, 79), (932, 1, 930, 931, 88), (936, 1, 934, 935, 90), (944, 1, 942, 943, 79), (951, 1, 949, 950, 79), (958, 1, 956, 957, 79), (962, 1, 961, 27, 79), (966, 1, 964, 965, 82), (970, 1, 968, 969, 82), (978, 1, 976, 977, 79), (982, 1, 981, 28, 79), (1005, 1, 1003, 1004, 79), (1009, 1, 1008, 29, 79), (1014, 1, 1012, 1013, 80), (1018, 1, 1017, 30, 79), (1022, 1, 1020, 1021, 81), (1026, 1, 1024, 1025, 83), (1030, 1, 1028, 1029, 83), (1034, 1, 1033, 31, 83), (1039, 1, 1037, 1038, 91), (1043, 1, 1042, 32, 79), (1052, 1, 1050, 1051, 79), (1057, 1, 1056, 33, 79), (1061, 1, 1060, 34, 79), (1068, 1, 1066, 1067, 79), (1076, 1, 1074, 1075, 79), (1084, 1, 1082, 1083, 79), (1091, 1, 1089, 1090, 79), (1095, 1, 1094, 35, 79), (1105, 1, 1103, 1104, 79), (1111, 1, 1109, 1110, 86), (1118, 1, 1116, 1117, 79), (1126, 1, 1124, 1125, 79), (1131, 1, 1130, 36, 79), (1135, 1, 1134, 37, 79), (1139, 1, 1137, 1138, 86), (1143, 1, 1141, 1142, 86), (1149, 1, 1148, 38, 79), (1153, 1, 1152, 39, 79), (1157, 1, 1155, 1156, 86), (1165, 1, 1163, 1164, 79), (1170, 1, 1169, 40, 79), (1175, 1, 1174, 99999, 92), (1183, 1, 1182, 41, 92), (1187, 1, 1186, 42, 92), (1191, 1, 1190, 43, 92), (1195, 1, 1194, 44, 92), (1199, 1, 1198, 45, 92), (1204, 1, 1203, 46, 92), (1361, 1, 1359, 1360, 92), (1365, 1, 1363, 1364, 92), (1369, 1, 1368, 47, 92), (1373, 1, 1372, 48, 92), (1377, 1, 1376, 49, 92), (1381, 1, 1380, 50, 92), (1385, 1, 1383, 1384, 92), (1389, 1, 1387, 1388, 92), (1393, 1, 1391, 1392, 92), (1397, 1, 1396, 51, 92), (1401, 1, 1400, 52, 92), (1406, 1, 1405, 53, 92), (1410, 1, 1409, 54, 92), (1415, 1, 1414, 55, 92), (1422, 1, 1421, 56, 92), (1426, 1, 1425, 57, 92), (1430, 1, 1429, 58, 92), (1434, 1, 1433, 59, 92), (1437, 0, 1436, 0, 92), (1440, 0, 1439, 0, 92), (1443, 0, 1442, 0, 92), (1448, 1, 1447, 60, 92), (1452, 1, 1451, 61, 92), (1456, 1, 1455, 62, 92), (1460, 1, 1459, 63, 92), (1464, 1, 1463, 64, 92), (1468, 1, 1467, 65, 92), (1471, 0, 1470, 0, 92), (1476, 0, 1475, 0, 92), (1482, 1, 1481, 66, 92), (1486, 1, 1485, 67, 92), (1490, 1, 1488, 1489, 92), (1494, 1, 1492, 1493, 92), (1498, 1, 1496, 1497, 92), (1502, 1, 1500, 1501, 92), (1506, 1, 1504, 1505, 92), (1510, 1, 1509, 68, 92), (1514, 1, 1513, 69, 92), (1518, 1, 1517, 70, 92), (1522, 1, 1521, 71, 92), (1526, 1, 1524, 1525, 92), (1530, 1, 1528, 1529, 92), (1534, 1, 1532, 1533, 92), (1538, 1, 1536, 1537, 92), (1542, 1, 1540, 1541, 92), (1546, 1, 1544, 1545, 92), (1550, 1, 1549, 72, 92), (1554, 1, 1552, 1553, 92), (1558, 1, 1556, 1557, 92), (1562, 1, 1560, 1561, 92), (1566, 1, 1564, 1565, 92), (1570, 1, 1568, 1569, 92), (1574, 1, 1573, 73, 92), (1578, 1, 1577, 74, 92), (1582, 1, 1581, 75, 92), (1586, 1, 1585, 76, 92), (1590, 1, 1589, 77, 92), (1594, 1, 1592, 1593, 92), (572, 0, 571, 0, 78), (684, 0, 683, 0, 78), (691, 0, 690, 0, 78), (698, 0, 697, 0, 78), (940, 0, 939, 0, 78), (947, 0, 946, 0, 78), (954, 0, 953, 0, 78), (973, 0, 972, 0, 78), (1001, 0, 1000, 0, 78), (1048, 0, 1047, 0, 78), (1064, 0, 1063, 0, 78), (1072, 0, 1071, 0, 78), (1080, 0, 1079, 0, 78), (1087, 0, 1086, 0, 78), (1101, 0, 1100, 0, 78), (1114, 0, 1113, 0, 78), (1122, 0, 1121, 0, 78), (1161, 0, 1160, 0, 78)]
def nm_same : List (Cond × Nat) := [(.sameField "SortedRuns$TableStream" "SortedRuns$Stream" "there" "Z", 340),
  (.sameField "SortedRuns$RunStream" "SortedRuns$Stream" "there" "Z", 342),
  (.sameField "SortedRuns$TableStream" "SortedRuns$Stream" "key" "J", 347),
  (.sameField "SortedRuns$RunStream" "SortedRuns$Stream" "key" "J", 349),
  (.sameField "SortedRuns$TableStream" "SortedRuns$Stream" "kind" "I", 354),
  (.sameField "SortedRuns$RunStream" "SortedRuns$Stream" "kind" "I", 356),
  (.sameField "SortedRuns$TableStream" "SortedRuns$Stream" "value" "J", 361),
  (.sameField "SortedRuns$RunStream" "SortedRuns$Stream" "value" "J", 363)]
def nm_dy : List (Cond × Nat) := [(.selects "SortedRuns$RunStream" ⟨"SortedRuns$Stream", "step", "()V"⟩ ⟨"SortedRuns$RunStream", "step", "()V"⟩, 812),
  (.selects "SortedRuns$TableStream" ⟨"SortedRuns$Stream", "step", "()V"⟩ ⟨"SortedRuns$TableStream", "step", "()V"⟩, 813)]
def nm_cw : List (Nat × Nat) := [(100, 79), (316, 88), (114, 81), (259, 86), (164, 83), (157, 82), (379, 91), (227, 84), (293, 87), (108, 80), (328, 90), (1172, 92)]
def nm_fw : List (List Nat) := [[494, 496, 498, 500, 502, 504, 506, 508, 510, 512, 514, 516, 518, 520, 522, 524], [421, 423, 425, 427, 429, 431, 433, 435], [128, 130], [276, 278, 280, 282, 284, 286, 288], [191, 193, 195, 197, 199, 201, 203, 205, 207], [216, 218, 220], [406, 407, 408, 409, 392, 394, 396, 398, 400, 402, 404], [240, 242, 244, 246, 248], [304, 306, 308, 310, 312], [145, 147, 149, 151, 153], [370, 372, 374, 376, 366, 368], [1255, 1257, 1259, 1261, 1263, 1265, 1267, 1269, 1271, 1273, 1275, 1277, 1279, 1281, 1283, 1285, 1287, 1289, 1291, 1293, 1295, 1297, 1299, 1301, 1303, 1305, 1307, 1309, 1311, 1313, 1315, 1317, 1319, 1321, 1323, 1325, 1327, 1329, 1331, 1333, 1335, 1337, 1339, 1341, 1343, 1345, 1347, 1349, 1351, 1353, 1355]]
