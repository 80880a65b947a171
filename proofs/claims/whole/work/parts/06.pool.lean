def M_Log_init : mt_M := (({ cls := "SharedLog", name := "<init>", desc := "()V" } : Jvm.MethodName), prog_1_method_1_code, 3, (Option.none : Option Jvm.ClassFile.FieldType), some [], { frames := 3, cells := 71, slots := 800, locals := 61 })
def M_Log_append : mt_M := (({ cls := "SharedLog", name := "append", desc := "(IIII)I" } : Jvm.MethodName), prog_1_method_2_code, 9, (Option.some Jvm.ClassFile.FieldType.int), some [], { frames := 8, cells := 15, slots := 77, locals := 140 })
def M_Log_read : mt_M := (({ cls := "SharedLog", name := "read", desc := "(II)I" } : Jvm.MethodName), prog_1_method_3_code, 4, (Option.some Jvm.ClassFile.FieldType.int), some [], { frames := 8, cells := 5, slots := 30, locals := 137 })
def M_Log_fill : mt_M := (({ cls := "SharedLog", name := "fill", desc := "(II)I" } : Jvm.MethodName), prog_1_method_4_code, 9, (Option.some Jvm.ClassFile.FieldType.int), some [], { frames := 7, cells := 5, slots := 30, locals := 113 })
def M_Log_trim : mt_M := (({ cls := "SharedLog", name := "trim", desc := "(II)I" } : Jvm.MethodName), prog_1_method_5_code, 5, (Option.some Jvm.ClassFile.FieldType.int), some [], { frames := 8, cells := 182, slots := 1092, locals := 139 })
def M_Log_learn : mt_M := (({ cls := "SharedLog", name := "learn", desc := "(I)I" } : Jvm.MethodName), prog_1_method_6_code, 2, (Option.some Jvm.ClassFile.FieldType.int), some [], { frames := 7, cells := 1, slots := 6, locals := 111 })
def M_Log_change : mt_M := (({ cls := "SharedLog", name := "change", desc := "(III)I" } : Jvm.MethodName), prog_1_method_7_code, 8, (Option.some Jvm.ClassFile.FieldType.int), some [], { frames := 7, cells := 7, slots := 36, locals := 113 })
def M_Log_up : mt_M := (({ cls := "SharedLog", name := "up", desc := "(IZ)I" } : Jvm.MethodName), prog_1_method_8_code, 3, (Option.some Jvm.ClassFile.FieldType.int), some [], { frames := 7, cells := 1, slots := 6, locals := 111 })
def M_Log_lose : mt_M := (({ cls := "SharedLog", name := "lose", desc := "()I" } : Jvm.MethodName), prog_1_method_9_code, 1, (Option.some Jvm.ClassFile.FieldType.int), some [], { frames := 0, cells := 0, slots := 0, locals := 0 })
def M_Log_sync : mt_M := (({ cls := "SharedLog", name := "sync", desc := "(I)I" } : Jvm.MethodName), prog_1_method_10_code, 3, (Option.some Jvm.ClassFile.FieldType.int), some [], { frames := 9, cells := 122, slots := 732, locals := 161 })
def M_Log_get : mt_M := (({ cls := "SharedLog", name := "get", desc := "(II)I" } : Jvm.MethodName), prog_1_method_11_code, 3, (Option.some Jvm.ClassFile.FieldType.int), some [], { frames := 7, cells := 2, slots := 12, locals := 111 })
def M_Log_begin : mt_M := (({ cls := "SharedLog", name := "begin", desc := "(I)I" } : Jvm.MethodName), prog_1_method_12_code, 3, (Option.some Jvm.ClassFile.FieldType.int), some [], { frames := 7, cells := 2, slots := 12, locals := 111 })
def M_Log_see : mt_M := (({ cls := "SharedLog", name := "see", desc := "(II)I" } : Jvm.MethodName), prog_1_method_13_code, 5, (Option.some Jvm.ClassFile.FieldType.int), some [], { frames := 7, cells := 3, slots := 18, locals := 111 })
def M_Log_put : mt_M := (({ cls := "SharedLog", name := "put", desc := "(III)I" } : Jvm.MethodName), prog_1_method_14_code, 5, (Option.some Jvm.ClassFile.FieldType.int), some [], { frames := 7, cells := 3, slots := 18, locals := 111 })
def M_Log_commit : mt_M := (({ cls := "SharedLog", name := "commit", desc := "(I)Z" } : Jvm.MethodName), prog_1_method_15_code, 4, (Option.some Jvm.ClassFile.FieldType.boolean), some [], { frames := 10, cells := 134, slots := 791, locals := 184 })
def M_Log_drop : mt_M := (({ cls := "SharedLog", name := "drop", desc := "(I)I" } : Jvm.MethodName), prog_1_method_16_code, 3, (Option.some Jvm.ClassFile.FieldType.int), some [], { frames := 7, cells := 1, slots := 6, locals := 111 })
def M_Log_look : mt_M := (({ cls := "SharedLog", name := "look", desc := "(II)I" } : Jvm.MethodName), prog_1_method_17_code, 3, (Option.some Jvm.ClassFile.FieldType.int), some [], { frames := 7, cells := 2, slots := 12, locals := 111 })
def M_Log_client : mt_M := (({ cls := "SharedLog", name := "client", desc := "(II)I" } : Jvm.MethodName), prog_1_method_18_code, 4, (Option.some Jvm.ClassFile.FieldType.int), some [], { frames := 7, cells := 2, slots := 12, locals := 111 })
def M_Log_count : mt_M := (({ cls := "SharedLog", name := "count", desc := "(I)I" } : Jvm.MethodName), prog_1_method_19_code, 2, (Option.some Jvm.ClassFile.FieldType.int), some [], { frames := 7, cells := 1, slots := 6, locals := 111 })
def M_Log_requireWithin : mt_M := (({ cls := "SharedLog", name := "requireWithin", desc := "(II)V" } : Jvm.MethodName), prog_1_method_20_code, 2, (Option.none : Option Jvm.ClassFile.FieldType), some [], { frames := 6, cells := 1, slots := 6, locals := 90 })
def M_Log_requireRow : mt_M := (({ cls := "SharedLog", name := "requireRow", desc := "(I)V" } : Jvm.MethodName), prog_1_method_21_code, 1, (Option.none : Option Jvm.ClassFile.FieldType), some [], { frames := 6, cells := 2, slots := 12, locals := 90 })
def M_Log_isRow : mt_M := (({ cls := "SharedLog", name := "isRow", desc := "(I)Z" } : Jvm.MethodName), prog_1_method_22_code, 4, (Option.some Jvm.ClassFile.FieldType.boolean), some [], { frames := 0, cells := 1, slots := 6, locals := 0 })
def M_Log_rowOf : mt_M := (({ cls := "SharedLog", name := "rowOf", desc := "(I)[I" } : Jvm.MethodName), prog_1_method_23_code, 5, (Option.some (Jvm.ClassFile.FieldType.array Jvm.ClassFile.FieldType.int)), some [], { frames := 0, cells := 1, slots := 3, locals := 0 })
def M_Log_digitsOf : mt_M := (({ cls := "SharedLog", name := "digitsOf", desc := "([I)I" } : Jvm.MethodName), prog_1_method_24_code, 3, (Option.some Jvm.ClassFile.FieldType.int), some [], { frames := 0, cells := 0, slots := 0, locals := 0 })
def M_Log_requireTransaction : mt_M := (({ cls := "SharedLog", name := "requireTransaction", desc := "(LSharedLog$Client;)V" } : Jvm.MethodName), prog_1_method_25_code, 1, (Option.none : Option Jvm.ClassFile.FieldType), some [], { frames := 6, cells := 1, slots := 6, locals := 90 })
def M_Log_requireSequencer : mt_M := (({ cls := "SharedLog", name := "requireSequencer", desc := "(LSharedLog$Client;)V" } : Jvm.MethodName), prog_1_method_26_code, 2, (Option.none : Option Jvm.ClassFile.FieldType), some [], { frames := 6, cells := 1, slots := 6, locals := 90 })
def M_Log_takeToken : mt_M := (({ cls := "SharedLog", name := "takeToken", desc := "(LSharedLog$Client;)I" } : Jvm.MethodName), prog_1_method_27_code, 3, (Option.some Jvm.ClassFile.FieldType.int), some [], { frames := 7, cells := 2, slots := 12, locals := 111 })
def M_Log_use : mt_M := (({ cls := "SharedLog", name := "use", desc := "(LSharedLog$Client;I)LSharedLog$Unit;" } : Jvm.MethodName), prog_1_method_28_code, 4, (Option.some (Jvm.ClassFile.FieldType.object "SharedLog$Unit")), some [], { frames := 6, cells := 1, slots := 6, locals := 90 })
def M_Log_write : mt_M := (({ cls := "SharedLog", name := "write", desc := "(LSharedLog$Client;ILSharedLog$Entry;I)V" } : Jvm.MethodName), prog_1_method_29_code, 8, (Option.none : Option Jvm.ClassFile.FieldType), some [], { frames := 7, cells := 4, slots := 24, locals := 113 })
def M_Log_entryAtEnd : mt_M := (({ cls := "SharedLog", name := "entryAtEnd", desc := "(LSharedLog$Client;I)LSharedLog$Entry;" } : Jvm.MethodName), prog_1_method_30_code, 5, (Option.some (Jvm.ClassFile.FieldType.object "SharedLog$Entry")), some [], { frames := 7, cells := 2, slots := 12, locals := 113 })
def M_Log_trimOne : mt_M := (({ cls := "SharedLog", name := "trimOne", desc := "(LSharedLog$Client;I)I" } : Jvm.MethodName), prog_1_method_31_code, 7, (Option.some Jvm.ClassFile.FieldType.int), some [], { frames := 7, cells := 3, slots := 18, locals := 113 })
def M_Log_play : mt_M := (({ cls := "SharedLog", name := "play", desc := "(LSharedLog$Client;I)Z" } : Jvm.MethodName), prog_1_method_32_code, 5, (Option.some Jvm.ClassFile.FieldType.boolean), some [], { frames := 8, cells := 120, slots := 720, locals := 137 })
def M_Log_writeAndPlayCommit : mt_M := (({ cls := "SharedLog", name := "writeAndPlayCommit", desc := "(LSharedLog$Client;)Z" } : Jvm.MethodName), prog_1_method_33_code, 4, (Option.some Jvm.ClassFile.FieldType.boolean), some [], { frames := 9, cells := 132, slots := 779, locals := 161 })
def M_Log_requireChangeable : mt_M := (({ cls := "SharedLog", name := "requireChangeable", desc := "(LSharedLog$Client;[I)V" } : Jvm.MethodName), prog_1_method_34_code, 4, (Option.none : Option Jvm.ClassFile.FieldType), some [], { frames := 6, cells := 1, slots := 6, locals := 90 })
def M_Log_upCount : mt_M := (({ cls := "SharedLog", name := "upCount", desc := "([I)I" } : Jvm.MethodName), prog_1_method_35_code, 4, (Option.some Jvm.ClassFile.FieldType.int), some [], { frames := 0, cells := 0, slots := 0, locals := 0 })
def M_Log_sealAll : mt_M := (({ cls := "SharedLog", name := "sealAll", desc := "(LSharedLog$Layout;[II)V" } : Jvm.MethodName), prog_1_method_36_code, 5, (Option.none : Option Jvm.ClassFile.FieldType), some [], { frames := 1, cells := 0, slots := 0, locals := 24 })
def M_Log_sealRow : mt_M := (({ cls := "SharedLog", name := "sealRow", desc := "([II)V" } : Jvm.MethodName), prog_1_method_37_code, 5, (Option.none : Option Jvm.ClassFile.FieldType), some [], { frames := 0, cells := 0, slots := 0, locals := 0 })
def M_Log_merge : mt_M := (({ cls := "SharedLog", name := "merge", desc := "([I[II)V" } : Jvm.MethodName), prog_1_method_38_code, 7, (Option.none : Option Jvm.ClassFile.FieldType), some [], { frames := 2, cells := 0, slots := 0, locals := 45 })
def M_Log_firstHeld : mt_M := (({ cls := "SharedLog", name := "firstHeld", desc := "([II)LSharedLog$Entry;" } : Jvm.MethodName), prog_1_method_39_code, 5, (Option.some (Jvm.ClassFile.FieldType.object "SharedLog$Entry")), some [], { frames := 1, cells := 0, slots := 0, locals := 21 })
def M_Log_firstFreeOffset : mt_M := (({ cls := "SharedLog", name := "firstFreeOffset", desc := "()I" } : Jvm.MethodName), prog_1_method_40_code, 2, (Option.some Jvm.ClassFile.FieldType.int), some [], { frames := 2, cells := 0, slots := 0, locals := 45 })
def M_Model_init : mt_M := (({ cls := "SharedLogModel", name := "<init>", desc := "()V" } : Jvm.MethodName), prog_9_method_1_code, 2, (Option.none : Option Jvm.ClassFile.FieldType), some [], { frames := 1, cells := 20, slots := 5200, locals := 21 })
def M_Model_thrown : mt_M := (({ cls := "SharedLogModel", name := "thrown", desc := "()I" } : Jvm.MethodName), prog_9_method_2_code, 1, (Option.some Jvm.ClassFile.FieldType.int), some [], { frames := 0, cells := 0, slots := 0, locals := 0 })
def M_Model_fail : mt_M := (({ cls := "SharedLogModel", name := "fail", desc := "(I)I" } : Jvm.MethodName), prog_9_method_3_code, 2, (Option.some Jvm.ClassFile.FieldType.int), some [], { frames := 0, cells := 0, slots := 0, locals := 0 })
def M_Model_out : mt_M := (({ cls := "SharedLogModel", name := "out", desc := "(II)Z" } : Jvm.MethodName), prog_9_method_4_code, 3, (Option.some Jvm.ClassFile.FieldType.boolean), some [], { frames := 0, cells := 0, slots := 0, locals := 0 })
def M_Model_learnNow : mt_M := (({ cls := "SharedLogModel", name := "learnNow", desc := "(I)V" } : Jvm.MethodName), prog_9_method_5_code, 2, (Option.none : Option Jvm.ClassFile.FieldType), some [], { frames := 0, cells := 0, slots := 0, locals := 0 })
def M_Model_length : mt_M := (({ cls := "SharedLogModel", name := "length", desc := "(I)I" } : Jvm.MethodName), prog_9_method_6_code, 2, (Option.some Jvm.ClassFile.FieldType.int), some [], { frames := 0, cells := 0, slots := 0, locals := 0 })
def M_Model_unit : mt_M := (({ cls := "SharedLogModel", name := "unit", desc := "(II)I" } : Jvm.MethodName), prog_9_method_7_code, 5, (Option.some Jvm.ClassFile.FieldType.int), some [], { frames := 1, cells := 0, slots := 0, locals := 21 })
def M_Model_rowFor : mt_M := (({ cls := "SharedLogModel", name := "rowFor", desc := "(II)I" } : Jvm.MethodName), prog_9_method_8_code, 3, (Option.some Jvm.ClassFile.FieldType.int), some [], { frames := 0, cells := 0, slots := 0, locals := 0 })
def M_Model_usable : mt_M := (({ cls := "SharedLogModel", name := "usable", desc := "(II)Z" } : Jvm.MethodName), prog_9_method_9_code, 3, (Option.some Jvm.ClassFile.FieldType.boolean), some [], { frames := 0, cells := 0, slots := 0, locals := 0 })
def M_Model_cell : mt_M := (({ cls := "SharedLogModel", name := "cell", desc := "(II)I" } : Jvm.MethodName), prog_9_method_10_code, 3, (Option.some Jvm.ClassFile.FieldType.int), some [], { frames := 0, cells := 0, slots := 0, locals := 0 })
def M_Model_copy : mt_M := (({ cls := "SharedLogModel", name := "copy", desc := "(II)V" } : Jvm.MethodName), prog_9_method_11_code, 4, (Option.none : Option Jvm.ClassFile.FieldType), some [], { frames := 0, cells := 0, slots := 0, locals := 0 })
def M_Model_ones : mt_M := (({ cls := "SharedLogModel", name := "ones", desc := "(I)I" } : Jvm.MethodName), prog_9_method_12_code, 4, (Option.some Jvm.ClassFile.FieldType.int), some [], { frames := 0, cells := 0, slots := 0, locals := 0 })
def M_Model_write : mt_M := (({ cls := "SharedLogModel", name := "write", desc := "(III)I" } : Jvm.MethodName), prog_9_method_13_code, 7, (Option.some Jvm.ClassFile.FieldType.int), some [], { frames := 2, cells := 0, slots := 0, locals := 45 })
def M_Model_noToken : mt_M := (({ cls := "SharedLogModel", name := "noToken", desc := "(I)Z" } : Jvm.MethodName), prog_9_method_14_code, 2, (Option.some Jvm.ClassFile.FieldType.boolean), some [], { frames := 0, cells := 0, slots := 0, locals := 0 })
def M_Model_append : mt_M := (({ cls := "SharedLogModel", name := "append", desc := "(IIII)I" } : Jvm.MethodName), prog_9_method_15_code, 7, (Option.some Jvm.ClassFile.FieldType.int), some [], { frames := 3, cells := 0, slots := 0, locals := 71 })
def M_Model_lastCell : mt_M := (({ cls := "SharedLogModel", name := "lastCell", desc := "(II)I" } : Jvm.MethodName), prog_9_method_16_code, 5, (Option.some Jvm.ClassFile.FieldType.int), some [], { frames := 2, cells := 0, slots := 0, locals := 45 })
def M_Model_read : mt_M := (({ cls := "SharedLogModel", name := "read", desc := "(II)I" } : Jvm.MethodName), prog_9_method_17_code, 4, (Option.some Jvm.ClassFile.FieldType.int), some [], { frames := 3, cells := 0, slots := 0, locals := 69 })
def M_Model_fill : mt_M := (({ cls := "SharedLogModel", name := "fill", desc := "(II)I" } : Jvm.MethodName), prog_9_method_18_code, 7, (Option.some Jvm.ClassFile.FieldType.int), some [], { frames := 2, cells := 0, slots := 0, locals := 45 })
def M_Model_trim : mt_M := (({ cls := "SharedLogModel", name := "trim", desc := "(II)I" } : Jvm.MethodName), prog_9_method_19_code, 8, (Option.some Jvm.ClassFile.FieldType.int), some [], { frames := 2, cells := 0, slots := 0, locals := 45 })
def M_Model_learn : mt_M := (({ cls := "SharedLogModel", name := "learn", desc := "(I)I" } : Jvm.MethodName), prog_9_method_20_code, 2, (Option.some Jvm.ClassFile.FieldType.int), some [], { frames := 1, cells := 0, slots := 0, locals := 22 })
def M_Model_badRow : mt_M := (({ cls := "SharedLogModel", name := "badRow", desc := "(I)Z" } : Jvm.MethodName), prog_9_method_21_code, 5, (Option.some Jvm.ClassFile.FieldType.boolean), some [], { frames := 2, cells := 0, slots := 0, locals := 45 })
def M_Model_upUnits : mt_M := (({ cls := "SharedLogModel", name := "upUnits", desc := "(I)I" } : Jvm.MethodName), prog_9_method_22_code, 4, (Option.some Jvm.ClassFile.FieldType.int), some [], { frames := 2, cells := 0, slots := 0, locals := 45 })
def M_Model_sealRow : mt_M := (({ cls := "SharedLogModel", name := "sealRow", desc := "(I)V" } : Jvm.MethodName), prog_9_method_23_code, 3, (Option.none : Option Jvm.ClassFile.FieldType), some [], { frames := 2, cells := 0, slots := 0, locals := 45 })
def M_Model_merge : mt_M := (({ cls := "SharedLogModel", name := "merge", desc := "(III)V" } : Jvm.MethodName), prog_9_method_24_code, 6, (Option.none : Option Jvm.ClassFile.FieldType), some [], { frames := 2, cells := 0, slots := 0, locals := 45 })
def M_Model_change : mt_M := (({ cls := "SharedLogModel", name := "change", desc := "(III)I" } : Jvm.MethodName), prog_9_method_25_code, 7, (Option.some Jvm.ClassFile.FieldType.int), some [], { frames := 3, cells := 0, slots := 0, locals := 70 })
def M_Model_up : mt_M := (({ cls := "SharedLogModel", name := "up", desc := "(IZ)I" } : Jvm.MethodName), prog_9_method_26_code, 3, (Option.some Jvm.ClassFile.FieldType.int), some [], { frames := 1, cells := 0, slots := 0, locals := 22 })
def M_Model_lose : mt_M := (({ cls := "SharedLogModel", name := "lose", desc := "()I" } : Jvm.MethodName), prog_9_method_27_code, 1, (Option.some Jvm.ClassFile.FieldType.int), some [], { frames := 0, cells := 0, slots := 0, locals := 0 })
def M_Model_sameAges : mt_M := (({ cls := "SharedLogModel", name := "sameAges", desc := "(II[II)Z" } : Jvm.MethodName), prog_9_method_28_code, 7, (Option.some Jvm.ClassFile.FieldType.boolean), some [], { frames := 0, cells := 0, slots := 0, locals := 0 })
def M_Model_place : mt_M := (({ cls := "SharedLogModel", name := "place", desc := "(III)V" } : Jvm.MethodName), prog_9_method_29_code, 4, (Option.none : Option Jvm.ClassFile.FieldType), some [], { frames := 0, cells := 0, slots := 0, locals := 0 })
def M_Model_play : mt_M := (({ cls := "SharedLogModel", name := "play", desc := "(II)I" } : Jvm.MethodName), prog_9_method_30_code, 5, (Option.some Jvm.ClassFile.FieldType.int), some [], { frames := 3, cells := 0, slots := 0, locals := 69 })
def M_Model_sync : mt_M := (({ cls := "SharedLogModel", name := "sync", desc := "(I)I" } : Jvm.MethodName), prog_9_method_31_code, 3, (Option.some Jvm.ClassFile.FieldType.int), some [], { frames := 4, cells := 0, slots := 0, locals := 93 })
def M_Model_get : mt_M := (({ cls := "SharedLogModel", name := "get", desc := "(II)I" } : Jvm.MethodName), prog_9_method_32_code, 3, (Option.some Jvm.ClassFile.FieldType.int), some [], { frames := 1, cells := 0, slots := 0, locals := 22 })
def M_Model_begin : mt_M := (({ cls := "SharedLogModel", name := "begin", desc := "(I)I" } : Jvm.MethodName), prog_9_method_33_code, 2, (Option.some Jvm.ClassFile.FieldType.int), some [], { frames := 1, cells := 0, slots := 0, locals := 22 })
def M_Model_see : mt_M := (({ cls := "SharedLogModel", name := "see", desc := "(II)I" } : Jvm.MethodName), prog_9_method_34_code, 4, (Option.some Jvm.ClassFile.FieldType.int), some [], { frames := 1, cells := 0, slots := 0, locals := 22 })
def M_Model_put : mt_M := (({ cls := "SharedLogModel", name := "put", desc := "(III)I" } : Jvm.MethodName), prog_9_method_35_code, 4, (Option.some Jvm.ClassFile.FieldType.int), some [], { frames := 1, cells := 0, slots := 0, locals := 23 })
def M_Model_commit : mt_M := (({ cls := "SharedLogModel", name := "commit", desc := "(I)Z" } : Jvm.MethodName), prog_9_method_36_code, 5, (Option.some Jvm.ClassFile.FieldType.boolean), some [], { frames := 4, cells := 0, slots := 0, locals := 93 })
def M_Model_drop : mt_M := (({ cls := "SharedLogModel", name := "drop", desc := "(I)I" } : Jvm.MethodName), prog_9_method_37_code, 2, (Option.some Jvm.ClassFile.FieldType.int), some [], { frames := 1, cells := 0, slots := 0, locals := 23 })
def M_Model_look : mt_M := (({ cls := "SharedLogModel", name := "look", desc := "(II)I" } : Jvm.MethodName), prog_9_method_38_code, 3, (Option.some Jvm.ClassFile.FieldType.int), some [], { frames := 1, cells := 0, slots := 0, locals := 22 })
def M_Model_client : mt_M := (({ cls := "SharedLogModel", name := "client", desc := "(II)I" } : Jvm.MethodName), prog_9_method_39_code, 3, (Option.some Jvm.ClassFile.FieldType.int), some [], { frames := 1, cells := 0, slots := 0, locals := 22 })
def M_Model_count : mt_M := (({ cls := "SharedLogModel", name := "count", desc := "(I)I" } : Jvm.MethodName), prog_9_method_40_code, 2, (Option.some Jvm.ClassFile.FieldType.int), some [], { frames := 1, cells := 0, slots := 0, locals := 22 })
def M_Client_init : mt_M := (({ cls := "SharedLog$Client", name := "<init>", desc := "(LSharedLog$Layout;)V" } : Jvm.MethodName), prog_2_method_1_code, 2, (Option.none : Option Jvm.ClassFile.FieldType), some [], { frames := 2, cells := 7, slots := 28, locals := 40 })
def M_Client_agesMatch : mt_M := (({ cls := "SharedLog$Client", name := "agesMatch", desc := "(LSharedLog$Work;)Z" } : Jvm.MethodName), prog_2_method_2_code, 3, (Option.some Jvm.ClassFile.FieldType.boolean), some [], { frames := 0, cells := 0, slots := 0, locals := 0 })
def M_Client_apply : mt_M := (({ cls := "SharedLog$Client", name := "apply", desc := "(LSharedLog$Work;I)Z" } : Jvm.MethodName), prog_2_method_3_code, 4, (Option.some Jvm.ClassFile.FieldType.boolean), some [], { frames := 1, cells := 0, slots := 0, locals := 22 })
def M_Entry_init : mt_M := (({ cls := "SharedLog$Entry", name := "<init>", desc := "(IILSharedLog$Work;)V" } : Jvm.MethodName), prog_3_method_1_code, 4, (Option.none : Option Jvm.ClassFile.FieldType), some [], { frames := 1, cells := 0, slots := 0, locals := 20 })
def M_Layout_init : mt_M := (({ cls := "SharedLog$Layout", name := "<init>", desc := "(I[I[I)V" } : Jvm.MethodName), prog_4_method_1_code, 4, (Option.none : Option Jvm.ClassFile.FieldType), some [], { frames := 1, cells := 0, slots := 0, locals := 20 })
def M_Layout_chain : mt_M := (({ cls := "SharedLog$Layout", name := "chain", desc := "(I)[I" } : Jvm.MethodName), prog_4_method_2_code, 2, (Option.some (Jvm.ClassFile.FieldType.array Jvm.ClassFile.FieldType.int)), some [], { frames := 0, cells := 0, slots := 0, locals := 0 })
def M_Layout_chainOf : mt_M := (({ cls := "SharedLog$Layout", name := "chainOf", desc := "(I)[I" } : Jvm.MethodName), prog_4_method_3_code, 2, (Option.some (Jvm.ClassFile.FieldType.array Jvm.ClassFile.FieldType.int)), some [], { frames := 1, cells := 0, slots := 0, locals := 21 })
def M_Layout_next : mt_M := (({ cls := "SharedLog$Layout", name := "next", desc := "(I[I)LSharedLog$Layout;" } : Jvm.MethodName), prog_4_method_4_code, 3, (Option.some (Jvm.ClassFile.FieldType.object "SharedLog$Layout")), some [], { frames := 2, cells := 1, slots := 3, locals := 43 })
def M_Seq_init : mt_M := (({ cls := "SharedLog$Sequencer", name := "<init>", desc := "()V" } : Jvm.MethodName), prog_5_method_1_code, 1, (Option.none : Option Jvm.ClassFile.FieldType), some [], { frames := 1, cells := 0, slots := 0, locals := 20 })
def M_Seq_restart : mt_M := (({ cls := "SharedLog$Sequencer", name := "restart", desc := "(II)V" } : Jvm.MethodName), prog_5_method_2_code, 3, (Option.none : Option Jvm.ClassFile.FieldType), some [], { frames := 0, cells := 0, slots := 0, locals := 0 })
def M_Unit_init : mt_M := (({ cls := "SharedLog$Unit", name := "<init>", desc := "(LSharedLog$Entry;)V" } : Jvm.MethodName), prog_6_method_1_code, 3, (Option.none : Option Jvm.ClassFile.FieldType), some [], { frames := 1, cells := 1, slots := 60, locals := 20 })
def M_Unit_holds : mt_M := (({ cls := "SharedLog$Unit", name := "holds", desc := "(I)Z" } : Jvm.MethodName), prog_6_method_2_code, 2, (Option.some Jvm.ClassFile.FieldType.boolean), some [], { frames := 0, cells := 0, slots := 0, locals := 0 })
def M_Work_init : mt_M := (({ cls := "SharedLog$Work", name := "<init>", desc := "()V" } : Jvm.MethodName), prog_7_method_1_code, 1, (Option.none : Option Jvm.ClassFile.FieldType), some [], { frames := 1, cells := 4, slots := 16, locals := 20 })
def M_Work_clear : mt_M := (({ cls := "SharedLog$Work", name := "clear", desc := "()V" } : Jvm.MethodName), prog_7_method_2_code, 2, (Option.none : Option Jvm.ClassFile.FieldType), some [], { frames := 0, cells := 0, slots := 0, locals := 0 })
def M_Work_noteRead : mt_M := (({ cls := "SharedLog$Work", name := "noteRead", desc := "(II)V" } : Jvm.MethodName), prog_7_method_3_code, 3, (Option.none : Option Jvm.ClassFile.FieldType), some [], { frames := 0, cells := 0, slots := 0, locals := 0 })
def M_Work_setPut : mt_M := (({ cls := "SharedLog$Work", name := "setPut", desc := "(II)V" } : Jvm.MethodName), prog_7_method_4_code, 3, (Option.none : Option Jvm.ClassFile.FieldType), some [], { frames := 0, cells := 0, slots := 0, locals := 0 })
def M_Work_putCount : mt_M := (({ cls := "SharedLog$Work", name := "putCount", desc := "()I" } : Jvm.MethodName), prog_7_method_5_code, 3, (Option.some Jvm.ClassFile.FieldType.int), some [], { frames := 0, cells := 0, slots := 0, locals := 0 })
def M_Work_copy : mt_M := (({ cls := "SharedLog$Work", name := "copy", desc := "()LSharedLog$Work;" } : Jvm.MethodName), prog_7_method_6_code, 3, (Option.some (Jvm.ClassFile.FieldType.object "SharedLog$Work")), some [], { frames := 2, cells := 5, slots := 20, locals := 40 })
def hh_Law_append : List (Nat × Nat × Nat × Nat) := [((0 : Nat), (14 : Nat), (17 : Nat), (13 : Nat)), ((0 : Nat), (14 : Nat), (21 : Nat), (15 : Nat)), ((0 : Nat), (14 : Nat), (25 : Nat), (17 : Nat)), ((0 : Nat), (14 : Nat), (29 : Nat), (19 : Nat))]
def M_Law_append : mt_M := (({ cls := "SharedLogLaw", name := "append", desc := "(LSharedLog;IIII[J)I" } : Jvm.MethodName), method_3_code, 7, (Option.some Jvm.ClassFile.FieldType.int), some hh_Law_append, { frames := 9, cells := 15, slots := 77, locals := 168 })
def hh_Law_read : List (Nat × Nat × Nat × Nat) := [((0 : Nat), (10 : Nat), (13 : Nat), (13 : Nat)), ((0 : Nat), (10 : Nat), (17 : Nat), (15 : Nat)), ((0 : Nat), (10 : Nat), (21 : Nat), (25 : Nat)), ((0 : Nat), (10 : Nat), (25 : Nat), (17 : Nat)), ((0 : Nat), (10 : Nat), (29 : Nat), (19 : Nat))]
def M_Law_read : mt_M := (({ cls := "SharedLogLaw", name := "read", desc := "(LSharedLog;II[J)I" } : Jvm.MethodName), method_4_code, 5, (Option.some Jvm.ClassFile.FieldType.int), some hh_Law_read, { frames := 9, cells := 5, slots := 30, locals := 160 })
def hh_Law_fill : List (Nat × Nat × Nat × Nat) := [((0 : Nat), (10 : Nat), (13 : Nat), (13 : Nat)), ((0 : Nat), (10 : Nat), (17 : Nat), (15 : Nat))]
def M_Law_fill : mt_M := (({ cls := "SharedLogLaw", name := "fill", desc := "(LSharedLog;II[J)I" } : Jvm.MethodName), method_5_code, 5, (Option.some Jvm.ClassFile.FieldType.int), some hh_Law_fill, { frames := 8, cells := 5, slots := 30, locals := 141 })
def hh_Law_trim : List (Nat × Nat × Nat × Nat) := [((0 : Nat), (10 : Nat), (13 : Nat), (13 : Nat)), ((0 : Nat), (10 : Nat), (17 : Nat), (15 : Nat))]
def M_Law_trim : mt_M := (({ cls := "SharedLogLaw", name := "trim", desc := "(LSharedLog;II[J)I" } : Jvm.MethodName), method_6_code, 5, (Option.some Jvm.ClassFile.FieldType.int), some hh_Law_trim, { frames := 9, cells := 182, slots := 1092, locals := 163 })
def hh_Law_learn : List (Nat × Nat × Nat × Nat) := [((0 : Nat), (9 : Nat), (12 : Nat), (13 : Nat))]
def M_Law_learn : mt_M := (({ cls := "SharedLogLaw", name := "learn", desc := "(LSharedLog;I[J)I" } : Jvm.MethodName), method_7_code, 4, (Option.some Jvm.ClassFile.FieldType.int), some hh_Law_learn, { frames := 8, cells := 1, slots := 6, locals := 132 })
def hh_Law_change : List (Nat × Nat × Nat × Nat) := [((0 : Nat), (12 : Nat), (15 : Nat), (13 : Nat)), ((0 : Nat), (12 : Nat), (19 : Nat), (15 : Nat))]
def M_Law_change : mt_M := (({ cls := "SharedLogLaw", name := "change", desc := "(LSharedLog;III[J)I" } : Jvm.MethodName), method_8_code, 6, (Option.some Jvm.ClassFile.FieldType.int), some hh_Law_change, { frames := 8, cells := 7, slots := 36, locals := 140 })
def hh_Law_up : List (Nat × Nat × Nat × Nat) := [((0 : Nat), (10 : Nat), (13 : Nat), (13 : Nat))]
def M_Law_up : mt_M := (({ cls := "SharedLogLaw", name := "up", desc := "(LSharedLog;IZ[J)I" } : Jvm.MethodName), method_9_code, 5, (Option.some Jvm.ClassFile.FieldType.int), some hh_Law_up, { frames := 8, cells := 1, slots := 6, locals := 133 })
def hh_Law_sync : List (Nat × Nat × Nat × Nat) := [((0 : Nat), (9 : Nat), (12 : Nat), (13 : Nat)), ((0 : Nat), (9 : Nat), (15 : Nat), (15 : Nat)), ((0 : Nat), (9 : Nat), (18 : Nat), (25 : Nat)), ((0 : Nat), (9 : Nat), (21 : Nat), (19 : Nat))]
def M_Law_sync : mt_M := (({ cls := "SharedLogLaw", name := "sync", desc := "(LSharedLog;I[J)I" } : Jvm.MethodName), method_10_code, 4, (Option.some Jvm.ClassFile.FieldType.int), some hh_Law_sync, { frames := 10, cells := 122, slots := 732, locals := 183 })
def hh_Law_get : List (Nat × Nat × Nat × Nat) := [((0 : Nat), (10 : Nat), (13 : Nat), (13 : Nat))]
def M_Law_get : mt_M := (({ cls := "SharedLogLaw", name := "get", desc := "(LSharedLog;II[J)I" } : Jvm.MethodName), method_11_code, 5, (Option.some Jvm.ClassFile.FieldType.int), some hh_Law_get, { frames := 8, cells := 2, slots := 12, locals := 133 })
def hh_Law_begin : List (Nat × Nat × Nat × Nat) := [((0 : Nat), (9 : Nat), (12 : Nat), (13 : Nat)), ((0 : Nat), (9 : Nat), (15 : Nat), (15 : Nat))]
def M_Law_begin : mt_M := (({ cls := "SharedLogLaw", name := "begin", desc := "(LSharedLog;I[J)I" } : Jvm.MethodName), method_12_code, 4, (Option.some Jvm.ClassFile.FieldType.int), some hh_Law_begin, { frames := 8, cells := 2, slots := 12, locals := 133 })
def hh_Law_see : List (Nat × Nat × Nat × Nat) := [((0 : Nat), (10 : Nat), (13 : Nat), (13 : Nat)), ((0 : Nat), (10 : Nat), (17 : Nat), (15 : Nat))]
def M_Law_see : mt_M := (({ cls := "SharedLogLaw", name := "see", desc := "(LSharedLog;II[J)I" } : Jvm.MethodName), method_13_code, 5, (Option.some Jvm.ClassFile.FieldType.int), some hh_Law_see, { frames := 8, cells := 3, slots := 18, locals := 135 })
def hh_Law_put : List (Nat × Nat × Nat × Nat) := [((0 : Nat), (12 : Nat), (15 : Nat), (13 : Nat)), ((0 : Nat), (12 : Nat), (19 : Nat), (15 : Nat))]
def M_Law_put : mt_M := (({ cls := "SharedLogLaw", name := "put", desc := "(LSharedLog;III[J)I" } : Jvm.MethodName), method_14_code, 6, (Option.some Jvm.ClassFile.FieldType.int), some hh_Law_put, { frames := 8, cells := 3, slots := 18, locals := 135 })
def hh_Law_commit : List (Nat × Nat × Nat × Nat) := [((0 : Nat), (16 : Nat), (19 : Nat), (13 : Nat)), ((0 : Nat), (16 : Nat), (22 : Nat), (15 : Nat)), ((0 : Nat), (16 : Nat), (25 : Nat), (25 : Nat)), ((0 : Nat), (16 : Nat), (28 : Nat), (17 : Nat)), ((0 : Nat), (16 : Nat), (31 : Nat), (19 : Nat))]
def M_Law_commit : mt_M := (({ cls := "SharedLogLaw", name := "commit", desc := "(LSharedLog;I[J)I" } : Jvm.MethodName), method_15_code, 4, (Option.some Jvm.ClassFile.FieldType.int), some hh_Law_commit, { frames := 11, cells := 134, slots := 791, locals := 207 })
def hh_Law_drop : List (Nat × Nat × Nat × Nat) := [((0 : Nat), (9 : Nat), (12 : Nat), (13 : Nat))]
def M_Law_drop : mt_M := (({ cls := "SharedLogLaw", name := "drop", desc := "(LSharedLog;I[J)I" } : Jvm.MethodName), method_16_code, 4, (Option.some Jvm.ClassFile.FieldType.int), some hh_Law_drop, { frames := 8, cells := 1, slots := 6, locals := 133 })
def hh_Law_look : List (Nat × Nat × Nat × Nat) := [((0 : Nat), (10 : Nat), (13 : Nat), (13 : Nat))]
def M_Law_look : mt_M := (({ cls := "SharedLogLaw", name := "look", desc := "(LSharedLog;II[J)I" } : Jvm.MethodName), method_17_code, 5, (Option.some Jvm.ClassFile.FieldType.int), some hh_Law_look, { frames := 8, cells := 2, slots := 12, locals := 133 })
def hh_Law_client : List (Nat × Nat × Nat × Nat) := [((0 : Nat), (10 : Nat), (13 : Nat), (13 : Nat))]
def M_Law_client : mt_M := (({ cls := "SharedLogLaw", name := "client", desc := "(LSharedLog;II[J)I" } : Jvm.MethodName), method_18_code, 5, (Option.some Jvm.ClassFile.FieldType.int), some hh_Law_client, { frames := 8, cells := 2, slots := 12, locals := 134 })
def hh_Law_count : List (Nat × Nat × Nat × Nat) := [((0 : Nat), (9 : Nat), (12 : Nat), (13 : Nat))]
def M_Law_count : mt_M := (({ cls := "SharedLogLaw", name := "count", desc := "(LSharedLog;I[J)I" } : Jvm.MethodName), method_19_code, 4, (Option.some Jvm.ClassFile.FieldType.int), some hh_Law_count, { frames := 8, cells := 1, slots := 6, locals := 132 })
theorem cu_Log : ∀ w ∈ u_ws "SharedLog" F_Log 7, w ∈ WALL := by decide +kernel
theorem ck_Log : mk_C WALL classes 0 "SharedLog" F_Log 7 ty_Log := ⟨rfl, cu_Log, by decide +kernel, by decide +kernel⟩
theorem cu_Unit : ∀ w ∈ u_ws "SharedLog$Unit" F_Unit 3, w ∈ WALL := by decide +kernel
theorem ck_Unit : mk_C WALL classes 1 "SharedLog$Unit" F_Unit 3 ty_Unit := ⟨rfl, cu_Unit, by decide +kernel, by decide +kernel⟩
theorem cu_Entry : ∀ w ∈ u_ws "SharedLog$Entry" F_Entry 3, w ∈ WALL := by decide +kernel
theorem ck_Entry : mk_C WALL classes 2 "SharedLog$Entry" F_Entry 3 ty_Entry := ⟨rfl, cu_Entry, by decide +kernel, by decide +kernel⟩
theorem cu_Layout : ∀ w ∈ u_ws "SharedLog$Layout" F_Layout 3, w ∈ WALL := by decide +kernel
theorem ck_Layout : mk_C WALL classes 3 "SharedLog$Layout" F_Layout 3 ty_Layout := ⟨rfl, cu_Layout, by decide +kernel, by decide +kernel⟩
theorem cu_Seq : ∀ w ∈ u_ws "SharedLog$Sequencer" F_Seq 3, w ∈ WALL := by decide +kernel
theorem ck_Seq : mk_C WALL classes 4 "SharedLog$Sequencer" F_Seq 3 ty_Seq := ⟨rfl, cu_Seq, by decide +kernel, by decide +kernel⟩
theorem cu_Work : ∀ w ∈ u_ws "SharedLog$Work" F_Work 4, w ∈ WALL := by decide +kernel
theorem ck_Work : mk_C WALL classes 5 "SharedLog$Work" F_Work 4 ty_Work := ⟨rfl, cu_Work, by decide +kernel, by decide +kernel⟩
theorem cu_Client : ∀ w ∈ u_ws "SharedLog$Client" F_Client 6, w ∈ WALL := by decide +kernel
theorem ck_Client : mk_C WALL classes 6 "SharedLog$Client" F_Client 6 ty_Client := ⟨rfl, cu_Client, by decide +kernel, by decide +kernel⟩
theorem cu_Model : ∀ w ∈ u_ws "SharedLogModel" F_Model 26, w ∈ WALL := by decide +kernel
theorem ck_Model : mk_C WALL classes 7 "SharedLogModel" F_Model 26 ty_Model := ⟨rfl, cu_Model, by decide +kernel, by decide +kernel⟩
theorem cd_Log_init : cd_P M_Log_init := t_21
theorem cd_Log_append : cd_P M_Log_append := t_203
theorem cd_Log_read : cd_P M_Log_read := t_365
theorem cd_Log_fill : cd_P M_Log_fill := t_394
theorem cd_Log_trim : cd_P M_Log_trim := t_401
theorem cd_Log_learn : cd_P M_Log_learn := t_412
theorem cd_Log_change : cd_P M_Log_change := t_419
theorem cd_Log_up : cd_P M_Log_up := t_475
theorem cd_Log_lose : cd_P M_Log_lose := t_192
theorem cd_Log_sync : cd_P M_Log_sync := t_482
theorem cd_Log_get : cd_P M_Log_get := t_501
theorem cd_Log_begin : cd_P M_Log_begin := t_508
theorem cd_Log_see : cd_P M_Log_see := t_520
theorem cd_Log_put : cd_P M_Log_put := t_535
theorem cd_Log_commit : cd_P M_Log_commit := t_546
theorem cd_Log_drop : cd_P M_Log_drop := t_564
theorem cd_Log_look : cd_P M_Log_look := t_571
theorem cd_Log_client : cd_P M_Log_client := t_578
theorem cd_Log_count : cd_P M_Log_count := t_588
theorem cd_Log_requireWithin : cd_P M_Log_requireWithin := t_206
theorem cd_Log_requireRow : cd_P M_Log_requireRow := t_422
theorem cd_Log_isRow : cd_P M_Log_isRow := t_425
theorem cd_Log_rowOf : cd_P M_Log_rowOf := t_99
theorem cd_Log_digitsOf : cd_P M_Log_digitsOf := t_581
theorem cd_Log_requireTransaction : cd_P M_Log_requireTransaction := t_523
theorem cd_Log_requireSequencer : cd_P M_Log_requireSequencer := t_284
theorem cd_Log_takeToken : cd_P M_Log_takeToken := t_280
theorem cd_Log_use : cd_P M_Log_use := t_336
theorem cd_Log_write : cd_P M_Log_write := t_324
theorem cd_Log_entryAtEnd : cd_P M_Log_entryAtEnd := t_369
theorem cd_Log_trimOne : cd_P M_Log_trimOne := t_405
theorem cd_Log_play : cd_P M_Log_play := t_486
theorem cd_Log_writeAndPlayCommit : cd_P M_Log_writeAndPlayCommit := t_551
theorem cd_Log_requireChangeable : cd_P M_Log_requireChangeable := t_430
theorem cd_Log_upCount : cd_P M_Log_upCount := t_435
theorem cd_Log_sealAll : cd_P M_Log_sealAll := t_448
theorem cd_Log_sealRow : cd_P M_Log_sealRow := t_452
theorem cd_Log_merge : cd_P M_Log_merge := t_456
theorem cd_Log_firstHeld : cd_P M_Log_firstHeld := t_460
theorem cd_Log_firstFreeOffset : cd_P M_Log_firstFreeOffset := t_464
theorem cd_Model_init : cd_P M_Model_init := t_593
theorem cd_Model_thrown : cd_P M_Model_thrown := t_681
theorem cd_Model_fail : cd_P M_Model_fail := t_693
theorem cd_Model_out : cd_P M_Model_out := t_689
theorem cd_Model_learnNow : cd_P M_Model_learnNow := t_598
theorem cd_Model_length : cd_P M_Model_length := t_709
theorem cd_Model_unit : cd_P M_Model_unit := t_713
theorem cd_Model_rowFor : cd_P M_Model_rowFor := t_705
theorem cd_Model_usable : cd_P M_Model_usable := t_717
theorem cd_Model_cell : cd_P M_Model_cell := t_721
theorem cd_Model_copy : cd_P M_Model_copy := t_725
theorem cd_Model_ones : cd_P M_Model_ones := t_737
theorem cd_Model_write : cd_P M_Model_write := t_701
theorem cd_Model_noToken : cd_P M_Model_noToken := t_697
theorem cd_Model_append : cd_P M_Model_append := t_685
theorem cd_Model_lastCell : cd_P M_Model_lastCell := t_733
theorem cd_Model_read : cd_P M_Model_read := t_729
theorem cd_Model_fill : cd_P M_Model_fill := t_741
theorem cd_Model_trim : cd_P M_Model_trim := t_745
theorem cd_Model_learn : cd_P M_Model_learn := t_749
theorem cd_Model_badRow : cd_P M_Model_badRow := t_757
theorem cd_Model_upUnits : cd_P M_Model_upUnits := t_761
theorem cd_Model_sealRow : cd_P M_Model_sealRow := t_765
theorem cd_Model_merge : cd_P M_Model_merge := t_769
theorem cd_Model_change : cd_P M_Model_change := t_753
theorem cd_Model_up : cd_P M_Model_up := t_773
theorem cd_Model_lose : cd_P M_Model_lose := t_777
theorem cd_Model_sameAges : cd_P M_Model_sameAges := t_789
theorem cd_Model_place : cd_P M_Model_place := t_793
theorem cd_Model_play : cd_P M_Model_play := t_785
theorem cd_Model_sync : cd_P M_Model_sync := t_781
theorem cd_Model_get : cd_P M_Model_get := t_797
theorem cd_Model_begin : cd_P M_Model_begin := t_801
theorem cd_Model_see : cd_P M_Model_see := t_805
theorem cd_Model_put : cd_P M_Model_put := t_809
theorem cd_Model_commit : cd_P M_Model_commit := t_813
theorem cd_Model_drop : cd_P M_Model_drop := t_817
theorem cd_Model_look : cd_P M_Model_look := t_821
theorem cd_Model_client : cd_P M_Model_client := t_825
theorem cd_Model_count : cd_P M_Model_count := t_829
theorem cd_Client_init : cd_P M_Client_init := t_138
theorem cd_Client_agesMatch : cd_P M_Client_agesMatch := t_494
theorem cd_Client_apply : cd_P M_Client_apply := t_490
theorem cd_Entry_init : cd_P M_Entry_init := t_79
theorem cd_Layout_init : cd_P M_Layout_init := t_102
theorem cd_Layout_chain : cd_P M_Layout_chain := t_332
theorem cd_Layout_chainOf : cd_P M_Layout_chainOf := t_328
theorem cd_Layout_next : cd_P M_Layout_next := t_442
theorem cd_Seq_init : cd_P M_Seq_init := t_33
theorem cd_Seq_restart : cd_P M_Seq_restart := t_468
theorem cd_Unit_init : cd_P M_Unit_init := t_118
theorem cd_Unit_holds : cd_P M_Unit_holds := t_341
theorem cd_Work_init : cd_P M_Work_init := t_52
theorem cd_Work_clear : cd_P M_Work_clear := t_513
theorem cd_Work_noteRead : cd_P M_Work_noteRead := t_528
theorem cd_Work_setPut : cd_P M_Work_setPut := t_320
theorem cd_Work_putCount : cd_P M_Work_putCount := t_539
theorem cd_Work_copy : cd_P M_Work_copy := t_555
theorem al_Log_9 : Cond.classLink "SharedLog" 9 "SharedLog$Unit" ∈ WALL := t_25
theorem fl_Log_11 : fl_P "SharedLog" 11 0 0 := ⟨_, _, _, _, ck_Log, by decide, t_167⟩
theorem ff_Log_11 : ff_P "SharedLog" 11 0 0 (.array (.object "SharedLog$Unit")) := ⟨_, _, _, _, ck_Log, by decide, t_167, rfl, rfl, rfl⟩
theorem al_Log_15 : Cond.classLink "SharedLog" 15 "SharedLog$Client" ∈ WALL := t_27
theorem fl_Log_17 : fl_P "SharedLog" 17 0 1 := ⟨_, _, _, _, ck_Log, by decide, t_168⟩
theorem ff_Log_17 : ff_P "SharedLog" 17 0 1 (.array (.object "SharedLog$Client")) := ⟨_, _, _, _, ck_Log, by decide, t_168, rfl, rfl, rfl⟩
theorem nw_Log_21 : nw_P "SharedLog" 21 4 3 [.int 0, .int 0, .int 0] := ⟨_, _, _, ck_Seq, t_29, t_30, t_2, fun j hj => by rcases (show j = 0 ∨ j = 1 ∨ j = 2 by omega) with rfl | rfl | rfl <;> rfl⟩
theorem cn_Log_23 : cn_P "SharedLog" 23 M_Seq_init "SharedLog" 0 := ⟨by decide +kernel, t_2, ⟨by decide +kernel, by decide +kernel⟩, by decide +kernel, t_32, rfl, rfl⟩
theorem fl_Log_24 : fl_P "SharedLog" 24 0 2 := ⟨_, _, _, _, ck_Log, by decide, t_169⟩
theorem ff_Log_24 : ff_P "SharedLog" 24 0 2 (.object "SharedLog$Sequencer") := ⟨_, _, _, _, ck_Log, by decide, t_169, rfl, rfl, rfl⟩
theorem nw_Log_28 : nw_P "SharedLog" 28 5 4 [.null, .null, .null, .null] := ⟨_, _, _, ck_Work, t_48, t_49, t_3, fun j hj => by rcases (show j = 0 ∨ j = 1 ∨ j = 2 ∨ j = 3 by omega) with rfl | rfl | rfl | rfl <;> rfl⟩
theorem cn_Log_30 : cn_P "SharedLog" 30 M_Work_init "SharedLog" 0 := ⟨by decide +kernel, t_3, ⟨by decide +kernel, by decide +kernel⟩, by decide +kernel, t_51, rfl, rfl⟩
theorem nw_Log_31 : nw_P "SharedLog" 31 2 3 [.int 0, .int 0, .null] := ⟨_, _, _, ck_Entry, t_75, t_76, t_4, fun j hj => by rcases (show j = 0 ∨ j = 1 ∨ j = 2 by omega) with rfl | rfl | rfl <;> rfl⟩
theorem ci_Log_33 : ci_P "SharedLog" 33 M_Entry_init 3 := ⟨⟨t_77, t_4, ⟨by decide +kernel, by decide +kernel⟩, by decide +kernel⟩, t_78, rfl, rfl⟩
theorem fl_Log_36 : fl_P "SharedLog" 36 0 3 := ⟨_, _, _, _, ck_Log, by decide, t_170⟩
theorem ff_Log_36 : ff_P "SharedLog" 36 0 3 (.object "SharedLog$Entry") := ⟨_, _, _, _, ck_Log, by decide, t_170, rfl, rfl, rfl⟩
theorem fl_Log_40 : fl_P "SharedLog" 40 0 4 := ⟨_, _, _, _, ck_Log, by decide, t_171⟩
theorem ff_Log_40 : ff_P "SharedLog" 40 0 4 (.object "SharedLog$Entry") := ⟨_, _, _, _, ck_Log, by decide, t_171, rfl, rfl, rfl⟩
theorem fl_Log_43 : fl_P "SharedLog" 43 0 5 := ⟨_, _, _, _, ck_Log, by decide, t_172⟩
theorem ff_Log_43 : ff_P "SharedLog" 43 0 5 (.object "SharedLog$Entry") := ⟨_, _, _, _, ck_Log, by decide, t_172, rfl, rfl, rfl⟩
theorem nw_Log_46 : nw_P "SharedLog" 46 3 3 [.int 0, .null, .null] := ⟨_, _, _, ck_Layout, t_95, t_96, t_5, fun j hj => by rcases (show j = 0 ∨ j = 1 ∨ j = 2 by omega) with rfl | rfl | rfl <;> rfl⟩
theorem cs_Log_48 : cs_P "SharedLog" 48 M_Log_rowOf 1 := ⟨⟨t_97, t_1, ⟨by decide +kernel, by decide +kernel⟩, by decide +kernel⟩, t_98⟩
theorem ci_Log_52 : ci_P "SharedLog" 52 M_Layout_init 3 := ⟨⟨t_100, t_5, ⟨by decide +kernel, by decide +kernel⟩, by decide +kernel⟩, t_101, rfl, rfl⟩
theorem fl_Log_55 : fl_P "SharedLog" 55 0 6 := ⟨_, _, _, _, ck_Log, by decide, t_173⟩
theorem fp_Log_55 : fp_P "SharedLog" 55 0 6 (.object "SharedLog$Layout") := ⟨_, _, _, _, ck_Log, by decide, t_173, rfl, rfl⟩
theorem nw_Log_9 : nw_P "SharedLog" 9 1 3 [.null, .int 0, .int 0] := ⟨_, _, _, ck_Unit, t_25, t_115, t_6, fun j hj => by rcases (show j = 0 ∨ j = 1 ∨ j = 2 by omega) with rfl | rfl | rfl <;> rfl⟩
theorem ci_Log_59 : ci_P "SharedLog" 59 M_Unit_init 1 := ⟨⟨t_116, t_6, ⟨by decide +kernel, by decide +kernel⟩, by decide +kernel⟩, t_117, rfl, rfl⟩
theorem nw_Log_15 : nw_P "SharedLog" 15 6 6 [.null, .null, .null, .int 0, .int 0, .null] := ⟨_, _, _, ck_Client, t_27, t_135, t_7, fun j hj => by rcases (show j = 0 ∨ j = 1 ∨ j = 2 ∨ j = 3 ∨ j = 4 ∨ j = 5 by omega) with rfl | rfl | rfl | rfl | rfl | rfl <;> rfl⟩
theorem ci_Log_62 : ci_P "SharedLog" 62 M_Client_init 1 := ⟨⟨t_136, t_7, ⟨by decide +kernel, by decide +kernel⟩, by decide +kernel⟩, t_137, rfl, rfl⟩
theorem cs_Log_65 : cs_P "SharedLog" 65 M_Log_requireWithin 2 := ⟨⟨t_204, t_1, ⟨by decide +kernel, by decide +kernel⟩, by decide +kernel⟩, t_205⟩
theorem cv_Log_69 : cv_P "SharedLog" 69 0 M_Log_takeToken 1 := ⟨⟨t_277, t_1, ⟨by decide +kernel, by decide +kernel⟩, by decide +kernel⟩, t_279, _, _, _, rfl, ts_Log_takeToken⟩
theorem cv_Log_73 : cv_P "SharedLog" 73 5 M_Work_setPut 2 := ⟨⟨t_317, t_3, ⟨by decide +kernel, by decide +kernel⟩, by decide +kernel⟩, t_318, _, _, _, rfl, t_319⟩
theorem cv_Log_76 : cv_P "SharedLog" 76 0 M_Log_write 4 := ⟨⟨t_321, t_1, ⟨by decide +kernel, by decide +kernel⟩, by decide +kernel⟩, t_323, _, _, _, rfl, ts_Log_write⟩
theorem fl_Log_80 : fl_P "SharedLog" 80 6 5 := ⟨_, _, _, _, ck_Client, by decide, t_153⟩
theorem cv_Log_83 : cv_P "SharedLog" 83 3 M_Layout_chainOf 1 := ⟨⟨t_325, t_5, ⟨by decide +kernel, by decide +kernel⟩, by decide +kernel⟩, t_326, _, _, _, rfl, t_327⟩
theorem cv_Log_86 : cv_P "SharedLog" 86 0 M_Log_entryAtEnd 2 := ⟨⟨t_366, t_1, ⟨by decide +kernel, by decide +kernel⟩, by decide +kernel⟩, t_368, _, _, _, rfl, ts_Log_entryAtEnd⟩
theorem fl_Log_90 : fl_P "SharedLog" 90 2 0 := ⟨_, _, _, _, ck_Entry, by decide, t_83⟩
theorem th_Log_94_96 : th_P "SharedLog" "java/lang/UnsupportedOperationException" "junk" 94 96 97 ["java/lang/RuntimeException", "java/lang/Exception"] := ⟨by decide +kernel, by decide +kernel, t_342, t_15, by decide +kernel, by decide +kernel, by decide +kernel⟩
theorem fl_Log_100 : fl_P "SharedLog" 100 2 1 := ⟨_, _, _, _, ck_Entry, by decide, t_85⟩
theorem cv_Log_103 : cv_P "SharedLog" 103 0 M_Log_use 2 := ⟨⟨t_333, t_1, ⟨by decide +kernel, by decide +kernel⟩, by decide +kernel⟩, t_335, _, _, _, rfl, ts_Log_use⟩
theorem cv_Log_107 : cv_P "SharedLog" 107 1 M_Unit_holds 1 := ⟨⟨t_338, t_6, ⟨by decide +kernel, by decide +kernel⟩, by decide +kernel⟩, t_339, _, _, _, rfl, t_340⟩
theorem fl_Log_111 : fl_P "SharedLog" 111 1 0 := ⟨_, _, _, _, ck_Unit, by decide, t_123⟩
theorem cv_Log_115 : cv_P "SharedLog" 115 0 M_Log_trimOne 2 := ⟨⟨t_402, t_1, ⟨by decide +kernel, by decide +kernel⟩, by decide +kernel⟩, t_404, _, _, _, rfl, ts_Log_trimOne⟩
theorem fp_Log_80 : fp_P "SharedLog" 80 6 5 (.object "SharedLog$Layout") := ⟨_, _, _, _, ck_Client, by decide, t_153, rfl, rfl⟩
theorem fl_Log_119 : fl_P "SharedLog" 119 3 0 := ⟨_, _, _, _, ck_Layout, by decide, t_105⟩
theorem cs_Log_122 : cs_P "SharedLog" 122 M_Log_requireRow 1 := ⟨⟨t_420, t_1, ⟨by decide +kernel, by decide +kernel⟩, by decide +kernel⟩, t_421⟩
theorem cv_Log_126 : cv_P "SharedLog" 126 0 M_Log_requireChangeable 2 := ⟨⟨t_427, t_1, ⟨by decide +kernel, by decide +kernel⟩, by decide +kernel⟩, t_429, _, _, _, rfl, ts_Log_requireChangeable⟩
theorem cv_Log_130 : cv_P "SharedLog" 130 3 M_Layout_next 2 := ⟨⟨t_439, t_5, ⟨by decide +kernel, by decide +kernel⟩, by decide +kernel⟩, t_440, _, _, _, rfl, t_441⟩
theorem cv_Log_134 : cv_P "SharedLog" 134 0 M_Log_sealAll 3 := ⟨⟨t_445, t_1, ⟨by decide +kernel, by decide +kernel⟩, by decide +kernel⟩, t_447, _, _, _, rfl, ts_Log_sealAll⟩
theorem cv_Log_138 : cv_P "SharedLog" 138 3 M_Layout_chain 1 := ⟨⟨t_437, t_5, ⟨by decide +kernel, by decide +kernel⟩, by decide +kernel⟩, t_330, _, _, _, rfl, t_331⟩
theorem cv_Log_141 : cv_P "SharedLog" 141 0 M_Log_merge 3 := ⟨⟨t_453, t_1, ⟨by decide +kernel, by decide +kernel⟩, by decide +kernel⟩, t_455, _, _, _, rfl, ts_Log_merge⟩
theorem cv_Log_145 : cv_P "SharedLog" 145 0 M_Log_firstFreeOffset 0 := ⟨⟨t_461, t_1, ⟨by decide +kernel, by decide +kernel⟩, by decide +kernel⟩, t_463, _, _, _, rfl, ts_Log_firstFreeOffset⟩
theorem cv_Log_149 : cv_P "SharedLog" 149 4 M_Seq_restart 2 := ⟨⟨t_465, t_2, ⟨by decide +kernel, by decide +kernel⟩, by decide +kernel⟩, t_466, _, _, _, rfl, t_467⟩
theorem fl_Log_152 : fl_P "SharedLog" 152 4 2 := ⟨_, _, _, _, ck_Seq, by decide, t_40⟩
theorem fl_Log_154 : fl_P "SharedLog" 154 1 1 := ⟨_, _, _, _, ck_Unit, by decide, t_125⟩
theorem fp_Log_154 : fp_P "SharedLog" 154 1 1 .boolean := ⟨_, _, _, _, ck_Unit, by decide, t_125, rfl, rfl⟩
theorem fl_Log_158 : fl_P "SharedLog" 158 1 2 := ⟨_, _, _, _, ck_Unit, by decide, t_127⟩
theorem fl_Log_161 : fl_P "SharedLog" 161 4 0 := ⟨_, _, _, _, ck_Seq, by decide, t_36⟩
theorem fp_Log_161 : fp_P "SharedLog" 161 4 0 .boolean := ⟨_, _, _, _, ck_Seq, by decide, t_36, rfl, rfl⟩
theorem cv_Log_164 : cv_P "SharedLog" 164 0 M_Log_requireSequencer 1 := ⟨⟨t_281, t_1, ⟨by decide +kernel, by decide +kernel⟩, by decide +kernel⟩, t_283, _, _, _, rfl, ts_Log_requireSequencer⟩
theorem cv_Log_168 : cv_P "SharedLog" 168 0 M_Log_play 2 := ⟨⟨t_483, t_1, ⟨by decide +kernel, by decide +kernel⟩, by decide +kernel⟩, t_485, _, _, _, rfl, ts_Log_play⟩
theorem fl_Log_172 : fl_P "SharedLog" 172 6 4 := ⟨_, _, _, _, ck_Client, by decide, t_151⟩
theorem fl_Log_175 : fl_P "SharedLog" 175 6 0 := ⟨_, _, _, _, ck_Client, by decide, t_143⟩
theorem fl_Log_179 : fl_P "SharedLog" 179 6 3 := ⟨_, _, _, _, ck_Client, by decide, t_149⟩
theorem th_Log_182_184 : th_P "SharedLog" "java/lang/IllegalStateException" "a transaction already" 182 184 186 ["java/lang/RuntimeException", "java/lang/Exception"] := ⟨by decide +kernel, by decide +kernel, t_285, t_13, by decide +kernel, by decide +kernel, by decide +kernel⟩
theorem fp_Log_179 : fp_P "SharedLog" 179 6 3 .boolean := ⟨_, _, _, _, ck_Client, by decide, t_149, rfl, rfl⟩
theorem fl_Log_187 : fl_P "SharedLog" 187 6 2 := ⟨_, _, _, _, ck_Client, by decide, t_147⟩
theorem cv_Log_191 : cv_P "SharedLog" 191 5 M_Work_clear 0 := ⟨⟨t_510, t_3, ⟨by decide +kernel, by decide +kernel⟩, by decide +kernel⟩, t_511, _, _, _, rfl, t_512⟩
theorem cs_Log_194 : cs_P "SharedLog" 194 M_Log_requireTransaction 1 := ⟨⟨t_521, t_1, ⟨by decide +kernel, by decide +kernel⟩, by decide +kernel⟩, t_522⟩
theorem fl_Log_197 : fl_P "SharedLog" 197 5 2 := ⟨_, _, _, _, ck_Work, by decide, t_60⟩
theorem fl_Log_201 : fl_P "SharedLog" 201 5 3 := ⟨_, _, _, _, ck_Work, by decide, t_63⟩
theorem fl_Log_202 : fl_P "SharedLog" 202 6 1 := ⟨_, _, _, _, ck_Client, by decide, t_145⟩
theorem cv_Log_205 : cv_P "SharedLog" 205 5 M_Work_noteRead 2 := ⟨⟨t_525, t_3, ⟨by decide +kernel, by decide +kernel⟩, by decide +kernel⟩, t_526, _, _, _, rfl, t_527⟩
theorem cv_Log_208 : cv_P "SharedLog" 208 5 M_Work_putCount 0 := ⟨⟨t_536, t_3, ⟨by decide +kernel, by decide +kernel⟩, by decide +kernel⟩, t_537, _, _, _, rfl, t_538⟩
theorem cv_Log_211 : cv_P "SharedLog" 211 6 M_Client_agesMatch 1 := ⟨⟨t_547, t_7, ⟨by decide +kernel, by decide +kernel⟩, by decide +kernel⟩, t_492, _, _, _, rfl, t_493⟩
theorem cv_Log_215 : cv_P "SharedLog" 215 0 M_Log_writeAndPlayCommit 1 := ⟨⟨t_548, t_1, ⟨by decide +kernel, by decide +kernel⟩, by decide +kernel⟩, t_550, _, _, _, rfl, ts_Log_writeAndPlayCommit⟩
theorem cs_Log_219 : cs_P "SharedLog" 219 M_Log_digitsOf 1 := ⟨⟨t_579, t_1, ⟨by decide +kernel, by decide +kernel⟩, by decide +kernel⟩, t_580⟩
theorem fl_Log_223 : fl_P "SharedLog" 223 4 1 := ⟨_, _, _, _, ck_Seq, by decide, t_38⟩
theorem th_Log_224_226 : th_P "SharedLog" "java/lang/IllegalArgumentException" "a number out of range" 224 226 228 ["java/lang/RuntimeException", "java/lang/Exception"] := ⟨by decide +kernel, by decide +kernel, t_207, t_12, by decide +kernel, by decide +kernel, by decide +kernel⟩
theorem cs_Log_229 : cs_P "SharedLog" 229 M_Log_isRow 1 := ⟨⟨t_423, t_1, ⟨by decide +kernel, by decide +kernel⟩, by decide +kernel⟩, t_424⟩
theorem th_Log_224_232 : th_P "SharedLog" "java/lang/IllegalArgumentException" "no row of units" 224 232 228 ["java/lang/RuntimeException", "java/lang/Exception"] := ⟨by decide +kernel, by decide +kernel, t_207, t_12, by decide +kernel, by decide +kernel, by decide +kernel⟩
theorem th_Log_182_234 : th_P "SharedLog" "java/lang/IllegalStateException" "no transaction" 182 234 186 ["java/lang/RuntimeException", "java/lang/Exception"] := ⟨by decide +kernel, by decide +kernel, t_285, t_13, by decide +kernel, by decide +kernel, by decide +kernel⟩
theorem th_Log_182_236 : th_P "SharedLog" "java/lang/IllegalStateException" "no sequencer of this epoch" 182 236 186 ["java/lang/RuntimeException", "java/lang/Exception"] := ⟨by decide +kernel, by decide +kernel, t_285, t_13, by decide +kernel, by decide +kernel, by decide +kernel⟩
theorem th_Log_238_240 : th_P "SharedLog" "java/lang/IndexOutOfBoundsException" "the log is full" 238 240 242 ["java/lang/RuntimeException", "java/lang/Exception"] := ⟨by decide +kernel, by decide +kernel, t_301, t_14, by decide +kernel, by decide +kernel, by decide +kernel⟩
theorem fp_Log_152 : fp_P "SharedLog" 152 4 2 .int := ⟨_, _, _, _, ck_Seq, by decide, t_40, rfl, rfl⟩
theorem th_Log_182_243 : th_P "SharedLog" "java/lang/IllegalStateException" "a unit that is not up, or sealed" 182 243 186 ["java/lang/RuntimeException", "java/lang/Exception"] := ⟨by decide +kernel, by decide +kernel, t_285, t_13, by decide +kernel, by decide +kernel, by decide +kernel⟩
theorem th_Log_94_245 : th_P "SharedLog" "java/lang/UnsupportedOperationException" "written or trimmed already" 94 245 97 ["java/lang/RuntimeException", "java/lang/Exception"] := ⟨by decide +kernel, by decide +kernel, t_342, t_15, by decide +kernel, by decide +kernel, by decide +kernel⟩
theorem th_Log_238_247 : th_P "SharedLog" "java/lang/IndexOutOfBoundsException" "nothing there" 238 247 242 ["java/lang/RuntimeException", "java/lang/Exception"] := ⟨by decide +kernel, by decide +kernel, t_301, t_14, by decide +kernel, by decide +kernel, by decide +kernel⟩
theorem fl_Log_253 : fl_P "SharedLog" 253 2 2 := ⟨_, _, _, _, ck_Entry, by decide, t_87⟩
theorem cv_Log_256 : cv_P "SharedLog" 256 6 M_Client_apply 2 := ⟨⟨t_487, t_7, ⟨by decide +kernel, by decide +kernel⟩, by decide +kernel⟩, t_488, _, _, _, rfl, t_489⟩
theorem fp_Log_172 : fp_P "SharedLog" 172 6 4 .int := ⟨_, _, _, _, ck_Client, by decide, t_151, rfl, rfl⟩
theorem cv_Log_260 : cv_P "SharedLog" 260 5 M_Work_copy 0 := ⟨⟨t_552, t_3, ⟨by decide +kernel, by decide +kernel⟩, by decide +kernel⟩, t_553, _, _, _, rfl, t_554⟩
theorem th_Log_182_264 : th_P "SharedLog" "java/lang/IllegalStateException" "an old layout" 182 264 186 ["java/lang/RuntimeException", "java/lang/Exception"] := ⟨by decide +kernel, by decide +kernel, t_285, t_13, by decide +kernel, by decide +kernel, by decide +kernel⟩
theorem cv_Log_266 : cv_P "SharedLog" 266 0 M_Log_upCount 1 := ⟨⟨t_432, t_1, ⟨by decide +kernel, by decide +kernel⟩, by decide +kernel⟩, t_434, _, _, _, rfl, ts_Log_upCount⟩
theorem th_Log_182_269 : th_P "SharedLog" "java/lang/IllegalStateException" "a unit of the row is not up" 182 269 186 ["java/lang/RuntimeException", "java/lang/Exception"] := ⟨by decide +kernel, by decide +kernel, t_285, t_13, by decide +kernel, by decide +kernel, by decide +kernel⟩
theorem th_Log_182_271 : th_P "SharedLog" "java/lang/IllegalStateException" "no unit of a chain is up" 182 271 186 ["java/lang/RuntimeException", "java/lang/Exception"] := ⟨by decide +kernel, by decide +kernel, t_285, t_13, by decide +kernel, by decide +kernel, by decide +kernel⟩
theorem cv_Log_273 : cv_P "SharedLog" 273 0 M_Log_sealRow 2 := ⟨⟨t_449, t_1, ⟨by decide +kernel, by decide +kernel⟩, by decide +kernel⟩, t_451, _, _, _, rfl, ts_Log_sealRow⟩
theorem fp_Log_158 : fp_P "SharedLog" 158 1 2 .int := ⟨_, _, _, _, ck_Unit, by decide, t_127, rfl, rfl⟩
theorem cv_Log_277 : cv_P "SharedLog" 277 0 M_Log_firstHeld 2 := ⟨⟨t_457, t_1, ⟨by decide +kernel, by decide +kernel⟩, by decide +kernel⟩, t_459, _, _, _, rfl, ts_Log_firstHeld⟩
theorem fl_Model_7 : fl_P "SharedLogModel" 7 7 1 := ⟨_, _, _, _, ck_Model, by decide, t_600⟩
theorem ff_Model_7 : ff_P "SharedLogModel" 7 7 1 (.array .int) := ⟨_, _, _, _, ck_Model, by decide, t_600, rfl, rfl, rfl⟩
theorem fl_Model_13 : fl_P "SharedLogModel" 13 7 2 := ⟨_, _, _, _, ck_Model, by decide, t_601⟩
theorem ff_Model_13 : ff_P "SharedLogModel" 13 7 2 (.array .int) := ⟨_, _, _, _, ck_Model, by decide, t_601, rfl, rfl, rfl⟩
theorem fl_Model_16 : fl_P "SharedLogModel" 16 7 3 := ⟨_, _, _, _, ck_Model, by decide, t_602⟩
theorem ff_Model_16 : ff_P "SharedLogModel" 16 7 3 (.array .int) := ⟨_, _, _, _, ck_Model, by decide, t_602, rfl, rfl, rfl⟩
theorem fl_Model_19 : fl_P "SharedLogModel" 19 7 4 := ⟨_, _, _, _, ck_Model, by decide, t_603⟩
theorem ff_Model_19 : ff_P "SharedLogModel" 19 7 4 (.array .int) := ⟨_, _, _, _, ck_Model, by decide, t_603, rfl, rfl, rfl⟩
theorem fl_Model_22 : fl_P "SharedLogModel" 22 7 5 := ⟨_, _, _, _, ck_Model, by decide, t_604⟩
theorem ff_Model_22 : ff_P "SharedLogModel" 22 7 5 (.array .int) := ⟨_, _, _, _, ck_Model, by decide, t_604, rfl, rfl, rfl⟩
theorem fl_Model_25 : fl_P "SharedLogModel" 25 7 6 := ⟨_, _, _, _, ck_Model, by decide, t_605⟩
theorem ff_Model_25 : ff_P "SharedLogModel" 25 7 6 (.array .int) := ⟨_, _, _, _, ck_Model, by decide, t_605, rfl, rfl, rfl⟩
theorem fl_Model_28 : fl_P "SharedLogModel" 28 7 7 := ⟨_, _, _, _, ck_Model, by decide, t_606⟩
theorem ff_Model_28 : ff_P "SharedLogModel" 28 7 7 (.array .int) := ⟨_, _, _, _, ck_Model, by decide, t_606, rfl, rfl, rfl⟩
theorem fl_Model_31 : fl_P "SharedLogModel" 31 7 8 := ⟨_, _, _, _, ck_Model, by decide, t_607⟩
theorem ff_Model_31 : ff_P "SharedLogModel" 31 7 8 (.array .boolean) := ⟨_, _, _, _, ck_Model, by decide, t_607, rfl, rfl, rfl⟩
theorem fl_Model_35 : fl_P "SharedLogModel" 35 7 9 := ⟨_, _, _, _, ck_Model, by decide, t_608⟩
theorem ff_Model_35 : ff_P "SharedLogModel" 35 7 9 (.array .int) := ⟨_, _, _, _, ck_Model, by decide, t_608, rfl, rfl, rfl⟩
theorem fl_Model_38 : fl_P "SharedLogModel" 38 7 10 := ⟨_, _, _, _, ck_Model, by decide, t_609⟩
theorem fp_Model_38 : fp_P "SharedLogModel" 38 7 10 .int := ⟨_, _, _, _, ck_Model, by decide, t_609, rfl, rfl⟩
theorem fl_Model_42 : fl_P "SharedLogModel" 42 7 11 := ⟨_, _, _, _, ck_Model, by decide, t_610⟩
theorem ff_Model_42 : ff_P "SharedLogModel" 42 7 11 (.array .int) := ⟨_, _, _, _, ck_Model, by decide, t_610, rfl, rfl, rfl⟩
theorem fl_Model_45 : fl_P "SharedLogModel" 45 7 12 := ⟨_, _, _, _, ck_Model, by decide, t_611⟩
theorem fp_Model_45 : fp_P "SharedLogModel" 45 7 12 .int := ⟨_, _, _, _, ck_Model, by decide, t_611, rfl, rfl⟩
theorem fl_Model_48 : fl_P "SharedLogModel" 48 7 15 := ⟨_, _, _, _, ck_Model, by decide, t_614⟩
theorem ff_Model_48 : ff_P "SharedLogModel" 48 7 15 (.array .int) := ⟨_, _, _, _, ck_Model, by decide, t_614, rfl, rfl, rfl⟩
theorem fl_Model_51 : fl_P "SharedLogModel" 51 7 16 := ⟨_, _, _, _, ck_Model, by decide, t_615⟩
theorem ff_Model_51 : ff_P "SharedLogModel" 51 7 16 (.array .int) := ⟨_, _, _, _, ck_Model, by decide, t_615, rfl, rfl, rfl⟩
theorem fl_Model_54 : fl_P "SharedLogModel" 54 7 17 := ⟨_, _, _, _, ck_Model, by decide, t_616⟩
theorem ff_Model_54 : ff_P "SharedLogModel" 54 7 17 (.array .int) := ⟨_, _, _, _, ck_Model, by decide, t_616, rfl, rfl, rfl⟩
theorem fl_Model_57 : fl_P "SharedLogModel" 57 7 18 := ⟨_, _, _, _, ck_Model, by decide, t_617⟩
theorem ff_Model_57 : ff_P "SharedLogModel" 57 7 18 (.array .int) := ⟨_, _, _, _, ck_Model, by decide, t_617, rfl, rfl, rfl⟩
theorem fl_Model_60 : fl_P "SharedLogModel" 60 7 19 := ⟨_, _, _, _, ck_Model, by decide, t_618⟩
theorem ff_Model_60 : ff_P "SharedLogModel" 60 7 19 (.array .int) := ⟨_, _, _, _, ck_Model, by decide, t_618, rfl, rfl, rfl⟩
theorem fl_Model_63 : fl_P "SharedLogModel" 63 7 20 := ⟨_, _, _, _, ck_Model, by decide, t_619⟩
theorem ff_Model_63 : ff_P "SharedLogModel" 63 7 20 (.array .boolean) := ⟨_, _, _, _, ck_Model, by decide, t_619, rfl, rfl, rfl⟩
theorem fl_Model_66 : fl_P "SharedLogModel" 66 7 21 := ⟨_, _, _, _, ck_Model, by decide, t_620⟩
theorem ff_Model_66 : ff_P "SharedLogModel" 66 7 21 (.array .int) := ⟨_, _, _, _, ck_Model, by decide, t_620, rfl, rfl, rfl⟩
theorem fl_Model_69 : fl_P "SharedLogModel" 69 7 22 := ⟨_, _, _, _, ck_Model, by decide, t_621⟩
theorem ff_Model_69 : ff_P "SharedLogModel" 69 7 22 (.array .int) := ⟨_, _, _, _, ck_Model, by decide, t_621, rfl, rfl, rfl⟩
theorem fl_Model_72 : fl_P "SharedLogModel" 72 7 23 := ⟨_, _, _, _, ck_Model, by decide, t_622⟩
theorem ff_Model_72 : ff_P "SharedLogModel" 72 7 23 (.array .int) := ⟨_, _, _, _, ck_Model, by decide, t_622, rfl, rfl, rfl⟩
theorem fl_Model_75 : fl_P "SharedLogModel" 75 7 24 := ⟨_, _, _, _, ck_Model, by decide, t_623⟩
theorem ff_Model_75 : ff_P "SharedLogModel" 75 7 24 (.array .int) := ⟨_, _, _, _, ck_Model, by decide, t_623, rfl, rfl, rfl⟩
theorem cv_Model_78 : cv_P "SharedLogModel" 78 7 M_Model_learnNow 1 := ⟨⟨t_595, t_8, ⟨by decide +kernel, by decide +kernel⟩, by decide +kernel⟩, t_597, _, _, _, rfl, ts_Model_learnNow⟩
theorem fl_Model_82 : fl_P "SharedLogModel" 82 7 0 := ⟨_, _, _, _, ck_Model, by decide, t_599⟩
theorem fp_Model_82 : fp_P "SharedLogModel" 82 7 0 .int := ⟨_, _, _, _, ck_Model, by decide, t_599, rfl, rfl⟩
theorem cv_Model_85 : cv_P "SharedLogModel" 85 7 M_Model_length 1 := ⟨⟨t_706, t_8, ⟨by decide +kernel, by decide +kernel⟩, by decide +kernel⟩, t_708, _, _, _, rfl, ts_Model_length⟩
theorem cv_Model_89 : cv_P "SharedLogModel" 89 7 M_Model_rowFor 2 := ⟨⟨t_702, t_8, ⟨by decide +kernel, by decide +kernel⟩, by decide +kernel⟩, t_704, _, _, _, rfl, ts_Model_rowFor⟩
theorem cv_Model_93 : cv_P "SharedLogModel" 93 7 M_Model_unit 2 := ⟨⟨t_710, t_8, ⟨by decide +kernel, by decide +kernel⟩, by decide +kernel⟩, t_712, _, _, _, rfl, ts_Model_unit⟩
theorem cv_Model_96 : cv_P "SharedLogModel" 96 7 M_Model_usable 2 := ⟨⟨t_714, t_8, ⟨by decide +kernel, by decide +kernel⟩, by decide +kernel⟩, t_716, _, _, _, rfl, ts_Model_usable⟩
theorem cv_Model_100 : cv_P "SharedLogModel" 100 7 M_Model_cell 2 := ⟨⟨t_718, t_8, ⟨by decide +kernel, by decide +kernel⟩, by decide +kernel⟩, t_720, _, _, _, rfl, ts_Model_cell⟩
theorem cv_Model_103 : cv_P "SharedLogModel" 103 7 M_Model_copy 2 := ⟨⟨t_722, t_8, ⟨by decide +kernel, by decide +kernel⟩, by decide +kernel⟩, t_724, _, _, _, rfl, ts_Model_copy⟩
theorem fl_Model_107 : fl_P "SharedLogModel" 107 7 13 := ⟨_, _, _, _, ck_Model, by decide, t_612⟩
theorem cv_Model_111 : cv_P "SharedLogModel" 111 7 M_Model_out 2 := ⟨⟨t_686, t_8, ⟨by decide +kernel, by decide +kernel⟩, by decide +kernel⟩, t_688, _, _, _, rfl, ts_Model_out⟩
theorem cv_Model_114 : cv_P "SharedLogModel" 114 7 M_Model_fail 1 := ⟨⟨t_690, t_8, ⟨by decide +kernel, by decide +kernel⟩, by decide +kernel⟩, t_692, _, _, _, rfl, ts_Model_fail⟩
theorem cv_Model_117 : cv_P "SharedLogModel" 117 7 M_Model_noToken 1 := ⟨⟨t_694, t_8, ⟨by decide +kernel, by decide +kernel⟩, by decide +kernel⟩, t_696, _, _, _, rfl, ts_Model_noToken⟩
theorem fl_Model_121 : fl_P "SharedLogModel" 121 7 14 := ⟨_, _, _, _, ck_Model, by decide, t_613⟩
theorem fp_Model_121 : fp_P "SharedLogModel" 121 7 14 .int := ⟨_, _, _, _, ck_Model, by decide, t_613, rfl, rfl⟩
theorem cv_Model_124 : cv_P "SharedLogModel" 124 7 M_Model_write 3 := ⟨⟨t_698, t_8, ⟨by decide +kernel, by decide +kernel⟩, by decide +kernel⟩, t_700, _, _, _, rfl, ts_Model_write⟩
theorem cv_Model_128 : cv_P "SharedLogModel" 128 7 M_Model_lastCell 2 := ⟨⟨t_730, t_8, ⟨by decide +kernel, by decide +kernel⟩, by decide +kernel⟩, t_732, _, _, _, rfl, ts_Model_lastCell⟩
theorem cv_Model_131 : cv_P "SharedLogModel" 131 7 M_Model_ones 1 := ⟨⟨t_734, t_8, ⟨by decide +kernel, by decide +kernel⟩, by decide +kernel⟩, t_736, _, _, _, rfl, ts_Model_ones⟩
theorem cv_Model_134 : cv_P "SharedLogModel" 134 7 M_Model_badRow 1 := ⟨⟨t_754, t_8, ⟨by decide +kernel, by decide +kernel⟩, by decide +kernel⟩, t_756, _, _, _, rfl, ts_Model_badRow⟩
theorem cv_Model_137 : cv_P "SharedLogModel" 137 7 M_Model_upUnits 1 := ⟨⟨t_758, t_8, ⟨by decide +kernel, by decide +kernel⟩, by decide +kernel⟩, t_760, _, _, _, rfl, ts_Model_upUnits⟩
theorem cv_Model_140 : cv_P "SharedLogModel" 140 7 M_Model_sealRow 1 := ⟨⟨t_762, t_8, ⟨by decide +kernel, by decide +kernel⟩, by decide +kernel⟩, t_764, _, _, _, rfl, ts_Model_sealRow⟩
theorem cv_Model_143 : cv_P "SharedLogModel" 143 7 M_Model_merge 3 := ⟨⟨t_766, t_8, ⟨by decide +kernel, by decide +kernel⟩, by decide +kernel⟩, t_768, _, _, _, rfl, ts_Model_merge⟩
theorem fp_Model_107 : fp_P "SharedLogModel" 107 7 13 .boolean := ⟨_, _, _, _, ck_Model, by decide, t_612, rfl, rfl⟩
theorem cv_Model_147 : cv_P "SharedLogModel" 147 7 M_Model_sameAges 4 := ⟨⟨t_786, t_8, ⟨by decide +kernel, by decide +kernel⟩, by decide +kernel⟩, t_788, _, _, _, rfl, ts_Model_sameAges⟩
theorem fl_Model_151 : fl_P "SharedLogModel" 151 7 25 := ⟨_, _, _, _, ck_Model, by decide, t_624⟩
theorem fp_Model_151 : fp_P "SharedLogModel" 151 7 25 .boolean := ⟨_, _, _, _, ck_Model, by decide, t_624, rfl, rfl⟩
theorem cv_Model_154 : cv_P "SharedLogModel" 154 7 M_Model_place 3 := ⟨⟨t_790, t_8, ⟨by decide +kernel, by decide +kernel⟩, by decide +kernel⟩, t_792, _, _, _, rfl, ts_Model_place⟩
theorem cv_Model_157 : cv_P "SharedLogModel" 157 7 M_Model_play 2 := ⟨⟨t_782, t_8, ⟨by decide +kernel, by decide +kernel⟩, by decide +kernel⟩, t_784, _, _, _, rfl, ts_Model_play⟩
theorem fl_Client_9 : fl_P "SharedLog$Client" 9 6 0 := ⟨_, _, _, _, ck_Client, by decide, t_142⟩
theorem ff_Client_9 : ff_P "SharedLog$Client" 9 6 0 (.array .int) := ⟨_, _, _, _, ck_Client, by decide, t_142, rfl, rfl, rfl⟩
theorem fl_Client_15 : fl_P "SharedLog$Client" 15 6 1 := ⟨_, _, _, _, ck_Client, by decide, t_144⟩
theorem ff_Client_15 : ff_P "SharedLog$Client" 15 6 1 (.array .int) := ⟨_, _, _, _, ck_Client, by decide, t_144, rfl, rfl, rfl⟩
theorem nw_Client_18 : nw_P "SharedLog$Client" 18 5 4 [.null, .null, .null, .null] := ⟨_, _, _, ck_Work, t_140, t_49, t_3, fun j hj => by rcases (show j = 0 ∨ j = 1 ∨ j = 2 ∨ j = 3 by omega) with rfl | rfl | rfl | rfl <;> rfl⟩
theorem cn_Client_20 : cn_P "SharedLog$Client" 20 M_Work_init "SharedLog" 0 := ⟨by decide +kernel, t_3, ⟨by decide +kernel, by decide +kernel⟩, by decide +kernel, t_51, rfl, rfl⟩
theorem fl_Client_21 : fl_P "SharedLog$Client" 21 6 2 := ⟨_, _, _, _, ck_Client, by decide, t_146⟩
theorem ff_Client_21 : ff_P "SharedLog$Client" 21 6 2 (.object "SharedLog$Work") := ⟨_, _, _, _, ck_Client, by decide, t_146, rfl, rfl, rfl⟩
theorem fl_Client_25 : fl_P "SharedLog$Client" 25 6 3 := ⟨_, _, _, _, ck_Client, by decide, t_148⟩
theorem fp_Client_25 : fp_P "SharedLog$Client" 25 6 3 .boolean := ⟨_, _, _, _, ck_Client, by decide, t_148, rfl, rfl⟩
theorem fl_Client_29 : fl_P "SharedLog$Client" 29 6 4 := ⟨_, _, _, _, ck_Client, by decide, t_150⟩
theorem fp_Client_29 : fp_P "SharedLog$Client" 29 6 4 .int := ⟨_, _, _, _, ck_Client, by decide, t_150, rfl, rfl⟩
theorem fl_Client_33 : fl_P "SharedLog$Client" 33 6 5 := ⟨_, _, _, _, ck_Client, by decide, t_152⟩
theorem fp_Client_33 : fp_P "SharedLog$Client" 33 6 5 (.object "SharedLog$Layout") := ⟨_, _, _, _, ck_Client, by decide, t_152, rfl, rfl⟩
theorem fl_Client_37 : fl_P "SharedLog$Client" 37 5 0 := ⟨_, _, _, _, ck_Work, by decide, t_55⟩
theorem fl_Client_41 : fl_P "SharedLog$Client" 41 5 1 := ⟨_, _, _, _, ck_Work, by decide, t_57⟩
theorem cv_Client_44 : cv_P "SharedLog$Client" 44 6 M_Client_agesMatch 1 := ⟨⟨t_491, t_7, ⟨by decide +kernel, by decide +kernel⟩, by decide +kernel⟩, t_492, _, _, _, rfl, t_493⟩
theorem fl_Client_48 : fl_P "SharedLog$Client" 48 5 2 := ⟨_, _, _, _, ck_Work, by decide, t_59⟩
theorem fl_Client_51 : fl_P "SharedLog$Client" 51 5 3 := ⟨_, _, _, _, ck_Work, by decide, t_62⟩
theorem fl_Entry_7 : fl_P "SharedLog$Entry" 7 2 0 := ⟨_, _, _, _, ck_Entry, by decide, t_81⟩
theorem ff_Entry_7 : ff_P "SharedLog$Entry" 7 2 0 .int := ⟨_, _, _, _, ck_Entry, by decide, t_81, rfl, rfl, rfl⟩
theorem fl_Entry_13 : fl_P "SharedLog$Entry" 13 2 1 := ⟨_, _, _, _, ck_Entry, by decide, t_84⟩
theorem ff_Entry_13 : ff_P "SharedLog$Entry" 13 2 1 .int := ⟨_, _, _, _, ck_Entry, by decide, t_84, rfl, rfl, rfl⟩
theorem fl_Entry_16 : fl_P "SharedLog$Entry" 16 2 2 := ⟨_, _, _, _, ck_Entry, by decide, t_86⟩
theorem ff_Entry_16 : ff_P "SharedLog$Entry" 16 2 2 (.object "SharedLog$Work") := ⟨_, _, _, _, ck_Entry, by decide, t_86, rfl, rfl, rfl⟩
theorem fl_Layout_9 : fl_P "SharedLog$Layout" 9 3 0 := ⟨_, _, _, _, ck_Layout, by decide, t_104⟩
theorem ff_Layout_9 : ff_P "SharedLog$Layout" 9 3 0 .int := ⟨_, _, _, _, ck_Layout, by decide, t_104, rfl, rfl, rfl⟩
theorem fl_Layout_15 : fl_P "SharedLog$Layout" 15 3 1 := ⟨_, _, _, _, ck_Layout, by decide, t_106⟩
theorem ff_Layout_15 : ff_P "SharedLog$Layout" 15 3 1 (.array .int) := ⟨_, _, _, _, ck_Layout, by decide, t_106, rfl, rfl, rfl⟩
theorem fl_Layout_19 : fl_P "SharedLog$Layout" 19 3 2 := ⟨_, _, _, _, ck_Layout, by decide, t_107⟩
theorem ff_Layout_19 : ff_P "SharedLog$Layout" 19 3 2 (.array .int) := ⟨_, _, _, _, ck_Layout, by decide, t_107, rfl, rfl, rfl⟩
theorem cv_Layout_22 : cv_P "SharedLog$Layout" 22 3 M_Layout_chain 1 := ⟨⟨t_329, t_5, ⟨by decide +kernel, by decide +kernel⟩, by decide +kernel⟩, t_330, _, _, _, rfl, t_331⟩
theorem nw_Layout_10 : nw_P "SharedLog$Layout" 10 3 3 [.int 0, .null, .null] := ⟨_, _, _, ck_Layout, t_443, t_96, t_5, fun j hj => by rcases (show j = 0 ∨ j = 1 ∨ j = 2 by omega) with rfl | rfl | rfl <;> rfl⟩
theorem ci_Layout_26 : ci_P "SharedLog$Layout" 26 M_Layout_init 3 := ⟨⟨t_444, t_5, ⟨by decide +kernel, by decide +kernel⟩, by decide +kernel⟩, t_101, rfl, rfl⟩
theorem fl_Seq_9 : fl_P "SharedLog$Sequencer" 9 4 0 := ⟨_, _, _, _, ck_Seq, by decide, t_35⟩
theorem fp_Seq_9 : fp_P "SharedLog$Sequencer" 9 4 0 .boolean := ⟨_, _, _, _, ck_Seq, by decide, t_35, rfl, rfl⟩
theorem fl_Seq_15 : fl_P "SharedLog$Sequencer" 15 4 1 := ⟨_, _, _, _, ck_Seq, by decide, t_37⟩
theorem fp_Seq_15 : fp_P "SharedLog$Sequencer" 15 4 1 .int := ⟨_, _, _, _, ck_Seq, by decide, t_37, rfl, rfl⟩
theorem fl_Seq_19 : fl_P "SharedLog$Sequencer" 19 4 2 := ⟨_, _, _, _, ck_Seq, by decide, t_39⟩
theorem fp_Seq_19 : fp_P "SharedLog$Sequencer" 19 4 2 .int := ⟨_, _, _, _, ck_Seq, by decide, t_39, rfl, rfl⟩
theorem al_Unit_9 : Cond.classLink "SharedLog$Unit" 9 "SharedLog$Entry" ∈ WALL := t_120
theorem fl_Unit_11 : fl_P "SharedLog$Unit" 11 1 0 := ⟨_, _, _, _, ck_Unit, by decide, t_122⟩
theorem ff_Unit_11 : ff_P "SharedLog$Unit" 11 1 0 (.array (.object "SharedLog$Entry")) := ⟨_, _, _, _, ck_Unit, by decide, t_122, rfl, rfl, rfl⟩
theorem fl_Unit_17 : fl_P "SharedLog$Unit" 17 1 1 := ⟨_, _, _, _, ck_Unit, by decide, t_124⟩
theorem fp_Unit_17 : fp_P "SharedLog$Unit" 17 1 1 .boolean := ⟨_, _, _, _, ck_Unit, by decide, t_124, rfl, rfl⟩
theorem fl_Unit_21 : fl_P "SharedLog$Unit" 21 1 2 := ⟨_, _, _, _, ck_Unit, by decide, t_126⟩
theorem fp_Unit_21 : fp_P "SharedLog$Unit" 21 1 2 .int := ⟨_, _, _, _, ck_Unit, by decide, t_126, rfl, rfl⟩
theorem fl_Unit_25 : fl_P "SharedLog$Unit" 25 2 0 := ⟨_, _, _, _, ck_Entry, by decide, t_82⟩
theorem fl_Work_9 : fl_P "SharedLog$Work" 9 5 0 := ⟨_, _, _, _, ck_Work, by decide, t_54⟩
theorem ff_Work_9 : ff_P "SharedLog$Work" 9 5 0 (.array .boolean) := ⟨_, _, _, _, ck_Work, by decide, t_54, rfl, rfl, rfl⟩
theorem fl_Work_15 : fl_P "SharedLog$Work" 15 5 1 := ⟨_, _, _, _, ck_Work, by decide, t_56⟩
theorem ff_Work_15 : ff_P "SharedLog$Work" 15 5 1 (.array .int) := ⟨_, _, _, _, ck_Work, by decide, t_56, rfl, rfl, rfl⟩
theorem fl_Work_19 : fl_P "SharedLog$Work" 19 5 2 := ⟨_, _, _, _, ck_Work, by decide, t_58⟩
theorem ff_Work_19 : ff_P "SharedLog$Work" 19 5 2 (.array .boolean) := ⟨_, _, _, _, ck_Work, by decide, t_58, rfl, rfl, rfl⟩
theorem fl_Work_22 : fl_P "SharedLog$Work" 22 5 3 := ⟨_, _, _, _, ck_Work, by decide, t_61⟩
theorem ff_Work_22 : ff_P "SharedLog$Work" 22 5 3 (.array .int) := ⟨_, _, _, _, ck_Work, by decide, t_61, rfl, rfl, rfl⟩
theorem nw_Work_10 : nw_P "SharedLog$Work" 10 5 4 [.null, .null, .null, .null] := ⟨_, _, _, ck_Work, t_556, t_49, t_3, fun j hj => by rcases (show j = 0 ∨ j = 1 ∨ j = 2 ∨ j = 3 by omega) with rfl | rfl | rfl | rfl <;> rfl⟩
theorem ci_Work_25 : ci_P "SharedLog$Work" 25 M_Work_init 0 := ⟨⟨t_557, t_3, ⟨by decide +kernel, by decide +kernel⟩, by decide +kernel⟩, t_51, rfl, rfl⟩
theorem cv_Law_7 : cv_P "SharedLogLaw" 7 0 M_Log_append 4 := ⟨⟨t_200, t_1, ⟨by decide +kernel, by decide +kernel⟩, by decide +kernel⟩, t_201, _, _, _, rfl, t_202⟩
theorem cv_Law_21 : cv_P "SharedLogLaw" 21 0 M_Log_read 2 := ⟨⟨t_362, t_1, ⟨by decide +kernel, by decide +kernel⟩, by decide +kernel⟩, t_363, _, _, _, rfl, t_364⟩
theorem cv_Law_27 : cv_P "SharedLogLaw" 27 0 M_Log_fill 2 := ⟨⟨t_391, t_1, ⟨by decide +kernel, by decide +kernel⟩, by decide +kernel⟩, t_392, _, _, _, rfl, t_393⟩
theorem cv_Law_30 : cv_P "SharedLogLaw" 30 0 M_Log_trim 2 := ⟨⟨t_398, t_1, ⟨by decide +kernel, by decide +kernel⟩, by decide +kernel⟩, t_399, _, _, _, rfl, t_400⟩
theorem cv_Law_33 : cv_P "SharedLogLaw" 33 0 M_Log_learn 1 := ⟨⟨t_409, t_1, ⟨by decide +kernel, by decide +kernel⟩, by decide +kernel⟩, t_410, _, _, _, rfl, t_411⟩
theorem cv_Law_37 : cv_P "SharedLogLaw" 37 0 M_Log_change 3 := ⟨⟨t_416, t_1, ⟨by decide +kernel, by decide +kernel⟩, by decide +kernel⟩, t_417, _, _, _, rfl, t_418⟩
theorem cv_Law_41 : cv_P "SharedLogLaw" 41 0 M_Log_up 2 := ⟨⟨t_472, t_1, ⟨by decide +kernel, by decide +kernel⟩, by decide +kernel⟩, t_473, _, _, _, rfl, t_474⟩
theorem cv_Law_45 : cv_P "SharedLogLaw" 45 0 M_Log_sync 1 := ⟨⟨t_479, t_1, ⟨by decide +kernel, by decide +kernel⟩, by decide +kernel⟩, t_480, _, _, _, rfl, t_481⟩
theorem cv_Law_48 : cv_P "SharedLogLaw" 48 0 M_Log_get 2 := ⟨⟨t_498, t_1, ⟨by decide +kernel, by decide +kernel⟩, by decide +kernel⟩, t_499, _, _, _, rfl, t_500⟩
theorem cv_Law_51 : cv_P "SharedLogLaw" 51 0 M_Log_begin 1 := ⟨⟨t_505, t_1, ⟨by decide +kernel, by decide +kernel⟩, by decide +kernel⟩, t_506, _, _, _, rfl, t_507⟩
theorem cv_Law_54 : cv_P "SharedLogLaw" 54 0 M_Log_see 2 := ⟨⟨t_517, t_1, ⟨by decide +kernel, by decide +kernel⟩, by decide +kernel⟩, t_518, _, _, _, rfl, t_519⟩
theorem cv_Law_57 : cv_P "SharedLogLaw" 57 0 M_Log_put 3 := ⟨⟨t_532, t_1, ⟨by decide +kernel, by decide +kernel⟩, by decide +kernel⟩, t_533, _, _, _, rfl, t_534⟩
theorem cv_Law_60 : cv_P "SharedLogLaw" 60 0 M_Log_commit 1 := ⟨⟨t_543, t_1, ⟨by decide +kernel, by decide +kernel⟩, by decide +kernel⟩, t_544, _, _, _, rfl, t_545⟩
theorem cv_Law_64 : cv_P "SharedLogLaw" 64 0 M_Log_drop 1 := ⟨⟨t_561, t_1, ⟨by decide +kernel, by decide +kernel⟩, by decide +kernel⟩, t_562, _, _, _, rfl, t_563⟩
theorem cv_Law_67 : cv_P "SharedLogLaw" 67 0 M_Log_look 2 := ⟨⟨t_568, t_1, ⟨by decide +kernel, by decide +kernel⟩, by decide +kernel⟩, t_569, _, _, _, rfl, t_570⟩
theorem cv_Law_70 : cv_P "SharedLogLaw" 70 0 M_Log_client 2 := ⟨⟨t_575, t_1, ⟨by decide +kernel, by decide +kernel⟩, by decide +kernel⟩, t_576, _, _, _, rfl, t_577⟩
theorem cv_Law_73 : cv_P "SharedLogLaw" 73 0 M_Log_count 1 := ⟨⟨t_585, t_1, ⟨by decide +kernel, by decide +kernel⟩, by decide +kernel⟩, t_586, _, _, _, rfl, t_587⟩
theorem nw_Law_8 : nw_P "SharedLogLaw" 8 0 7 [.null, .null, .null, .null, .null, .null, .null] := ⟨_, _, _, ck_Log, t_17, t_18, t_1, fun j hj => by rcases (show j = 0 ∨ j = 1 ∨ j = 2 ∨ j = 3 ∨ j = 4 ∨ j = 5 ∨ j = 6 by omega) with rfl | rfl | rfl | rfl | rfl | rfl | rfl <;> rfl⟩
theorem ci_Law_76 : ci_P "SharedLogLaw" 76 M_Log_init 0 := ⟨⟨t_19, t_1, ⟨by decide +kernel, by decide +kernel⟩, by decide +kernel⟩, t_20, rfl, rfl⟩
theorem nw_Law_77 : nw_P "SharedLogLaw" 77 7 26 [.int 0, .null, .null, .null, .null, .null, .null, .null, .null, .null, .int 0, .null, .int 0, .int 0, .int 0, .null, .null, .null, .null, .null, .null, .null, .null, .null, .null, .int 0] := ⟨_, _, _, ck_Model, t_589, t_590, t_8, fun j hj => by rcases (show j = 0 ∨ j = 1 ∨ j = 2 ∨ j = 3 ∨ j = 4 ∨ j = 5 ∨ j = 6 ∨ j = 7 ∨ j = 8 ∨ j = 9 ∨ j = 10 ∨ j = 11 ∨ j = 12 ∨ j = 13 ∨ j = 14 ∨ j = 15 ∨ j = 16 ∨ j = 17 ∨ j = 18 ∨ j = 19 ∨ j = 20 ∨ j = 21 ∨ j = 22 ∨ j = 23 ∨ j = 24 ∨ j = 25 by omega) with rfl | rfl | rfl | rfl | rfl | rfl | rfl | rfl | rfl | rfl | rfl | rfl | rfl | rfl | rfl | rfl | rfl | rfl | rfl | rfl | rfl | rfl | rfl | rfl | rfl | rfl <;> rfl⟩
theorem ci_Law_79 : ci_P "SharedLogLaw" 79 M_Model_init 0 := ⟨⟨t_591, t_8, ⟨by decide +kernel, by decide +kernel⟩, by decide +kernel⟩, t_592, rfl, rfl⟩
theorem cs_Law_80 : cs_P "SharedLogLaw" 80 M_Law_append 6 := ⟨⟨t_193, t_0, ⟨by decide +kernel, by decide +kernel⟩, by decide +kernel⟩, t_194⟩
theorem cv_Law_85 : cv_P "SharedLogLaw" 85 7 M_Model_append 4 := ⟨⟨t_682, t_8, ⟨by decide +kernel, by decide +kernel⟩, by decide +kernel⟩, t_683, _, _, _, rfl, t_684⟩
theorem cv_Law_86 : cv_P "SharedLogLaw" 86 7 M_Model_thrown 0 := ⟨⟨t_678, t_8, ⟨by decide +kernel, by decide +kernel⟩, by decide +kernel⟩, t_679, _, _, _, rfl, t_680⟩
theorem cs_Law_90 : cs_P "SharedLogLaw" 90 M_Law_read 4 := ⟨⟨t_358, t_0, ⟨by decide +kernel, by decide +kernel⟩, by decide +kernel⟩, t_359⟩
theorem cv_Law_93 : cv_P "SharedLogLaw" 93 7 M_Model_read 2 := ⟨⟨t_726, t_8, ⟨by decide +kernel, by decide +kernel⟩, by decide +kernel⟩, t_727, _, _, _, rfl, t_728⟩
theorem cs_Law_94 : cs_P "SharedLogLaw" 94 M_Law_fill 4 := ⟨⟨t_388, t_0, ⟨by decide +kernel, by decide +kernel⟩, by decide +kernel⟩, t_389⟩
theorem cv_Law_96 : cv_P "SharedLogLaw" 96 7 M_Model_fill 2 := ⟨⟨t_738, t_8, ⟨by decide +kernel, by decide +kernel⟩, by decide +kernel⟩, t_739, _, _, _, rfl, t_740⟩
theorem cs_Law_97 : cs_P "SharedLogLaw" 97 M_Law_trim 4 := ⟨⟨t_395, t_0, ⟨by decide +kernel, by decide +kernel⟩, by decide +kernel⟩, t_396⟩
theorem cv_Law_99 : cv_P "SharedLogLaw" 99 7 M_Model_trim 2 := ⟨⟨t_742, t_8, ⟨by decide +kernel, by decide +kernel⟩, by decide +kernel⟩, t_743, _, _, _, rfl, t_744⟩
theorem cs_Law_100 : cs_P "SharedLogLaw" 100 M_Law_learn 3 := ⟨⟨t_406, t_0, ⟨by decide +kernel, by decide +kernel⟩, by decide +kernel⟩, t_407⟩
theorem cv_Law_103 : cv_P "SharedLogLaw" 103 7 M_Model_learn 1 := ⟨⟨t_746, t_8, ⟨by decide +kernel, by decide +kernel⟩, by decide +kernel⟩, t_747, _, _, _, rfl, t_748⟩
theorem cs_Law_104 : cs_P "SharedLogLaw" 104 M_Law_change 5 := ⟨⟨t_413, t_0, ⟨by decide +kernel, by decide +kernel⟩, by decide +kernel⟩, t_414⟩
theorem cv_Law_107 : cv_P "SharedLogLaw" 107 7 M_Model_change 3 := ⟨⟨t_750, t_8, ⟨by decide +kernel, by decide +kernel⟩, by decide +kernel⟩, t_751, _, _, _, rfl, t_752⟩
theorem cs_Law_108 : cs_P "SharedLogLaw" 108 M_Law_up 4 := ⟨⟨t_469, t_0, ⟨by decide +kernel, by decide +kernel⟩, by decide +kernel⟩, t_470⟩
theorem cv_Law_111 : cv_P "SharedLogLaw" 111 7 M_Model_up 2 := ⟨⟨t_770, t_8, ⟨by decide +kernel, by decide +kernel⟩, by decide +kernel⟩, t_771, _, _, _, rfl, t_772⟩
theorem cv_Law_112 : cv_P "SharedLogLaw" 112 0 M_Log_lose 0 := ⟨⟨t_189, t_1, ⟨by decide +kernel, by decide +kernel⟩, by decide +kernel⟩, t_190, _, _, _, rfl, t_191⟩
theorem cv_Law_115 : cv_P "SharedLogLaw" 115 7 M_Model_lose 0 := ⟨⟨t_774, t_8, ⟨by decide +kernel, by decide +kernel⟩, by decide +kernel⟩, t_775, _, _, _, rfl, t_776⟩
theorem cs_Law_116 : cs_P "SharedLogLaw" 116 M_Law_sync 3 := ⟨⟨t_476, t_0, ⟨by decide +kernel, by decide +kernel⟩, by decide +kernel⟩, t_477⟩
theorem cv_Law_118 : cv_P "SharedLogLaw" 118 7 M_Model_sync 1 := ⟨⟨t_778, t_8, ⟨by decide +kernel, by decide +kernel⟩, by decide +kernel⟩, t_779, _, _, _, rfl, t_780⟩
theorem cs_Law_119 : cs_P "SharedLogLaw" 119 M_Law_get 4 := ⟨⟨t_495, t_0, ⟨by decide +kernel, by decide +kernel⟩, by decide +kernel⟩, t_496⟩
theorem cv_Law_121 : cv_P "SharedLogLaw" 121 7 M_Model_get 2 := ⟨⟨t_794, t_8, ⟨by decide +kernel, by decide +kernel⟩, by decide +kernel⟩, t_795, _, _, _, rfl, t_796⟩
theorem cs_Law_122 : cs_P "SharedLogLaw" 122 M_Law_begin 3 := ⟨⟨t_502, t_0, ⟨by decide +kernel, by decide +kernel⟩, by decide +kernel⟩, t_503⟩
theorem cv_Law_124 : cv_P "SharedLogLaw" 124 7 M_Model_begin 1 := ⟨⟨t_798, t_8, ⟨by decide +kernel, by decide +kernel⟩, by decide +kernel⟩, t_799, _, _, _, rfl, t_800⟩
theorem cs_Law_125 : cs_P "SharedLogLaw" 125 M_Law_see 4 := ⟨⟨t_514, t_0, ⟨by decide +kernel, by decide +kernel⟩, by decide +kernel⟩, t_515⟩
theorem cv_Law_127 : cv_P "SharedLogLaw" 127 7 M_Model_see 2 := ⟨⟨t_802, t_8, ⟨by decide +kernel, by decide +kernel⟩, by decide +kernel⟩, t_803, _, _, _, rfl, t_804⟩
theorem cs_Law_128 : cs_P "SharedLogLaw" 128 M_Law_put 5 := ⟨⟨t_529, t_0, ⟨by decide +kernel, by decide +kernel⟩, by decide +kernel⟩, t_530⟩
theorem cv_Law_130 : cv_P "SharedLogLaw" 130 7 M_Model_put 3 := ⟨⟨t_806, t_8, ⟨by decide +kernel, by decide +kernel⟩, by decide +kernel⟩, t_807, _, _, _, rfl, t_808⟩
theorem cs_Law_131 : cs_P "SharedLogLaw" 131 M_Law_commit 3 := ⟨⟨t_540, t_0, ⟨by decide +kernel, by decide +kernel⟩, by decide +kernel⟩, t_541⟩
theorem cv_Law_133 : cv_P "SharedLogLaw" 133 7 M_Model_commit 1 := ⟨⟨t_810, t_8, ⟨by decide +kernel, by decide +kernel⟩, by decide +kernel⟩, t_811, _, _, _, rfl, t_812⟩
theorem cs_Law_134 : cs_P "SharedLogLaw" 134 M_Law_drop 3 := ⟨⟨t_558, t_0, ⟨by decide +kernel, by decide +kernel⟩, by decide +kernel⟩, t_559⟩
theorem cv_Law_136 : cv_P "SharedLogLaw" 136 7 M_Model_drop 1 := ⟨⟨t_814, t_8, ⟨by decide +kernel, by decide +kernel⟩, by decide +kernel⟩, t_815, _, _, _, rfl, t_816⟩
theorem cs_Law_137 : cs_P "SharedLogLaw" 137 M_Law_look 4 := ⟨⟨t_565, t_0, ⟨by decide +kernel, by decide +kernel⟩, by decide +kernel⟩, t_566⟩
theorem cv_Law_139 : cv_P "SharedLogLaw" 139 7 M_Model_look 2 := ⟨⟨t_818, t_8, ⟨by decide +kernel, by decide +kernel⟩, by decide +kernel⟩, t_819, _, _, _, rfl, t_820⟩
theorem cs_Law_140 : cs_P "SharedLogLaw" 140 M_Law_client 4 := ⟨⟨t_572, t_0, ⟨by decide +kernel, by decide +kernel⟩, by decide +kernel⟩, t_573⟩
theorem cv_Law_142 : cv_P "SharedLogLaw" 142 7 M_Model_client 2 := ⟨⟨t_822, t_8, ⟨by decide +kernel, by decide +kernel⟩, by decide +kernel⟩, t_823, _, _, _, rfl, t_824⟩
theorem cs_Law_143 : cs_P "SharedLogLaw" 143 M_Law_count 3 := ⟨⟨t_582, t_0, ⟨by decide +kernel, by decide +kernel⟩, by decide +kernel⟩, t_583⟩
theorem cv_Law_145 : cv_P "SharedLogLaw" 145 7 M_Model_count 1 := ⟨⟨t_826, t_8, ⟨by decide +kernel, by decide +kernel⟩, by decide +kernel⟩, t_827, _, _, _, rfl, t_828⟩
