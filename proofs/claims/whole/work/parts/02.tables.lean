def ga_tb : List Cond := lw_tbl.filter goodWord
theorem ga_good : ∀ w ∈ ga_tb, (w.onTables && w.keeps) = true ∨ ∃ ty, w = .arrayClass ty := fun w hw => good_of_word (List.mem_filter.mp hw).2
theorem ga_mem {w : Cond} (i : Nat) (h : lw_tbl[i]? = some w) (hg : goodWord w = true) : w ∈ ga_tb := List.mem_filter.mpr ⟨List.mem_of_getElem? h, hg⟩
theorem tm_0 : (Jvm.Cond.selects "LogPlacer" ({ cls := "LogPlacer", name := "forgetWays", desc := "()V" } : Jvm.MethodName) ({ cls := "LogPlacer", name := "forgetWays", desc := "()V" } : Jvm.MethodName)) ∈ ga_tb := ga_mem 0 (by decide +kernel) rfl
theorem tm_1 : (Jvm.Cond.selects "LogPlacer" ({ cls := "LogPlacer", name := "tooMany", desc := "()Z" } : Jvm.MethodName) ({ cls := "LogPlacer", name := "tooMany", desc := "()Z" } : Jvm.MethodName)) ∈ ga_tb := ga_mem 1 (by decide +kernel) rfl
theorem tm_2 : (Jvm.Cond.selects "LogPlacer$Routes" ({ cls := "LogPlacer$Routes", name := "add", desc := "(II)V" } : Jvm.MethodName) ({ cls := "LogPlacer$Routes", name := "add", desc := "(II)V" } : Jvm.MethodName)) ∈ ga_tb := ga_mem 2 (by decide +kernel) rfl
theorem tm_3 : (Jvm.Cond.selects "LogPlacer" ({ cls := "LogPlacer", name := "hasWay", desc := "(I)Z" } : Jvm.MethodName) ({ cls := "LogPlacer", name := "hasWay", desc := "(I)Z" } : Jvm.MethodName)) ∈ ga_tb := ga_mem 3 (by decide +kernel) rfl
theorem tm_4 : (Jvm.Cond.selects "LogPlacer" ({ cls := "LogPlacer", name := "partings", desc := "(I)LLogPlacer$Partings;" } : Jvm.MethodName) ({ cls := "LogPlacer", name := "partings", desc := "(I)LLogPlacer$Partings;" } : Jvm.MethodName)) ∈ ga_tb := ga_mem 4 (by decide +kernel) rfl
theorem tm_5 : (Jvm.Cond.selects "LogPlacer$Partings" ({ cls := "LogPlacer$Partings", name := "add", desc := "(I)V" } : Jvm.MethodName) ({ cls := "LogPlacer$Partings", name := "add", desc := "(I)V" } : Jvm.MethodName)) ∈ ga_tb := ga_mem 5 (by decide +kernel) rfl
theorem tm_6 : (Jvm.Cond.selects "LogPlacer$Search" ({ cls := "LogPlacer$Search", name := "offer", desc := "(IJ)V" } : Jvm.MethodName) ({ cls := "LogPlacer$Search", name := "offer", desc := "(IJ)V" } : Jvm.MethodName)) ∈ ga_tb := ga_mem 6 (by decide +kernel) rfl
theorem tm_7 : (Jvm.Cond.selects "LogPlacerModel" ({ cls := "LogPlacerModel", name := "isStep", desc := "(I)Z" } : Jvm.MethodName) ({ cls := "LogPlacerModel", name := "isStep", desc := "(I)Z" } : Jvm.MethodName)) ∈ ga_tb := ga_mem 7 (by decide +kernel) rfl
theorem tm_8 : (Jvm.Cond.selects "LogPlacerModel" ({ cls := "LogPlacerModel", name := "isTooMany", desc := "()Z" } : Jvm.MethodName) ({ cls := "LogPlacerModel", name := "isTooMany", desc := "()Z" } : Jvm.MethodName)) ∈ ga_tb := ga_mem 8 (by decide +kernel) rfl
theorem tm_9 : (Jvm.Cond.selects "LogPlacerModel" ({ cls := "LogPlacerModel", name := "works", desc := "()V" } : Jvm.MethodName) ({ cls := "LogPlacerModel", name := "works", desc := "()V" } : Jvm.MethodName)) ∈ ga_tb := ga_mem 9 (by decide +kernel) rfl
theorem tm_10 : (Jvm.Cond.selects "LogPlacerModel" ({ cls := "LogPlacerModel", name := "keeps", desc := "(I)V" } : Jvm.MethodName) ({ cls := "LogPlacerModel", name := "keeps", desc := "(I)V" } : Jvm.MethodName)) ∈ ga_tb := ga_mem 10 (by decide +kernel) rfl
theorem tm_11 : (Jvm.Cond.selects "LogPlacerModel" ({ cls := "LogPlacerModel", name := "logOf", desc := "(II)I" } : Jvm.MethodName) ({ cls := "LogPlacerModel", name := "logOf", desc := "(II)I" } : Jvm.MethodName)) ∈ ga_tb := ga_mem 11 (by decide +kernel) rfl
theorem tm_12 : (Jvm.Cond.selects "LogPlacerModel" ({ cls := "LogPlacerModel", name := "heapsBy", desc := "(I)I" } : Jvm.MethodName) ({ cls := "LogPlacerModel", name := "heapsBy", desc := "(I)I" } : Jvm.MethodName)) ∈ ga_tb := ga_mem 12 (by decide +kernel) rfl
theorem tm_13 : (Jvm.Cond.selects "LogPlacerModel" ({ cls := "LogPlacerModel", name := "firstOf", desc := "(II)I" } : Jvm.MethodName) ({ cls := "LogPlacerModel", name := "firstOf", desc := "(II)I" } : Jvm.MethodName)) ∈ ga_tb := ga_mem 13 (by decide +kernel) rfl
theorem tm_14 : (Jvm.Cond.selects "LogPlacerModel" ({ cls := "LogPlacerModel", name := "areParted", desc := "(III)Z" } : Jvm.MethodName) ({ cls := "LogPlacerModel", name := "areParted", desc := "(III)Z" } : Jvm.MethodName)) ∈ ga_tb := ga_mem 14 (by decide +kernel) rfl
theorem tm_15 : (Jvm.Cond.selects "LogPlacerModel" ({ cls := "LogPlacerModel", name := "isApart", desc := "(II)Z" } : Jvm.MethodName) ({ cls := "LogPlacerModel", name := "isApart", desc := "(II)Z" } : Jvm.MethodName)) ∈ ga_tb := ga_mem 15 (by decide +kernel) rfl
theorem tm_16 : (Jvm.Cond.selects "LogPlacerModel" ({ cls := "LogPlacerModel", name := "priceOf", desc := "(I)J" } : Jvm.MethodName) ({ cls := "LogPlacerModel", name := "priceOf", desc := "(I)J" } : Jvm.MethodName)) ∈ ga_tb := ga_mem 16 (by decide +kernel) rfl
theorem tm_17 : (Jvm.Cond.selects "LogPlacerModel" ({ cls := "LogPlacerModel", name := "isUseless", desc := "(I)Z" } : Jvm.MethodName) ({ cls := "LogPlacerModel", name := "isUseless", desc := "(I)Z" } : Jvm.MethodName)) ∈ ga_tb := ga_mem 17 (by decide +kernel) rfl
theorem tm_18 : (Jvm.Cond.selects "LogPlacerModel" ({ cls := "LogPlacerModel", name := "push", desc := "(I)V" } : Jvm.MethodName) ({ cls := "LogPlacerModel", name := "push", desc := "(I)V" } : Jvm.MethodName)) ∈ ga_tb := ga_mem 18 (by decide +kernel) rfl
theorem tm_19 : (Jvm.Cond.selects "LogPlacerModel" ({ cls := "LogPlacerModel", name := "allows", desc := "(I)Z" } : Jvm.MethodName) ({ cls := "LogPlacerModel", name := "allows", desc := "(I)Z" } : Jvm.MethodName)) ∈ ga_tb := ga_mem 19 (by decide +kernel) rfl
theorem tm_20 : (Jvm.Cond.initialized "LogPlacerLaw") ∈ ga_tb := ga_mem 20 (by decide +kernel) rfl
theorem tm_21 : (Jvm.Cond.initialized "LogPlacer") ∈ ga_tb := ga_mem 21 (by decide +kernel) rfl
theorem tm_22 : (Jvm.Cond.initialized "LogPlacer$Program") ∈ ga_tb := ga_mem 22 (by decide +kernel) rfl
theorem tm_23 : (Jvm.Cond.initialized "LogPlacer$Routes") ∈ ga_tb := ga_mem 23 (by decide +kernel) rfl
theorem tm_24 : (Jvm.Cond.initialized "LogPlacer$Partings") ∈ ga_tb := ga_mem 24 (by decide +kernel) rfl
theorem tm_25 : (Jvm.Cond.initialized "LogPlacer$Search") ∈ ga_tb := ga_mem 25 (by decide +kernel) rfl
theorem tm_26 : (Jvm.Cond.initialized "LogPlacer$Tape") ∈ ga_tb := ga_mem 26 (by decide +kernel) rfl
theorem tm_27 : (Jvm.Cond.initialized "LogPlacer$Reading") ∈ ga_tb := ga_mem 27 (by decide +kernel) rfl
theorem tm_28 : (Jvm.Cond.initialized "LogPlacerModel") ∈ ga_tb := ga_mem 28 (by decide +kernel) rfl
theorem tm_29 : (Jvm.Cond.initialized "java/util/Arrays") ∈ ga_tb := ga_mem 29 (by decide +kernel) rfl
theorem tm_30 : (Jvm.Cond.initialized "java/lang/Math") ∈ ga_tb := ga_mem 30 (by decide +kernel) rfl
theorem tm_31 : (Jvm.Cond.initialized "java/lang/System") ∈ ga_tb := ga_mem 31 (by decide +kernel) rfl
theorem tm_32 : (Jvm.Cond.initialized "java/lang/Integer") ∈ ga_tb := ga_mem 32 (by decide +kernel) rfl
theorem tm_33 : (Jvm.Cond.classLink "LogPlacerLaw" (7 : Nat) "LogPlacer") ∈ ga_tb := ga_mem 33 (by decide +kernel) rfl
theorem tm_34 : (Jvm.Cond.instantiable "LogPlacer" (7 : Nat)) ∈ ga_tb := ga_mem 34 (by decide +kernel) rfl
theorem tm_35 : (Jvm.Cond.methodLink "LogPlacerLaw" (9 : Nat) ({ cls := "LogPlacer", name := "<init>", desc := "()V" } : Jvm.MethodName)) ∈ ga_tb := ga_mem 35 (by decide +kernel) rfl
theorem tm_36 : (Jvm.Cond.instanceMethod ({ cls := "LogPlacer", name := "<init>", desc := "()V" } : Jvm.MethodName)) ∈ ga_tb := ga_mem 36 (by decide +kernel) rfl
set_option maxRecDepth 20000 in
theorem tm_37 : (Jvm.Cond.code ({ cls := "LogPlacer", name := "<init>", desc := "()V" } : Jvm.MethodName) prog_1_method_1_code (1 : Nat) (Option.none : Option Jvm.ClassFile.FieldType)) ∈ ga_tb := ga_mem 37 (rfl) rfl
theorem tm_38 : (Jvm.Cond.methodLink "LogPlacer" (3 : Nat) ({ cls := "java/lang/Object", name := "<init>", desc := "()V" } : Jvm.MethodName)) ∈ ga_tb := ga_mem 38 (by decide +kernel) rfl
theorem tm_39 : (Jvm.Cond.instanceMethod ({ cls := "java/lang/Object", name := "<init>", desc := "()V" } : Jvm.MethodName)) ∈ ga_tb := ga_mem 39 (by decide +kernel) rfl
set_option maxRecDepth 20000 in
theorem tm_40 : (Jvm.Cond.code ({ cls := "java/lang/Object", name := "<init>", desc := "()V" } : Jvm.MethodName) object_method_1_code (1 : Nat) (Option.none : Option Jvm.ClassFile.FieldType)) ∈ ga_tb := ga_mem 40 (rfl) rfl
theorem tm_41 : (Jvm.Cond.classLink "LogPlacer" (9 : Nat) "LogPlacer$Program") ∈ ga_tb := ga_mem 41 (by decide +kernel) rfl
theorem tm_42 : (Jvm.Cond.instantiable "LogPlacer$Program" (8 : Nat)) ∈ ga_tb := ga_mem 42 (by decide +kernel) rfl
theorem tm_44 : (Jvm.Cond.instanceMethod ({ cls := "LogPlacer$Program", name := "<init>", desc := "()V" } : Jvm.MethodName)) ∈ ga_tb := ga_mem 44 (by decide +kernel) rfl
set_option maxRecDepth 20000 in
theorem tm_45 : (Jvm.Cond.code ({ cls := "LogPlacer$Program", name := "<init>", desc := "()V" } : Jvm.MethodName) prog_3_method_1_code (1 : Nat) (Option.none : Option Jvm.ClassFile.FieldType)) ∈ ga_tb := ga_mem 45 (rfl) rfl
theorem tm_46 : (Jvm.Cond.methodLink "LogPlacer$Program" (3 : Nat) ({ cls := "java/lang/Object", name := "<init>", desc := "()V" } : Jvm.MethodName)) ∈ ga_tb := ga_mem 46 (by decide +kernel) rfl
theorem tm_47 : (Jvm.Cond.fieldLink "LogPlacer$Program" (9 : Nat) "LogPlacer$Program" "from" "[I") ∈ ga_tb := ga_mem 47 (by decide +kernel) rfl
theorem tm_48 : (Jvm.Cond.fieldLink "LogPlacer$Routes" (45 : Nat) "LogPlacer$Program" "from" "[I") ∈ ga_tb := ga_mem 48 (by decide +kernel) rfl
theorem tm_49 : (Jvm.Cond.fieldLink "LogPlacer$Reading" (40 : Nat) "LogPlacer$Program" "from" "[I") ∈ ga_tb := ga_mem 49 (by decide +kernel) rfl
theorem tm_50 : (Jvm.Cond.fieldLink "LogPlacer" (193 : Nat) "LogPlacer$Program" "from" "[I") ∈ ga_tb := ga_mem 50 (by decide +kernel) rfl
theorem tm_51 : (Jvm.Cond.fieldLink "LogPlacer$Program" (15 : Nat) "LogPlacer$Program" "to" "[I") ∈ ga_tb := ga_mem 51 (by decide +kernel) rfl
theorem tm_52 : (Jvm.Cond.fieldLink "LogPlacer$Routes" (48 : Nat) "LogPlacer$Program" "to" "[I") ∈ ga_tb := ga_mem 52 (by decide +kernel) rfl
theorem tm_53 : (Jvm.Cond.fieldLink "LogPlacer" (196 : Nat) "LogPlacer$Program" "to" "[I") ∈ ga_tb := ga_mem 53 (by decide +kernel) rfl
theorem tm_54 : (Jvm.Cond.fieldLink "LogPlacer$Program" (18 : Nat) "LogPlacer$Program" "times" "[I") ∈ ga_tb := ga_mem 54 (by decide +kernel) rfl
theorem tm_55 : (Jvm.Cond.fieldLink "LogPlacer$Search" (61 : Nat) "LogPlacer$Program" "times" "[I") ∈ ga_tb := ga_mem 55 (by decide +kernel) rfl
theorem tm_56 : (Jvm.Cond.fieldLink "LogPlacer" (84 : Nat) "LogPlacer$Program" "times" "[I") ∈ ga_tb := ga_mem 56 (by decide +kernel) rfl
theorem tm_57 : (Jvm.Cond.fieldLink "LogPlacer$Program" (21 : Nat) "LogPlacer$Program" "leaving" "[I") ∈ ga_tb := ga_mem 57 (by decide +kernel) rfl
theorem tm_58 : (Jvm.Cond.fieldLink "LogPlacer$Program" (24 : Nat) "LogPlacer$Program" "nodes" "I") ∈ ga_tb := ga_mem 58 (by decide +kernel) rfl
theorem tm_59 : (Jvm.Cond.fieldLink "LogPlacer$Routes" (33 : Nat) "LogPlacer$Program" "nodes" "I") ∈ ga_tb := ga_mem 59 (by decide +kernel) rfl
theorem tm_60 : (Jvm.Cond.fieldLink "LogPlacer" (199 : Nat) "LogPlacer$Program" "nodes" "I") ∈ ga_tb := ga_mem 60 (by decide +kernel) rfl
theorem tm_61 : (Jvm.Cond.fieldLink "LogPlacer$Program" (28 : Nat) "LogPlacer$Program" "steps" "I") ∈ ga_tb := ga_mem 61 (by decide +kernel) rfl
theorem tm_62 : (Jvm.Cond.fieldLink "LogPlacer$Routes" (42 : Nat) "LogPlacer$Program" "steps" "I") ∈ ga_tb := ga_mem 62 (by decide +kernel) rfl
theorem tm_63 : (Jvm.Cond.fieldLink "LogPlacer$Search" (50 : Nat) "LogPlacer$Program" "steps" "I") ∈ ga_tb := ga_mem 63 (by decide +kernel) rfl
theorem tm_64 : (Jvm.Cond.fieldLink "LogPlacer" (73 : Nat) "LogPlacer$Program" "steps" "I") ∈ ga_tb := ga_mem 64 (by decide +kernel) rfl
theorem tm_65 : (Jvm.Cond.fieldLink "LogPlacer$Program" (31 : Nat) "LogPlacer$Program" "lines" "I") ∈ ga_tb := ga_mem 65 (by decide +kernel) rfl
theorem tm_66 : (Jvm.Cond.fieldLink "LogPlacer$Reading" (43 : Nat) "LogPlacer$Program" "lines" "I") ∈ ga_tb := ga_mem 66 (by decide +kernel) rfl
theorem tm_67 : (Jvm.Cond.fieldLink "LogPlacer" (88 : Nat) "LogPlacer$Program" "lines" "I") ∈ ga_tb := ga_mem 67 (by decide +kernel) rfl
theorem tm_68 : (Jvm.Cond.fieldLink "LogPlacer$Program" (34 : Nat) "LogPlacer$Program" "faults" "I") ∈ ga_tb := ga_mem 68 (by decide +kernel) rfl
theorem tm_69 : (Jvm.Cond.fieldLink "LogPlacer" (95 : Nat) "LogPlacer$Program" "faults" "I") ∈ ga_tb := ga_mem 69 (by decide +kernel) rfl
theorem tm_70 : (Jvm.Cond.laysFinal "LogPlacer$Program" "LogPlacer$Program" "from" "[I") ∈ ga_tb := ga_mem 70 (by decide +kernel) rfl
theorem tm_72 : (Jvm.Cond.laysFinal "LogPlacer$Program" "LogPlacer$Program" "to" "[I") ∈ ga_tb := ga_mem 72 (by decide +kernel) rfl
theorem tm_74 : (Jvm.Cond.laysFinal "LogPlacer$Program" "LogPlacer$Program" "times" "[I") ∈ ga_tb := ga_mem 74 (by decide +kernel) rfl
theorem tm_76 : (Jvm.Cond.laysFinal "LogPlacer$Program" "LogPlacer$Program" "leaving" "[I") ∈ ga_tb := ga_mem 76 (by decide +kernel) rfl
theorem tm_78 : (Jvm.Cond.lays "LogPlacer$Program" "LogPlacer$Program" "nodes" "I") ∈ ga_tb := ga_mem 78 (by decide +kernel) rfl
theorem tm_80 : (Jvm.Cond.lays "LogPlacer$Program" "LogPlacer$Program" "steps" "I") ∈ ga_tb := ga_mem 80 (by decide +kernel) rfl
theorem tm_82 : (Jvm.Cond.lays "LogPlacer$Program" "LogPlacer$Program" "lines" "I") ∈ ga_tb := ga_mem 82 (by decide +kernel) rfl
theorem tm_84 : (Jvm.Cond.lays "LogPlacer$Program" "LogPlacer$Program" "faults" "I") ∈ ga_tb := ga_mem 84 (by decide +kernel) rfl
theorem tm_87 : (Jvm.Cond.arrayClass Jvm.ClassFile.FieldType.int) ∈ ga_tb := ga_mem 87 (by decide +kernel) rfl
theorem tm_88 : (Jvm.Cond.classLink "LogPlacer" (16 : Nat) "LogPlacer$Routes") ∈ ga_tb := ga_mem 88 (by decide +kernel) rfl
theorem tm_89 : (Jvm.Cond.instantiable "LogPlacer$Routes" (5 : Nat)) ∈ ga_tb := ga_mem 89 (by decide +kernel) rfl
theorem tm_91 : (Jvm.Cond.instanceMethod ({ cls := "LogPlacer$Routes", name := "<init>", desc := "()V" } : Jvm.MethodName)) ∈ ga_tb := ga_mem 91 (by decide +kernel) rfl
set_option maxRecDepth 20000 in
theorem tm_92 : (Jvm.Cond.code ({ cls := "LogPlacer$Routes", name := "<init>", desc := "()V" } : Jvm.MethodName) prog_5_method_1_code (1 : Nat) (Option.none : Option Jvm.ClassFile.FieldType)) ∈ ga_tb := ga_mem 92 (rfl) rfl
theorem tm_93 : (Jvm.Cond.methodLink "LogPlacer$Routes" (3 : Nat) ({ cls := "java/lang/Object", name := "<init>", desc := "()V" } : Jvm.MethodName)) ∈ ga_tb := ga_mem 93 (by decide +kernel) rfl
theorem tm_94 : (Jvm.Cond.fieldLink "LogPlacer$Routes" (9 : Nat) "LogPlacer$Routes" "stepSets" "[I") ∈ ga_tb := ga_mem 94 (by decide +kernel) rfl
theorem tm_95 : (Jvm.Cond.fieldLink "LogPlacer$Partings" (29 : Nat) "LogPlacer$Routes" "stepSets" "[I") ∈ ga_tb := ga_mem 95 (by decide +kernel) rfl
theorem tm_96 : (Jvm.Cond.fieldLink "LogPlacer$Reading" (62 : Nat) "LogPlacer$Routes" "stepSets" "[I") ∈ ga_tb := ga_mem 96 (by decide +kernel) rfl
theorem tm_97 : (Jvm.Cond.fieldLink "LogPlacer" (112 : Nat) "LogPlacer$Routes" "stepSets" "[I") ∈ ga_tb := ga_mem 97 (by decide +kernel) rfl
theorem tm_98 : (Jvm.Cond.fieldLink "LogPlacer$Routes" (15 : Nat) "LogPlacer$Routes" "nodeSets" "[I") ∈ ga_tb := ga_mem 98 (by decide +kernel) rfl
theorem tm_99 : (Jvm.Cond.fieldLink "LogPlacer$Partings" (26 : Nat) "LogPlacer$Routes" "nodeSets" "[I") ∈ ga_tb := ga_mem 99 (by decide +kernel) rfl
theorem tm_100 : (Jvm.Cond.fieldLink "LogPlacer" (183 : Nat) "LogPlacer$Routes" "nodeSets" "[I") ∈ ga_tb := ga_mem 100 (by decide +kernel) rfl
theorem tm_101 : (Jvm.Cond.fieldLink "LogPlacer$Routes" (22 : Nat) "LogPlacer$Routes" "number" "I") ∈ ga_tb := ga_mem 101 (by decide +kernel) rfl
theorem tm_102 : (Jvm.Cond.fieldLink "LogPlacer$Partings" (23 : Nat) "LogPlacer$Routes" "number" "I") ∈ ga_tb := ga_mem 102 (by decide +kernel) rfl
theorem tm_103 : (Jvm.Cond.fieldLink "LogPlacer$Reading" (57 : Nat) "LogPlacer$Routes" "number" "I") ∈ ga_tb := ga_mem 103 (by decide +kernel) rfl
theorem tm_104 : (Jvm.Cond.fieldLink "LogPlacer" (106 : Nat) "LogPlacer$Routes" "number" "I") ∈ ga_tb := ga_mem 104 (by decide +kernel) rfl
theorem tm_105 : (Jvm.Cond.fieldLink "LogPlacer$Routes" (26 : Nat) "LogPlacer$Routes" "tooMany" "Z") ∈ ga_tb := ga_mem 105 (by decide +kernel) rfl
theorem tm_106 : (Jvm.Cond.fieldLink "LogPlacer" (212 : Nat) "LogPlacer$Routes" "tooMany" "Z") ∈ ga_tb := ga_mem 106 (by decide +kernel) rfl
theorem tm_107 : (Jvm.Cond.fieldLink "LogPlacer$Routes" (18 : Nat) "LogPlacer$Routes" "stale" "Z") ∈ ga_tb := ga_mem 107 (by decide +kernel) rfl
theorem tm_108 : (Jvm.Cond.fieldLink "LogPlacer" (208 : Nat) "LogPlacer$Routes" "stale" "Z") ∈ ga_tb := ga_mem 108 (by decide +kernel) rfl
theorem tm_109 : (Jvm.Cond.laysFinal "LogPlacer$Routes" "LogPlacer$Routes" "stepSets" "[I") ∈ ga_tb := ga_mem 109 (by decide +kernel) rfl
theorem tm_111 : (Jvm.Cond.laysFinal "LogPlacer$Routes" "LogPlacer$Routes" "nodeSets" "[I") ∈ ga_tb := ga_mem 111 (by decide +kernel) rfl
theorem tm_113 : (Jvm.Cond.lays "LogPlacer$Routes" "LogPlacer$Routes" "number" "I") ∈ ga_tb := ga_mem 113 (by decide +kernel) rfl
theorem tm_115 : (Jvm.Cond.lays "LogPlacer$Routes" "LogPlacer$Routes" "tooMany" "Z") ∈ ga_tb := ga_mem 115 (by decide +kernel) rfl
theorem tm_117 : (Jvm.Cond.lays "LogPlacer$Routes" "LogPlacer$Routes" "stale" "Z") ∈ ga_tb := ga_mem 117 (by decide +kernel) rfl
theorem tm_120 : (Jvm.Cond.classLink "LogPlacer" (23 : Nat) "LogPlacer$Partings") ∈ ga_tb := ga_mem 120 (by decide +kernel) rfl
theorem tm_121 : (Jvm.Cond.instantiable "LogPlacer$Partings" (3 : Nat)) ∈ ga_tb := ga_mem 121 (by decide +kernel) rfl
theorem tm_123 : (Jvm.Cond.instanceMethod ({ cls := "LogPlacer$Partings", name := "<init>", desc := "()V" } : Jvm.MethodName)) ∈ ga_tb := ga_mem 123 (by decide +kernel) rfl
set_option maxRecDepth 20000 in
theorem tm_124 : (Jvm.Cond.code ({ cls := "LogPlacer$Partings", name := "<init>", desc := "()V" } : Jvm.MethodName) prog_2_method_1_code (1 : Nat) (Option.none : Option Jvm.ClassFile.FieldType)) ∈ ga_tb := ga_mem 124 (rfl) rfl
theorem tm_125 : (Jvm.Cond.methodLink "LogPlacer$Partings" (3 : Nat) ({ cls := "java/lang/Object", name := "<init>", desc := "()V" } : Jvm.MethodName)) ∈ ga_tb := ga_mem 125 (by decide +kernel) rfl
theorem tm_126 : (Jvm.Cond.fieldLink "LogPlacer$Partings" (9 : Nat) "LogPlacer$Partings" "sets" "[I") ∈ ga_tb := ga_mem 126 (by decide +kernel) rfl
theorem tm_127 : (Jvm.Cond.fieldLink "LogPlacer$Search" (53 : Nat) "LogPlacer$Partings" "sets" "[I") ∈ ga_tb := ga_mem 127 (by decide +kernel) rfl
theorem tm_128 : (Jvm.Cond.fieldLink "LogPlacer$Partings" (19 : Nat) "LogPlacer$Partings" "number" "I") ∈ ga_tb := ga_mem 128 (by decide +kernel) rfl
theorem tm_129 : (Jvm.Cond.fieldLink "LogPlacer$Search" (43 : Nat) "LogPlacer$Partings" "number" "I") ∈ ga_tb := ga_mem 129 (by decide +kernel) rfl
theorem tm_130 : (Jvm.Cond.fieldLink "LogPlacer$Partings" (15 : Nat) "LogPlacer$Partings" "stale" "Z") ∈ ga_tb := ga_mem 130 (by decide +kernel) rfl
theorem tm_131 : (Jvm.Cond.fieldLink "LogPlacer" (98 : Nat) "LogPlacer$Partings" "stale" "Z") ∈ ga_tb := ga_mem 131 (by decide +kernel) rfl
theorem tm_132 : (Jvm.Cond.lays "LogPlacer$Partings" "LogPlacer$Partings" "sets" "[I") ∈ ga_tb := ga_mem 132 (by decide +kernel) rfl
theorem tm_134 : (Jvm.Cond.lays "LogPlacer$Partings" "LogPlacer$Partings" "number" "I") ∈ ga_tb := ga_mem 134 (by decide +kernel) rfl
theorem tm_136 : (Jvm.Cond.lays "LogPlacer$Partings" "LogPlacer$Partings" "stale" "Z") ∈ ga_tb := ga_mem 136 (by decide +kernel) rfl
theorem tm_139 : (Jvm.Cond.classLink "LogPlacer" (33 : Nat) "LogPlacer$Search") ∈ ga_tb := ga_mem 139 (by decide +kernel) rfl
theorem tm_140 : (Jvm.Cond.instantiable "LogPlacer$Search" (3 : Nat)) ∈ ga_tb := ga_mem 140 (by decide +kernel) rfl
theorem tm_141 : (Jvm.Cond.methodLink "LogPlacer" (35 : Nat) ({ cls := "LogPlacer$Search", name := "<init>", desc := "(LLogPlacer$Program;)V" } : Jvm.MethodName)) ∈ ga_tb := ga_mem 141 (by decide +kernel) rfl
theorem tm_142 : (Jvm.Cond.instanceMethod ({ cls := "LogPlacer$Search", name := "<init>", desc := "(LLogPlacer$Program;)V" } : Jvm.MethodName)) ∈ ga_tb := ga_mem 142 (by decide +kernel) rfl
set_option maxRecDepth 20000 in
theorem tm_143 : (Jvm.Cond.code ({ cls := "LogPlacer$Search", name := "<init>", desc := "(LLogPlacer$Program;)V" } : Jvm.MethodName) prog_6_method_1_code (2 : Nat) (Option.none : Option Jvm.ClassFile.FieldType)) ∈ ga_tb := ga_mem 143 (rfl) rfl
theorem tm_144 : (Jvm.Cond.methodLink "LogPlacer$Search" (3 : Nat) ({ cls := "java/lang/Object", name := "<init>", desc := "()V" } : Jvm.MethodName)) ∈ ga_tb := ga_mem 144 (by decide +kernel) rfl
theorem tm_145 : (Jvm.Cond.fieldLink "LogPlacer$Search" (9 : Nat) "LogPlacer$Search" "program" "LLogPlacer$Program;") ∈ ga_tb := ga_mem 145 (by decide +kernel) rfl
theorem tm_146 : (Jvm.Cond.fieldLink "LogPlacer$Search" (21 : Nat) "LogPlacer$Search" "best" "I") ∈ ga_tb := ga_mem 146 (by decide +kernel) rfl
theorem tm_147 : (Jvm.Cond.fieldLink "LogPlacer$Search" (29 : Nat) "LogPlacer$Search" "bestPrice" "J") ∈ ga_tb := ga_mem 147 (by decide +kernel) rfl
theorem tm_148 : (Jvm.Cond.laysFinal "LogPlacer$Search" "LogPlacer$Search" "program" "LLogPlacer$Program;") ∈ ga_tb := ga_mem 148 (by decide +kernel) rfl
theorem tm_150 : (Jvm.Cond.lays "LogPlacer$Search" "LogPlacer$Search" "best" "I") ∈ ga_tb := ga_mem 150 (by decide +kernel) rfl
theorem tm_152 : (Jvm.Cond.lays "LogPlacer$Search" "LogPlacer$Search" "bestPrice" "J") ∈ ga_tb := ga_mem 152 (by decide +kernel) rfl
theorem tm_155 : (Jvm.Cond.classLink "LogPlacer" (42 : Nat) "LogPlacer$Tape") ∈ ga_tb := ga_mem 155 (by decide +kernel) rfl
theorem tm_156 : (Jvm.Cond.instantiable "LogPlacer$Tape" (2 : Nat)) ∈ ga_tb := ga_mem 156 (by decide +kernel) rfl
theorem tm_158 : (Jvm.Cond.instanceMethod ({ cls := "LogPlacer$Tape", name := "<init>", desc := "()V" } : Jvm.MethodName)) ∈ ga_tb := ga_mem 158 (by decide +kernel) rfl
set_option maxRecDepth 20000 in
theorem tm_159 : (Jvm.Cond.code ({ cls := "LogPlacer$Tape", name := "<init>", desc := "()V" } : Jvm.MethodName) prog_7_method_1_code (1 : Nat) (Option.none : Option Jvm.ClassFile.FieldType)) ∈ ga_tb := ga_mem 159 (rfl) rfl
theorem tm_160 : (Jvm.Cond.methodLink "LogPlacer$Tape" (3 : Nat) ({ cls := "java/lang/Object", name := "<init>", desc := "()V" } : Jvm.MethodName)) ∈ ga_tb := ga_mem 160 (by decide +kernel) rfl
theorem tm_161 : (Jvm.Cond.fieldLink "LogPlacer$Tape" (9 : Nat) "LogPlacer$Tape" "bytes" "[I") ∈ ga_tb := ga_mem 161 (by decide +kernel) rfl
theorem tm_162 : (Jvm.Cond.fieldLink "LogPlacer$Reading" (19 : Nat) "LogPlacer$Tape" "bytes" "[I") ∈ ga_tb := ga_mem 162 (by decide +kernel) rfl
theorem tm_163 : (Jvm.Cond.fieldLink "LogPlacer$Tape" (15 : Nat) "LogPlacer$Tape" "length" "I") ∈ ga_tb := ga_mem 163 (by decide +kernel) rfl
theorem tm_164 : (Jvm.Cond.fieldLink "LogPlacer" (162 : Nat) "LogPlacer$Tape" "length" "I") ∈ ga_tb := ga_mem 164 (by decide +kernel) rfl
theorem tm_165 : (Jvm.Cond.laysFinal "LogPlacer$Tape" "LogPlacer$Tape" "bytes" "[I") ∈ ga_tb := ga_mem 165 (by decide +kernel) rfl
theorem tm_167 : (Jvm.Cond.lays "LogPlacer$Tape" "LogPlacer$Tape" "length" "I") ∈ ga_tb := ga_mem 167 (by decide +kernel) rfl
theorem tm_170 : (Jvm.Cond.classLink "LogPlacer" (49 : Nat) "LogPlacer$Reading") ∈ ga_tb := ga_mem 170 (by decide +kernel) rfl
theorem tm_171 : (Jvm.Cond.instantiable "LogPlacer$Reading" (6 : Nat)) ∈ ga_tb := ga_mem 171 (by decide +kernel) rfl
theorem tm_173 : (Jvm.Cond.instanceMethod ({ cls := "LogPlacer$Reading", name := "<init>", desc := "()V" } : Jvm.MethodName)) ∈ ga_tb := ga_mem 173 (by decide +kernel) rfl
set_option maxRecDepth 20000 in
theorem tm_174 : (Jvm.Cond.code ({ cls := "LogPlacer$Reading", name := "<init>", desc := "()V" } : Jvm.MethodName) prog_4_method_1_code (1 : Nat) (Option.none : Option Jvm.ClassFile.FieldType)) ∈ ga_tb := ga_mem 174 (rfl) rfl
theorem tm_175 : (Jvm.Cond.methodLink "LogPlacer$Reading" (3 : Nat) ({ cls := "java/lang/Object", name := "<init>", desc := "()V" } : Jvm.MethodName)) ∈ ga_tb := ga_mem 175 (by decide +kernel) rfl
theorem tm_176 : (Jvm.Cond.fieldLink "LogPlacer$Reading" (9 : Nat) "LogPlacer$Reading" "told" "[I") ∈ ga_tb := ga_mem 176 (by decide +kernel) rfl
theorem tm_177 : (Jvm.Cond.fieldLink "LogPlacer$Reading" (15 : Nat) "LogPlacer$Reading" "length" "I") ∈ ga_tb := ga_mem 177 (by decide +kernel) rfl
theorem tm_178 : (Jvm.Cond.fieldLink "LogPlacer$Reading" (24 : Nat) "LogPlacer$Reading" "torn" "Z") ∈ ga_tb := ga_mem 178 (by decide +kernel) rfl
theorem tm_179 : (Jvm.Cond.fieldLink "LogPlacer$Reading" (28 : Nat) "LogPlacer$Reading" "possible" "Z") ∈ ga_tb := ga_mem 179 (by decide +kernel) rfl
theorem tm_180 : (Jvm.Cond.fieldLink "LogPlacer$Reading" (31 : Nat) "LogPlacer$Reading" "toldSet" "I") ∈ ga_tb := ga_mem 180 (by decide +kernel) rfl
theorem tm_181 : (Jvm.Cond.fieldLink "LogPlacer$Reading" (54 : Nat) "LogPlacer$Reading" "heard" "I") ∈ ga_tb := ga_mem 181 (by decide +kernel) rfl
theorem tm_182 : (Jvm.Cond.laysFinal "LogPlacer$Reading" "LogPlacer$Reading" "told" "[I") ∈ ga_tb := ga_mem 182 (by decide +kernel) rfl
theorem tm_184 : (Jvm.Cond.lays "LogPlacer$Reading" "LogPlacer$Reading" "length" "I") ∈ ga_tb := ga_mem 184 (by decide +kernel) rfl
theorem tm_186 : (Jvm.Cond.lays "LogPlacer$Reading" "LogPlacer$Reading" "torn" "Z") ∈ ga_tb := ga_mem 186 (by decide +kernel) rfl
theorem tm_188 : (Jvm.Cond.lays "LogPlacer$Reading" "LogPlacer$Reading" "possible" "Z") ∈ ga_tb := ga_mem 188 (by decide +kernel) rfl
theorem tm_190 : (Jvm.Cond.lays "LogPlacer$Reading" "LogPlacer$Reading" "toldSet" "I") ∈ ga_tb := ga_mem 190 (by decide +kernel) rfl
theorem tm_192 : (Jvm.Cond.lays "LogPlacer$Reading" "LogPlacer$Reading" "heard" "I") ∈ ga_tb := ga_mem 192 (by decide +kernel) rfl
theorem tm_195 : (Jvm.Cond.fieldLink "LogPlacer" (12 : Nat) "LogPlacer" "program" "LLogPlacer$Program;") ∈ ga_tb := ga_mem 195 (by decide +kernel) rfl
theorem tm_196 : (Jvm.Cond.fieldLink "LogPlacer" (19 : Nat) "LogPlacer" "routes" "LLogPlacer$Routes;") ∈ ga_tb := ga_mem 196 (by decide +kernel) rfl
theorem tm_197 : (Jvm.Cond.fieldLink "LogPlacer" (26 : Nat) "LogPlacer" "ofWays" "LLogPlacer$Partings;") ∈ ga_tb := ga_mem 197 (by decide +kernel) rfl
theorem tm_198 : (Jvm.Cond.fieldLink "LogPlacer" (30 : Nat) "LogPlacer" "ofFaults" "LLogPlacer$Partings;") ∈ ga_tb := ga_mem 198 (by decide +kernel) rfl
theorem tm_199 : (Jvm.Cond.fieldLink "LogPlacer" (38 : Nat) "LogPlacer" "search" "LLogPlacer$Search;") ∈ ga_tb := ga_mem 199 (by decide +kernel) rfl
theorem tm_200 : (Jvm.Cond.fieldLink "LogPlacer" (45 : Nat) "LogPlacer" "tape" "LLogPlacer$Tape;") ∈ ga_tb := ga_mem 200 (by decide +kernel) rfl
theorem tm_201 : (Jvm.Cond.fieldLink "LogPlacer" (52 : Nat) "LogPlacer" "reading" "LLogPlacer$Reading;") ∈ ga_tb := ga_mem 201 (by decide +kernel) rfl
theorem tm_202 : (Jvm.Cond.laysFinal "LogPlacer" "LogPlacer" "program" "LLogPlacer$Program;") ∈ ga_tb := ga_mem 202 (by decide +kernel) rfl
theorem tm_204 : (Jvm.Cond.laysFinal "LogPlacer" "LogPlacer" "routes" "LLogPlacer$Routes;") ∈ ga_tb := ga_mem 204 (by decide +kernel) rfl
theorem tm_206 : (Jvm.Cond.laysFinal "LogPlacer" "LogPlacer" "ofWays" "LLogPlacer$Partings;") ∈ ga_tb := ga_mem 206 (by decide +kernel) rfl
theorem tm_208 : (Jvm.Cond.laysFinal "LogPlacer" "LogPlacer" "ofFaults" "LLogPlacer$Partings;") ∈ ga_tb := ga_mem 208 (by decide +kernel) rfl
theorem tm_210 : (Jvm.Cond.laysFinal "LogPlacer" "LogPlacer" "search" "LLogPlacer$Search;") ∈ ga_tb := ga_mem 210 (by decide +kernel) rfl
theorem tm_212 : (Jvm.Cond.laysFinal "LogPlacer" "LogPlacer" "tape" "LLogPlacer$Tape;") ∈ ga_tb := ga_mem 212 (by decide +kernel) rfl
theorem tm_214 : (Jvm.Cond.laysFinal "LogPlacer" "LogPlacer" "reading" "LLogPlacer$Reading;") ∈ ga_tb := ga_mem 214 (by decide +kernel) rfl
theorem tm_217 : (Jvm.Cond.methodLink "LogPlacerLaw" (13 : Nat) ({ cls := "LogPlacer", name := "flow", desc := "(I)Z" } : Jvm.MethodName)) ∈ ga_tb := ga_mem 217 (by decide +kernel) rfl
theorem tm_218 : (Jvm.Cond.instanceMethod ({ cls := "LogPlacer", name := "flow", desc := "(I)Z" } : Jvm.MethodName)) ∈ ga_tb := ga_mem 218 (by decide +kernel) rfl
theorem tm_219 : (Jvm.Cond.selects "LogPlacer" ({ cls := "LogPlacer", name := "flow", desc := "(I)Z" } : Jvm.MethodName) ({ cls := "LogPlacer", name := "flow", desc := "(I)Z" } : Jvm.MethodName)) ∈ ga_tb := ga_mem 219 (by decide +kernel) rfl
set_option maxRecDepth 20000 in
theorem tm_220 : (Jvm.Cond.code ({ cls := "LogPlacer", name := "flow", desc := "(I)Z" } : Jvm.MethodName) prog_1_method_2_code (2 : Nat) (Option.some Jvm.ClassFile.FieldType.boolean)) ∈ ga_tb := ga_mem 220 (rfl) rfl
theorem tm_221 : (Jvm.Cond.methodLink "LogPlacer" (56 : Nat) ({ cls := "LogPlacer$Program", name := "restart", desc := "(I)V" } : Jvm.MethodName)) ∈ ga_tb := ga_mem 221 (by decide +kernel) rfl
theorem tm_222 : (Jvm.Cond.instanceMethod ({ cls := "LogPlacer$Program", name := "restart", desc := "(I)V" } : Jvm.MethodName)) ∈ ga_tb := ga_mem 222 (by decide +kernel) rfl
theorem tm_223 : (Jvm.Cond.selects "LogPlacer$Program" ({ cls := "LogPlacer$Program", name := "restart", desc := "(I)V" } : Jvm.MethodName) ({ cls := "LogPlacer$Program", name := "restart", desc := "(I)V" } : Jvm.MethodName)) ∈ ga_tb := ga_mem 223 (by decide +kernel) rfl
set_option maxRecDepth 20000 in
theorem tm_224 : (Jvm.Cond.code ({ cls := "LogPlacer$Program", name := "restart", desc := "(I)V" } : Jvm.MethodName) prog_3_method_2_code (2 : Nat) (Option.none : Option Jvm.ClassFile.FieldType)) ∈ ga_tb := ga_mem 224 (rfl) rfl
theorem tm_225 : (Jvm.Cond.methodLink "LogPlacer$Program" (37 : Nat) ({ cls := "java/util/Arrays", name := "fill", desc := "([II)V" } : Jvm.MethodName)) ∈ ga_tb := ga_mem 225 (by decide +kernel) rfl
theorem tm_226 : (Jvm.Cond.static ({ cls := "java/util/Arrays", name := "fill", desc := "([II)V" } : Jvm.MethodName)) ∈ ga_tb := ga_mem 226 (by decide +kernel) rfl
set_option maxRecDepth 20000 in
theorem tm_227 : (Jvm.Cond.code ({ cls := "java/util/Arrays", name := "fill", desc := "([II)V" } : Jvm.MethodName) prog_14_method_103_code (4 : Nat) (Option.none : Option Jvm.ClassFile.FieldType)) ∈ ga_tb := ga_mem 227 (rfl) rfl
theorem tm_228 : (Jvm.Cond.methodLink "LogPlacer" (60 : Nat) ({ cls := "LogPlacer$Reading", name := "forget", desc := "()V" } : Jvm.MethodName)) ∈ ga_tb := ga_mem 228 (by decide +kernel) rfl
theorem tm_229 : (Jvm.Cond.instanceMethod ({ cls := "LogPlacer$Reading", name := "forget", desc := "()V" } : Jvm.MethodName)) ∈ ga_tb := ga_mem 229 (by decide +kernel) rfl
theorem tm_230 : (Jvm.Cond.selects "LogPlacer$Reading" ({ cls := "LogPlacer$Reading", name := "forget", desc := "()V" } : Jvm.MethodName) ({ cls := "LogPlacer$Reading", name := "forget", desc := "()V" } : Jvm.MethodName)) ∈ ga_tb := ga_mem 230 (by decide +kernel) rfl
set_option maxRecDepth 20000 in
theorem tm_231 : (Jvm.Cond.code ({ cls := "LogPlacer$Reading", name := "forget", desc := "()V" } : Jvm.MethodName) prog_4_method_2_code (1 : Nat) (Option.none : Option Jvm.ClassFile.FieldType)) ∈ ga_tb := ga_mem 231 (rfl) rfl
theorem tm_232 : (Jvm.Cond.methodLink "LogPlacer" (63 : Nat) ({ cls := "LogPlacer", name := "forgetWays", desc := "()V" } : Jvm.MethodName)) ∈ ga_tb := ga_mem 232 (by decide +kernel) rfl
theorem tm_234 : (Jvm.Cond.instanceMethod ({ cls := "LogPlacer", name := "forgetWays", desc := "()V" } : Jvm.MethodName)) ∈ ga_tb := ga_mem 234 (by decide +kernel) rfl
set_option maxRecDepth 20000 in
theorem tm_235 : (Jvm.Cond.code ({ cls := "LogPlacer", name := "forgetWays", desc := "()V" } : Jvm.MethodName) prog_1_method_28_code (1 : Nat) (Option.none : Option Jvm.ClassFile.FieldType)) ∈ ga_tb := ga_mem 235 (rfl) rfl
theorem tm_236 : (Jvm.Cond.methodLink "LogPlacerLaw" (18 : Nat) ({ cls := "LogPlacer", name := "step", desc := "(III)I" } : Jvm.MethodName)) ∈ ga_tb := ga_mem 236 (by decide +kernel) rfl
theorem tm_237 : (Jvm.Cond.instanceMethod ({ cls := "LogPlacer", name := "step", desc := "(III)I" } : Jvm.MethodName)) ∈ ga_tb := ga_mem 237 (by decide +kernel) rfl
theorem tm_238 : (Jvm.Cond.selects "LogPlacer" ({ cls := "LogPlacer", name := "step", desc := "(III)I" } : Jvm.MethodName) ({ cls := "LogPlacer", name := "step", desc := "(III)I" } : Jvm.MethodName)) ∈ ga_tb := ga_mem 238 (by decide +kernel) rfl
set_option maxRecDepth 20000 in
theorem tm_239 : (Jvm.Cond.code ({ cls := "LogPlacer", name := "step", desc := "(III)I" } : Jvm.MethodName) prog_1_method_3_code (5 : Nat) (Option.some Jvm.ClassFile.FieldType.int)) ∈ ga_tb := ga_mem 239 (rfl) rfl
theorem tm_240 : (Jvm.Cond.methodLink "LogPlacer" (66 : Nat) ({ cls := "LogPlacer$Program", name := "hasNode", desc := "(I)Z" } : Jvm.MethodName)) ∈ ga_tb := ga_mem 240 (by decide +kernel) rfl
theorem tm_241 : (Jvm.Cond.instanceMethod ({ cls := "LogPlacer$Program", name := "hasNode", desc := "(I)Z" } : Jvm.MethodName)) ∈ ga_tb := ga_mem 241 (by decide +kernel) rfl
theorem tm_242 : (Jvm.Cond.selects "LogPlacer$Program" ({ cls := "LogPlacer$Program", name := "hasNode", desc := "(I)Z" } : Jvm.MethodName) ({ cls := "LogPlacer$Program", name := "hasNode", desc := "(I)Z" } : Jvm.MethodName)) ∈ ga_tb := ga_mem 242 (by decide +kernel) rfl
set_option maxRecDepth 20000 in
theorem tm_243 : (Jvm.Cond.code ({ cls := "LogPlacer$Program", name := "hasNode", desc := "(I)Z" } : Jvm.MethodName) prog_3_method_3_code (2 : Nat) (Option.some Jvm.ClassFile.FieldType.boolean)) ∈ ga_tb := ga_mem 243 (rfl) rfl
theorem tm_244 : (Jvm.Cond.methodLink "LogPlacer" (70 : Nat) ({ cls := "LogPlacer", name := "canBeCounted", desc := "(I)Z" } : Jvm.MethodName)) ∈ ga_tb := ga_mem 244 (by decide +kernel) rfl
theorem tm_245 : (Jvm.Cond.static ({ cls := "LogPlacer", name := "canBeCounted", desc := "(I)Z" } : Jvm.MethodName)) ∈ ga_tb := ga_mem 245 (by decide +kernel) rfl
set_option maxRecDepth 20000 in
theorem tm_246 : (Jvm.Cond.code ({ cls := "LogPlacer", name := "canBeCounted", desc := "(I)Z" } : Jvm.MethodName) prog_1_method_23_code (1 : Nat) (Option.some Jvm.ClassFile.FieldType.boolean)) ∈ ga_tb := ga_mem 246 (rfl) rfl
theorem tm_247 : (Jvm.Cond.constant "LogPlacer" (207 : Nat) (1000000 : Int32)) ∈ ga_tb := ga_mem 247 (by decide +kernel) rfl
theorem tm_248 : (Jvm.Cond.methodLink "LogPlacer" (77 : Nat) ({ cls := "LogPlacer$Program", name := "addStep", desc := "(III)I" } : Jvm.MethodName)) ∈ ga_tb := ga_mem 248 (by decide +kernel) rfl
theorem tm_249 : (Jvm.Cond.instanceMethod ({ cls := "LogPlacer$Program", name := "addStep", desc := "(III)I" } : Jvm.MethodName)) ∈ ga_tb := ga_mem 249 (by decide +kernel) rfl
theorem tm_250 : (Jvm.Cond.selects "LogPlacer$Program" ({ cls := "LogPlacer$Program", name := "addStep", desc := "(III)I" } : Jvm.MethodName) ({ cls := "LogPlacer$Program", name := "addStep", desc := "(III)I" } : Jvm.MethodName)) ∈ ga_tb := ga_mem 250 (by decide +kernel) rfl
set_option maxRecDepth 20000 in
theorem tm_251 : (Jvm.Cond.code ({ cls := "LogPlacer$Program", name := "addStep", desc := "(III)I" } : Jvm.MethodName) prog_3_method_5_code (5 : Nat) (Option.some Jvm.ClassFile.FieldType.int)) ∈ ga_tb := ga_mem 251 (rfl) rfl
theorem tm_252 : (Jvm.Cond.methodLink "LogPlacerLaw" (23 : Nat) ({ cls := "LogPlacer", name := "counted", desc := "(II)Z" } : Jvm.MethodName)) ∈ ga_tb := ga_mem 252 (by decide +kernel) rfl
theorem tm_253 : (Jvm.Cond.instanceMethod ({ cls := "LogPlacer", name := "counted", desc := "(II)Z" } : Jvm.MethodName)) ∈ ga_tb := ga_mem 253 (by decide +kernel) rfl
theorem tm_254 : (Jvm.Cond.selects "LogPlacer" ({ cls := "LogPlacer", name := "counted", desc := "(II)Z" } : Jvm.MethodName) ({ cls := "LogPlacer", name := "counted", desc := "(II)Z" } : Jvm.MethodName)) ∈ ga_tb := ga_mem 254 (by decide +kernel) rfl
set_option maxRecDepth 20000 in
theorem tm_255 : (Jvm.Cond.code ({ cls := "LogPlacer", name := "counted", desc := "(II)Z" } : Jvm.MethodName) prog_1_method_4_code (3 : Nat) (Option.some Jvm.ClassFile.FieldType.boolean)) ∈ ga_tb := ga_mem 255 (rfl) rfl
theorem tm_256 : (Jvm.Cond.methodLink "LogPlacer" (81 : Nat) ({ cls := "LogPlacer$Program", name := "hasStep", desc := "(I)Z" } : Jvm.MethodName)) ∈ ga_tb := ga_mem 256 (by decide +kernel) rfl
theorem tm_257 : (Jvm.Cond.instanceMethod ({ cls := "LogPlacer$Program", name := "hasStep", desc := "(I)Z" } : Jvm.MethodName)) ∈ ga_tb := ga_mem 257 (by decide +kernel) rfl
theorem tm_258 : (Jvm.Cond.selects "LogPlacer$Program" ({ cls := "LogPlacer$Program", name := "hasStep", desc := "(I)Z" } : Jvm.MethodName) ({ cls := "LogPlacer$Program", name := "hasStep", desc := "(I)Z" } : Jvm.MethodName)) ∈ ga_tb := ga_mem 258 (by decide +kernel) rfl
set_option maxRecDepth 20000 in
theorem tm_259 : (Jvm.Cond.code ({ cls := "LogPlacer$Program", name := "hasStep", desc := "(I)Z" } : Jvm.MethodName) prog_3_method_4_code (2 : Nat) (Option.some Jvm.ClassFile.FieldType.boolean)) ∈ ga_tb := ga_mem 259 (rfl) rfl
theorem tm_260 : (Jvm.Cond.methodLink "LogPlacerLaw" (28 : Nat) ({ cls := "LogPlacer", name := "line", desc := "(IZ)Z" } : Jvm.MethodName)) ∈ ga_tb := ga_mem 260 (by decide +kernel) rfl
theorem tm_261 : (Jvm.Cond.instanceMethod ({ cls := "LogPlacer", name := "line", desc := "(IZ)Z" } : Jvm.MethodName)) ∈ ga_tb := ga_mem 261 (by decide +kernel) rfl
theorem tm_262 : (Jvm.Cond.selects "LogPlacer" ({ cls := "LogPlacer", name := "line", desc := "(IZ)Z" } : Jvm.MethodName) ({ cls := "LogPlacer", name := "line", desc := "(IZ)Z" } : Jvm.MethodName)) ∈ ga_tb := ga_mem 262 (by decide +kernel) rfl
set_option maxRecDepth 20000 in
theorem tm_263 : (Jvm.Cond.code ({ cls := "LogPlacer", name := "line", desc := "(IZ)Z" } : Jvm.MethodName) prog_1_method_5_code (3 : Nat) (Option.some Jvm.ClassFile.FieldType.boolean)) ∈ ga_tb := ga_mem 263 (rfl) rfl
theorem tm_264 : (Jvm.Cond.methodLink "LogPlacer" (91 : Nat) ({ cls := "LogPlacer", name := "has", desc := "(II)Z" } : Jvm.MethodName)) ∈ ga_tb := ga_mem 264 (by decide +kernel) rfl
theorem tm_265 : (Jvm.Cond.static ({ cls := "LogPlacer", name := "has", desc := "(II)Z" } : Jvm.MethodName)) ∈ ga_tb := ga_mem 265 (by decide +kernel) rfl
set_option maxRecDepth 20000 in
theorem tm_266 : (Jvm.Cond.code ({ cls := "LogPlacer", name := "has", desc := "(II)Z" } : Jvm.MethodName) prog_1_method_26_code (2 : Nat) (Option.some Jvm.ClassFile.FieldType.boolean)) ∈ ga_tb := ga_mem 266 (rfl) rfl
theorem tm_267 : (Jvm.Cond.methodLink "LogPlacerLaw" (33 : Nat) ({ cls := "LogPlacer", name := "fault", desc := "(IZ)Z" } : Jvm.MethodName)) ∈ ga_tb := ga_mem 267 (by decide +kernel) rfl
theorem tm_268 : (Jvm.Cond.instanceMethod ({ cls := "LogPlacer", name := "fault", desc := "(IZ)Z" } : Jvm.MethodName)) ∈ ga_tb := ga_mem 268 (by decide +kernel) rfl
theorem tm_269 : (Jvm.Cond.selects "LogPlacer" ({ cls := "LogPlacer", name := "fault", desc := "(IZ)Z" } : Jvm.MethodName) ({ cls := "LogPlacer", name := "fault", desc := "(IZ)Z" } : Jvm.MethodName)) ∈ ga_tb := ga_mem 269 (by decide +kernel) rfl
set_option maxRecDepth 20000 in
theorem tm_270 : (Jvm.Cond.code ({ cls := "LogPlacer", name := "fault", desc := "(IZ)Z" } : Jvm.MethodName) prog_1_method_6_code (3 : Nat) (Option.some Jvm.ClassFile.FieldType.boolean)) ∈ ga_tb := ga_mem 270 (rfl) rfl
theorem tm_271 : (Jvm.Cond.methodLink "LogPlacerLaw" (37 : Nat) ({ cls := "LogPlacer", name := "ways", desc := "()I" } : Jvm.MethodName)) ∈ ga_tb := ga_mem 271 (by decide +kernel) rfl
theorem tm_272 : (Jvm.Cond.instanceMethod ({ cls := "LogPlacer", name := "ways", desc := "()I" } : Jvm.MethodName)) ∈ ga_tb := ga_mem 272 (by decide +kernel) rfl
theorem tm_273 : (Jvm.Cond.selects "LogPlacer" ({ cls := "LogPlacer", name := "ways", desc := "()I" } : Jvm.MethodName) ({ cls := "LogPlacer", name := "ways", desc := "()I" } : Jvm.MethodName)) ∈ ga_tb := ga_mem 273 (by decide +kernel) rfl
set_option maxRecDepth 20000 in
theorem tm_274 : (Jvm.Cond.code ({ cls := "LogPlacer", name := "ways", desc := "()I" } : Jvm.MethodName) prog_1_method_7_code (1 : Nat) (Option.some Jvm.ClassFile.FieldType.int)) ∈ ga_tb := ga_mem 274 (rfl) rfl
theorem tm_275 : (Jvm.Cond.methodLink "LogPlacer" (102 : Nat) ({ cls := "LogPlacer", name := "tooMany", desc := "()Z" } : Jvm.MethodName)) ∈ ga_tb := ga_mem 275 (by decide +kernel) rfl
theorem tm_277 : (Jvm.Cond.instanceMethod ({ cls := "LogPlacer", name := "tooMany", desc := "()Z" } : Jvm.MethodName)) ∈ ga_tb := ga_mem 277 (by decide +kernel) rfl
set_option maxRecDepth 20000 in
theorem tm_278 : (Jvm.Cond.code ({ cls := "LogPlacer", name := "tooMany", desc := "()Z" } : Jvm.MethodName) prog_1_method_29_code (1 : Nat) (Option.some Jvm.ClassFile.FieldType.boolean)) ∈ ga_tb := ga_mem 278 (rfl) rfl
theorem tm_279 : (Jvm.Cond.methodLink "LogPlacer" (209 : Nat) ({ cls := "LogPlacer$Routes", name := "gather", desc := "(LLogPlacer$Program;)V" } : Jvm.MethodName)) ∈ ga_tb := ga_mem 279 (by decide +kernel) rfl
theorem tm_280 : (Jvm.Cond.instanceMethod ({ cls := "LogPlacer$Routes", name := "gather", desc := "(LLogPlacer$Program;)V" } : Jvm.MethodName)) ∈ ga_tb := ga_mem 280 (by decide +kernel) rfl
theorem tm_281 : (Jvm.Cond.selects "LogPlacer$Routes" ({ cls := "LogPlacer$Routes", name := "gather", desc := "(LLogPlacer$Program;)V" } : Jvm.MethodName) ({ cls := "LogPlacer$Routes", name := "gather", desc := "(LLogPlacer$Program;)V" } : Jvm.MethodName)) ∈ ga_tb := ga_mem 281 (by decide +kernel) rfl
set_option maxRecDepth 20000 in
theorem tm_282 : (Jvm.Cond.code ({ cls := "LogPlacer$Routes", name := "gather", desc := "(LLogPlacer$Program;)V" } : Jvm.MethodName) prog_5_method_2_code (2 : Nat) (Option.none : Option Jvm.ClassFile.FieldType)) ∈ ga_tb := ga_mem 282 (rfl) rfl
theorem tm_283 : (Jvm.Cond.methodLink "LogPlacer$Routes" (29 : Nat) ({ cls := "LogPlacer$Routes", name := "follow", desc := "(LLogPlacer$Routes;LLogPlacer$Program;IIII)V" } : Jvm.MethodName)) ∈ ga_tb := ga_mem 283 (by decide +kernel) rfl
theorem tm_284 : (Jvm.Cond.static ({ cls := "LogPlacer$Routes", name := "follow", desc := "(LLogPlacer$Routes;LLogPlacer$Program;IIII)V" } : Jvm.MethodName)) ∈ ga_tb := ga_mem 284 (by decide +kernel) rfl
set_option maxRecDepth 20000 in
theorem tm_285 : (Jvm.Cond.code ({ cls := "LogPlacer$Routes", name := "follow", desc := "(LLogPlacer$Routes;LLogPlacer$Program;IIII)V" } : Jvm.MethodName) prog_5_method_3_code (8 : Nat) (Option.none : Option Jvm.ClassFile.FieldType)) ∈ ga_tb := ga_mem 285 (rfl) rfl
theorem tm_286 : (Jvm.Cond.methodLink "LogPlacer$Routes" (38 : Nat) ({ cls := "LogPlacer$Routes", name := "add", desc := "(II)V" } : Jvm.MethodName)) ∈ ga_tb := ga_mem 286 (by decide +kernel) rfl
theorem tm_288 : (Jvm.Cond.instanceMethod ({ cls := "LogPlacer$Routes", name := "add", desc := "(II)V" } : Jvm.MethodName)) ∈ ga_tb := ga_mem 288 (by decide +kernel) rfl
set_option maxRecDepth 20000 in
theorem tm_289 : (Jvm.Cond.code ({ cls := "LogPlacer$Routes", name := "add", desc := "(II)V" } : Jvm.MethodName) prog_5_method_4_code (3 : Nat) (Option.none : Option Jvm.ClassFile.FieldType)) ∈ ga_tb := ga_mem 289 (rfl) rfl
theorem tm_290 : (Jvm.Cond.methodLink "LogPlacerLaw" (42 : Nat) ({ cls := "LogPlacer", name := "way", desc := "(II)I" } : Jvm.MethodName)) ∈ ga_tb := ga_mem 290 (by decide +kernel) rfl
theorem tm_291 : (Jvm.Cond.instanceMethod ({ cls := "LogPlacer", name := "way", desc := "(II)I" } : Jvm.MethodName)) ∈ ga_tb := ga_mem 291 (by decide +kernel) rfl
theorem tm_292 : (Jvm.Cond.selects "LogPlacer" ({ cls := "LogPlacer", name := "way", desc := "(II)I" } : Jvm.MethodName) ({ cls := "LogPlacer", name := "way", desc := "(II)I" } : Jvm.MethodName)) ∈ ga_tb := ga_mem 292 (by decide +kernel) rfl
set_option maxRecDepth 20000 in
theorem tm_293 : (Jvm.Cond.code ({ cls := "LogPlacer", name := "way", desc := "(II)I" } : Jvm.MethodName) prog_1_method_8_code (3 : Nat) (Option.some Jvm.ClassFile.FieldType.int)) ∈ ga_tb := ga_mem 293 (rfl) rfl
theorem tm_294 : (Jvm.Cond.methodLink "LogPlacer" (109 : Nat) ({ cls := "LogPlacer", name := "hasWay", desc := "(I)Z" } : Jvm.MethodName)) ∈ ga_tb := ga_mem 294 (by decide +kernel) rfl
theorem tm_296 : (Jvm.Cond.instanceMethod ({ cls := "LogPlacer", name := "hasWay", desc := "(I)Z" } : Jvm.MethodName)) ∈ ga_tb := ga_mem 296 (by decide +kernel) rfl
set_option maxRecDepth 20000 in
theorem tm_297 : (Jvm.Cond.code ({ cls := "LogPlacer", name := "hasWay", desc := "(I)Z" } : Jvm.MethodName) prog_1_method_30_code (2 : Nat) (Option.some Jvm.ClassFile.FieldType.boolean)) ∈ ga_tb := ga_mem 297 (rfl) rfl
theorem tm_298 : (Jvm.Cond.methodLink "LogPlacer" (115 : Nat) ({ cls := "LogPlacer$Program", name := "stepAt", desc := "(II)I" } : Jvm.MethodName)) ∈ ga_tb := ga_mem 298 (by decide +kernel) rfl
theorem tm_299 : (Jvm.Cond.instanceMethod ({ cls := "LogPlacer$Program", name := "stepAt", desc := "(II)I" } : Jvm.MethodName)) ∈ ga_tb := ga_mem 299 (by decide +kernel) rfl
theorem tm_300 : (Jvm.Cond.selects "LogPlacer$Program" ({ cls := "LogPlacer$Program", name := "stepAt", desc := "(II)I" } : Jvm.MethodName) ({ cls := "LogPlacer$Program", name := "stepAt", desc := "(II)I" } : Jvm.MethodName)) ∈ ga_tb := ga_mem 300 (by decide +kernel) rfl
set_option maxRecDepth 20000 in
theorem tm_301 : (Jvm.Cond.code ({ cls := "LogPlacer$Program", name := "stepAt", desc := "(II)I" } : Jvm.MethodName) prog_3_method_9_code (6 : Nat) (Option.some Jvm.ClassFile.FieldType.int)) ∈ ga_tb := ga_mem 301 (rfl) rfl
theorem tm_303 : (Jvm.Cond.static ({ cls := "LogPlacer", name := "member", desc := "(II)I" } : Jvm.MethodName)) ∈ ga_tb := ga_mem 303 (by decide +kernel) rfl
set_option maxRecDepth 20000 in
theorem tm_304 : (Jvm.Cond.code ({ cls := "LogPlacer", name := "member", desc := "(II)I" } : Jvm.MethodName) prog_1_method_27_code (4 : Nat) (Option.some Jvm.ClassFile.FieldType.int)) ∈ ga_tb := ga_mem 304 (rfl) rfl
theorem tm_305 : (Jvm.Cond.methodLink "LogPlacerLaw" (47 : Nat) ({ cls := "LogPlacer", name := "log", desc := "(II)I" } : Jvm.MethodName)) ∈ ga_tb := ga_mem 305 (by decide +kernel) rfl
theorem tm_306 : (Jvm.Cond.instanceMethod ({ cls := "LogPlacer", name := "log", desc := "(II)I" } : Jvm.MethodName)) ∈ ga_tb := ga_mem 306 (by decide +kernel) rfl
theorem tm_307 : (Jvm.Cond.selects "LogPlacer" ({ cls := "LogPlacer", name := "log", desc := "(II)I" } : Jvm.MethodName) ({ cls := "LogPlacer", name := "log", desc := "(II)I" } : Jvm.MethodName)) ∈ ga_tb := ga_mem 307 (by decide +kernel) rfl
set_option maxRecDepth 20000 in
theorem tm_308 : (Jvm.Cond.code ({ cls := "LogPlacer", name := "log", desc := "(II)I" } : Jvm.MethodName) prog_1_method_9_code (3 : Nat) (Option.some Jvm.ClassFile.FieldType.int)) ∈ ga_tb := ga_mem 308 (rfl) rfl
theorem tm_309 : (Jvm.Cond.methodLink "LogPlacerLaw" (51 : Nat) ({ cls := "LogPlacer", name := "heaps", desc := "()I" } : Jvm.MethodName)) ∈ ga_tb := ga_mem 309 (by decide +kernel) rfl
theorem tm_310 : (Jvm.Cond.instanceMethod ({ cls := "LogPlacer", name := "heaps", desc := "()I" } : Jvm.MethodName)) ∈ ga_tb := ga_mem 310 (by decide +kernel) rfl
theorem tm_311 : (Jvm.Cond.selects "LogPlacer" ({ cls := "LogPlacer", name := "heaps", desc := "()I" } : Jvm.MethodName) ({ cls := "LogPlacer", name := "heaps", desc := "()I" } : Jvm.MethodName)) ∈ ga_tb := ga_mem 311 (by decide +kernel) rfl
set_option maxRecDepth 20000 in
theorem tm_312 : (Jvm.Cond.code ({ cls := "LogPlacer", name := "heaps", desc := "()I" } : Jvm.MethodName) prog_1_method_10_code (1 : Nat) (Option.some Jvm.ClassFile.FieldType.int)) ∈ ga_tb := ga_mem 312 (rfl) rfl
theorem tm_313 : (Jvm.Cond.methodLink "LogPlacer" (119 : Nat) ({ cls := "LogPlacer$Routes", name := "logsUnlike", desc := "(I)I" } : Jvm.MethodName)) ∈ ga_tb := ga_mem 313 (by decide +kernel) rfl
theorem tm_314 : (Jvm.Cond.instanceMethod ({ cls := "LogPlacer$Routes", name := "logsUnlike", desc := "(I)I" } : Jvm.MethodName)) ∈ ga_tb := ga_mem 314 (by decide +kernel) rfl
theorem tm_315 : (Jvm.Cond.selects "LogPlacer$Routes" ({ cls := "LogPlacer$Routes", name := "logsUnlike", desc := "(I)I" } : Jvm.MethodName) ({ cls := "LogPlacer$Routes", name := "logsUnlike", desc := "(I)I" } : Jvm.MethodName)) ∈ ga_tb := ga_mem 315 (by decide +kernel) rfl
set_option maxRecDepth 20000 in
theorem tm_316 : (Jvm.Cond.code ({ cls := "LogPlacer$Routes", name := "logsUnlike", desc := "(I)I" } : Jvm.MethodName) prog_5_method_6_code (4 : Nat) (Option.some Jvm.ClassFile.FieldType.int)) ∈ ga_tb := ga_mem 316 (rfl) rfl
theorem tm_317 : (Jvm.Cond.methodLink "LogPlacer$Routes" (51 : Nat) ({ cls := "LogPlacer$Routes", name := "firstLike", desc := "(II)I" } : Jvm.MethodName)) ∈ ga_tb := ga_mem 317 (by decide +kernel) rfl
theorem tm_318 : (Jvm.Cond.instanceMethod ({ cls := "LogPlacer$Routes", name := "firstLike", desc := "(II)I" } : Jvm.MethodName)) ∈ ga_tb := ga_mem 318 (by decide +kernel) rfl
theorem tm_319 : (Jvm.Cond.selects "LogPlacer$Routes" ({ cls := "LogPlacer$Routes", name := "firstLike", desc := "(II)I" } : Jvm.MethodName) ({ cls := "LogPlacer$Routes", name := "firstLike", desc := "(II)I" } : Jvm.MethodName)) ∈ ga_tb := ga_mem 319 (by decide +kernel) rfl
set_option maxRecDepth 20000 in
theorem tm_320 : (Jvm.Cond.code ({ cls := "LogPlacer$Routes", name := "firstLike", desc := "(II)I" } : Jvm.MethodName) prog_5_method_5_code (5 : Nat) (Option.some Jvm.ClassFile.FieldType.int)) ∈ ga_tb := ga_mem 320 (rfl) rfl
theorem tm_321 : (Jvm.Cond.methodLink "LogPlacerLaw" (55 : Nat) ({ cls := "LogPlacer", name := "heap", desc := "(I)I" } : Jvm.MethodName)) ∈ ga_tb := ga_mem 321 (by decide +kernel) rfl
theorem tm_322 : (Jvm.Cond.instanceMethod ({ cls := "LogPlacer", name := "heap", desc := "(I)I" } : Jvm.MethodName)) ∈ ga_tb := ga_mem 322 (by decide +kernel) rfl
theorem tm_323 : (Jvm.Cond.selects "LogPlacer" ({ cls := "LogPlacer", name := "heap", desc := "(I)I" } : Jvm.MethodName) ({ cls := "LogPlacer", name := "heap", desc := "(I)I" } : Jvm.MethodName)) ∈ ga_tb := ga_mem 323 (by decide +kernel) rfl
set_option maxRecDepth 20000 in
theorem tm_324 : (Jvm.Cond.code ({ cls := "LogPlacer", name := "heap", desc := "(I)I" } : Jvm.MethodName) prog_1_method_11_code (2 : Nat) (Option.some Jvm.ClassFile.FieldType.int)) ∈ ga_tb := ga_mem 324 (rfl) rfl
theorem tm_325 : (Jvm.Cond.methodLink "LogPlacer" (123 : Nat) ({ cls := "LogPlacer$Routes", name := "firstLike", desc := "(II)I" } : Jvm.MethodName)) ∈ ga_tb := ga_mem 325 (by decide +kernel) rfl
theorem tm_326 : (Jvm.Cond.methodLink "LogPlacerLaw" (60 : Nat) ({ cls := "LogPlacer", name := "apart", desc := "(I)I" } : Jvm.MethodName)) ∈ ga_tb := ga_mem 326 (by decide +kernel) rfl
theorem tm_327 : (Jvm.Cond.instanceMethod ({ cls := "LogPlacer", name := "apart", desc := "(I)I" } : Jvm.MethodName)) ∈ ga_tb := ga_mem 327 (by decide +kernel) rfl
theorem tm_328 : (Jvm.Cond.selects "LogPlacer" ({ cls := "LogPlacer", name := "apart", desc := "(I)I" } : Jvm.MethodName) ({ cls := "LogPlacer", name := "apart", desc := "(I)I" } : Jvm.MethodName)) ∈ ga_tb := ga_mem 328 (by decide +kernel) rfl
set_option maxRecDepth 20000 in
theorem tm_329 : (Jvm.Cond.code ({ cls := "LogPlacer", name := "apart", desc := "(I)I" } : Jvm.MethodName) prog_1_method_12_code (2 : Nat) (Option.some Jvm.ClassFile.FieldType.int)) ∈ ga_tb := ga_mem 329 (rfl) rfl
theorem tm_330 : (Jvm.Cond.methodLink "LogPlacer" (126 : Nat) ({ cls := "LogPlacer", name := "isWaysOrFaults", desc := "(I)Z" } : Jvm.MethodName)) ∈ ga_tb := ga_mem 330 (by decide +kernel) rfl
theorem tm_331 : (Jvm.Cond.static ({ cls := "LogPlacer", name := "isWaysOrFaults", desc := "(I)Z" } : Jvm.MethodName)) ∈ ga_tb := ga_mem 331 (by decide +kernel) rfl
set_option maxRecDepth 20000 in
theorem tm_332 : (Jvm.Cond.code ({ cls := "LogPlacer", name := "isWaysOrFaults", desc := "(I)Z" } : Jvm.MethodName) prog_1_method_24_code (1 : Nat) (Option.some Jvm.ClassFile.FieldType.boolean)) ∈ ga_tb := ga_mem 332 (rfl) rfl
theorem tm_333 : (Jvm.Cond.methodLink "LogPlacer" (129 : Nat) ({ cls := "LogPlacer", name := "partings", desc := "(I)LLogPlacer$Partings;" } : Jvm.MethodName)) ∈ ga_tb := ga_mem 333 (by decide +kernel) rfl
theorem tm_335 : (Jvm.Cond.instanceMethod ({ cls := "LogPlacer", name := "partings", desc := "(I)LLogPlacer$Partings;" } : Jvm.MethodName)) ∈ ga_tb := ga_mem 335 (by decide +kernel) rfl
set_option maxRecDepth 20000 in
theorem tm_336 : (Jvm.Cond.code ({ cls := "LogPlacer", name := "partings", desc := "(I)LLogPlacer$Partings;" } : Jvm.MethodName) prog_1_method_31_code (3 : Nat) (Option.some (Jvm.ClassFile.FieldType.object "LogPlacer$Partings"))) ∈ ga_tb := ga_mem 336 (rfl) rfl
theorem tm_337 : (Jvm.Cond.methodLink "LogPlacer" (214 : Nat) ({ cls := "LogPlacer$Partings", name := "gather", desc := "(LLogPlacer$Routes;ZI)V" } : Jvm.MethodName)) ∈ ga_tb := ga_mem 337 (by decide +kernel) rfl
theorem tm_338 : (Jvm.Cond.instanceMethod ({ cls := "LogPlacer$Partings", name := "gather", desc := "(LLogPlacer$Routes;ZI)V" } : Jvm.MethodName)) ∈ ga_tb := ga_mem 338 (by decide +kernel) rfl
theorem tm_339 : (Jvm.Cond.selects "LogPlacer$Partings" ({ cls := "LogPlacer$Partings", name := "gather", desc := "(LLogPlacer$Routes;ZI)V" } : Jvm.MethodName) ({ cls := "LogPlacer$Partings", name := "gather", desc := "(LLogPlacer$Routes;ZI)V" } : Jvm.MethodName)) ∈ ga_tb := ga_mem 339 (by decide +kernel) rfl
set_option maxRecDepth 20000 in
theorem tm_340 : (Jvm.Cond.code ({ cls := "LogPlacer$Partings", name := "gather", desc := "(LLogPlacer$Routes;ZI)V" } : Jvm.MethodName) prog_2_method_2_code (7 : Nat) (Option.none : Option Jvm.ClassFile.FieldType)) ∈ ga_tb := ga_mem 340 (rfl) rfl
theorem tm_341 : (Jvm.Cond.methodLink "LogPlacer$Partings" (32 : Nat) ({ cls := "LogPlacer$Partings", name := "add", desc := "(I)V" } : Jvm.MethodName)) ∈ ga_tb := ga_mem 341 (by decide +kernel) rfl
theorem tm_343 : (Jvm.Cond.instanceMethod ({ cls := "LogPlacer$Partings", name := "add", desc := "(I)V" } : Jvm.MethodName)) ∈ ga_tb := ga_mem 343 (by decide +kernel) rfl
set_option maxRecDepth 20000 in
theorem tm_344 : (Jvm.Cond.code ({ cls := "LogPlacer$Partings", name := "add", desc := "(I)V" } : Jvm.MethodName) prog_2_method_3_code (3 : Nat) (Option.none : Option Jvm.ClassFile.FieldType)) ∈ ga_tb := ga_mem 344 (rfl) rfl
theorem tm_345 : (Jvm.Cond.methodLink "LogPlacer$Partings" (36 : Nat) ({ cls := "java/util/Arrays", name := "copyOf", desc := "([II)[I" } : Jvm.MethodName)) ∈ ga_tb := ga_mem 345 (by decide +kernel) rfl
theorem tm_346 : (Jvm.Cond.static ({ cls := "java/util/Arrays", name := "copyOf", desc := "([II)[I" } : Jvm.MethodName)) ∈ ga_tb := ga_mem 346 (by decide +kernel) rfl
set_option maxRecDepth 20000 in
theorem tm_347 : (Jvm.Cond.code ({ cls := "java/util/Arrays", name := "copyOf", desc := "([II)[I" } : Jvm.MethodName) prog_14_method_123_code (3 : Nat) (Option.some (Jvm.ClassFile.FieldType.array Jvm.ClassFile.FieldType.int))) ∈ ga_tb := ga_mem 347 (rfl) rfl
theorem tm_348 : (Jvm.Cond.methodLink "java/util/Arrays" (316 : Nat) ({ cls := "[I", name := "clone", desc := "()Ljava/lang/Object;" } : Jvm.MethodName)) ∈ ga_tb := ga_mem 348 (by decide +kernel) rfl
theorem tm_350 : (Jvm.Cond.native ({ cls := "java/lang/Object", name := "clone", desc := "()Ljava/lang/Object;" } : Jvm.MethodName)) ∈ ga_tb := ga_mem 350 (by decide +kernel) rfl
theorem tm_351 : (Jvm.Cond.instanceMethod ({ cls := "java/lang/Object", name := "clone", desc := "()Ljava/lang/Object;" } : Jvm.MethodName)) ∈ ga_tb := ga_mem 351 (by decide +kernel) rfl
theorem tm_352 : (Jvm.Cond.selects "[I" ({ cls := "[I", name := "clone", desc := "()Ljava/lang/Object;" } : Jvm.MethodName) ({ cls := "java/lang/Object", name := "clone", desc := "()Ljava/lang/Object;" } : Jvm.MethodName)) ∈ ga_tb := ga_mem 352 (by decide +kernel) rfl
theorem tm_354 : (Jvm.Cond.classLink "java/util/Arrays" (317 : Nat) "[I") ∈ ga_tb := ga_mem 354 (by decide +kernel) rfl
theorem tm_355 : (Jvm.Cond.methodLink "java/util/Arrays" (304 : Nat) ({ cls := "java/lang/Math", name := "min", desc := "(II)I" } : Jvm.MethodName)) ∈ ga_tb := ga_mem 355 (by decide +kernel) rfl
theorem tm_356 : (Jvm.Cond.static ({ cls := "java/lang/Math", name := "min", desc := "(II)I" } : Jvm.MethodName)) ∈ ga_tb := ga_mem 356 (by decide +kernel) rfl
set_option maxRecDepth 20000 in
theorem tm_357 : (Jvm.Cond.code ({ cls := "java/lang/Math", name := "min", desc := "(II)I" } : Jvm.MethodName) prog_12_method_69_code (2 : Nat) (Option.some Jvm.ClassFile.FieldType.int)) ∈ ga_tb := ga_mem 357 (rfl) rfl
theorem tm_358 : (Jvm.Cond.methodLink "java/util/Arrays" (150 : Nat) ({ cls := "java/lang/System", name := "arraycopy", desc := "(Ljava/lang/Object;ILjava/lang/Object;II)V" } : Jvm.MethodName)) ∈ ga_tb := ga_mem 358 (by decide +kernel) rfl
theorem tm_359 : (Jvm.Cond.static ({ cls := "java/lang/System", name := "arraycopy", desc := "(Ljava/lang/Object;ILjava/lang/Object;II)V" } : Jvm.MethodName)) ∈ ga_tb := ga_mem 359 (by decide +kernel) rfl
theorem tm_360 : (Jvm.Cond.native ({ cls := "java/lang/System", name := "arraycopy", desc := "(Ljava/lang/Object;ILjava/lang/Object;II)V" } : Jvm.MethodName)) ∈ ga_tb := ga_mem 360 (by decide +kernel) rfl
theorem tm_361 : (Jvm.Cond.methodLink "LogPlacer" (133 : Nat) ({ cls := "LogPlacer$Partings", name := "allMetBy", desc := "(I)Z" } : Jvm.MethodName)) ∈ ga_tb := ga_mem 361 (by decide +kernel) rfl
theorem tm_362 : (Jvm.Cond.instanceMethod ({ cls := "LogPlacer$Partings", name := "allMetBy", desc := "(I)Z" } : Jvm.MethodName)) ∈ ga_tb := ga_mem 362 (by decide +kernel) rfl
theorem tm_363 : (Jvm.Cond.selects "LogPlacer$Partings" ({ cls := "LogPlacer$Partings", name := "allMetBy", desc := "(I)Z" } : Jvm.MethodName) ({ cls := "LogPlacer$Partings", name := "allMetBy", desc := "(I)Z" } : Jvm.MethodName)) ∈ ga_tb := ga_mem 363 (by decide +kernel) rfl
set_option maxRecDepth 20000 in
theorem tm_364 : (Jvm.Cond.code ({ cls := "LogPlacer$Partings", name := "allMetBy", desc := "(I)Z" } : Jvm.MethodName) prog_2_method_4_code (2 : Nat) (Option.some Jvm.ClassFile.FieldType.boolean)) ∈ ga_tb := ga_mem 364 (rfl) rfl
theorem tm_365 : (Jvm.Cond.methodLink "LogPlacer$Partings" (42 : Nat) ({ cls := "LogPlacer$Partings", name := "firstNotMetBy", desc := "(II)I" } : Jvm.MethodName)) ∈ ga_tb := ga_mem 365 (by decide +kernel) rfl
theorem tm_366 : (Jvm.Cond.instanceMethod ({ cls := "LogPlacer$Partings", name := "firstNotMetBy", desc := "(II)I" } : Jvm.MethodName)) ∈ ga_tb := ga_mem 366 (by decide +kernel) rfl
theorem tm_367 : (Jvm.Cond.selects "LogPlacer$Partings" ({ cls := "LogPlacer$Partings", name := "firstNotMetBy", desc := "(II)I" } : Jvm.MethodName) ({ cls := "LogPlacer$Partings", name := "firstNotMetBy", desc := "(II)I" } : Jvm.MethodName)) ∈ ga_tb := ga_mem 367 (by decide +kernel) rfl
set_option maxRecDepth 20000 in
theorem tm_368 : (Jvm.Cond.code ({ cls := "LogPlacer$Partings", name := "firstNotMetBy", desc := "(II)I" } : Jvm.MethodName) prog_2_method_5_code (4 : Nat) (Option.some Jvm.ClassFile.FieldType.int)) ∈ ga_tb := ga_mem 368 (rfl) rfl
theorem tm_369 : (Jvm.Cond.methodLink "LogPlacerLaw" (64 : Nat) ({ cls := "LogPlacer", name := "cheapest", desc := "(IZ)I" } : Jvm.MethodName)) ∈ ga_tb := ga_mem 369 (by decide +kernel) rfl
theorem tm_370 : (Jvm.Cond.instanceMethod ({ cls := "LogPlacer", name := "cheapest", desc := "(IZ)I" } : Jvm.MethodName)) ∈ ga_tb := ga_mem 370 (by decide +kernel) rfl
theorem tm_371 : (Jvm.Cond.selects "LogPlacer" ({ cls := "LogPlacer", name := "cheapest", desc := "(IZ)I" } : Jvm.MethodName) ({ cls := "LogPlacer", name := "cheapest", desc := "(IZ)I" } : Jvm.MethodName)) ∈ ga_tb := ga_mem 371 (by decide +kernel) rfl
set_option maxRecDepth 20000 in
theorem tm_372 : (Jvm.Cond.code ({ cls := "LogPlacer", name := "cheapest", desc := "(IZ)I" } : Jvm.MethodName) prog_1_method_13_code (3 : Nat) (Option.some Jvm.ClassFile.FieldType.int)) ∈ ga_tb := ga_mem 372 (rfl) rfl
theorem tm_373 : (Jvm.Cond.methodLink "LogPlacer" (136 : Nat) ({ cls := "LogPlacer$Search", name := "cheapestWith", desc := "(ILLogPlacer$Partings;)I" } : Jvm.MethodName)) ∈ ga_tb := ga_mem 373 (by decide +kernel) rfl
theorem tm_374 : (Jvm.Cond.instanceMethod ({ cls := "LogPlacer$Search", name := "cheapestWith", desc := "(ILLogPlacer$Partings;)I" } : Jvm.MethodName)) ∈ ga_tb := ga_mem 374 (by decide +kernel) rfl
theorem tm_375 : (Jvm.Cond.selects "LogPlacer$Search" ({ cls := "LogPlacer$Search", name := "cheapestWith", desc := "(ILLogPlacer$Partings;)I" } : Jvm.MethodName) ({ cls := "LogPlacer$Search", name := "cheapestWith", desc := "(ILLogPlacer$Partings;)I" } : Jvm.MethodName)) ∈ ga_tb := ga_mem 375 (by decide +kernel) rfl
set_option maxRecDepth 20000 in
theorem tm_376 : (Jvm.Cond.code ({ cls := "LogPlacer$Search", name := "cheapestWith", desc := "(ILLogPlacer$Partings;)I" } : Jvm.MethodName) prog_6_method_2_code (3 : Nat) (Option.some Jvm.ClassFile.FieldType.int)) ∈ ga_tb := ga_mem 376 (rfl) rfl
theorem tm_377 : (Jvm.Cond.methodLink "LogPlacer$Search" (15 : Nat) ({ cls := "LogPlacer$Program", name := "allSteps", desc := "()I" } : Jvm.MethodName)) ∈ ga_tb := ga_mem 377 (by decide +kernel) rfl
theorem tm_378 : (Jvm.Cond.instanceMethod ({ cls := "LogPlacer$Program", name := "allSteps", desc := "()I" } : Jvm.MethodName)) ∈ ga_tb := ga_mem 378 (by decide +kernel) rfl
theorem tm_379 : (Jvm.Cond.selects "LogPlacer$Program" ({ cls := "LogPlacer$Program", name := "allSteps", desc := "()I" } : Jvm.MethodName) ({ cls := "LogPlacer$Program", name := "allSteps", desc := "()I" } : Jvm.MethodName)) ∈ ga_tb := ga_mem 379 (by decide +kernel) rfl
set_option maxRecDepth 20000 in
theorem tm_380 : (Jvm.Cond.code ({ cls := "LogPlacer$Program", name := "allSteps", desc := "()I" } : Jvm.MethodName) prog_3_method_6_code (1 : Nat) (Option.some Jvm.ClassFile.FieldType.int)) ∈ ga_tb := ga_mem 380 (rfl) rfl
theorem tm_381 : (Jvm.Cond.methodLink "LogPlacer$Search" (25 : Nat) ({ cls := "LogPlacer$Program", name := "priceOf", desc := "(I)J" } : Jvm.MethodName)) ∈ ga_tb := ga_mem 381 (by decide +kernel) rfl
theorem tm_382 : (Jvm.Cond.instanceMethod ({ cls := "LogPlacer$Program", name := "priceOf", desc := "(I)J" } : Jvm.MethodName)) ∈ ga_tb := ga_mem 382 (by decide +kernel) rfl
theorem tm_383 : (Jvm.Cond.selects "LogPlacer$Program" ({ cls := "LogPlacer$Program", name := "priceOf", desc := "(I)J" } : Jvm.MethodName) ({ cls := "LogPlacer$Program", name := "priceOf", desc := "(I)J" } : Jvm.MethodName)) ∈ ga_tb := ga_mem 383 (by decide +kernel) rfl
set_option maxRecDepth 20000 in
theorem tm_384 : (Jvm.Cond.code ({ cls := "LogPlacer$Program", name := "priceOf", desc := "(I)J" } : Jvm.MethodName) prog_3_method_8_code (5 : Nat) (Option.some Jvm.ClassFile.FieldType.long)) ∈ ga_tb := ga_mem 384 (rfl) rfl
theorem tm_386 : (Jvm.Cond.methodLink "LogPlacer$Search" (33 : Nat) ({ cls := "LogPlacer$Search", name := "choose", desc := "(LLogPlacer$Search;LLogPlacer$Partings;IIIJI)V" } : Jvm.MethodName)) ∈ ga_tb := ga_mem 386 (by decide +kernel) rfl
theorem tm_387 : (Jvm.Cond.static ({ cls := "LogPlacer$Search", name := "choose", desc := "(LLogPlacer$Search;LLogPlacer$Partings;IIIJI)V" } : Jvm.MethodName)) ∈ ga_tb := ga_mem 387 (by decide +kernel) rfl
set_option maxRecDepth 20000 in
theorem tm_388 : (Jvm.Cond.code ({ cls := "LogPlacer$Search", name := "choose", desc := "(LLogPlacer$Search;LLogPlacer$Partings;IIIJI)V" } : Jvm.MethodName) prog_6_method_3_code (14 : Nat) (Option.none : Option Jvm.ClassFile.FieldType)) ∈ ga_tb := ga_mem 388 (rfl) rfl
theorem tm_389 : (Jvm.Cond.methodLink "LogPlacer$Search" (37 : Nat) ({ cls := "LogPlacer$Partings", name := "firstNotMetBy", desc := "(II)I" } : Jvm.MethodName)) ∈ ga_tb := ga_mem 389 (by decide +kernel) rfl
theorem tm_390 : (Jvm.Cond.methodLink "LogPlacer$Search" (46 : Nat) ({ cls := "LogPlacer$Search", name := "offer", desc := "(IJ)V" } : Jvm.MethodName)) ∈ ga_tb := ga_mem 390 (by decide +kernel) rfl
theorem tm_392 : (Jvm.Cond.instanceMethod ({ cls := "LogPlacer$Search", name := "offer", desc := "(IJ)V" } : Jvm.MethodName)) ∈ ga_tb := ga_mem 392 (by decide +kernel) rfl
set_option maxRecDepth 20000 in
theorem tm_393 : (Jvm.Cond.code ({ cls := "LogPlacer$Search", name := "offer", desc := "(IJ)V" } : Jvm.MethodName) prog_6_method_4_code (4 : Nat) (Option.none : Option Jvm.ClassFile.FieldType)) ∈ ga_tb := ga_mem 393 (rfl) rfl
theorem tm_394 : (Jvm.Cond.methodLink "LogPlacer$Search" (64 : Nat) ({ cls := "LogPlacer$Search", name := "isRatherThan", desc := "(II)Z" } : Jvm.MethodName)) ∈ ga_tb := ga_mem 394 (by decide +kernel) rfl
theorem tm_395 : (Jvm.Cond.static ({ cls := "LogPlacer$Search", name := "isRatherThan", desc := "(II)Z" } : Jvm.MethodName)) ∈ ga_tb := ga_mem 395 (by decide +kernel) rfl
set_option maxRecDepth 20000 in
theorem tm_396 : (Jvm.Cond.code ({ cls := "LogPlacer$Search", name := "isRatherThan", desc := "(II)Z" } : Jvm.MethodName) prog_6_method_5_code (5 : Nat) (Option.some Jvm.ClassFile.FieldType.boolean)) ∈ ga_tb := ga_mem 396 (rfl) rfl
theorem tm_397 : (Jvm.Cond.methodLink "LogPlacer$Search" (67 : Nat) ({ cls := "java/lang/Integer", name := "bitCount", desc := "(I)I" } : Jvm.MethodName)) ∈ ga_tb := ga_mem 397 (by decide +kernel) rfl
theorem tm_398 : (Jvm.Cond.static ({ cls := "java/lang/Integer", name := "bitCount", desc := "(I)I" } : Jvm.MethodName)) ∈ ga_tb := ga_mem 398 (by decide +kernel) rfl
set_option maxRecDepth 20000 in
theorem tm_399 : (Jvm.Cond.code ({ cls := "java/lang/Integer", name := "bitCount", desc := "(I)I" } : Jvm.MethodName) prog_11_method_49_code (1 : Nat) (Option.some Jvm.ClassFile.FieldType.int)) ∈ ga_tb := ga_mem 399 (rfl) rfl
theorem tm_400 : (Jvm.Cond.constant "java/lang/Integer" (265 : Nat) (1431655765 : Int32)) ∈ ga_tb := ga_mem 400 (by decide +kernel) rfl
theorem tm_401 : (Jvm.Cond.constant "java/lang/Integer" (266 : Nat) (858993459 : Int32)) ∈ ga_tb := ga_mem 401 (by decide +kernel) rfl
theorem tm_402 : (Jvm.Cond.constant "java/lang/Integer" (267 : Nat) (252645135 : Int32)) ∈ ga_tb := ga_mem 402 (by decide +kernel) rfl
theorem tm_404 : (Jvm.Cond.methodLink "LogPlacerLaw" (69 : Nat) ({ cls := "LogPlacer", name := "price", desc := "(I)J" } : Jvm.MethodName)) ∈ ga_tb := ga_mem 404 (by decide +kernel) rfl
theorem tm_405 : (Jvm.Cond.instanceMethod ({ cls := "LogPlacer", name := "price", desc := "(I)J" } : Jvm.MethodName)) ∈ ga_tb := ga_mem 405 (by decide +kernel) rfl
theorem tm_406 : (Jvm.Cond.selects "LogPlacer" ({ cls := "LogPlacer", name := "price", desc := "(I)J" } : Jvm.MethodName) ({ cls := "LogPlacer", name := "price", desc := "(I)J" } : Jvm.MethodName)) ∈ ga_tb := ga_mem 406 (by decide +kernel) rfl
set_option maxRecDepth 20000 in
theorem tm_407 : (Jvm.Cond.code ({ cls := "LogPlacer", name := "price", desc := "(I)J" } : Jvm.MethodName) prog_1_method_14_code (2 : Nat) (Option.some Jvm.ClassFile.FieldType.long)) ∈ ga_tb := ga_mem 407 (rfl) rfl
theorem tm_408 : (Jvm.Cond.methodLink "LogPlacer" (140 : Nat) ({ cls := "LogPlacer$Program", name := "allSteps", desc := "()I" } : Jvm.MethodName)) ∈ ga_tb := ga_mem 408 (by decide +kernel) rfl
theorem tm_409 : (Jvm.Cond.methodLink "LogPlacer" (144 : Nat) ({ cls := "LogPlacer$Program", name := "priceOf", desc := "(I)J" } : Jvm.MethodName)) ∈ ga_tb := ga_mem 409 (by decide +kernel) rfl
theorem tm_410 : (Jvm.Cond.constantLong "LogPlacer" (148 : Nat) (-1 : Int64)) ∈ ga_tb := ga_mem 410 (by decide +kernel) rfl
theorem tm_411 : (Jvm.Cond.methodLink "LogPlacerLaw" (74 : Nat) ({ cls := "LogPlacer", name := "useless", desc := "(I)I" } : Jvm.MethodName)) ∈ ga_tb := ga_mem 411 (by decide +kernel) rfl
theorem tm_412 : (Jvm.Cond.instanceMethod ({ cls := "LogPlacer", name := "useless", desc := "(I)I" } : Jvm.MethodName)) ∈ ga_tb := ga_mem 412 (by decide +kernel) rfl
theorem tm_413 : (Jvm.Cond.selects "LogPlacer" ({ cls := "LogPlacer", name := "useless", desc := "(I)I" } : Jvm.MethodName) ({ cls := "LogPlacer", name := "useless", desc := "(I)I" } : Jvm.MethodName)) ∈ ga_tb := ga_mem 413 (by decide +kernel) rfl
set_option maxRecDepth 20000 in
theorem tm_414 : (Jvm.Cond.code ({ cls := "LogPlacer", name := "useless", desc := "(I)I" } : Jvm.MethodName) prog_1_method_15_code (2 : Nat) (Option.some Jvm.ClassFile.FieldType.int)) ∈ ga_tb := ga_mem 414 (rfl) rfl
theorem tm_415 : (Jvm.Cond.methodLink "LogPlacer" (150 : Nat) ({ cls := "LogPlacer$Routes", name := "soleParters", desc := "(I)I" } : Jvm.MethodName)) ∈ ga_tb := ga_mem 415 (by decide +kernel) rfl
theorem tm_416 : (Jvm.Cond.instanceMethod ({ cls := "LogPlacer$Routes", name := "soleParters", desc := "(I)I" } : Jvm.MethodName)) ∈ ga_tb := ga_mem 416 (by decide +kernel) rfl
theorem tm_417 : (Jvm.Cond.selects "LogPlacer$Routes" ({ cls := "LogPlacer$Routes", name := "soleParters", desc := "(I)I" } : Jvm.MethodName) ({ cls := "LogPlacer$Routes", name := "soleParters", desc := "(I)I" } : Jvm.MethodName)) ∈ ga_tb := ga_mem 417 (by decide +kernel) rfl
set_option maxRecDepth 20000 in
theorem tm_418 : (Jvm.Cond.code ({ cls := "LogPlacer$Routes", name := "soleParters", desc := "(I)I" } : Jvm.MethodName) prog_5_method_7_code (6 : Nat) (Option.some Jvm.ClassFile.FieldType.int)) ∈ ga_tb := ga_mem 418 (rfl) rfl
theorem tm_419 : (Jvm.Cond.methodLink "LogPlacer$Routes" (55 : Nat) ({ cls := "java/lang/Integer", name := "bitCount", desc := "(I)I" } : Jvm.MethodName)) ∈ ga_tb := ga_mem 419 (by decide +kernel) rfl
theorem tm_420 : (Jvm.Cond.methodLink "LogPlacer" (153 : Nat) ({ cls := "LogPlacer", name := "member", desc := "(II)I" } : Jvm.MethodName)) ∈ ga_tb := ga_mem 420 (by decide +kernel) rfl
theorem tm_421 : (Jvm.Cond.methodLink "LogPlacerLaw" (78 : Nat) ({ cls := "LogPlacer", name := "why", desc := "(II)I" } : Jvm.MethodName)) ∈ ga_tb := ga_mem 421 (by decide +kernel) rfl
theorem tm_422 : (Jvm.Cond.instanceMethod ({ cls := "LogPlacer", name := "why", desc := "(II)I" } : Jvm.MethodName)) ∈ ga_tb := ga_mem 422 (by decide +kernel) rfl
theorem tm_423 : (Jvm.Cond.selects "LogPlacer" ({ cls := "LogPlacer", name := "why", desc := "(II)I" } : Jvm.MethodName) ({ cls := "LogPlacer", name := "why", desc := "(II)I" } : Jvm.MethodName)) ∈ ga_tb := ga_mem 423 (by decide +kernel) rfl
set_option maxRecDepth 20000 in
theorem tm_424 : (Jvm.Cond.code ({ cls := "LogPlacer", name := "why", desc := "(II)I" } : Jvm.MethodName) prog_1_method_16_code (4 : Nat) (Option.some Jvm.ClassFile.FieldType.int)) ∈ ga_tb := ga_mem 424 (rfl) rfl
theorem tm_425 : (Jvm.Cond.methodLink "LogPlacer" (156 : Nat) ({ cls := "LogPlacer", name := "isFirstOrOther", desc := "(I)Z" } : Jvm.MethodName)) ∈ ga_tb := ga_mem 425 (by decide +kernel) rfl
theorem tm_426 : (Jvm.Cond.static ({ cls := "LogPlacer", name := "isFirstOrOther", desc := "(I)Z" } : Jvm.MethodName)) ∈ ga_tb := ga_mem 426 (by decide +kernel) rfl
set_option maxRecDepth 20000 in
theorem tm_427 : (Jvm.Cond.code ({ cls := "LogPlacer", name := "isFirstOrOther", desc := "(I)Z" } : Jvm.MethodName) prog_1_method_25_code (1 : Nat) (Option.some Jvm.ClassFile.FieldType.boolean)) ∈ ga_tb := ga_mem 427 (rfl) rfl
theorem tm_428 : (Jvm.Cond.methodLink "LogPlacer" (159 : Nat) ({ cls := "LogPlacer$Routes", name := "firstPairPartedBy", desc := "(II)I" } : Jvm.MethodName)) ∈ ga_tb := ga_mem 428 (by decide +kernel) rfl
theorem tm_429 : (Jvm.Cond.instanceMethod ({ cls := "LogPlacer$Routes", name := "firstPairPartedBy", desc := "(II)I" } : Jvm.MethodName)) ∈ ga_tb := ga_mem 429 (by decide +kernel) rfl
theorem tm_430 : (Jvm.Cond.selects "LogPlacer$Routes" ({ cls := "LogPlacer$Routes", name := "firstPairPartedBy", desc := "(II)I" } : Jvm.MethodName) ({ cls := "LogPlacer$Routes", name := "firstPairPartedBy", desc := "(II)I" } : Jvm.MethodName)) ∈ ga_tb := ga_mem 430 (by decide +kernel) rfl
set_option maxRecDepth 20000 in
theorem tm_431 : (Jvm.Cond.code ({ cls := "LogPlacer$Routes", name := "firstPairPartedBy", desc := "(II)I" } : Jvm.MethodName) prog_5_method_8_code (5 : Nat) (Option.some Jvm.ClassFile.FieldType.int)) ∈ ga_tb := ga_mem 431 (rfl) rfl
theorem tm_432 : (Jvm.Cond.methodLink "LogPlacerLaw" (82 : Nat) ({ cls := "LogPlacer", name := "feed", desc := "(IIIII)I" } : Jvm.MethodName)) ∈ ga_tb := ga_mem 432 (by decide +kernel) rfl
theorem tm_433 : (Jvm.Cond.instanceMethod ({ cls := "LogPlacer", name := "feed", desc := "(IIIII)I" } : Jvm.MethodName)) ∈ ga_tb := ga_mem 433 (by decide +kernel) rfl
theorem tm_434 : (Jvm.Cond.selects "LogPlacer" ({ cls := "LogPlacer", name := "feed", desc := "(IIIII)I" } : Jvm.MethodName) ({ cls := "LogPlacer", name := "feed", desc := "(IIIII)I" } : Jvm.MethodName)) ∈ ga_tb := ga_mem 434 (by decide +kernel) rfl
set_option maxRecDepth 20000 in
theorem tm_435 : (Jvm.Cond.code ({ cls := "LogPlacer", name := "feed", desc := "(IIIII)I" } : Jvm.MethodName) prog_1_method_17_code (6 : Nat) (Option.some Jvm.ClassFile.FieldType.int)) ∈ ga_tb := ga_mem 435 (rfl) rfl
theorem tm_436 : (Jvm.Cond.methodLink "LogPlacer" (165 : Nat) ({ cls := "LogPlacer$Tape", name := "put", desc := "(I)V" } : Jvm.MethodName)) ∈ ga_tb := ga_mem 436 (by decide +kernel) rfl
theorem tm_437 : (Jvm.Cond.instanceMethod ({ cls := "LogPlacer$Tape", name := "put", desc := "(I)V" } : Jvm.MethodName)) ∈ ga_tb := ga_mem 437 (by decide +kernel) rfl
theorem tm_438 : (Jvm.Cond.selects "LogPlacer$Tape" ({ cls := "LogPlacer$Tape", name := "put", desc := "(I)V" } : Jvm.MethodName) ({ cls := "LogPlacer$Tape", name := "put", desc := "(I)V" } : Jvm.MethodName)) ∈ ga_tb := ga_mem 438 (by decide +kernel) rfl
set_option maxRecDepth 20000 in
theorem tm_439 : (Jvm.Cond.code ({ cls := "LogPlacer$Tape", name := "put", desc := "(I)V" } : Jvm.MethodName) prog_7_method_2_code (3 : Nat) (Option.none : Option Jvm.ClassFile.FieldType)) ∈ ga_tb := ga_mem 439 (rfl) rfl
theorem tm_440 : (Jvm.Cond.methodLink "LogPlacerLaw" (87 : Nat) ({ cls := "LogPlacer", name := "read", desc := "(IZ)I" } : Jvm.MethodName)) ∈ ga_tb := ga_mem 440 (by decide +kernel) rfl
theorem tm_441 : (Jvm.Cond.instanceMethod ({ cls := "LogPlacer", name := "read", desc := "(IZ)I" } : Jvm.MethodName)) ∈ ga_tb := ga_mem 441 (by decide +kernel) rfl
theorem tm_442 : (Jvm.Cond.selects "LogPlacer" ({ cls := "LogPlacer", name := "read", desc := "(IZ)I" } : Jvm.MethodName) ({ cls := "LogPlacer", name := "read", desc := "(IZ)I" } : Jvm.MethodName)) ∈ ga_tb := ga_mem 442 (by decide +kernel) rfl
set_option maxRecDepth 20000 in
theorem tm_443 : (Jvm.Cond.code ({ cls := "LogPlacer", name := "read", desc := "(IZ)I" } : Jvm.MethodName) prog_1_method_18_code (3 : Nat) (Option.some Jvm.ClassFile.FieldType.int)) ∈ ga_tb := ga_mem 443 (rfl) rfl
theorem tm_444 : (Jvm.Cond.methodLink "LogPlacer" (168 : Nat) ({ cls := "LogPlacer$Reading", name := "take", desc := "(LLogPlacer$Tape;IZ)V" } : Jvm.MethodName)) ∈ ga_tb := ga_mem 444 (by decide +kernel) rfl
theorem tm_445 : (Jvm.Cond.instanceMethod ({ cls := "LogPlacer$Reading", name := "take", desc := "(LLogPlacer$Tape;IZ)V" } : Jvm.MethodName)) ∈ ga_tb := ga_mem 445 (by decide +kernel) rfl
theorem tm_446 : (Jvm.Cond.selects "LogPlacer$Reading" ({ cls := "LogPlacer$Reading", name := "take", desc := "(LLogPlacer$Tape;IZ)V" } : Jvm.MethodName) ({ cls := "LogPlacer$Reading", name := "take", desc := "(LLogPlacer$Tape;IZ)V" } : Jvm.MethodName)) ∈ ga_tb := ga_mem 446 (by decide +kernel) rfl
set_option maxRecDepth 20000 in
theorem tm_447 : (Jvm.Cond.code ({ cls := "LogPlacer$Reading", name := "take", desc := "(LLogPlacer$Tape;IZ)V" } : Jvm.MethodName) prog_4_method_3_code (5 : Nat) (Option.none : Option Jvm.ClassFile.FieldType)) ∈ ga_tb := ga_mem 447 (rfl) rfl
theorem tm_448 : (Jvm.Cond.methodLink "LogPlacer" (172 : Nat) ({ cls := "LogPlacer$Reading", name := "fit", desc := "(LLogPlacer$Program;)V" } : Jvm.MethodName)) ∈ ga_tb := ga_mem 448 (by decide +kernel) rfl
theorem tm_449 : (Jvm.Cond.instanceMethod ({ cls := "LogPlacer$Reading", name := "fit", desc := "(LLogPlacer$Program;)V" } : Jvm.MethodName)) ∈ ga_tb := ga_mem 449 (by decide +kernel) rfl
theorem tm_450 : (Jvm.Cond.selects "LogPlacer$Reading" ({ cls := "LogPlacer$Reading", name := "fit", desc := "(LLogPlacer$Program;)V" } : Jvm.MethodName) ({ cls := "LogPlacer$Reading", name := "fit", desc := "(LLogPlacer$Program;)V" } : Jvm.MethodName)) ∈ ga_tb := ga_mem 450 (by decide +kernel) rfl
set_option maxRecDepth 20000 in
theorem tm_451 : (Jvm.Cond.code ({ cls := "LogPlacer$Reading", name := "fit", desc := "(LLogPlacer$Program;)V" } : Jvm.MethodName) prog_4_method_4_code (5 : Nat) (Option.none : Option Jvm.ClassFile.FieldType)) ∈ ga_tb := ga_mem 451 (rfl) rfl
theorem tm_452 : (Jvm.Cond.methodLink "LogPlacer$Reading" (34 : Nat) ({ cls := "LogPlacer$Program", name := "hasStep", desc := "(I)Z" } : Jvm.MethodName)) ∈ ga_tb := ga_mem 452 (by decide +kernel) rfl
theorem tm_453 : (Jvm.Cond.methodLink "LogPlacer$Reading" (46 : Nat) ({ cls := "LogPlacer$Program", name := "stepsFromBelow", desc := "(I)I" } : Jvm.MethodName)) ∈ ga_tb := ga_mem 453 (by decide +kernel) rfl
theorem tm_454 : (Jvm.Cond.instanceMethod ({ cls := "LogPlacer$Program", name := "stepsFromBelow", desc := "(I)I" } : Jvm.MethodName)) ∈ ga_tb := ga_mem 454 (by decide +kernel) rfl
theorem tm_455 : (Jvm.Cond.selects "LogPlacer$Program" ({ cls := "LogPlacer$Program", name := "stepsFromBelow", desc := "(I)I" } : Jvm.MethodName) ({ cls := "LogPlacer$Program", name := "stepsFromBelow", desc := "(I)I" } : Jvm.MethodName)) ∈ ga_tb := ga_mem 455 (by decide +kernel) rfl
set_option maxRecDepth 20000 in
theorem tm_456 : (Jvm.Cond.code ({ cls := "LogPlacer$Program", name := "stepsFromBelow", desc := "(I)I" } : Jvm.MethodName) prog_3_method_7_code (4 : Nat) (Option.some Jvm.ClassFile.FieldType.int)) ∈ ga_tb := ga_mem 456 (rfl) rfl
theorem tm_457 : (Jvm.Cond.methodLink "LogPlacer$Reading" (50 : Nat) ({ cls := "LogPlacer$Program", name := "allSteps", desc := "()I" } : Jvm.MethodName)) ∈ ga_tb := ga_mem 457 (by decide +kernel) rfl
theorem tm_458 : (Jvm.Cond.methodLink "LogPlacer" (175 : Nat) ({ cls := "LogPlacer$Reading", name := "howManyOf", desc := "(LLogPlacer$Routes;)I" } : Jvm.MethodName)) ∈ ga_tb := ga_mem 458 (by decide +kernel) rfl
theorem tm_459 : (Jvm.Cond.instanceMethod ({ cls := "LogPlacer$Reading", name := "howManyOf", desc := "(LLogPlacer$Routes;)I" } : Jvm.MethodName)) ∈ ga_tb := ga_mem 459 (by decide +kernel) rfl
theorem tm_460 : (Jvm.Cond.selects "LogPlacer$Reading" ({ cls := "LogPlacer$Reading", name := "howManyOf", desc := "(LLogPlacer$Routes;)I" } : Jvm.MethodName) ({ cls := "LogPlacer$Reading", name := "howManyOf", desc := "(LLogPlacer$Routes;)I" } : Jvm.MethodName)) ∈ ga_tb := ga_mem 460 (by decide +kernel) rfl
set_option maxRecDepth 20000 in
theorem tm_461 : (Jvm.Cond.code ({ cls := "LogPlacer$Reading", name := "howManyOf", desc := "(LLogPlacer$Routes;)I" } : Jvm.MethodName) prog_4_method_6_code (4 : Nat) (Option.some Jvm.ClassFile.FieldType.int)) ∈ ga_tb := ga_mem 461 (rfl) rfl
theorem tm_462 : (Jvm.Cond.methodLink "LogPlacer$Reading" (65 : Nat) ({ cls := "LogPlacer$Reading", name := "allows", desc := "(I)Z" } : Jvm.MethodName)) ∈ ga_tb := ga_mem 462 (by decide +kernel) rfl
theorem tm_463 : (Jvm.Cond.instanceMethod ({ cls := "LogPlacer$Reading", name := "allows", desc := "(I)Z" } : Jvm.MethodName)) ∈ ga_tb := ga_mem 463 (by decide +kernel) rfl
theorem tm_464 : (Jvm.Cond.selects "LogPlacer$Reading" ({ cls := "LogPlacer$Reading", name := "allows", desc := "(I)Z" } : Jvm.MethodName) ({ cls := "LogPlacer$Reading", name := "allows", desc := "(I)Z" } : Jvm.MethodName)) ∈ ga_tb := ga_mem 464 (by decide +kernel) rfl
set_option maxRecDepth 20000 in
theorem tm_465 : (Jvm.Cond.code ({ cls := "LogPlacer$Reading", name := "allows", desc := "(I)Z" } : Jvm.MethodName) prog_4_method_5_code (2 : Nat) (Option.some Jvm.ClassFile.FieldType.boolean)) ∈ ga_tb := ga_mem 465 (rfl) rfl
theorem tm_466 : (Jvm.Cond.methodLink "LogPlacerLaw" (91 : Nat) ({ cls := "LogPlacer", name := "allowed", desc := "(I)I" } : Jvm.MethodName)) ∈ ga_tb := ga_mem 466 (by decide +kernel) rfl
theorem tm_467 : (Jvm.Cond.instanceMethod ({ cls := "LogPlacer", name := "allowed", desc := "(I)I" } : Jvm.MethodName)) ∈ ga_tb := ga_mem 467 (by decide +kernel) rfl
theorem tm_468 : (Jvm.Cond.selects "LogPlacer" ({ cls := "LogPlacer", name := "allowed", desc := "(I)I" } : Jvm.MethodName) ({ cls := "LogPlacer", name := "allowed", desc := "(I)I" } : Jvm.MethodName)) ∈ ga_tb := ga_mem 468 (by decide +kernel) rfl
set_option maxRecDepth 20000 in
theorem tm_469 : (Jvm.Cond.code ({ cls := "LogPlacer", name := "allowed", desc := "(I)I" } : Jvm.MethodName) prog_1_method_19_code (2 : Nat) (Option.some Jvm.ClassFile.FieldType.int)) ∈ ga_tb := ga_mem 469 (rfl) rfl
theorem tm_470 : (Jvm.Cond.methodLink "LogPlacer" (179 : Nat) ({ cls := "LogPlacer$Reading", name := "memberOf", desc := "(LLogPlacer$Routes;I)I" } : Jvm.MethodName)) ∈ ga_tb := ga_mem 470 (by decide +kernel) rfl
theorem tm_471 : (Jvm.Cond.instanceMethod ({ cls := "LogPlacer$Reading", name := "memberOf", desc := "(LLogPlacer$Routes;I)I" } : Jvm.MethodName)) ∈ ga_tb := ga_mem 471 (by decide +kernel) rfl
theorem tm_472 : (Jvm.Cond.selects "LogPlacer$Reading" ({ cls := "LogPlacer$Reading", name := "memberOf", desc := "(LLogPlacer$Routes;I)I" } : Jvm.MethodName) ({ cls := "LogPlacer$Reading", name := "memberOf", desc := "(LLogPlacer$Routes;I)I" } : Jvm.MethodName)) ∈ ga_tb := ga_mem 472 (by decide +kernel) rfl
set_option maxRecDepth 20000 in
theorem tm_473 : (Jvm.Cond.code ({ cls := "LogPlacer$Reading", name := "memberOf", desc := "(LLogPlacer$Routes;I)I" } : Jvm.MethodName) prog_4_method_7_code (5 : Nat) (Option.some Jvm.ClassFile.FieldType.int)) ∈ ga_tb := ga_mem 473 (rfl) rfl
theorem tm_474 : (Jvm.Cond.methodLink "LogPlacerLaw" (95 : Nat) ({ cls := "LogPlacer", name := "found", desc := "(I)I" } : Jvm.MethodName)) ∈ ga_tb := ga_mem 474 (by decide +kernel) rfl
theorem tm_475 : (Jvm.Cond.instanceMethod ({ cls := "LogPlacer", name := "found", desc := "(I)I" } : Jvm.MethodName)) ∈ ga_tb := ga_mem 475 (by decide +kernel) rfl
theorem tm_476 : (Jvm.Cond.selects "LogPlacer" ({ cls := "LogPlacer", name := "found", desc := "(I)I" } : Jvm.MethodName) ({ cls := "LogPlacer", name := "found", desc := "(I)I" } : Jvm.MethodName)) ∈ ga_tb := ga_mem 476 (by decide +kernel) rfl
set_option maxRecDepth 20000 in
theorem tm_477 : (Jvm.Cond.code ({ cls := "LogPlacer", name := "found", desc := "(I)I" } : Jvm.MethodName) prog_1_method_20_code (5 : Nat) (Option.some Jvm.ClassFile.FieldType.int)) ∈ ga_tb := ga_mem 477 (rfl) rfl
theorem tm_478 : (Jvm.Cond.methodLink "LogPlacer" (186 : Nat) ({ cls := "LogPlacer$Reading", name := "inAll", desc := "(LLogPlacer$Routes;[I)I" } : Jvm.MethodName)) ∈ ga_tb := ga_mem 478 (by decide +kernel) rfl
theorem tm_479 : (Jvm.Cond.instanceMethod ({ cls := "LogPlacer$Reading", name := "inAll", desc := "(LLogPlacer$Routes;[I)I" } : Jvm.MethodName)) ∈ ga_tb := ga_mem 479 (by decide +kernel) rfl
theorem tm_480 : (Jvm.Cond.selects "LogPlacer$Reading" ({ cls := "LogPlacer$Reading", name := "inAll", desc := "(LLogPlacer$Routes;[I)I" } : Jvm.MethodName) ({ cls := "LogPlacer$Reading", name := "inAll", desc := "(LLogPlacer$Routes;[I)I" } : Jvm.MethodName)) ∈ ga_tb := ga_mem 480 (by decide +kernel) rfl
set_option maxRecDepth 20000 in
theorem tm_481 : (Jvm.Cond.code ({ cls := "LogPlacer$Reading", name := "inAll", desc := "(LLogPlacer$Routes;[I)I" } : Jvm.MethodName) prog_4_method_8_code (5 : Nat) (Option.some Jvm.ClassFile.FieldType.int)) ∈ ga_tb := ga_mem 481 (rfl) rfl
theorem tm_482 : (Jvm.Cond.methodLink "LogPlacer" (190 : Nat) ({ cls := "LogPlacer$Reading", name := "inSome", desc := "(LLogPlacer$Routes;[I)I" } : Jvm.MethodName)) ∈ ga_tb := ga_mem 482 (by decide +kernel) rfl
theorem tm_483 : (Jvm.Cond.instanceMethod ({ cls := "LogPlacer$Reading", name := "inSome", desc := "(LLogPlacer$Routes;[I)I" } : Jvm.MethodName)) ∈ ga_tb := ga_mem 483 (by decide +kernel) rfl
theorem tm_484 : (Jvm.Cond.selects "LogPlacer$Reading" ({ cls := "LogPlacer$Reading", name := "inSome", desc := "(LLogPlacer$Routes;[I)I" } : Jvm.MethodName) ({ cls := "LogPlacer$Reading", name := "inSome", desc := "(LLogPlacer$Routes;[I)I" } : Jvm.MethodName)) ∈ ga_tb := ga_mem 484 (by decide +kernel) rfl
set_option maxRecDepth 20000 in
theorem tm_485 : (Jvm.Cond.code ({ cls := "LogPlacer$Reading", name := "inSome", desc := "(LLogPlacer$Routes;[I)I" } : Jvm.MethodName) prog_4_method_9_code (5 : Nat) (Option.some Jvm.ClassFile.FieldType.int)) ∈ ga_tb := ga_mem 485 (rfl) rfl
theorem tm_486 : (Jvm.Cond.methodLink "LogPlacerLaw" (99 : Nat) ({ cls := "LogPlacer", name := "look", desc := "(II)I" } : Jvm.MethodName)) ∈ ga_tb := ga_mem 486 (by decide +kernel) rfl
theorem tm_487 : (Jvm.Cond.instanceMethod ({ cls := "LogPlacer", name := "look", desc := "(II)I" } : Jvm.MethodName)) ∈ ga_tb := ga_mem 487 (by decide +kernel) rfl
theorem tm_488 : (Jvm.Cond.selects "LogPlacer" ({ cls := "LogPlacer", name := "look", desc := "(II)I" } : Jvm.MethodName) ({ cls := "LogPlacer", name := "look", desc := "(II)I" } : Jvm.MethodName)) ∈ ga_tb := ga_mem 488 (by decide +kernel) rfl
set_option maxRecDepth 20000 in
theorem tm_489 : (Jvm.Cond.code ({ cls := "LogPlacer", name := "look", desc := "(II)I" } : Jvm.MethodName) prog_1_method_21_code (3 : Nat) (Option.some Jvm.ClassFile.FieldType.int)) ∈ ga_tb := ga_mem 489 (rfl) rfl
theorem tm_490 : (Jvm.Cond.methodLink "LogPlacerLaw" (103 : Nat) ({ cls := "LogPlacer", name := "count", desc := "(I)J" } : Jvm.MethodName)) ∈ ga_tb := ga_mem 490 (by decide +kernel) rfl
theorem tm_491 : (Jvm.Cond.instanceMethod ({ cls := "LogPlacer", name := "count", desc := "(I)J" } : Jvm.MethodName)) ∈ ga_tb := ga_mem 491 (by decide +kernel) rfl
theorem tm_492 : (Jvm.Cond.selects "LogPlacer" ({ cls := "LogPlacer", name := "count", desc := "(I)J" } : Jvm.MethodName) ({ cls := "LogPlacer", name := "count", desc := "(I)J" } : Jvm.MethodName)) ∈ ga_tb := ga_mem 492 (by decide +kernel) rfl
set_option maxRecDepth 20000 in
theorem tm_493 : (Jvm.Cond.code ({ cls := "LogPlacer", name := "count", desc := "(I)J" } : Jvm.MethodName) prog_1_method_22_code (2 : Nat) (Option.some Jvm.ClassFile.FieldType.long)) ∈ ga_tb := ga_mem 493 (rfl) rfl
theorem tm_494 : (Jvm.Cond.methodLink "LogPlacer" (202 : Nat) ({ cls := "java/lang/Integer", name := "bitCount", desc := "(I)I" } : Jvm.MethodName)) ∈ ga_tb := ga_mem 494 (by decide +kernel) rfl
theorem tm_495 : (Jvm.Cond.classLink "LogPlacerLaw" (10 : Nat) "LogPlacerModel") ∈ ga_tb := ga_mem 495 (by decide +kernel) rfl
theorem tm_496 : (Jvm.Cond.instantiable "LogPlacerModel" (23 : Nat)) ∈ ga_tb := ga_mem 496 (by decide +kernel) rfl
theorem tm_497 : (Jvm.Cond.methodLink "LogPlacerLaw" (12 : Nat) ({ cls := "LogPlacerModel", name := "<init>", desc := "()V" } : Jvm.MethodName)) ∈ ga_tb := ga_mem 497 (by decide +kernel) rfl
theorem tm_498 : (Jvm.Cond.instanceMethod ({ cls := "LogPlacerModel", name := "<init>", desc := "()V" } : Jvm.MethodName)) ∈ ga_tb := ga_mem 498 (by decide +kernel) rfl
set_option maxRecDepth 20000 in
theorem tm_499 : (Jvm.Cond.code ({ cls := "LogPlacerModel", name := "<init>", desc := "()V" } : Jvm.MethodName) prog_9_method_1_code (1 : Nat) (Option.none : Option Jvm.ClassFile.FieldType)) ∈ ga_tb := ga_mem 499 (rfl) rfl
theorem tm_500 : (Jvm.Cond.methodLink "LogPlacerModel" (1 : Nat) ({ cls := "java/lang/Object", name := "<init>", desc := "()V" } : Jvm.MethodName)) ∈ ga_tb := ga_mem 500 (by decide +kernel) rfl
theorem tm_501 : (Jvm.Cond.constant "LogPlacerModel" (45 : Nat) (65536 : Int32)) ∈ ga_tb := ga_mem 501 (by decide +kernel) rfl
theorem tm_502 : (Jvm.Cond.fieldLink "LogPlacerModel" (7 : Nat) "LogPlacerModel" "tape" "[B") ∈ ga_tb := ga_mem 502 (by decide +kernel) rfl
theorem tm_503 : (Jvm.Cond.fieldLink "LogPlacerModel" (136 : Nat) "LogPlacerModel" "taped" "I") ∈ ga_tb := ga_mem 503 (by decide +kernel) rfl
theorem tm_504 : (Jvm.Cond.fieldLink "LogPlacerModel" (13 : Nat) "LogPlacerModel" "nodes" "I") ∈ ga_tb := ga_mem 504 (by decide +kernel) rfl
theorem tm_505 : (Jvm.Cond.fieldLink "LogPlacerModel" (52 : Nat) "LogPlacerModel" "steps" "I") ∈ ga_tb := ga_mem 505 (by decide +kernel) rfl
theorem tm_506 : (Jvm.Cond.fieldLink "LogPlacerModel" (17 : Nat) "LogPlacerModel" "from" "[I") ∈ ga_tb := ga_mem 506 (by decide +kernel) rfl
theorem tm_507 : (Jvm.Cond.fieldLink "LogPlacerModel" (21 : Nat) "LogPlacerModel" "to" "[I") ∈ ga_tb := ga_mem 507 (by decide +kernel) rfl
theorem tm_508 : (Jvm.Cond.fieldLink "LogPlacerModel" (24 : Nat) "LogPlacerModel" "counted" "[I") ∈ ga_tb := ga_mem 508 (by decide +kernel) rfl
theorem tm_509 : (Jvm.Cond.fieldLink "LogPlacerModel" (63 : Nat) "LogPlacerModel" "lines" "I") ∈ ga_tb := ga_mem 509 (by decide +kernel) rfl
theorem tm_510 : (Jvm.Cond.fieldLink "LogPlacerModel" (66 : Nat) "LogPlacerModel" "faults" "I") ∈ ga_tb := ga_mem 510 (by decide +kernel) rfl
theorem tm_511 : (Jvm.Cond.fieldLink "LogPlacerModel" (83 : Nat) "LogPlacerModel" "many" "I") ∈ ga_tb := ga_mem 511 (by decide +kernel) rfl
theorem tm_512 : (Jvm.Cond.fieldLink "LogPlacerModel" (86 : Nat) "LogPlacerModel" "isMore" "Z") ∈ ga_tb := ga_mem 512 (by decide +kernel) rfl
theorem tm_513 : (Jvm.Cond.fieldLink "LogPlacerModel" (27 : Nat) "LogPlacerModel" "row" "[I") ∈ ga_tb := ga_mem 513 (by decide +kernel) rfl
theorem tm_514 : (Jvm.Cond.fieldLink "LogPlacerModel" (30 : Nat) "LogPlacerModel" "size" "[I") ∈ ga_tb := ga_mem 514 (by decide +kernel) rfl
theorem tm_515 : (Jvm.Cond.fieldLink "LogPlacerModel" (33 : Nat) "LogPlacerModel" "set" "[I") ∈ ga_tb := ga_mem 515 (by decide +kernel) rfl
theorem tm_516 : (Jvm.Cond.fieldLink "LogPlacerModel" (36 : Nat) "LogPlacerModel" "has" "[I") ∈ ga_tb := ga_mem 516 (by decide +kernel) rfl
theorem tm_517 : (Jvm.Cond.fieldLink "LogPlacerModel" (69 : Nat) "LogPlacerModel" "isRead" "Z") ∈ ga_tb := ga_mem 517 (by decide +kernel) rfl
theorem tm_518 : (Jvm.Cond.fieldLink "LogPlacerModel" (145 : Nat) "LogPlacerModel" "isTorn" "Z") ∈ ga_tb := ga_mem 518 (by decide +kernel) rfl
theorem tm_519 : (Jvm.Cond.fieldLink "LogPlacerModel" (142 : Nat) "LogPlacerModel" "logSize" "I") ∈ ga_tb := ga_mem 519 (by decide +kernel) rfl
theorem tm_520 : (Jvm.Cond.fieldLink "LogPlacerModel" (39 : Nat) "LogPlacerModel" "log" "[I") ∈ ga_tb := ga_mem 520 (by decide +kernel) rfl
theorem tm_521 : (Jvm.Cond.fieldLink "LogPlacerModel" (42 : Nat) "LogPlacerModel" "now" "[I") ∈ ga_tb := ga_mem 521 (by decide +kernel) rfl
theorem tm_522 : (Jvm.Cond.fieldLink "LogPlacerModel" (46 : Nat) "LogPlacerModel" "seen" "[I") ∈ ga_tb := ga_mem 522 (by decide +kernel) rfl
theorem tm_523 : (Jvm.Cond.fieldLink "LogPlacerModel" (49 : Nat) "LogPlacerModel" "seenBy" "[I") ∈ ga_tb := ga_mem 523 (by decide +kernel) rfl
theorem tm_524 : (Jvm.Cond.fieldLink "LogPlacerModel" (115 : Nat) "LogPlacerModel" "turn" "I") ∈ ga_tb := ga_mem 524 (by decide +kernel) rfl
theorem tm_525 : (Jvm.Cond.laysFinal "LogPlacerModel" "LogPlacerModel" "tape" "[B") ∈ ga_tb := ga_mem 525 (by decide +kernel) rfl
theorem tm_527 : (Jvm.Cond.lays "LogPlacerModel" "LogPlacerModel" "taped" "I") ∈ ga_tb := ga_mem 527 (by decide +kernel) rfl
theorem tm_529 : (Jvm.Cond.lays "LogPlacerModel" "LogPlacerModel" "nodes" "I") ∈ ga_tb := ga_mem 529 (by decide +kernel) rfl
theorem tm_531 : (Jvm.Cond.lays "LogPlacerModel" "LogPlacerModel" "steps" "I") ∈ ga_tb := ga_mem 531 (by decide +kernel) rfl
theorem tm_533 : (Jvm.Cond.laysFinal "LogPlacerModel" "LogPlacerModel" "from" "[I") ∈ ga_tb := ga_mem 533 (by decide +kernel) rfl
theorem tm_535 : (Jvm.Cond.laysFinal "LogPlacerModel" "LogPlacerModel" "to" "[I") ∈ ga_tb := ga_mem 535 (by decide +kernel) rfl
theorem tm_537 : (Jvm.Cond.laysFinal "LogPlacerModel" "LogPlacerModel" "counted" "[I") ∈ ga_tb := ga_mem 537 (by decide +kernel) rfl
theorem tm_539 : (Jvm.Cond.lays "LogPlacerModel" "LogPlacerModel" "lines" "I") ∈ ga_tb := ga_mem 539 (by decide +kernel) rfl
theorem tm_541 : (Jvm.Cond.lays "LogPlacerModel" "LogPlacerModel" "faults" "I") ∈ ga_tb := ga_mem 541 (by decide +kernel) rfl
theorem tm_543 : (Jvm.Cond.lays "LogPlacerModel" "LogPlacerModel" "many" "I") ∈ ga_tb := ga_mem 543 (by decide +kernel) rfl
theorem tm_545 : (Jvm.Cond.lays "LogPlacerModel" "LogPlacerModel" "isMore" "Z") ∈ ga_tb := ga_mem 545 (by decide +kernel) rfl
theorem tm_547 : (Jvm.Cond.laysFinal "LogPlacerModel" "LogPlacerModel" "row" "[I") ∈ ga_tb := ga_mem 547 (by decide +kernel) rfl
theorem tm_549 : (Jvm.Cond.laysFinal "LogPlacerModel" "LogPlacerModel" "size" "[I") ∈ ga_tb := ga_mem 549 (by decide +kernel) rfl
theorem tm_551 : (Jvm.Cond.laysFinal "LogPlacerModel" "LogPlacerModel" "set" "[I") ∈ ga_tb := ga_mem 551 (by decide +kernel) rfl
theorem tm_553 : (Jvm.Cond.laysFinal "LogPlacerModel" "LogPlacerModel" "has" "[I") ∈ ga_tb := ga_mem 553 (by decide +kernel) rfl
theorem tm_555 : (Jvm.Cond.lays "LogPlacerModel" "LogPlacerModel" "isRead" "Z") ∈ ga_tb := ga_mem 555 (by decide +kernel) rfl
theorem tm_557 : (Jvm.Cond.lays "LogPlacerModel" "LogPlacerModel" "isTorn" "Z") ∈ ga_tb := ga_mem 557 (by decide +kernel) rfl
theorem tm_559 : (Jvm.Cond.lays "LogPlacerModel" "LogPlacerModel" "logSize" "I") ∈ ga_tb := ga_mem 559 (by decide +kernel) rfl
theorem tm_561 : (Jvm.Cond.laysFinal "LogPlacerModel" "LogPlacerModel" "log" "[I") ∈ ga_tb := ga_mem 561 (by decide +kernel) rfl
theorem tm_563 : (Jvm.Cond.laysFinal "LogPlacerModel" "LogPlacerModel" "now" "[I") ∈ ga_tb := ga_mem 563 (by decide +kernel) rfl
theorem tm_565 : (Jvm.Cond.laysFinal "LogPlacerModel" "LogPlacerModel" "seen" "[I") ∈ ga_tb := ga_mem 565 (by decide +kernel) rfl
theorem tm_567 : (Jvm.Cond.laysFinal "LogPlacerModel" "LogPlacerModel" "seenBy" "[I") ∈ ga_tb := ga_mem 567 (by decide +kernel) rfl
theorem tm_569 : (Jvm.Cond.lays "LogPlacerModel" "LogPlacerModel" "turn" "I") ∈ ga_tb := ga_mem 569 (by decide +kernel) rfl
theorem tm_572 : (Jvm.Cond.arrayClass Jvm.ClassFile.FieldType.byte) ∈ ga_tb := ga_mem 572 (by decide +kernel) rfl
theorem tm_573 : (Jvm.Cond.methodLink "LogPlacerLaw" (17 : Nat) ({ cls := "LogPlacerModel", name := "flow", desc := "(I)Z" } : Jvm.MethodName)) ∈ ga_tb := ga_mem 573 (by decide +kernel) rfl
theorem tm_574 : (Jvm.Cond.instanceMethod ({ cls := "LogPlacerModel", name := "flow", desc := "(I)Z" } : Jvm.MethodName)) ∈ ga_tb := ga_mem 574 (by decide +kernel) rfl
theorem tm_575 : (Jvm.Cond.selects "LogPlacerModel" ({ cls := "LogPlacerModel", name := "flow", desc := "(I)Z" } : Jvm.MethodName) ({ cls := "LogPlacerModel", name := "flow", desc := "(I)Z" } : Jvm.MethodName)) ∈ ga_tb := ga_mem 575 (by decide +kernel) rfl
set_option maxRecDepth 20000 in
theorem tm_576 : (Jvm.Cond.code ({ cls := "LogPlacerModel", name := "flow", desc := "(I)Z" } : Jvm.MethodName) prog_9_method_6_code (2 : Nat) (Option.some Jvm.ClassFile.FieldType.boolean)) ∈ ga_tb := ga_mem 576 (rfl) rfl
theorem tm_577 : (Jvm.Cond.constantLong "LogPlacerModel" (59 : Nat) (2 : Int64)) ∈ ga_tb := ga_mem 577 (by decide +kernel) rfl
theorem tm_578 : (Jvm.Cond.constantLong "LogPlacerModel" (61 : Nat) (12 : Int64)) ∈ ga_tb := ga_mem 578 (by decide +kernel) rfl
theorem tm_579 : (Jvm.Cond.methodLink "LogPlacerModel" (55 : Nat) ({ cls := "LogPlacerModel", name := "lies", desc := "(JJJ)Z" } : Jvm.MethodName)) ∈ ga_tb := ga_mem 579 (by decide +kernel) rfl
theorem tm_580 : (Jvm.Cond.static ({ cls := "LogPlacerModel", name := "lies", desc := "(JJJ)Z" } : Jvm.MethodName)) ∈ ga_tb := ga_mem 580 (by decide +kernel) rfl
set_option maxRecDepth 20000 in
theorem tm_581 : (Jvm.Cond.code ({ cls := "LogPlacerModel", name := "lies", desc := "(JJJ)Z" } : Jvm.MethodName) prog_9_method_2_code (6 : Nat) (Option.some Jvm.ClassFile.FieldType.boolean)) ∈ ga_tb := ga_mem 581 (rfl) rfl
theorem tm_582 : (Jvm.Cond.methodLink "LogPlacerLaw" (22 : Nat) ({ cls := "LogPlacerModel", name := "step", desc := "(III)I" } : Jvm.MethodName)) ∈ ga_tb := ga_mem 582 (by decide +kernel) rfl
theorem tm_583 : (Jvm.Cond.instanceMethod ({ cls := "LogPlacerModel", name := "step", desc := "(III)I" } : Jvm.MethodName)) ∈ ga_tb := ga_mem 583 (by decide +kernel) rfl
theorem tm_584 : (Jvm.Cond.selects "LogPlacerModel" ({ cls := "LogPlacerModel", name := "step", desc := "(III)I" } : Jvm.MethodName) ({ cls := "LogPlacerModel", name := "step", desc := "(III)I" } : Jvm.MethodName)) ∈ ga_tb := ga_mem 584 (by decide +kernel) rfl
set_option maxRecDepth 20000 in
theorem tm_585 : (Jvm.Cond.code ({ cls := "LogPlacerModel", name := "step", desc := "(III)I" } : Jvm.MethodName) prog_9_method_7_code (4 : Nat) (Option.some Jvm.ClassFile.FieldType.int)) ∈ ga_tb := ga_mem 585 (rfl) rfl
theorem tm_586 : (Jvm.Cond.constantLong "LogPlacerModel" (73 : Nat) (1000000 : Int64)) ∈ ga_tb := ga_mem 586 (by decide +kernel) rfl
theorem tm_587 : (Jvm.Cond.methodLink "LogPlacerLaw" (27 : Nat) ({ cls := "LogPlacerModel", name := "counted", desc := "(II)Z" } : Jvm.MethodName)) ∈ ga_tb := ga_mem 587 (by decide +kernel) rfl
theorem tm_588 : (Jvm.Cond.instanceMethod ({ cls := "LogPlacerModel", name := "counted", desc := "(II)Z" } : Jvm.MethodName)) ∈ ga_tb := ga_mem 588 (by decide +kernel) rfl
theorem tm_589 : (Jvm.Cond.selects "LogPlacerModel" ({ cls := "LogPlacerModel", name := "counted", desc := "(II)Z" } : Jvm.MethodName) ({ cls := "LogPlacerModel", name := "counted", desc := "(II)Z" } : Jvm.MethodName)) ∈ ga_tb := ga_mem 589 (by decide +kernel) rfl
set_option maxRecDepth 20000 in
theorem tm_590 : (Jvm.Cond.code ({ cls := "LogPlacerModel", name := "counted", desc := "(II)Z" } : Jvm.MethodName) prog_9_method_8_code (3 : Nat) (Option.some Jvm.ClassFile.FieldType.boolean)) ∈ ga_tb := ga_mem 590 (rfl) rfl
theorem tm_591 : (Jvm.Cond.methodLink "LogPlacerModel" (75 : Nat) ({ cls := "LogPlacerModel", name := "isStep", desc := "(I)Z" } : Jvm.MethodName)) ∈ ga_tb := ga_mem 591 (by decide +kernel) rfl
theorem tm_593 : (Jvm.Cond.instanceMethod ({ cls := "LogPlacerModel", name := "isStep", desc := "(I)Z" } : Jvm.MethodName)) ∈ ga_tb := ga_mem 593 (by decide +kernel) rfl
set_option maxRecDepth 20000 in
theorem tm_594 : (Jvm.Cond.code ({ cls := "LogPlacerModel", name := "isStep", desc := "(I)Z" } : Jvm.MethodName) prog_9_method_3_code (2 : Nat) (Option.some Jvm.ClassFile.FieldType.boolean)) ∈ ga_tb := ga_mem 594 (rfl) rfl
theorem tm_595 : (Jvm.Cond.methodLink "LogPlacerLaw" (32 : Nat) ({ cls := "LogPlacerModel", name := "line", desc := "(IZ)Z" } : Jvm.MethodName)) ∈ ga_tb := ga_mem 595 (by decide +kernel) rfl
theorem tm_596 : (Jvm.Cond.instanceMethod ({ cls := "LogPlacerModel", name := "line", desc := "(IZ)Z" } : Jvm.MethodName)) ∈ ga_tb := ga_mem 596 (by decide +kernel) rfl
theorem tm_597 : (Jvm.Cond.selects "LogPlacerModel" ({ cls := "LogPlacerModel", name := "line", desc := "(IZ)Z" } : Jvm.MethodName) ({ cls := "LogPlacerModel", name := "line", desc := "(IZ)Z" } : Jvm.MethodName)) ∈ ga_tb := ga_mem 597 (by decide +kernel) rfl
set_option maxRecDepth 20000 in
theorem tm_598 : (Jvm.Cond.code ({ cls := "LogPlacerModel", name := "line", desc := "(IZ)Z" } : Jvm.MethodName) prog_9_method_9_code (3 : Nat) (Option.some Jvm.ClassFile.FieldType.boolean)) ∈ ga_tb := ga_mem 598 (rfl) rfl
theorem tm_599 : (Jvm.Cond.methodLink "LogPlacerModel" (79 : Nat) ({ cls := "LogPlacerModel", name := "isIn", desc := "(II)Z" } : Jvm.MethodName)) ∈ ga_tb := ga_mem 599 (by decide +kernel) rfl
theorem tm_600 : (Jvm.Cond.static ({ cls := "LogPlacerModel", name := "isIn", desc := "(II)Z" } : Jvm.MethodName)) ∈ ga_tb := ga_mem 600 (by decide +kernel) rfl
set_option maxRecDepth 20000 in
theorem tm_601 : (Jvm.Cond.code ({ cls := "LogPlacerModel", name := "isIn", desc := "(II)Z" } : Jvm.MethodName) prog_9_method_4_code (2 : Nat) (Option.some Jvm.ClassFile.FieldType.boolean)) ∈ ga_tb := ga_mem 601 (rfl) rfl
theorem tm_602 : (Jvm.Cond.methodLink "LogPlacerLaw" (36 : Nat) ({ cls := "LogPlacerModel", name := "fault", desc := "(IZ)Z" } : Jvm.MethodName)) ∈ ga_tb := ga_mem 602 (by decide +kernel) rfl
theorem tm_603 : (Jvm.Cond.instanceMethod ({ cls := "LogPlacerModel", name := "fault", desc := "(IZ)Z" } : Jvm.MethodName)) ∈ ga_tb := ga_mem 603 (by decide +kernel) rfl
theorem tm_604 : (Jvm.Cond.selects "LogPlacerModel" ({ cls := "LogPlacerModel", name := "fault", desc := "(IZ)Z" } : Jvm.MethodName) ({ cls := "LogPlacerModel", name := "fault", desc := "(IZ)Z" } : Jvm.MethodName)) ∈ ga_tb := ga_mem 604 (by decide +kernel) rfl
set_option maxRecDepth 20000 in
theorem tm_605 : (Jvm.Cond.code ({ cls := "LogPlacerModel", name := "fault", desc := "(IZ)Z" } : Jvm.MethodName) prog_9_method_10_code (3 : Nat) (Option.some Jvm.ClassFile.FieldType.boolean)) ∈ ga_tb := ga_mem 605 (rfl) rfl
theorem tm_606 : (Jvm.Cond.methodLink "LogPlacerLaw" (41 : Nat) ({ cls := "LogPlacerModel", name := "ways", desc := "()I" } : Jvm.MethodName)) ∈ ga_tb := ga_mem 606 (by decide +kernel) rfl
theorem tm_607 : (Jvm.Cond.instanceMethod ({ cls := "LogPlacerModel", name := "ways", desc := "()I" } : Jvm.MethodName)) ∈ ga_tb := ga_mem 607 (by decide +kernel) rfl
theorem tm_608 : (Jvm.Cond.selects "LogPlacerModel" ({ cls := "LogPlacerModel", name := "ways", desc := "()I" } : Jvm.MethodName) ({ cls := "LogPlacerModel", name := "ways", desc := "()I" } : Jvm.MethodName)) ∈ ga_tb := ga_mem 608 (by decide +kernel) rfl
set_option maxRecDepth 20000 in
theorem tm_609 : (Jvm.Cond.code ({ cls := "LogPlacerModel", name := "ways", desc := "()I" } : Jvm.MethodName) prog_9_method_14_code (1 : Nat) (Option.some Jvm.ClassFile.FieldType.int)) ∈ ga_tb := ga_mem 609 (rfl) rfl
theorem tm_610 : (Jvm.Cond.methodLink "LogPlacerModel" (96 : Nat) ({ cls := "LogPlacerModel", name := "isTooMany", desc := "()Z" } : Jvm.MethodName)) ∈ ga_tb := ga_mem 610 (by decide +kernel) rfl
theorem tm_612 : (Jvm.Cond.instanceMethod ({ cls := "LogPlacerModel", name := "isTooMany", desc := "()Z" } : Jvm.MethodName)) ∈ ga_tb := ga_mem 612 (by decide +kernel) rfl
set_option maxRecDepth 20000 in
theorem tm_613 : (Jvm.Cond.code ({ cls := "LogPlacerModel", name := "isTooMany", desc := "()Z" } : Jvm.MethodName) prog_9_method_13_code (1 : Nat) (Option.some Jvm.ClassFile.FieldType.boolean)) ∈ ga_tb := ga_mem 613 (rfl) rfl
theorem tm_614 : (Jvm.Cond.methodLink "LogPlacerModel" (93 : Nat) ({ cls := "LogPlacerModel", name := "works", desc := "()V" } : Jvm.MethodName)) ∈ ga_tb := ga_mem 614 (by decide +kernel) rfl
theorem tm_616 : (Jvm.Cond.instanceMethod ({ cls := "LogPlacerModel", name := "works", desc := "()V" } : Jvm.MethodName)) ∈ ga_tb := ga_mem 616 (by decide +kernel) rfl
set_option maxRecDepth 20000 in
theorem tm_617 : (Jvm.Cond.code ({ cls := "LogPlacerModel", name := "works", desc := "()V" } : Jvm.MethodName) prog_9_method_12_code (4 : Nat) (Option.none : Option Jvm.ClassFile.FieldType)) ∈ ga_tb := ga_mem 617 (rfl) rfl
theorem tm_618 : (Jvm.Cond.methodLink "LogPlacerModel" (89 : Nat) ({ cls := "LogPlacerModel", name := "keeps", desc := "(I)V" } : Jvm.MethodName)) ∈ ga_tb := ga_mem 618 (by decide +kernel) rfl
theorem tm_620 : (Jvm.Cond.instanceMethod ({ cls := "LogPlacerModel", name := "keeps", desc := "(I)V" } : Jvm.MethodName)) ∈ ga_tb := ga_mem 620 (by decide +kernel) rfl
set_option maxRecDepth 20000 in
theorem tm_621 : (Jvm.Cond.code ({ cls := "LogPlacerModel", name := "keeps", desc := "(I)V" } : Jvm.MethodName) prog_9_method_11_code (3 : Nat) (Option.none : Option Jvm.ClassFile.FieldType)) ∈ ga_tb := ga_mem 621 (rfl) rfl
theorem tm_622 : (Jvm.Cond.methodLink "LogPlacerLaw" (46 : Nat) ({ cls := "LogPlacerModel", name := "way", desc := "(II)I" } : Jvm.MethodName)) ∈ ga_tb := ga_mem 622 (by decide +kernel) rfl
theorem tm_623 : (Jvm.Cond.instanceMethod ({ cls := "LogPlacerModel", name := "way", desc := "(II)I" } : Jvm.MethodName)) ∈ ga_tb := ga_mem 623 (by decide +kernel) rfl
theorem tm_624 : (Jvm.Cond.selects "LogPlacerModel" ({ cls := "LogPlacerModel", name := "way", desc := "(II)I" } : Jvm.MethodName) ({ cls := "LogPlacerModel", name := "way", desc := "(II)I" } : Jvm.MethodName)) ∈ ga_tb := ga_mem 624 (by decide +kernel) rfl
set_option maxRecDepth 20000 in
theorem tm_625 : (Jvm.Cond.code ({ cls := "LogPlacerModel", name := "way", desc := "(II)I" } : Jvm.MethodName) prog_9_method_15_code (3 : Nat) (Option.some Jvm.ClassFile.FieldType.int)) ∈ ga_tb := ga_mem 625 (rfl) rfl
theorem tm_626 : (Jvm.Cond.methodLink "LogPlacerLaw" (50 : Nat) ({ cls := "LogPlacerModel", name := "log", desc := "(II)I" } : Jvm.MethodName)) ∈ ga_tb := ga_mem 626 (by decide +kernel) rfl
theorem tm_627 : (Jvm.Cond.instanceMethod ({ cls := "LogPlacerModel", name := "log", desc := "(II)I" } : Jvm.MethodName)) ∈ ga_tb := ga_mem 627 (by decide +kernel) rfl
theorem tm_628 : (Jvm.Cond.selects "LogPlacerModel" ({ cls := "LogPlacerModel", name := "log", desc := "(II)I" } : Jvm.MethodName) ({ cls := "LogPlacerModel", name := "log", desc := "(II)I" } : Jvm.MethodName)) ∈ ga_tb := ga_mem 628 (by decide +kernel) rfl
set_option maxRecDepth 20000 in
theorem tm_629 : (Jvm.Cond.code ({ cls := "LogPlacerModel", name := "log", desc := "(II)I" } : Jvm.MethodName) prog_9_method_17_code (3 : Nat) (Option.some Jvm.ClassFile.FieldType.int)) ∈ ga_tb := ga_mem 629 (rfl) rfl
theorem tm_630 : (Jvm.Cond.methodLink "LogPlacerModel" (100 : Nat) ({ cls := "LogPlacerModel", name := "logOf", desc := "(II)I" } : Jvm.MethodName)) ∈ ga_tb := ga_mem 630 (by decide +kernel) rfl
theorem tm_632 : (Jvm.Cond.instanceMethod ({ cls := "LogPlacerModel", name := "logOf", desc := "(II)I" } : Jvm.MethodName)) ∈ ga_tb := ga_mem 632 (by decide +kernel) rfl
set_option maxRecDepth 20000 in
theorem tm_633 : (Jvm.Cond.code ({ cls := "LogPlacerModel", name := "logOf", desc := "(II)I" } : Jvm.MethodName) prog_9_method_16_code (5 : Nat) (Option.some Jvm.ClassFile.FieldType.int)) ∈ ga_tb := ga_mem 633 (rfl) rfl
theorem tm_634 : (Jvm.Cond.methodLink "LogPlacerLaw" (54 : Nat) ({ cls := "LogPlacerModel", name := "heaps", desc := "()I" } : Jvm.MethodName)) ∈ ga_tb := ga_mem 634 (by decide +kernel) rfl
theorem tm_635 : (Jvm.Cond.instanceMethod ({ cls := "LogPlacerModel", name := "heaps", desc := "()I" } : Jvm.MethodName)) ∈ ga_tb := ga_mem 635 (by decide +kernel) rfl
theorem tm_636 : (Jvm.Cond.selects "LogPlacerModel" ({ cls := "LogPlacerModel", name := "heaps", desc := "()I" } : Jvm.MethodName) ({ cls := "LogPlacerModel", name := "heaps", desc := "()I" } : Jvm.MethodName)) ∈ ga_tb := ga_mem 636 (by decide +kernel) rfl
set_option maxRecDepth 20000 in
theorem tm_637 : (Jvm.Cond.code ({ cls := "LogPlacerModel", name := "heaps", desc := "()I" } : Jvm.MethodName) prog_9_method_21_code (1 : Nat) (Option.some Jvm.ClassFile.FieldType.int)) ∈ ga_tb := ga_mem 637 (rfl) rfl
theorem tm_638 : (Jvm.Cond.methodLink "LogPlacerModel" (111 : Nat) ({ cls := "LogPlacerModel", name := "heapsBy", desc := "(I)I" } : Jvm.MethodName)) ∈ ga_tb := ga_mem 638 (by decide +kernel) rfl
theorem tm_640 : (Jvm.Cond.instanceMethod ({ cls := "LogPlacerModel", name := "heapsBy", desc := "(I)I" } : Jvm.MethodName)) ∈ ga_tb := ga_mem 640 (by decide +kernel) rfl
set_option maxRecDepth 20000 in
theorem tm_641 : (Jvm.Cond.code ({ cls := "LogPlacerModel", name := "heapsBy", desc := "(I)I" } : Jvm.MethodName) prog_9_method_20_code (4 : Nat) (Option.some Jvm.ClassFile.FieldType.int)) ∈ ga_tb := ga_mem 641 (rfl) rfl
theorem tm_642 : (Jvm.Cond.methodLink "LogPlacerModel" (108 : Nat) ({ cls := "LogPlacerModel", name := "firstOf", desc := "(II)I" } : Jvm.MethodName)) ∈ ga_tb := ga_mem 642 (by decide +kernel) rfl
theorem tm_644 : (Jvm.Cond.instanceMethod ({ cls := "LogPlacerModel", name := "firstOf", desc := "(II)I" } : Jvm.MethodName)) ∈ ga_tb := ga_mem 644 (by decide +kernel) rfl
set_option maxRecDepth 20000 in
theorem tm_645 : (Jvm.Cond.code ({ cls := "LogPlacerModel", name := "firstOf", desc := "(II)I" } : Jvm.MethodName) prog_9_method_19_code (4 : Nat) (Option.some Jvm.ClassFile.FieldType.int)) ∈ ga_tb := ga_mem 645 (rfl) rfl
theorem tm_646 : (Jvm.Cond.methodLink "LogPlacerModel" (104 : Nat) ({ cls := "LogPlacerModel", name := "areParted", desc := "(III)Z" } : Jvm.MethodName)) ∈ ga_tb := ga_mem 646 (by decide +kernel) rfl
theorem tm_648 : (Jvm.Cond.instanceMethod ({ cls := "LogPlacerModel", name := "areParted", desc := "(III)Z" } : Jvm.MethodName)) ∈ ga_tb := ga_mem 648 (by decide +kernel) rfl
set_option maxRecDepth 20000 in
theorem tm_649 : (Jvm.Cond.code ({ cls := "LogPlacerModel", name := "areParted", desc := "(III)Z" } : Jvm.MethodName) prog_9_method_18_code (4 : Nat) (Option.some Jvm.ClassFile.FieldType.boolean)) ∈ ga_tb := ga_mem 649 (rfl) rfl
theorem tm_650 : (Jvm.Cond.methodLink "LogPlacerLaw" (59 : Nat) ({ cls := "LogPlacerModel", name := "heap", desc := "(I)I" } : Jvm.MethodName)) ∈ ga_tb := ga_mem 650 (by decide +kernel) rfl
theorem tm_651 : (Jvm.Cond.instanceMethod ({ cls := "LogPlacerModel", name := "heap", desc := "(I)I" } : Jvm.MethodName)) ∈ ga_tb := ga_mem 651 (by decide +kernel) rfl
theorem tm_652 : (Jvm.Cond.selects "LogPlacerModel" ({ cls := "LogPlacerModel", name := "heap", desc := "(I)I" } : Jvm.MethodName) ({ cls := "LogPlacerModel", name := "heap", desc := "(I)I" } : Jvm.MethodName)) ∈ ga_tb := ga_mem 652 (by decide +kernel) rfl
set_option maxRecDepth 20000 in
theorem tm_653 : (Jvm.Cond.code ({ cls := "LogPlacerModel", name := "heap", desc := "(I)I" } : Jvm.MethodName) prog_9_method_22_code (2 : Nat) (Option.some Jvm.ClassFile.FieldType.int)) ∈ ga_tb := ga_mem 653 (rfl) rfl
theorem tm_654 : (Jvm.Cond.methodLink "LogPlacerLaw" (63 : Nat) ({ cls := "LogPlacerModel", name := "apart", desc := "(I)I" } : Jvm.MethodName)) ∈ ga_tb := ga_mem 654 (by decide +kernel) rfl
theorem tm_655 : (Jvm.Cond.instanceMethod ({ cls := "LogPlacerModel", name := "apart", desc := "(I)I" } : Jvm.MethodName)) ∈ ga_tb := ga_mem 655 (by decide +kernel) rfl
theorem tm_656 : (Jvm.Cond.selects "LogPlacerModel" ({ cls := "LogPlacerModel", name := "apart", desc := "(I)I" } : Jvm.MethodName) ({ cls := "LogPlacerModel", name := "apart", desc := "(I)I" } : Jvm.MethodName)) ∈ ga_tb := ga_mem 656 (by decide +kernel) rfl
set_option maxRecDepth 20000 in
theorem tm_657 : (Jvm.Cond.code ({ cls := "LogPlacerModel", name := "apart", desc := "(I)I" } : Jvm.MethodName) prog_9_method_24_code (2 : Nat) (Option.some Jvm.ClassFile.FieldType.int)) ∈ ga_tb := ga_mem 657 (rfl) rfl
theorem tm_658 : (Jvm.Cond.methodLink "LogPlacerModel" (118 : Nat) ({ cls := "LogPlacerModel", name := "isApart", desc := "(II)Z" } : Jvm.MethodName)) ∈ ga_tb := ga_mem 658 (by decide +kernel) rfl
theorem tm_660 : (Jvm.Cond.instanceMethod ({ cls := "LogPlacerModel", name := "isApart", desc := "(II)Z" } : Jvm.MethodName)) ∈ ga_tb := ga_mem 660 (by decide +kernel) rfl
set_option maxRecDepth 20000 in
theorem tm_661 : (Jvm.Cond.code ({ cls := "LogPlacerModel", name := "isApart", desc := "(II)Z" } : Jvm.MethodName) prog_9_method_23_code (5 : Nat) (Option.some Jvm.ClassFile.FieldType.boolean)) ∈ ga_tb := ga_mem 661 (rfl) rfl
theorem tm_662 : (Jvm.Cond.methodLink "LogPlacerLaw" (73 : Nat) ({ cls := "LogPlacerModel", name := "price", desc := "(I)J" } : Jvm.MethodName)) ∈ ga_tb := ga_mem 662 (by decide +kernel) rfl
theorem tm_663 : (Jvm.Cond.instanceMethod ({ cls := "LogPlacerModel", name := "price", desc := "(I)J" } : Jvm.MethodName)) ∈ ga_tb := ga_mem 663 (by decide +kernel) rfl
theorem tm_664 : (Jvm.Cond.selects "LogPlacerModel" ({ cls := "LogPlacerModel", name := "price", desc := "(I)J" } : Jvm.MethodName) ({ cls := "LogPlacerModel", name := "price", desc := "(I)J" } : Jvm.MethodName)) ∈ ga_tb := ga_mem 664 (by decide +kernel) rfl
set_option maxRecDepth 20000 in
theorem tm_665 : (Jvm.Cond.code ({ cls := "LogPlacerModel", name := "price", desc := "(I)J" } : Jvm.MethodName) prog_9_method_26_code (2 : Nat) (Option.some Jvm.ClassFile.FieldType.long)) ∈ ga_tb := ga_mem 665 (rfl) rfl
theorem tm_666 : (Jvm.Cond.methodLink "LogPlacerModel" (121 : Nat) ({ cls := "LogPlacerModel", name := "priceOf", desc := "(I)J" } : Jvm.MethodName)) ∈ ga_tb := ga_mem 666 (by decide +kernel) rfl
theorem tm_668 : (Jvm.Cond.instanceMethod ({ cls := "LogPlacerModel", name := "priceOf", desc := "(I)J" } : Jvm.MethodName)) ∈ ga_tb := ga_mem 668 (by decide +kernel) rfl
set_option maxRecDepth 20000 in
theorem tm_669 : (Jvm.Cond.code ({ cls := "LogPlacerModel", name := "priceOf", desc := "(I)J" } : Jvm.MethodName) prog_9_method_25_code (5 : Nat) (Option.some Jvm.ClassFile.FieldType.long)) ∈ ga_tb := ga_mem 669 (rfl) rfl
theorem tm_670 : (Jvm.Cond.constantLong "LogPlacerModel" (125 : Nat) (-1 : Int64)) ∈ ga_tb := ga_mem 670 (by decide +kernel) rfl
theorem tm_671 : (Jvm.Cond.methodLink "LogPlacerLaw" (68 : Nat) ({ cls := "LogPlacerModel", name := "cheapest", desc := "(IZ)I" } : Jvm.MethodName)) ∈ ga_tb := ga_mem 671 (by decide +kernel) rfl
theorem tm_672 : (Jvm.Cond.instanceMethod ({ cls := "LogPlacerModel", name := "cheapest", desc := "(IZ)I" } : Jvm.MethodName)) ∈ ga_tb := ga_mem 672 (by decide +kernel) rfl
theorem tm_673 : (Jvm.Cond.selects "LogPlacerModel" ({ cls := "LogPlacerModel", name := "cheapest", desc := "(IZ)I" } : Jvm.MethodName) ({ cls := "LogPlacerModel", name := "cheapest", desc := "(IZ)I" } : Jvm.MethodName)) ∈ ga_tb := ga_mem 673 (by decide +kernel) rfl
set_option maxRecDepth 20000 in
theorem tm_674 : (Jvm.Cond.code ({ cls := "LogPlacerModel", name := "cheapest", desc := "(IZ)I" } : Jvm.MethodName) prog_9_method_28_code (10 : Nat) (Option.some Jvm.ClassFile.FieldType.int)) ∈ ga_tb := ga_mem 674 (rfl) rfl
theorem tm_675 : (Jvm.Cond.methodLink "LogPlacerModel" (130 : Nat) ({ cls := "LogPlacerModel", name := "isBetter", desc := "(II)Z" } : Jvm.MethodName)) ∈ ga_tb := ga_mem 675 (by decide +kernel) rfl
theorem tm_676 : (Jvm.Cond.static ({ cls := "LogPlacerModel", name := "isBetter", desc := "(II)Z" } : Jvm.MethodName)) ∈ ga_tb := ga_mem 676 (by decide +kernel) rfl
set_option maxRecDepth 20000 in
theorem tm_677 : (Jvm.Cond.code ({ cls := "LogPlacerModel", name := "isBetter", desc := "(II)Z" } : Jvm.MethodName) prog_9_method_27_code (3 : Nat) (Option.some Jvm.ClassFile.FieldType.boolean)) ∈ ga_tb := ga_mem 677 (rfl) rfl
theorem tm_678 : (Jvm.Cond.methodLink "LogPlacerModel" (127 : Nat) ({ cls := "LogPlacerModel", name := "sizeOf", desc := "(I)I" } : Jvm.MethodName)) ∈ ga_tb := ga_mem 678 (by decide +kernel) rfl
theorem tm_679 : (Jvm.Cond.static ({ cls := "LogPlacerModel", name := "sizeOf", desc := "(I)I" } : Jvm.MethodName)) ∈ ga_tb := ga_mem 679 (by decide +kernel) rfl
set_option maxRecDepth 20000 in
theorem tm_680 : (Jvm.Cond.code ({ cls := "LogPlacerModel", name := "sizeOf", desc := "(I)I" } : Jvm.MethodName) prog_9_method_5_code (3 : Nat) (Option.some Jvm.ClassFile.FieldType.int)) ∈ ga_tb := ga_mem 680 (rfl) rfl
theorem tm_681 : (Jvm.Cond.methodLink "LogPlacerLaw" (77 : Nat) ({ cls := "LogPlacerModel", name := "useless", desc := "(I)I" } : Jvm.MethodName)) ∈ ga_tb := ga_mem 681 (by decide +kernel) rfl
theorem tm_682 : (Jvm.Cond.instanceMethod ({ cls := "LogPlacerModel", name := "useless", desc := "(I)I" } : Jvm.MethodName)) ∈ ga_tb := ga_mem 682 (by decide +kernel) rfl
theorem tm_683 : (Jvm.Cond.selects "LogPlacerModel" ({ cls := "LogPlacerModel", name := "useless", desc := "(I)I" } : Jvm.MethodName) ({ cls := "LogPlacerModel", name := "useless", desc := "(I)I" } : Jvm.MethodName)) ∈ ga_tb := ga_mem 683 (by decide +kernel) rfl
set_option maxRecDepth 20000 in
theorem tm_684 : (Jvm.Cond.code ({ cls := "LogPlacerModel", name := "useless", desc := "(I)I" } : Jvm.MethodName) prog_9_method_30_code (4 : Nat) (Option.some Jvm.ClassFile.FieldType.int)) ∈ ga_tb := ga_mem 684 (rfl) rfl
theorem tm_685 : (Jvm.Cond.methodLink "LogPlacerModel" (133 : Nat) ({ cls := "LogPlacerModel", name := "isUseless", desc := "(I)Z" } : Jvm.MethodName)) ∈ ga_tb := ga_mem 685 (by decide +kernel) rfl
theorem tm_687 : (Jvm.Cond.instanceMethod ({ cls := "LogPlacerModel", name := "isUseless", desc := "(I)Z" } : Jvm.MethodName)) ∈ ga_tb := ga_mem 687 (by decide +kernel) rfl
set_option maxRecDepth 20000 in
theorem tm_688 : (Jvm.Cond.code ({ cls := "LogPlacerModel", name := "isUseless", desc := "(I)Z" } : Jvm.MethodName) prog_9_method_29_code (2 : Nat) (Option.some Jvm.ClassFile.FieldType.boolean)) ∈ ga_tb := ga_mem 688 (rfl) rfl
theorem tm_689 : (Jvm.Cond.methodLink "LogPlacerLaw" (81 : Nat) ({ cls := "LogPlacerModel", name := "why", desc := "(II)I" } : Jvm.MethodName)) ∈ ga_tb := ga_mem 689 (by decide +kernel) rfl
theorem tm_690 : (Jvm.Cond.instanceMethod ({ cls := "LogPlacerModel", name := "why", desc := "(II)I" } : Jvm.MethodName)) ∈ ga_tb := ga_mem 690 (by decide +kernel) rfl
theorem tm_691 : (Jvm.Cond.selects "LogPlacerModel" ({ cls := "LogPlacerModel", name := "why", desc := "(II)I" } : Jvm.MethodName) ({ cls := "LogPlacerModel", name := "why", desc := "(II)I" } : Jvm.MethodName)) ∈ ga_tb := ga_mem 691 (by decide +kernel) rfl
set_option maxRecDepth 20000 in
theorem tm_692 : (Jvm.Cond.code ({ cls := "LogPlacerModel", name := "why", desc := "(II)I" } : Jvm.MethodName) prog_9_method_31_code (6 : Nat) (Option.some Jvm.ClassFile.FieldType.int)) ∈ ga_tb := ga_mem 692 (rfl) rfl
theorem tm_693 : (Jvm.Cond.methodLink "LogPlacerLaw" (86 : Nat) ({ cls := "LogPlacerModel", name := "feed", desc := "(IIIII)I" } : Jvm.MethodName)) ∈ ga_tb := ga_mem 693 (by decide +kernel) rfl
theorem tm_694 : (Jvm.Cond.instanceMethod ({ cls := "LogPlacerModel", name := "feed", desc := "(IIIII)I" } : Jvm.MethodName)) ∈ ga_tb := ga_mem 694 (by decide +kernel) rfl
theorem tm_695 : (Jvm.Cond.selects "LogPlacerModel" ({ cls := "LogPlacerModel", name := "feed", desc := "(IIIII)I" } : Jvm.MethodName) ({ cls := "LogPlacerModel", name := "feed", desc := "(IIIII)I" } : Jvm.MethodName)) ∈ ga_tb := ga_mem 695 (by decide +kernel) rfl
set_option maxRecDepth 20000 in
theorem tm_696 : (Jvm.Cond.code ({ cls := "LogPlacerModel", name := "feed", desc := "(IIIII)I" } : Jvm.MethodName) prog_9_method_33_code (6 : Nat) (Option.some Jvm.ClassFile.FieldType.int)) ∈ ga_tb := ga_mem 696 (rfl) rfl
theorem tm_697 : (Jvm.Cond.methodLink "LogPlacerModel" (139 : Nat) ({ cls := "LogPlacerModel", name := "push", desc := "(I)V" } : Jvm.MethodName)) ∈ ga_tb := ga_mem 697 (by decide +kernel) rfl
theorem tm_699 : (Jvm.Cond.instanceMethod ({ cls := "LogPlacerModel", name := "push", desc := "(I)V" } : Jvm.MethodName)) ∈ ga_tb := ga_mem 699 (by decide +kernel) rfl
set_option maxRecDepth 20000 in
theorem tm_700 : (Jvm.Cond.code ({ cls := "LogPlacerModel", name := "push", desc := "(I)V" } : Jvm.MethodName) prog_9_method_32_code (3 : Nat) (Option.none : Option Jvm.ClassFile.FieldType)) ∈ ga_tb := ga_mem 700 (rfl) rfl
theorem tm_701 : (Jvm.Cond.methodLink "LogPlacerLaw" (90 : Nat) ({ cls := "LogPlacerModel", name := "read", desc := "(IZ)I" } : Jvm.MethodName)) ∈ ga_tb := ga_mem 701 (by decide +kernel) rfl
theorem tm_702 : (Jvm.Cond.instanceMethod ({ cls := "LogPlacerModel", name := "read", desc := "(IZ)I" } : Jvm.MethodName)) ∈ ga_tb := ga_mem 702 (by decide +kernel) rfl
theorem tm_703 : (Jvm.Cond.selects "LogPlacerModel" ({ cls := "LogPlacerModel", name := "read", desc := "(IZ)I" } : Jvm.MethodName) ({ cls := "LogPlacerModel", name := "read", desc := "(IZ)I" } : Jvm.MethodName)) ∈ ga_tb := ga_mem 703 (by decide +kernel) rfl
set_option maxRecDepth 20000 in
theorem tm_704 : (Jvm.Cond.code ({ cls := "LogPlacerModel", name := "read", desc := "(IZ)I" } : Jvm.MethodName) prog_9_method_35_code (5 : Nat) (Option.some Jvm.ClassFile.FieldType.int)) ∈ ga_tb := ga_mem 704 (rfl) rfl
theorem tm_705 : (Jvm.Cond.constantLong "LogPlacerModel" (148 : Nat) (16 : Int64)) ∈ ga_tb := ga_mem 705 (by decide +kernel) rfl
theorem tm_706 : (Jvm.Cond.methodLink "LogPlacerModel" (150 : Nat) ({ cls := "LogPlacerModel", name := "allows", desc := "(I)Z" } : Jvm.MethodName)) ∈ ga_tb := ga_mem 706 (by decide +kernel) rfl
theorem tm_708 : (Jvm.Cond.instanceMethod ({ cls := "LogPlacerModel", name := "allows", desc := "(I)Z" } : Jvm.MethodName)) ∈ ga_tb := ga_mem 708 (by decide +kernel) rfl
set_option maxRecDepth 20000 in
theorem tm_709 : (Jvm.Cond.code ({ cls := "LogPlacerModel", name := "allows", desc := "(I)Z" } : Jvm.MethodName) prog_9_method_34_code (3 : Nat) (Option.some Jvm.ClassFile.FieldType.boolean)) ∈ ga_tb := ga_mem 709 (rfl) rfl
theorem tm_710 : (Jvm.Cond.methodLink "LogPlacerLaw" (94 : Nat) ({ cls := "LogPlacerModel", name := "allowed", desc := "(I)I" } : Jvm.MethodName)) ∈ ga_tb := ga_mem 710 (by decide +kernel) rfl
theorem tm_711 : (Jvm.Cond.instanceMethod ({ cls := "LogPlacerModel", name := "allowed", desc := "(I)I" } : Jvm.MethodName)) ∈ ga_tb := ga_mem 711 (by decide +kernel) rfl
theorem tm_712 : (Jvm.Cond.selects "LogPlacerModel" ({ cls := "LogPlacerModel", name := "allowed", desc := "(I)I" } : Jvm.MethodName) ({ cls := "LogPlacerModel", name := "allowed", desc := "(I)I" } : Jvm.MethodName)) ∈ ga_tb := ga_mem 712 (by decide +kernel) rfl
set_option maxRecDepth 20000 in
theorem tm_713 : (Jvm.Cond.code ({ cls := "LogPlacerModel", name := "allowed", desc := "(I)I" } : Jvm.MethodName) prog_9_method_36_code (4 : Nat) (Option.some Jvm.ClassFile.FieldType.int)) ∈ ga_tb := ga_mem 713 (rfl) rfl
theorem tm_714 : (Jvm.Cond.methodLink "LogPlacerLaw" (98 : Nat) ({ cls := "LogPlacerModel", name := "found", desc := "(I)I" } : Jvm.MethodName)) ∈ ga_tb := ga_mem 714 (by decide +kernel) rfl
theorem tm_715 : (Jvm.Cond.instanceMethod ({ cls := "LogPlacerModel", name := "found", desc := "(I)I" } : Jvm.MethodName)) ∈ ga_tb := ga_mem 715 (by decide +kernel) rfl
theorem tm_716 : (Jvm.Cond.selects "LogPlacerModel" ({ cls := "LogPlacerModel", name := "found", desc := "(I)I" } : Jvm.MethodName) ({ cls := "LogPlacerModel", name := "found", desc := "(I)I" } : Jvm.MethodName)) ∈ ga_tb := ga_mem 716 (by decide +kernel) rfl
set_option maxRecDepth 20000 in
theorem tm_717 : (Jvm.Cond.code ({ cls := "LogPlacerModel", name := "found", desc := "(I)I" } : Jvm.MethodName) prog_9_method_37_code (7 : Nat) (Option.some Jvm.ClassFile.FieldType.int)) ∈ ga_tb := ga_mem 717 (rfl) rfl
theorem tm_718 : (Jvm.Cond.constantLong "LogPlacerModel" (153 : Nat) (3 : Int64)) ∈ ga_tb := ga_mem 718 (by decide +kernel) rfl
theorem tm_719 : (Jvm.Cond.methodLink "LogPlacerLaw" (102 : Nat) ({ cls := "LogPlacerModel", name := "look", desc := "(II)I" } : Jvm.MethodName)) ∈ ga_tb := ga_mem 719 (by decide +kernel) rfl
theorem tm_720 : (Jvm.Cond.instanceMethod ({ cls := "LogPlacerModel", name := "look", desc := "(II)I" } : Jvm.MethodName)) ∈ ga_tb := ga_mem 720 (by decide +kernel) rfl
theorem tm_721 : (Jvm.Cond.selects "LogPlacerModel" ({ cls := "LogPlacerModel", name := "look", desc := "(II)I" } : Jvm.MethodName) ({ cls := "LogPlacerModel", name := "look", desc := "(II)I" } : Jvm.MethodName)) ∈ ga_tb := ga_mem 721 (by decide +kernel) rfl
set_option maxRecDepth 20000 in
theorem tm_722 : (Jvm.Cond.code ({ cls := "LogPlacerModel", name := "look", desc := "(II)I" } : Jvm.MethodName) prog_9_method_38_code (3 : Nat) (Option.some Jvm.ClassFile.FieldType.int)) ∈ ga_tb := ga_mem 722 (rfl) rfl
theorem tm_723 : (Jvm.Cond.methodLink "LogPlacerLaw" (106 : Nat) ({ cls := "LogPlacerModel", name := "count", desc := "(I)J" } : Jvm.MethodName)) ∈ ga_tb := ga_mem 723 (by decide +kernel) rfl
theorem tm_724 : (Jvm.Cond.instanceMethod ({ cls := "LogPlacerModel", name := "count", desc := "(I)J" } : Jvm.MethodName)) ∈ ga_tb := ga_mem 724 (by decide +kernel) rfl
theorem tm_725 : (Jvm.Cond.selects "LogPlacerModel" ({ cls := "LogPlacerModel", name := "count", desc := "(I)J" } : Jvm.MethodName) ({ cls := "LogPlacerModel", name := "count", desc := "(I)J" } : Jvm.MethodName)) ∈ ga_tb := ga_mem 725 (by decide +kernel) rfl
set_option maxRecDepth 20000 in
theorem tm_726 : (Jvm.Cond.code ({ cls := "LogPlacerModel", name := "count", desc := "(I)J" } : Jvm.MethodName) prog_9_method_39_code (2 : Nat) (Option.some Jvm.ClassFile.FieldType.long)) ∈ ga_tb := ga_mem 726 (rfl) rfl
def ga_nw : List Cond := [(Jvm.Cond.methodLinkNest "LogPlacer" (11 : Nat) ({ cls := "LogPlacer$Program", name := "<init>", desc := "()V" } : Jvm.MethodName) "LogPlacer"), (Jvm.Cond.methodLinkNest "LogPlacer" (18 : Nat) ({ cls := "LogPlacer$Routes", name := "<init>", desc := "()V" } : Jvm.MethodName) "LogPlacer"), (Jvm.Cond.methodLinkNest "LogPlacer" (25 : Nat) ({ cls := "LogPlacer$Partings", name := "<init>", desc := "()V" } : Jvm.MethodName) "LogPlacer"), (Jvm.Cond.methodLinkNest "LogPlacer" (44 : Nat) ({ cls := "LogPlacer$Tape", name := "<init>", desc := "()V" } : Jvm.MethodName) "LogPlacer"), (Jvm.Cond.methodLinkNest "LogPlacer" (51 : Nat) ({ cls := "LogPlacer$Reading", name := "<init>", desc := "()V" } : Jvm.MethodName) "LogPlacer"), (Jvm.Cond.methodLinkNest "LogPlacer$Program" (47 : Nat) ({ cls := "LogPlacer", name := "member", desc := "(II)I" } : Jvm.MethodName) "LogPlacer"), (Jvm.Cond.methodLinkNest "LogPlacer$Program" (43 : Nat) ({ cls := "LogPlacer", name := "has", desc := "(II)Z" } : Jvm.MethodName) "LogPlacer"), (Jvm.Cond.methodLinkNest "LogPlacer$Search" (57 : Nat) ({ cls := "LogPlacer", name := "has", desc := "(II)Z" } : Jvm.MethodName) "LogPlacer")]
theorem tn_0 : (Jvm.Cond.methodLinkNest "LogPlacer" (11 : Nat) ({ cls := "LogPlacer$Program", name := "<init>", desc := "()V" } : Jvm.MethodName) "LogPlacer") ∈ lw_tbl := List.mem_of_getElem? (i := 43) (by decide +kernel)
theorem tn_1 : (Jvm.Cond.methodLinkNest "LogPlacer" (18 : Nat) ({ cls := "LogPlacer$Routes", name := "<init>", desc := "()V" } : Jvm.MethodName) "LogPlacer") ∈ lw_tbl := List.mem_of_getElem? (i := 90) (by decide +kernel)
theorem tn_2 : (Jvm.Cond.methodLinkNest "LogPlacer" (25 : Nat) ({ cls := "LogPlacer$Partings", name := "<init>", desc := "()V" } : Jvm.MethodName) "LogPlacer") ∈ lw_tbl := List.mem_of_getElem? (i := 122) (by decide +kernel)
theorem tn_3 : (Jvm.Cond.methodLinkNest "LogPlacer" (44 : Nat) ({ cls := "LogPlacer$Tape", name := "<init>", desc := "()V" } : Jvm.MethodName) "LogPlacer") ∈ lw_tbl := List.mem_of_getElem? (i := 157) (by decide +kernel)
theorem tn_4 : (Jvm.Cond.methodLinkNest "LogPlacer" (51 : Nat) ({ cls := "LogPlacer$Reading", name := "<init>", desc := "()V" } : Jvm.MethodName) "LogPlacer") ∈ lw_tbl := List.mem_of_getElem? (i := 172) (by decide +kernel)
theorem tn_5 : (Jvm.Cond.methodLinkNest "LogPlacer$Program" (47 : Nat) ({ cls := "LogPlacer", name := "member", desc := "(II)I" } : Jvm.MethodName) "LogPlacer") ∈ lw_tbl := List.mem_of_getElem? (i := 302) (by decide +kernel)
theorem tn_6 : (Jvm.Cond.methodLinkNest "LogPlacer$Program" (43 : Nat) ({ cls := "LogPlacer", name := "has", desc := "(II)Z" } : Jvm.MethodName) "LogPlacer") ∈ lw_tbl := List.mem_of_getElem? (i := 385) (by decide +kernel)
theorem tn_7 : (Jvm.Cond.methodLinkNest "LogPlacer$Search" (57 : Nat) ({ cls := "LogPlacer", name := "has", desc := "(II)Z" } : Jvm.MethodName) "LogPlacer") ∈ lw_tbl := List.mem_of_getElem? (i := 403) (by decide +kernel)
theorem ga_nwt : ∀ w ∈ ga_nw, w ∈ lw_tbl := List.forall_mem_cons.mpr ⟨tn_0, List.forall_mem_cons.mpr ⟨tn_1, List.forall_mem_cons.mpr ⟨tn_2, List.forall_mem_cons.mpr ⟨tn_3, List.forall_mem_cons.mpr ⟨tn_4, List.forall_mem_cons.mpr ⟨tn_5, List.forall_mem_cons.mpr ⟨tn_6, List.forall_mem_cons.mpr ⟨tn_7, fun _ h => absurd h List.not_mem_nil⟩⟩⟩⟩⟩⟩⟩⟩
set_option maxRecDepth 20000 in
theorem iX0 : ∀ w ∈ u_ws RX0 TX0 3, w ∈ ga_tb := by decide +kernel
set_option maxRecDepth 20000 in
theorem iX1 : ∀ w ∈ u_ws RX1 TX1 8, w ∈ ga_tb := by decide +kernel
set_option maxRecDepth 20000 in
theorem iX2 : ∀ w ∈ u_ws RX2 TX2 6, w ∈ ga_tb := by decide +kernel
set_option maxRecDepth 20000 in
theorem iX3 : ∀ w ∈ u_ws RX3 TX3 5, w ∈ ga_tb := by decide +kernel
set_option maxRecDepth 20000 in
theorem iX4 : ∀ w ∈ u_ws RX4 TX4 3, w ∈ ga_tb := by decide +kernel
set_option maxRecDepth 20000 in
theorem iX5 : ∀ w ∈ u_ws RX5 TX5 2, w ∈ ga_tb := by decide +kernel
set_option maxRecDepth 20000 in
theorem iX6 : ∀ w ∈ u_ws RX6 TX6 7, w ∈ ga_tb := by decide +kernel
set_option maxRecDepth 20000 in
theorem iX7 : ∀ w ∈ u_ws RX7 TX7 23, w ∈ ga_tb := by decide +kernel
