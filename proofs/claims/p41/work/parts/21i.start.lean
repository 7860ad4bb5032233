/-! The start: what holds at the law's entry. -/
theorem nv_in (k : Nat) {w : Cond} (h : (flatC (Jvm.Cond.and given_1 narrow_1))[k]? = some w) : w ∈ flatC (Jvm.Cond.and given_1 narrow_1) := List.mem_of_getElem? h
theorem tv_in (k : Nat) {w : Cond} (h : tables_1[k]? = some w) : w ∈ lw_tbl := List.mem_append_right _ (List.mem_of_getElem? h)
theorem tv_0 : (Jvm.Cond.arrayClass Jvm.ClassFile.FieldType.int) ∈ lw_tbl := tv_in 79 (by decide +kernel)
theorem tv_1 : (Jvm.Cond.arrayClass Jvm.ClassFile.FieldType.long) ∈ lw_tbl := tv_in 152 (by decide +kernel)
theorem tv_2 : (Jvm.Cond.arrayClass Jvm.ClassFile.FieldType.boolean) ∈ lw_tbl := tv_in 153 (by decide +kernel)
theorem tv_3 : (Jvm.Cond.arrayOver (Jvm.ClassFile.FieldType.object "Threewayleaf$State")) ∈ lw_tbl := tv_in 252 (by decide +kernel)
theorem tv_4 : (Jvm.Cond.arrayOver (Jvm.ClassFile.FieldType.object "java/lang/Object")) ∈ lw_tbl := tv_in 330 (by decide +kernel)
theorem tv_5 : (Jvm.Cond.instantiable "Threewayleaf" (12 : Nat)) ∈ lw_tbl := tv_in 32 (by decide +kernel)
theorem tv_6 : (Jvm.Cond.instantiable "Threewayleaf$Stock" (11 : Nat)) ∈ lw_tbl := tv_in 40 (by decide +kernel)
theorem tv_7 : (Jvm.Cond.instantiable "Threewayleaf$Look" (2 : Nat)) ∈ lw_tbl := tv_in 81 (by decide +kernel)
theorem tv_8 : (Jvm.Cond.instantiable "Threewayleaf$History" (5 : Nat)) ∈ lw_tbl := tv_in 95 (by decide +kernel)
theorem tv_9 : (Jvm.Cond.instantiable "java/util/ArrayList" (3 : Nat)) ∈ lw_tbl := tv_in 101 (by decide +kernel)
theorem tv_10 : (Jvm.Cond.instantiable "Threewayleaf$State" (5 : Nat)) ∈ lw_tbl := tv_in 127 (by decide +kernel)
theorem tv_11 : (Jvm.Cond.instantiable "Threewayleaf$BaseFinder" (3 : Nat)) ∈ lw_tbl := tv_in 171 (by decide +kernel)
theorem tv_12 : (Jvm.Cond.instantiable "Threewayleaf$Script" (3 : Nat)) ∈ lw_tbl := tv_in 189 (by decide +kernel)
theorem tv_13 : (Jvm.Cond.instantiable "Threewayleaf$Printer" (3 : Nat)) ∈ lw_tbl := tv_in 205 (by decide +kernel)
theorem tv_14 : (Jvm.Cond.instantiable "Threewayleaf$Matcher" (8 : Nat)) ∈ lw_tbl := tv_in 221 (by decide +kernel)
theorem tv_15 : (Jvm.Cond.instantiable "Threewayleaf$Join" (6 : Nat)) ∈ lw_tbl := tv_in 941 (by decide +kernel)
theorem tv_16 : (Jvm.Cond.instantiable "java/lang/IndexOutOfBoundsException" (6 : Nat)) ∈ lw_tbl := tv_in 395 (by decide +kernel)
theorem tv_17 : (Jvm.Cond.instantiable "java/lang/IllegalArgumentException" (6 : Nat)) ∈ lw_tbl := tv_in 601 (by decide +kernel)
theorem tv_18 : (Jvm.Cond.instantiable "java/lang/IllegalStateException" (6 : Nat)) ∈ lw_tbl := tv_in 625 (by decide +kernel)
theorem tv_19 : (Jvm.Cond.instantiable "java/util/NoSuchElementException" (6 : Nat)) ∈ lw_tbl := tv_in 863 (by decide +kernel)
theorem tv_20 : (Jvm.Cond.methodLinkNest "Threewayleaf" (9 : Nat) ({ cls := "Threewayleaf$Stock", name := "<init>", desc := "()V" } : Jvm.MethodName) "Threewayleaf") ∈ lw_tbl := tv_in 41 (by decide +kernel)
theorem tv_21 : (Jvm.Cond.fieldLinkNest "Threewayleaf$Join" (9 : Nat) "Threewayleaf$Look" "stock" "LThreewayleaf$Stock;" "Threewayleaf") ∈ lw_tbl := tv_in 86 (by decide +kernel)
theorem tv_22 : (Jvm.Cond.methodLinkNest "Threewayleaf" (27 : Nat) ({ cls := "Threewayleaf$History", name := "<init>", desc := "()V" } : Jvm.MethodName) "Threewayleaf") ∈ lw_tbl := tv_in 96 (by decide +kernel)
theorem tv_23 : (Jvm.Cond.methodLinkNest "Threewayleaf" (43 : Nat) ({ cls := "Threewayleaf$Script", name := "<init>", desc := "()V" } : Jvm.MethodName) "Threewayleaf") ∈ lw_tbl := tv_in 190 (by decide +kernel)
theorem tv_24 : (Jvm.Cond.castable "java/lang/IndexOutOfBoundsException" "java/lang/IndexOutOfBoundsException") ∈ lw_tbl := tv_in 396 (by decide +kernel)
theorem tv_25 : (Jvm.Cond.declares ({ cls := "java/lang/RuntimeException", name := "<init>", desc := "()V" } : Jvm.MethodName)) ∈ lw_tbl := tv_in 397 (by decide +kernel)
theorem tv_26 : (Jvm.Cond.declares ({ cls := "java/lang/RuntimeException", name := "<init>", desc := "(Ljava/lang/String;)V" } : Jvm.MethodName)) ∈ lw_tbl := tv_in 398 (by decide +kernel)
theorem tv_27 : (Jvm.Cond.declares ({ cls := "java/lang/Exception", name := "<init>", desc := "()V" } : Jvm.MethodName)) ∈ lw_tbl := tv_in 399 (by decide +kernel)
theorem tv_28 : (Jvm.Cond.declares ({ cls := "java/lang/Exception", name := "<init>", desc := "(Ljava/lang/String;)V" } : Jvm.MethodName)) ∈ lw_tbl := tv_in 400 (by decide +kernel)
theorem tv_29 : (Jvm.Cond.declares ({ cls := "java/lang/Throwable", name := "<init>", desc := "()V" } : Jvm.MethodName)) ∈ lw_tbl := tv_in 401 (by decide +kernel)
theorem tv_30 : (Jvm.Cond.declares ({ cls := "java/lang/Throwable", name := "<init>", desc := "(Ljava/lang/String;)V" } : Jvm.MethodName)) ∈ lw_tbl := tv_in 402 (by decide +kernel)
theorem tv_31 : (Jvm.Cond.castable "java/lang/IllegalArgumentException" "java/lang/IllegalArgumentException") ∈ lw_tbl := tv_in 602 (by decide +kernel)
theorem tv_32 : (Jvm.Cond.castable "java/lang/IllegalStateException" "java/lang/IllegalStateException") ∈ lw_tbl := tv_in 626 (by decide +kernel)
theorem tv_33 : (Jvm.Cond.castable "java/util/NoSuchElementException" "java/util/NoSuchElementException") ∈ lw_tbl := tv_in 864 (by decide +kernel)
theorem tv_34 : (Jvm.Cond.methodLinkNest "Threewayleaf" (333 : Nat) ({ cls := "Threewayleaf$BaseFinder", name := "baseOf", desc := "(LThreewayleaf$BaseFinder;III)LThreewayleaf$State;" } : Jvm.MethodName) "Threewayleaf") ∈ lw_tbl := tv_in 920 (by decide +kernel)
theorem tv_35 : (Jvm.Cond.methodLinkNest "Threewayleaf$Join" (135 : Nat) ({ cls := "Threewayleaf", name := "conflictWith", desc := "(II)I" } : Jvm.MethodName) "Threewayleaf") ∈ lw_tbl := tv_in 994 (by decide +kernel)
theorem tv_36 : (Jvm.Cond.methodLinkNest "Threewayleaf$Printer" (92 : Nat) ({ cls := "Threewayleaf", name := "optionOf", desc := "(II)I" } : Jvm.MethodName) "Threewayleaf") ∈ lw_tbl := tv_in 1199 (by decide +kernel)
theorem tv_37 : (Jvm.Cond.castable "Threewayleaf$State" "java/lang/Object") ∈ lw_tbl := tv_in 1338 (by decide +kernel)
theorem tv_38 : (Jvm.Cond.castable "Threewayleaf" "java/lang/Object") ∈ lw_tbl := tv_in 1339 (by decide +kernel)
theorem tv_39 : (Jvm.Cond.castable "Threewayleaf$Stock" "java/lang/Object") ∈ lw_tbl := tv_in 1340 (by decide +kernel)
theorem tv_40 : (Jvm.Cond.castable "Threewayleaf$Look" "java/lang/Object") ∈ lw_tbl := tv_in 1341 (by decide +kernel)
theorem tv_41 : (Jvm.Cond.castable "Threewayleaf$History" "java/lang/Object") ∈ lw_tbl := tv_in 1342 (by decide +kernel)
theorem tv_42 : (Jvm.Cond.castable "java/util/ArrayList" "java/lang/Object") ∈ lw_tbl := tv_in 1343 (by decide +kernel)
theorem tv_43 : (Jvm.Cond.castable "Threewayleaf$BaseFinder" "java/lang/Object") ∈ lw_tbl := tv_in 1344 (by decide +kernel)
theorem tv_44 : (Jvm.Cond.castable "Threewayleaf$Script" "java/lang/Object") ∈ lw_tbl := tv_in 1345 (by decide +kernel)
theorem tv_45 : (Jvm.Cond.castable "Threewayleaf$Printer" "java/lang/Object") ∈ lw_tbl := tv_in 1346 (by decide +kernel)
theorem tv_46 : (Jvm.Cond.castable "Threewayleaf$Matcher" "java/lang/Object") ∈ lw_tbl := tv_in 1347 (by decide +kernel)
theorem tv_47 : (Jvm.Cond.castable "java/lang/IndexOutOfBoundsException" "java/lang/Object") ∈ lw_tbl := tv_in 1348 (by decide +kernel)
theorem tv_48 : (Jvm.Cond.castable "java/lang/IllegalArgumentException" "java/lang/Object") ∈ lw_tbl := tv_in 1349 (by decide +kernel)
theorem tv_49 : (Jvm.Cond.castable "java/lang/IllegalStateException" "java/lang/Object") ∈ lw_tbl := tv_in 1350 (by decide +kernel)
theorem tv_50 : (Jvm.Cond.castable "java/util/NoSuchElementException" "java/lang/Object") ∈ lw_tbl := tv_in 1351 (by decide +kernel)
theorem tv_51 : (Jvm.Cond.castable "Threewayleaf$Join" "java/lang/Object") ∈ lw_tbl := tv_in 1352 (by decide +kernel)
theorem tv_52 : (Jvm.Cond.castable "java/lang/Throwable" "java/lang/Object") ∈ lw_tbl := tv_in 1353 (by decide +kernel)
theorem tv_53 : (Jvm.Cond.castable "java/lang/String" "java/lang/Object") ∈ lw_tbl := tv_in 1354 (by decide +kernel)
theorem tv_54 : (Jvm.Cond.declares ({ cls := "java/lang/Object", name := "getClass", desc := "()Ljava/lang/Class;" } : Jvm.MethodName)) ∈ lw_tbl := tv_in 1357 (by decide +kernel)
theorem tv_55 : (Jvm.Cond.castable "[I" "java/lang/Object") ∈ lw_tbl := tv_in 1358 (by decide +kernel)
theorem tv_56 : (Jvm.Cond.castable "[J" "java/lang/Object") ∈ lw_tbl := tv_in 1359 (by decide +kernel)
theorem tv_57 : (Jvm.Cond.castable "[Z" "java/lang/Object") ∈ lw_tbl := tv_in 1360 (by decide +kernel)
theorem tv_58 : (Jvm.Cond.castable "[LThreewayleaf$State;" "java/lang/Object") ∈ lw_tbl := tv_in 1361 (by decide +kernel)
theorem tv_59 : (Jvm.Cond.castable "[Ljava/lang/Object;" "java/lang/Object") ∈ lw_tbl := tv_in 1362 (by decide +kernel)
theorem tv_60 : (Jvm.Cond.castable "[B" "java/lang/Object") ∈ lw_tbl := tv_in 1363 (by decide +kernel)
theorem tv_61 : (Jvm.Cond.stringRef "Threewayleaf" (126 : Nat) "no more nodes") ∈ lw_tbl := tv_in 644 (by decide +kernel)
theorem tv_62 : (Jvm.Cond.stringRef "Threewayleaf" (174 : Nat) "the node is no LINK") ∈ lw_tbl := tv_in 803 (by decide +kernel)
theorem tv_63 : (Jvm.Cond.stringRef "Threewayleaf" (187 : Nat) "no more words") ∈ lw_tbl := tv_in 819 (by decide +kernel)
theorem tv_64 : (Jvm.Cond.stringRef "Threewayleaf" (182 : Nat) "the node is no LEAF") ∈ lw_tbl := tv_in 814 (by decide +kernel)
theorem tv_65 : (Jvm.Cond.stringRef "Threewayleaf" (233 : Nat) "no more versions") ∈ lw_tbl := tv_in 893 (by decide +kernel)
theorem tv_66 : (Jvm.Cond.stringRef "Threewayleaf" (228 : Nat) "the branch is clean") ∈ lw_tbl := tv_in 888 (by decide +kernel)
theorem tv_67 : (Jvm.Cond.stringRef "Threewayleaf" (249 : Nat) "no more branches") ∈ lw_tbl := tv_in 898 (by decide +kernel)
theorem tv_68 : (Jvm.Cond.stringRef "Threewayleaf" (346 : Nat) "the text has no such char") ∈ lw_tbl := tv_in 1062 (by decide +kernel)
theorem tv_69 : (Jvm.Cond.stringRef "Threewayleaf" (362 : Nat) "there is no such branch") ∈ lw_tbl := tv_in 436 (by decide +kernel)
theorem tv_70 : (Jvm.Cond.stringRef "Threewayleaf" (313 : Nat) "the place is below 0") ∈ lw_tbl := tv_in 1234 (by decide +kernel)
theorem tv_71 : (Jvm.Cond.stringRef "Threewayleaf" (364 : Nat) "there is no such version") ∈ lw_tbl := tv_in 544 (by decide +kernel)
theorem tv_72 : (Jvm.Cond.stringRef "Threewayleaf" (375 : Nat) "an argument is out of its range") ∈ lw_tbl := tv_in 609 (by decide +kernel)
theorem tv_73 : (Jvm.Cond.stringRef "Threewayleaf" (371 : Nat) "the node is not there") ∈ lw_tbl := tv_in 582 (by decide +kernel)
theorem tv_74 : (Jvm.Cond.stringRef "Threewayleaf" (380 : Nat) "the parent is a LEAF or a LINK") ∈ lw_tbl := tv_in 633 (by decide +kernel)
theorem tv_75 : (Jvm.Cond.stringRef "Threewayleaf" (396 : Nat) "no more spots") ∈ lw_tbl := tv_in 691 (by decide +kernel)
theorem tv_76 : (Jvm.Cond.stringRef "Threewayleaf" (402 : Nat) "a rule would be broken") ∈ lw_tbl := tv_in 732 (by decide +kernel)
theorem tv_77 : (Jvm.Cond.stringRef "Threewayleaf" (378 : Nat) "the node is the root") ∈ lw_tbl := tv_in 752 (by decide +kernel)
theorem tv_78 : (Jvm.Cond.stringRef "Threewayleaf" (163 : Nat) "the parent is the node or below it") ∈ lw_tbl := tv_in 792 (by decide +kernel)
theorem tv_79 : (Jvm.Cond.stringRef "Threewayleaf" (384 : Nat) "there is no such place of a word") ∈ lw_tbl := tv_in 841 (by decide +kernel)
theorem tv_80 : (Jvm.Cond.stringRef "Threewayleaf" (219 : Nat) "the holder of the spot is not there") ∈ lw_tbl := tv_in 882 (by decide +kernel)
theorem tv_81 : (Jvm.Cond.stringRef "Threewayleaf" (382 : Nat) "the branch is not clean") ∈ lw_tbl := tv_in 911 (by decide +kernel)
theorem tv_82 : (Jvm.Cond.stringRef "Threewayleaf" (369 : Nat) "there is no such node") ∈ lw_tbl := tv_in 1221 (by decide +kernel)
theorem tv_83 : (Jvm.Cond.stringRef "Threewayleaf" (389 : Nat) "the node has no such conflict") ∈ lw_tbl := tv_in 871 (by decide +kernel)
theorem tv_84 : (Jvm.Cond.laysStatic "java/lang/Throwable" "UNASSIGNED_STACK" "[Ljava/lang/StackTraceElement;") ∈ lw_tbl := tv_in 421 (by decide +kernel)
theorem tv_85 : (Jvm.Cond.laysStatic "java/lang/Throwable" "SUPPRESSED_SENTINEL" "Ljava/util/List;") ∈ lw_tbl := tv_in 423 (by decide +kernel)
theorem tv_86 : (Jvm.Cond.laysStatic "java/util/ArrayList" "DEFAULTCAPACITY_EMPTY_ELEMENTDATA" "[Ljava/lang/Object;") ∈ lw_tbl := tv_in 113 (by decide +kernel)
theorem tv_87 : (Jvm.Cond.initialized "java/lang/Throwable") ∈ lw_tbl := tv_in 17 (by decide +kernel)
theorem tv_88 : (Jvm.Cond.initialized "java/util/ArrayList") ∈ lw_tbl := tv_in 7 (by decide +kernel)
theorem tv_89 : (Jvm.Cond.initialized "java/lang/String") ∈ lw_tbl := tv_in 27 (by decide +kernel)
theorem tv_90 : (Jvm.Cond.initialized "jdk/internal/util/Preconditions") ∈ lw_tbl := tv_in 22 (by decide +kernel)
theorem tv_91 : (Jvm.Cond.stringRef "Threewayleaf$Script" (63 : Nat) "+*#@?!~-") ∈ lw_tbl := tv_in 1079 (by decide +kernel)
theorem tv_92 : (Jvm.Cond.laysStatic "java/lang/String" "COMPACT_STRINGS" "Z") ∈ lw_tbl := tv_in 1089 (by decide +kernel)
theorem tv_93 : (Jvm.Cond.laysStatic "jdk/internal/util/Preconditions" "SIOOBE_FORMATTER" "Ljava/util/function/BiFunction;") ∈ lw_tbl := tv_in 1105 (by decide +kernel)
theorem nv_0 : (Jvm.Cond.exactly (Jvm.Term.string "Threewayleaf" (126 : Nat)) "java/lang/String") ∈ flatC (Jvm.Cond.and given_1 narrow_1) := nv_in 247 (by decide +kernel)
theorem nv_1 : (Jvm.Cond.exactly (Jvm.Term.string "Threewayleaf" (174 : Nat)) "java/lang/String") ∈ flatC (Jvm.Cond.and given_1 narrow_1) := nv_in 404 (by decide +kernel)
theorem nv_2 : (Jvm.Cond.exactly (Jvm.Term.string "Threewayleaf" (187 : Nat)) "java/lang/String") ∈ flatC (Jvm.Cond.and given_1 narrow_1) := nv_in 471 (by decide +kernel)
theorem nv_3 : (Jvm.Cond.exactly (Jvm.Term.string "Threewayleaf" (182 : Nat)) "java/lang/String") ∈ flatC (Jvm.Cond.and given_1 narrow_1) := nv_in 437 (by decide +kernel)
theorem nv_4 : (Jvm.Cond.exactly (Jvm.Term.string "Threewayleaf" (233 : Nat)) "java/lang/String") ∈ flatC (Jvm.Cond.and given_1 narrow_1) := nv_in 689 (by decide +kernel)
theorem nv_5 : (Jvm.Cond.exactly (Jvm.Term.string "Threewayleaf" (228 : Nat)) "java/lang/String") ∈ flatC (Jvm.Cond.and given_1 narrow_1) := nv_in 650 (by decide +kernel)
theorem nv_6 : (Jvm.Cond.exactly (Jvm.Term.string "Threewayleaf" (249 : Nat)) "java/lang/String") ∈ flatC (Jvm.Cond.and given_1 narrow_1) := nv_in 726 (by decide +kernel)
theorem nv_7 : (Jvm.Cond.exactly (Jvm.Term.string "Threewayleaf" (346 : Nat)) "java/lang/String") ∈ flatC (Jvm.Cond.and given_1 narrow_1) := nv_in 810 (by decide +kernel)
theorem nv_8 : (Jvm.Cond.exactly (Jvm.Term.string "Threewayleaf" (362 : Nat)) "java/lang/String") ∈ flatC (Jvm.Cond.and given_1 narrow_1) := nv_in 88 (by decide +kernel)
theorem nv_9 : (Jvm.Cond.exactly (Jvm.Term.string "Threewayleaf" (313 : Nat)) "java/lang/String") ∈ flatC (Jvm.Cond.and given_1 narrow_1) := nv_in 939 (by decide +kernel)
theorem nv_10 : (Jvm.Cond.exactly (Jvm.Term.string "Threewayleaf" (364 : Nat)) "java/lang/String") ∈ flatC (Jvm.Cond.and given_1 narrow_1) := nv_in 115 (by decide +kernel)
theorem nv_11 : (Jvm.Cond.exactly (Jvm.Term.string "Threewayleaf" (375 : Nat)) "java/lang/String") ∈ flatC (Jvm.Cond.and given_1 narrow_1) := nv_in 171 (by decide +kernel)
theorem nv_12 : (Jvm.Cond.exactly (Jvm.Term.string "Threewayleaf" (371 : Nat)) "java/lang/String") ∈ flatC (Jvm.Cond.and given_1 narrow_1) := nv_in 144 (by decide +kernel)
theorem nv_13 : (Jvm.Cond.exactly (Jvm.Term.string "Threewayleaf" (380 : Nat)) "java/lang/String") ∈ flatC (Jvm.Cond.and given_1 narrow_1) := nv_in 209 (by decide +kernel)
theorem nv_14 : (Jvm.Cond.exactly (Jvm.Term.string "Threewayleaf" (396 : Nat)) "java/lang/String") ∈ flatC (Jvm.Cond.and given_1 narrow_1) := nv_in 269 (by decide +kernel)
theorem nv_15 : (Jvm.Cond.exactly (Jvm.Term.string "Threewayleaf" (402 : Nat)) "java/lang/String") ∈ flatC (Jvm.Cond.and given_1 narrow_1) := nv_in 292 (by decide +kernel)
theorem nv_16 : (Jvm.Cond.exactly (Jvm.Term.string "Threewayleaf" (378 : Nat)) "java/lang/String") ∈ flatC (Jvm.Cond.and given_1 narrow_1) := nv_in 325 (by decide +kernel)
theorem nv_17 : (Jvm.Cond.exactly (Jvm.Term.string "Threewayleaf" (163 : Nat)) "java/lang/String") ∈ flatC (Jvm.Cond.and given_1 narrow_1) := nv_in 357 (by decide +kernel)
theorem nv_18 : (Jvm.Cond.exactly (Jvm.Term.string "Threewayleaf" (384 : Nat)) "java/lang/String") ∈ flatC (Jvm.Cond.and given_1 narrow_1) := nv_in 500 (by decide +kernel)
theorem nv_19 : (Jvm.Cond.exactly (Jvm.Term.string "Threewayleaf" (219 : Nat)) "java/lang/String") ∈ flatC (Jvm.Cond.and given_1 narrow_1) := nv_in 596 (by decide +kernel)
theorem nv_20 : (Jvm.Cond.exactly (Jvm.Term.string "Threewayleaf" (382 : Nat)) "java/lang/String") ∈ flatC (Jvm.Cond.and given_1 narrow_1) := nv_in 764 (by decide +kernel)
theorem nv_21 : (Jvm.Cond.exactly (Jvm.Term.string "Threewayleaf" (369 : Nat)) "java/lang/String") ∈ flatC (Jvm.Cond.and given_1 narrow_1) := nv_in 892 (by decide +kernel)
theorem nv_22 : (Jvm.Cond.exactly (Jvm.Term.string "Threewayleaf" (389 : Nat)) "java/lang/String") ∈ flatC (Jvm.Cond.and given_1 narrow_1) := nv_in 549 (by decide +kernel)
theorem nv_23 : (Jvm.Cond.not (Jvm.Cond.castable "java/lang/IndexOutOfBoundsException" "java/lang/IllegalArgumentException")) ∈ flatC (Jvm.Cond.and given_1 narrow_1) := nv_in 53 (by decide +kernel)
theorem nv_24 : (Jvm.Cond.not (Jvm.Cond.castable "java/lang/IndexOutOfBoundsException" "java/lang/IllegalStateException")) ∈ flatC (Jvm.Cond.and given_1 narrow_1) := nv_in 67 (by decide +kernel)
theorem nv_25 : (Jvm.Cond.not (Jvm.Cond.castable "java/lang/IndexOutOfBoundsException" "java/util/NoSuchElementException")) ∈ flatC (Jvm.Cond.and given_1 narrow_1) := nv_in 25 (by decide +kernel)
theorem nv_26 : (Jvm.Cond.not (Jvm.Cond.castable "java/lang/IllegalArgumentException" "java/lang/IndexOutOfBoundsException")) ∈ flatC (Jvm.Cond.and given_1 narrow_1) := nv_in 39 (by decide +kernel)
theorem nv_27 : (Jvm.Cond.not (Jvm.Cond.castable "java/lang/IllegalArgumentException" "java/lang/IllegalStateException")) ∈ flatC (Jvm.Cond.and given_1 narrow_1) := nv_in 68 (by decide +kernel)
theorem nv_28 : (Jvm.Cond.not (Jvm.Cond.castable "java/lang/IllegalArgumentException" "java/util/NoSuchElementException")) ∈ flatC (Jvm.Cond.and given_1 narrow_1) := nv_in 26 (by decide +kernel)
theorem nv_29 : (Jvm.Cond.not (Jvm.Cond.castable "java/lang/IllegalStateException" "java/lang/IndexOutOfBoundsException")) ∈ flatC (Jvm.Cond.and given_1 narrow_1) := nv_in 40 (by decide +kernel)
theorem nv_30 : (Jvm.Cond.not (Jvm.Cond.castable "java/lang/IllegalStateException" "java/lang/IllegalArgumentException")) ∈ flatC (Jvm.Cond.and given_1 narrow_1) := nv_in 54 (by decide +kernel)
theorem nv_31 : (Jvm.Cond.not (Jvm.Cond.castable "java/lang/IllegalStateException" "java/util/NoSuchElementException")) ∈ flatC (Jvm.Cond.and given_1 narrow_1) := nv_in 27 (by decide +kernel)
theorem nv_32 : (Jvm.Cond.not (Jvm.Cond.castable "java/util/NoSuchElementException" "java/lang/IndexOutOfBoundsException")) ∈ flatC (Jvm.Cond.and given_1 narrow_1) := nv_in 41 (by decide +kernel)
theorem nv_33 : (Jvm.Cond.not (Jvm.Cond.castable "java/util/NoSuchElementException" "java/lang/IllegalArgumentException")) ∈ flatC (Jvm.Cond.and given_1 narrow_1) := nv_in 55 (by decide +kernel)
theorem nv_34 : (Jvm.Cond.not (Jvm.Cond.castable "java/util/NoSuchElementException" "java/lang/IllegalStateException")) ∈ flatC (Jvm.Cond.and given_1 narrow_1) := nv_in 69 (by decide +kernel)
theorem nv_35 : (Jvm.Cond.isRef (Jvm.Term.static "java/lang/Throwable" "UNASSIGNED_STACK" "[Ljava/lang/StackTraceElement;")) ∈ flatC (Jvm.Cond.and given_1 narrow_1) := nv_in 8 (by decide +kernel)
theorem nv_36 : (Jvm.Cond.isRef (Jvm.Term.static "java/lang/Throwable" "SUPPRESSED_SENTINEL" "Ljava/util/List;")) ∈ flatC (Jvm.Cond.and given_1 narrow_1) := nv_in 9 (by decide +kernel)
theorem nv_37 : (Jvm.Cond.eq (Jvm.Term.length (Jvm.Term.static "java/util/ArrayList" "DEFAULTCAPACITY_EMPTY_ELEMENTDATA" "[Ljava/lang/Object;")) (Jvm.Term.int (0 : Int32))) ∈ flatC (Jvm.Cond.and given_1 narrow_1) := nv_in 7 (by decide +kernel)
theorem nv_38 : (Jvm.Cond.arrayOf (Jvm.Term.static "java/util/ArrayList" "DEFAULTCAPACITY_EMPTY_ELEMENTDATA" "[Ljava/lang/Object;") (Jvm.ClassFile.FieldType.object "java/lang/Object")) ∈ flatC (Jvm.Cond.and given_1 narrow_1) := nv_in 5 (by decide +kernel)
theorem nv_39 : (Jvm.Cond.exactly (Jvm.Term.string "Threewayleaf$Script" (63 : Nat)) "java/lang/String") ∈ flatC (Jvm.Cond.and given_1 narrow_1) := nv_in 859 (by decide +kernel)
theorem nv_40 : (Jvm.Cond.eq (Jvm.Term.field (Jvm.Term.string "Threewayleaf$Script" (63 : Nat)) "java/lang/String" "coder" "B") (Jvm.Term.int (0 : Int32))) ∈ flatC (Jvm.Cond.and given_1 narrow_1) := nv_in 860 (by decide +kernel)
theorem nv_41 : (Jvm.Cond.arrayOf (Jvm.Term.field (Jvm.Term.string "Threewayleaf$Script" (63 : Nat)) "java/lang/String" "value" "[B") Jvm.ClassFile.FieldType.byte) ∈ flatC (Jvm.Cond.and given_1 narrow_1) := nv_in 861 (by decide +kernel)
theorem nv_42 : (Jvm.Cond.eq (Jvm.Term.length (Jvm.Term.field (Jvm.Term.string "Threewayleaf$Script" (63 : Nat)) "java/lang/String" "value" "[B")) (Jvm.Term.int (8 : Int32))) ∈ flatC (Jvm.Cond.and given_1 narrow_1) := nv_in 862 (by decide +kernel)
theorem nv_43 : (Jvm.Cond.eq (Jvm.Term.elem (Jvm.Term.field (Jvm.Term.string "Threewayleaf$Script" (63 : Nat)) "java/lang/String" "value" "[B") (Jvm.Term.int (0 : Int32))) (Jvm.Term.int (43 : Int32))) ∈ flatC (Jvm.Cond.and given_1 narrow_1) := nv_in 863 (by decide +kernel)
theorem nv_44 : (Jvm.Cond.eq (Jvm.Term.elem (Jvm.Term.field (Jvm.Term.string "Threewayleaf$Script" (63 : Nat)) "java/lang/String" "value" "[B") (Jvm.Term.int (1 : Int32))) (Jvm.Term.int (42 : Int32))) ∈ flatC (Jvm.Cond.and given_1 narrow_1) := nv_in 864 (by decide +kernel)
theorem nv_45 : (Jvm.Cond.eq (Jvm.Term.elem (Jvm.Term.field (Jvm.Term.string "Threewayleaf$Script" (63 : Nat)) "java/lang/String" "value" "[B") (Jvm.Term.int (2 : Int32))) (Jvm.Term.int (35 : Int32))) ∈ flatC (Jvm.Cond.and given_1 narrow_1) := nv_in 865 (by decide +kernel)
theorem nv_46 : (Jvm.Cond.eq (Jvm.Term.elem (Jvm.Term.field (Jvm.Term.string "Threewayleaf$Script" (63 : Nat)) "java/lang/String" "value" "[B") (Jvm.Term.int (3 : Int32))) (Jvm.Term.int (64 : Int32))) ∈ flatC (Jvm.Cond.and given_1 narrow_1) := nv_in 866 (by decide +kernel)
theorem nv_47 : (Jvm.Cond.eq (Jvm.Term.elem (Jvm.Term.field (Jvm.Term.string "Threewayleaf$Script" (63 : Nat)) "java/lang/String" "value" "[B") (Jvm.Term.int (4 : Int32))) (Jvm.Term.int (63 : Int32))) ∈ flatC (Jvm.Cond.and given_1 narrow_1) := nv_in 867 (by decide +kernel)
theorem nv_48 : (Jvm.Cond.eq (Jvm.Term.elem (Jvm.Term.field (Jvm.Term.string "Threewayleaf$Script" (63 : Nat)) "java/lang/String" "value" "[B") (Jvm.Term.int (5 : Int32))) (Jvm.Term.int (33 : Int32))) ∈ flatC (Jvm.Cond.and given_1 narrow_1) := nv_in 868 (by decide +kernel)
theorem nv_49 : (Jvm.Cond.eq (Jvm.Term.elem (Jvm.Term.field (Jvm.Term.string "Threewayleaf$Script" (63 : Nat)) "java/lang/String" "value" "[B") (Jvm.Term.int (6 : Int32))) (Jvm.Term.int (126 : Int32))) ∈ flatC (Jvm.Cond.and given_1 narrow_1) := nv_in 869 (by decide +kernel)
theorem nv_50 : (Jvm.Cond.eq (Jvm.Term.elem (Jvm.Term.field (Jvm.Term.string "Threewayleaf$Script" (63 : Nat)) "java/lang/String" "value" "[B") (Jvm.Term.int (7 : Int32))) (Jvm.Term.int (45 : Int32))) ∈ flatC (Jvm.Cond.and given_1 narrow_1) := nv_in 870 (by decide +kernel)
theorem nv_51 : (Jvm.Cond.eq (Jvm.Term.static "java/lang/String" "COMPACT_STRINGS" "Z") (Jvm.Term.int (1 : Int32))) ∈ flatC (Jvm.Cond.and given_1 narrow_1) := nv_in 10 (by decide +kernel)
theorem nv_52 : (Jvm.Cond.isRef (Jvm.Term.static "jdk/internal/util/Preconditions" "SIOOBE_FORMATTER" "Ljava/util/function/BiFunction;")) ∈ flatC (Jvm.Cond.and given_1 narrow_1) := nv_in 11 (by decide +kernel)
theorem st_tys {args : Array Value} {s : State} (hts : ∀ w ∈ lw_tbl, w.before args s = true) : ∀ k : Nat, ∃ c : ClassId, ∀ t, ev_tyl[k]? = some t → ArrOfT s c t ∧ va_RA s c t := by
  intro k
  have prim : ∀ t : FieldType, (Cond.arrayClass t).before args s = true → (∀ c, s.vm.findClass ("[" ++ t.toString) = some c → va_RA s c t) → ∃ c : ClassId, ArrOfT s c t ∧ va_RA s c t := by
    intro t h hr
    obtain ⟨c, kA, comp, h1, h2, h3⟩ := Cond.arrayClass_spec h
    exact ⟨c, fun n z => ⟨(fun k h => by cases h), kA, h2, comp, h3⟩, hr c h1⟩
  have obj : ∀ C : String, (Cond.arrayOver (.object C)).before args s = true → ∃ c : ClassId, ArrOfT s c (.object C) ∧ va_RA s c (.object C) := by
    intro C h
    obtain ⟨comp, c, kA, h1, -, h2, h3, h4⟩ := Cond.arrayOver_spec h
    exact ⟨c, fun n z => ⟨(fun k h => by cases h), kA, h2, comp, h3⟩, kA, comp, h2, h3, h1, h4⟩
  match k with
  | 0 => obtain ⟨c, h⟩ := prim .int (hts _ tv_0) (fun c h => h); exact ⟨c, fun t e => by cases e; exact h⟩
  | 1 => obtain ⟨c, h⟩ := prim .long (hts _ tv_1) (fun c h => h); exact ⟨c, fun t e => by cases e; exact h⟩
  | 2 => obtain ⟨c, h⟩ := prim .boolean (hts _ tv_2) (fun c h => h); exact ⟨c, fun t e => by cases e; exact h⟩
  | 3 => obtain ⟨c, h⟩ := obj "Threewayleaf$State" (hts _ tv_3); exact ⟨c, fun t e => by cases e; exact h⟩
  | 4 => obtain ⟨c, h⟩ := obj "java/lang/Object" (hts _ tv_4); exact ⟨c, fun t e => by cases e; exact h⟩
  | k + 5 => exact ⟨0, fun t e => by cases e⟩
theorem st_ts {w : Cond} (h : w ∈ fx_Ts) : w ∈ lw_tbl := (List.mem_filter.mp h).1
theorem st_ins : ∀ c ∈ fx_kl, ∃ n, (Cond.instantiable c.1 n) ∈ lw_tbl := (List.forall_mem_cons.mpr ⟨⟨_, tv_5⟩, (List.forall_mem_cons.mpr ⟨⟨_, tv_6⟩, (List.forall_mem_cons.mpr ⟨⟨_, tv_7⟩, (List.forall_mem_cons.mpr ⟨⟨_, tv_8⟩, (List.forall_mem_cons.mpr ⟨⟨_, tv_9⟩, (List.forall_mem_cons.mpr ⟨⟨_, tv_10⟩, (List.forall_mem_cons.mpr ⟨⟨_, tv_11⟩, (List.forall_mem_cons.mpr ⟨⟨_, tv_12⟩, (List.forall_mem_cons.mpr ⟨⟨_, tv_13⟩, (List.forall_mem_cons.mpr ⟨⟨_, tv_14⟩, (List.forall_mem_cons.mpr ⟨⟨_, tv_15⟩, (List.forall_mem_cons.mpr ⟨⟨_, tv_16⟩, (List.forall_mem_cons.mpr ⟨⟨_, tv_17⟩, (List.forall_mem_cons.mpr ⟨⟨_, tv_18⟩, (List.forall_mem_cons.mpr ⟨⟨_, tv_19⟩, (fun _ h => absurd h List.not_mem_nil)⟩)⟩)⟩)⟩)⟩)⟩)⟩)⟩)⟩)⟩)⟩)⟩)⟩)⟩)⟩)
theorem st_ws : ∀ (k : Nat) (q : vw_C), fx_kl[k]? = some q → ∀ w ∈ u_ws q.1 q.2.1 q.2.2, w ∈ lw_tbl := by
  intro k q hq w hw
  match k, hq with
  | 0, hq => cases hq; exact st_ts (cw_0 w hw)
  | 1, hq => cases hq; exact st_ts (cw_1 w hw)
  | 2, hq => cases hq; exact st_ts (cw_2 w hw)
  | 3, hq => cases hq; exact st_ts (cw_3 w hw)
  | 4, hq => cases hq; exact st_ts (cw_4 w hw)
  | 5, hq => cases hq; exact st_ts (cw_5 w hw)
  | 6, hq => cases hq; exact st_ts (cw_6 w hw)
  | 7, hq => cases hq; exact st_ts (cw_7 w hw)
  | 8, hq => cases hq; exact st_ts (cw_8 w hw)
  | 9, hq => cases hq; exact st_ts (cw_9 w hw)
  | 10, hq => cases hq; exact st_ts (cw_10 w hw)
  | 11, hq => cases hq; cases hw
  | 12, hq => cases hq; cases hw
  | 13, hq => cases hq; cases hw
  | 14, hq => cases hq; cases hw
  | k + 15, hq => cases hq
theorem st_cls {args : Array Value} {s : State} (hts : ∀ w ∈ lw_tbl, w.before args s = true) : ∀ k : Nat, ∃ y : ClassId × (Nat → Nat), ∀ q, fx_kl[k]? = some q → u_Kn s q.1 q.2.1 q.2.2 y.1 y.2 := by
  intro k
  cases hq : fx_kl[k]? with
  | none => exact ⟨(0, fun _ => 0), fun q h => by cases h⟩
  | some q =>
    obtain ⟨n, hi⟩ := st_ins q (List.mem_of_getElem? hq)
    obtain ⟨c, i, h⟩ := u_known (C := q.1) (T := q.2.1) (N := q.2.2) hts (st_ws k q hq) (hts _ hi)
    exact ⟨(c, i), fun q' h' => by cases h'; exact h⟩
theorem st_K {args : Array Value} {s : State} (hts : ∀ w ∈ lw_tbl, w.before args s = true) : ∃ (D : va_G) (aC : Nat → ClassId), va_K D fx_kl (ev_tys aC) s := by
  obtain ⟨aC, ha⟩ := Classical.axiomOfChoice (st_tys hts)
  obtain ⟨f, hf⟩ := Classical.axiomOfChoice (st_cls hts)
  refine ⟨(fun k => (f k).1, fun k => (f k).2), aC, fun k q hq => hf k q hq, fun k q hq => ?_⟩
  have hq : (ev_tyl.mapIdx (fun i t => (aC i, t)))[k]? = some q := hq
  rw [List.getElem?_mapIdx] at hq
  cases ht : ev_tyl[k]? with
  | none => rw [ht] at hq; cases hq
  | some t =>
    rw [ht] at hq
    cases hq
    exact ha k t ht
theorem st_bw : ∀ w ∈ fx_Bs, ev_bw w = true := by decide +kernel
theorem st_self (vm : Vm) (c : ClassId) : vm.assignable c c = true := by
  show vm.assignableAux (255 + 1) c c = true
  rw [Vm.assignableAux]
  simp only [beq_self_eq_true, Bool.true_or]
theorem st_cast {args : Array Value} {s : State} (hts : ∀ w ∈ lw_tbl, w.before args s = true) : va_Nw (Cond.castable "Threewayleaf$State" "Threewayleaf$State") s := by
  obtain ⟨c, hc⟩ : ∃ c, s.vm.findClass "Threewayleaf$State" = some c := by
    obtain ⟨c1, kX, hc1, -⟩ := Cond.instantiable_spec (hts _ tv_10)
    exact ⟨c1, hc1⟩
  show (Cond.castable _ _).holds #[] s none s [] = true
  simp [Cond.holds, Cond.value, hc, st_self]
theorem st_Bs {args : Array Value} {s : State} (hts : ∀ w ∈ lw_tbl, w.before args s = true) : ∀ w ∈ fx_Bs, va_Nw w s := (List.forall_mem_cons.mpr ⟨va_tabs rfl rfl (hts _ tv_20), (List.forall_mem_cons.mpr ⟨va_tabs rfl rfl (hts _ tv_21), (List.forall_mem_cons.mpr ⟨va_tabs rfl rfl (hts _ tv_22), (List.forall_mem_cons.mpr ⟨va_tabs rfl rfl (hts _ tv_23), (List.forall_mem_cons.mpr ⟨va_tabs rfl rfl (hts _ tv_24), (List.forall_mem_cons.mpr ⟨va_tabs rfl rfl (hts _ tv_25), (List.forall_mem_cons.mpr ⟨va_tabs rfl rfl (hts _ tv_26), (List.forall_mem_cons.mpr ⟨va_tabs rfl rfl (hts _ tv_27), (List.forall_mem_cons.mpr ⟨va_tabs rfl rfl (hts _ tv_28), (List.forall_mem_cons.mpr ⟨va_tabs rfl rfl (hts _ tv_29), (List.forall_mem_cons.mpr ⟨va_tabs rfl rfl (hts _ tv_30), (List.forall_mem_cons.mpr ⟨va_tabs rfl rfl (hts _ tv_31), (List.forall_mem_cons.mpr ⟨va_tabs rfl rfl (hts _ tv_32), (List.forall_mem_cons.mpr ⟨va_tabs rfl rfl (hts _ tv_33), (List.forall_mem_cons.mpr ⟨va_tabs rfl rfl (hts _ tv_34), (List.forall_mem_cons.mpr ⟨va_tabs rfl rfl (hts _ tv_35), (List.forall_mem_cons.mpr ⟨va_tabs rfl rfl (hts _ tv_36), (List.forall_mem_cons.mpr ⟨va_tabs rfl rfl (hts _ tv_37), (List.forall_mem_cons.mpr ⟨va_tabs rfl rfl (hts _ tv_38), (List.forall_mem_cons.mpr ⟨va_tabs rfl rfl (hts _ tv_39), (List.forall_mem_cons.mpr ⟨va_tabs rfl rfl (hts _ tv_40), (List.forall_mem_cons.mpr ⟨va_tabs rfl rfl (hts _ tv_41), (List.forall_mem_cons.mpr ⟨va_tabs rfl rfl (hts _ tv_42), (List.forall_mem_cons.mpr ⟨va_tabs rfl rfl (hts _ tv_43), (List.forall_mem_cons.mpr ⟨va_tabs rfl rfl (hts _ tv_44), (List.forall_mem_cons.mpr ⟨va_tabs rfl rfl (hts _ tv_45), (List.forall_mem_cons.mpr ⟨va_tabs rfl rfl (hts _ tv_46), (List.forall_mem_cons.mpr ⟨va_tabs rfl rfl (hts _ tv_47), (List.forall_mem_cons.mpr ⟨va_tabs rfl rfl (hts _ tv_48), (List.forall_mem_cons.mpr ⟨va_tabs rfl rfl (hts _ tv_49), (List.forall_mem_cons.mpr ⟨va_tabs rfl rfl (hts _ tv_50), (List.forall_mem_cons.mpr ⟨va_tabs rfl rfl (hts _ tv_51), (List.forall_mem_cons.mpr ⟨va_tabs rfl rfl (hts _ tv_52), (List.forall_mem_cons.mpr ⟨va_tabs rfl rfl (hts _ tv_53), (List.forall_mem_cons.mpr ⟨va_tabs rfl rfl (hts _ tv_54), (List.forall_mem_cons.mpr ⟨va_tabs rfl rfl (hts _ tv_55), (List.forall_mem_cons.mpr ⟨va_tabs rfl rfl (hts _ tv_56), (List.forall_mem_cons.mpr ⟨va_tabs rfl rfl (hts _ tv_57), (List.forall_mem_cons.mpr ⟨va_tabs rfl rfl (hts _ tv_58), (List.forall_mem_cons.mpr ⟨va_tabs rfl rfl (hts _ tv_59), (List.forall_mem_cons.mpr ⟨va_tabs rfl rfl (hts _ tv_60), (List.forall_mem_cons.mpr ⟨st_cast hts, (fun _ h => absurd h List.not_mem_nil)⟩)⟩)⟩)⟩)⟩)⟩)⟩)⟩)⟩)⟩)⟩)⟩)⟩)⟩)⟩)⟩)⟩)⟩)⟩)⟩)⟩)⟩)⟩)⟩)⟩)⟩)⟩)⟩)⟩)⟩)⟩)⟩)⟩)⟩)⟩)⟩)⟩)⟩)⟩)⟩)⟩)⟩)
theorem st_Ss {args : Array Value} {s : State} (hts : ∀ w ∈ lw_tbl, w.before args s = true) (hs : ∀ w ∈ flatC (Jvm.Cond.and given_1 narrow_1), w.before args s = true) : ∀ q ∈ fx_Ss, ∃ sa, vk_R q.1 q.2.1 q.2.2 sa s := by
  have key : ∀ (a : String) (b : Nat) (c : String), (Cond.stringRef a b c).before args s = true → (Cond.exactly (.string a b) "java/lang/String").before args s = true → ∃ sa, vk_R a b c sa s := by
    intro a b c h1 h2
    obtain ⟨sa, c1, cA, kA, q1, -⟩ := Cond.exactly_spec h2
    exact ⟨sa, vk_R.of h1 q1⟩
  exact (List.forall_mem_cons.mpr ⟨key _ _ _ (hts _ tv_61) (hs _ nv_0), (List.forall_mem_cons.mpr ⟨key _ _ _ (hts _ tv_62) (hs _ nv_1), (List.forall_mem_cons.mpr ⟨key _ _ _ (hts _ tv_63) (hs _ nv_2), (List.forall_mem_cons.mpr ⟨key _ _ _ (hts _ tv_64) (hs _ nv_3), (List.forall_mem_cons.mpr ⟨key _ _ _ (hts _ tv_65) (hs _ nv_4), (List.forall_mem_cons.mpr ⟨key _ _ _ (hts _ tv_66) (hs _ nv_5), (List.forall_mem_cons.mpr ⟨key _ _ _ (hts _ tv_67) (hs _ nv_6), (List.forall_mem_cons.mpr ⟨key _ _ _ (hts _ tv_68) (hs _ nv_7), (List.forall_mem_cons.mpr ⟨key _ _ _ (hts _ tv_69) (hs _ nv_8), (List.forall_mem_cons.mpr ⟨key _ _ _ (hts _ tv_70) (hs _ nv_9), (List.forall_mem_cons.mpr ⟨key _ _ _ (hts _ tv_71) (hs _ nv_10), (List.forall_mem_cons.mpr ⟨key _ _ _ (hts _ tv_72) (hs _ nv_11), (List.forall_mem_cons.mpr ⟨key _ _ _ (hts _ tv_73) (hs _ nv_12), (List.forall_mem_cons.mpr ⟨key _ _ _ (hts _ tv_74) (hs _ nv_13), (List.forall_mem_cons.mpr ⟨key _ _ _ (hts _ tv_75) (hs _ nv_14), (List.forall_mem_cons.mpr ⟨key _ _ _ (hts _ tv_76) (hs _ nv_15), (List.forall_mem_cons.mpr ⟨key _ _ _ (hts _ tv_77) (hs _ nv_16), (List.forall_mem_cons.mpr ⟨key _ _ _ (hts _ tv_78) (hs _ nv_17), (List.forall_mem_cons.mpr ⟨key _ _ _ (hts _ tv_79) (hs _ nv_18), (List.forall_mem_cons.mpr ⟨key _ _ _ (hts _ tv_80) (hs _ nv_19), (List.forall_mem_cons.mpr ⟨key _ _ _ (hts _ tv_81) (hs _ nv_20), (List.forall_mem_cons.mpr ⟨key _ _ _ (hts _ tv_82) (hs _ nv_21), (List.forall_mem_cons.mpr ⟨key _ _ _ (hts _ tv_83) (hs _ nv_22), (fun _ h => absurd h List.not_mem_nil)⟩)⟩)⟩)⟩)⟩)⟩)⟩)⟩)⟩)⟩)⟩)⟩)⟩)⟩)⟩)⟩)⟩)⟩)⟩)⟩)⟩)⟩)⟩)
theorem st_Ns {args : Array Value} {s : State} (hs : ∀ w ∈ flatC (Jvm.Cond.and given_1 narrow_1), w.before args s = true) : ∀ n ∈ fx_Ns, va_Nc n.1 n.2 s := (List.forall_mem_cons.mpr ⟨va_Nc.of (hs _ nv_23), (List.forall_mem_cons.mpr ⟨va_Nc.of (hs _ nv_24), (List.forall_mem_cons.mpr ⟨va_Nc.of (hs _ nv_25), (List.forall_mem_cons.mpr ⟨va_Nc.of (hs _ nv_26), (List.forall_mem_cons.mpr ⟨va_Nc.of (hs _ nv_27), (List.forall_mem_cons.mpr ⟨va_Nc.of (hs _ nv_28), (List.forall_mem_cons.mpr ⟨va_Nc.of (hs _ nv_29), (List.forall_mem_cons.mpr ⟨va_Nc.of (hs _ nv_30), (List.forall_mem_cons.mpr ⟨va_Nc.of (hs _ nv_31), (List.forall_mem_cons.mpr ⟨va_Nc.of (hs _ nv_32), (List.forall_mem_cons.mpr ⟨va_Nc.of (hs _ nv_33), (List.forall_mem_cons.mpr ⟨va_Nc.of (hs _ nv_34), (fun _ h => absurd h List.not_mem_nil)⟩)⟩)⟩)⟩)⟩)⟩)⟩)⟩)⟩)⟩)⟩)⟩)
theorem st_T {args : Array Value} {s : State} (hts : ∀ w ∈ lw_tbl, w.before args s = true) (hgv : (Jvm.Cond.and given_1 narrow_1).before args s = true) : ∃ a q : Nat, a < s.heap.size ∧ q < s.heap.size ∧ vk_R es_T.1 es_T.2.1 es_T.2.2 a s ∧ vk_S 1 [8] [es_by] (fun _ => a) (fun _ => q) (fun a : Nat => s.heap.size ≤ a) s s.heap := by
  have hs := flat_of_before _ hgv
  have hA : ∀ a : Nat, a < s.heap.size → ¬ (fun a : Nat => s.heap.size ≤ a) a := fun a h => Nat.not_le.mpr h
  have z0 : ∀ i : Nat, i < 1 → i = 0 := fun i h => by omega
  obtain ⟨adK, adV, hS, hE⟩ := vk_Sof (args := args) (s := s) (N := 1) (tm := fun _ => .string "Threewayleaf$Script" 63) (len := [8]) (byt := [es_by]) (A := fun a : Nat => s.heap.size ≤ a)
    (fun i h => by rw [z0 i h]; decide) (fun i h => hs _ nv_39) (fun i h => hs _ nv_40) (fun i h => hs _ nv_41) (fun i h => by rw [z0 i h]; exact hs _ nv_42)
    (fun i h j hj => by
      rw [z0 i h] at hj ⊢
      match j, hj with
      | 0, _ => exact hs _ nv_43
      | 1, _ => exact hs _ nv_44
      | 2, _ => exact hs _ nv_45
      | 3, _ => exact hs _ nv_46
      | 4, _ => exact hs _ nv_47
      | 5, _ => exact hs _ nv_48
      | 6, _ => exact hs _ nv_49
      | 7, _ => exact hs _ nv_50
      | j + 8, hj => exact absurd (show j + 8 < 8 from hj) (by omega))
    (fun i j h1 h2 h3 => absurd ((z0 i h1).trans (z0 j h2).symm) h3) hA
  obtain ⟨⟨c1, k1⟩, -, -, ⟨c2, g1⟩⟩ := hS.1 0 (by decide)
  exact ⟨adK 0, adV 0, (Array.getElem?_eq_some_iff.mp k1.1).1, (Array.getElem?_eq_some_iff.mp g1.1).1, vk_R.of (hts _ tv_91) (hE 0 (by decide)), ⟨fun i h => by rw [z0 i h]; exact hS.1 0 (by decide), fun i j h1 h2 h3 => (z0 i h1).trans (z0 j h2).symm⟩⟩
def st_ex (b t a q : Nat) : Nat → Nat := fun k => match k with
  | 0 => b
  | 1 => t
  | 2 => a
  | _ => q
theorem st_exl {b t a q n : Nat} (h0 : b < n) (h1 : t < n) (h2 : a < n) (h3 : q < n) : ∀ k : Nat, st_ex b t a q k < n := by
  intro k
  match k with
  | 0 => exact h0
  | 1 => exact h1
  | 2 => exact h2
  | k + 3 => exact h3
theorem st_G {args : Array Value} {s : State} (hts : ∀ w ∈ lw_tbl, w.before args s = true) (hgv : (Jvm.Cond.and given_1 narrow_1).before args s = true) (base : Nat) (ex : Nat → Nat) (V : ev_V) (hT : vk_R es_T.1 es_T.2.1 es_T.2.2 (ex 2) s) : ∃ (D : va_G) (aC : Nat → ClassId), eh_G D fx_kl aC base ex V fx_Bs fx_Ss fx_Ns s := by
  obtain ⟨D, aC, hK⟩ := st_K hts
  exact ⟨D, aC, ⟨st_Bs hts, st_Ss hts (flat_of_before _ hgv), hK, va_AO.of (hts _ tv_3), va_AO.of (hts _ tv_4), hT⟩, st_Ns (flat_of_before _ hgv)⟩
theorem st_X {b L : Nat} {xs : Nat → Int32} {args : Array Value} {s : State} (hts : ∀ w ∈ lw_tbl, w.before args s = true) (hgv : (Jvm.Cond.and given_1 narrow_1).before args s = true) (hX : va_X b L xs s s.heap) (hb : b < s.heap.size) : ∃ ex : Nat → Nat, ex 0 = b ∧ (∀ k, ex k < s.heap.size) ∧ vk_R es_T.1 es_T.2.1 es_T.2.2 (ex 2) s ∧ ev_X s.heap.size ex (L, xs) s s.heap := by
  have hs := flat_of_before _ hgv
  have hA : ∀ a : Nat, a < s.heap.size → ¬ (fun a : Nat => s.heap.size ≤ a) a := fun a h => Nat.not_le.mpr h
  have hlen := va_eqt (hs _ nv_37)
  obtain ⟨t, ht, hT⟩ := va_Tof (ty := .object "java/lang/Object") (N := 0) (f := fun _ => .null) (A := fun a : Nat => s.heap.size ≤ a) (by decide) (hs _ nv_38) hlen (fun j hj => absurd hj (Nat.not_lt_zero j)) hA
  have htl : t < s.heap.size := by
    obtain ⟨cell, h1, -⟩ := hT
    exact (Array.getElem?_eq_some_iff.mp h1).1
  obtain ⟨a, q, h2, h3, hR, hS⟩ := st_T hts hgv
  have z1 := vx_Zqof (hts _ tv_84) (hts _ tv_87) (hs _ nv_35) hA
  have z2 := vx_Zqof (hts _ tv_85) (hts _ tv_87) (hs _ nv_36) hA
  have z3 := va_Zof (hts _ tv_86) (hts _ tv_88) ht hA
  have z4 := va_Zof (hts _ tv_92) (hts _ tv_89) (va_eqi (hs _ nv_51)) hA
  have z5 := va_Zqof (hts _ tv_93) (hts _ tv_90) (hs _ nv_52) hA
  exact ⟨st_ex b t a q, rfl, st_exl hb htl h2 h3, hR, hX, z1, z2, z3, hT, hS, z4, z5⟩
