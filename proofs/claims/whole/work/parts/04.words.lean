def wG : List Cond := lw_tbl.filter goodWord
theorem wg_in {w : Cond} (h : w ∈ wG) : w ∈ lw_tbl := (List.mem_filter.mp h).1
theorem wg_good {w : Cond} (h : w ∈ wG) : goodWord w = true := (List.mem_filter.mp h).2
theorem wgM0 (i : Nat) {w : Cond} (h : (k2_sels lw_privs)[i]? = some w) (g : goodWord w = true) : w ∈ wG := List.mem_filter.mpr ⟨List.mem_append_left _ (List.mem_of_getElem? h), g⟩
theorem lw_m1 {w : Cond} (h : w ∈ tables_1_1) : w ∈ lw_tbl := List.mem_append_right _ (List.mem_append_left _ h)
theorem lw_m2 {w : Cond} (h : w ∈ tables_1_2) : w ∈ lw_tbl := List.mem_append_right _ (List.mem_append_right _ (List.mem_append_left _ h))
theorem lw_m3 {w : Cond} (h : w ∈ tables_1_3) : w ∈ lw_tbl := List.mem_append_right _ (List.mem_append_right _ (List.mem_append_right _ (List.mem_append_left _ h)))
theorem lw_m4 {w : Cond} (h : w ∈ tables_1_4) : w ∈ lw_tbl := List.mem_append_right _ (List.mem_append_right _ (List.mem_append_right _ (List.mem_append_right _ h)))
theorem wgM1 (i : Nat) {w : Cond} (h : tables_1_1[i]? = some w) (g : goodWord w = true) : w ∈ wG := List.mem_filter.mpr ⟨lw_m1 (List.mem_of_getElem? h), g⟩
theorem wgM2 (i : Nat) {w : Cond} (h : tables_1_2[i]? = some w) (g : goodWord w = true) : w ∈ wG := List.mem_filter.mpr ⟨lw_m2 (List.mem_of_getElem? h), g⟩
theorem wgM3 (i : Nat) {w : Cond} (h : tables_1_3[i]? = some w) (g : goodWord w = true) : w ∈ wG := List.mem_filter.mpr ⟨lw_m3 (List.mem_of_getElem? h), g⟩
theorem wgM4 (i : Nat) {w : Cond} (h : tables_1_4[i]? = some w) (g : goodWord w = true) : w ∈ wG := List.mem_filter.mpr ⟨lw_m4 (List.mem_of_getElem? h), g⟩
theorem wgM (i : Nat) {w : Cond} (h : lw_tbl[i]? = some w) (g : goodWord w = true) : w ∈ wG := List.mem_filter.mpr ⟨List.mem_of_getElem? h, g⟩
theorem ws_0 : Cond.selects "EvenScatter" ⟨"EvenScatter", "sizeFault", "(II)I"⟩ ⟨"EvenScatter", "sizeFault", "(II)I"⟩ ∈ wG := wgM0 0 rfl rfl
theorem ws_1 : Cond.selects "EvenScatter" ⟨"EvenScatter", "refuse", "(I)I"⟩ ⟨"EvenScatter", "refuse", "(I)I"⟩ ∈ wG := wgM0 1 rfl rfl
theorem ws_2 : Cond.selects "EvenScatter" ⟨"EvenScatter", "keep", "(LEvenScatter$Scatter;)I"⟩ ⟨"EvenScatter", "keep", "(LEvenScatter$Scatter;)I"⟩ ∈ wG := wgM0 2 rfl rfl
theorem ws_3 : Cond.selects "EvenScatter" ⟨"EvenScatter", "find", "(I)LEvenScatter$Scatter;"⟩ ⟨"EvenScatter", "find", "(I)LEvenScatter$Scatter;"⟩ ∈ wG := wgM0 3 rfl rfl
theorem ws_4 : Cond.selects "EvenScatter$Scatter" ⟨"EvenScatter$Scatter", "columnAt", "(II)I"⟩ ⟨"EvenScatter$Scatter", "columnAt", "(II)I"⟩ ∈ wG := wgM0 4 rfl rfl
theorem ws_5 : Cond.selects "EvenScatter" ⟨"EvenScatter", "shapeFault", "(LEvenScatter$Scatter;)I"⟩ ⟨"EvenScatter", "shapeFault", "(LEvenScatter$Scatter;)I"⟩ ∈ wG := wgM0 5 rfl rfl
theorem ws_6 : Cond.selects "EvenScatter" ⟨"EvenScatter", "firstUneven", "(LEvenScatter$Scatter;)I"⟩ ⟨"EvenScatter", "firstUneven", "(LEvenScatter$Scatter;)I"⟩ ∈ wG := wgM0 6 rfl rfl
theorem ws_7 : Cond.selects "EvenScatter$Ranks" ⟨"EvenScatter$Ranks", "gradeOfChosen", "(LEvenScatter$Scatter;)I"⟩ ⟨"EvenScatter$Ranks", "gradeOfChosen", "(LEvenScatter$Scatter;)I"⟩ ∈ wG := wgM0 7 rfl rfl
theorem ws_8 : Cond.selects "EvenScatter$Ranks" ⟨"EvenScatter$Ranks", "walk", "(LEvenScatter$Scatter;I)V"⟩ ⟨"EvenScatter$Ranks", "walk", "(LEvenScatter$Scatter;I)V"⟩ ∈ wG := wgM0 8 rfl rfl
theorem ws_9 : Cond.selects "EvenScatter$Ranks" ⟨"EvenScatter$Ranks", "keepIfIndependent", "(I)Z"⟩ ⟨"EvenScatter$Ranks", "keepIfIndependent", "(I)Z"⟩ ∈ wG := wgM0 9 rfl rfl
theorem ws_10 : Cond.selects "EvenScatter" ⟨"EvenScatter", "refuseLong", "(I)J"⟩ ⟨"EvenScatter", "refuseLong", "(I)J"⟩ ∈ wG := wgM0 10 rfl rfl
theorem ws_11 : Cond.selects "EvenScatter$Corners" ⟨"EvenScatter$Corners", "noteParts", "(LEvenScatter$Scatter;)V"⟩ ⟨"EvenScatter$Corners", "noteParts", "(LEvenScatter$Scatter;)V"⟩ ∈ wG := wgM0 11 rfl rfl
theorem ws_12 : Cond.selects "EvenScatter$Corners" ⟨"EvenScatter$Corners", "countBelow", "(LEvenScatter$Scatter;[I)V"⟩ ⟨"EvenScatter$Corners", "countBelow", "(LEvenScatter$Scatter;[I)V"⟩ ∈ wG := wgM0 12 rfl rfl
theorem ws_13 : Cond.selects "EvenScatter$Corners" ⟨"EvenScatter$Corners", "diagonalOf", "(LEvenScatter$Scatter;)I"⟩ ⟨"EvenScatter$Corners", "diagonalOf", "(LEvenScatter$Scatter;)I"⟩ ∈ wG := wgM0 13 rfl rfl
theorem ws_14 : Cond.selects "EvenScatter$Corners" ⟨"EvenScatter$Corners", "setHighs", "(LEvenScatter$Scatter;I)V"⟩ ⟨"EvenScatter$Corners", "setHighs", "(LEvenScatter$Scatter;I)V"⟩ ∈ wG := wgM0 14 rfl rfl
theorem ws_15 : Cond.selects "EvenScatter$Corners" ⟨"EvenScatter$Corners", "cornerMayBe", "(LEvenScatter$Scatter;Z)Z"⟩ ⟨"EvenScatter$Corners", "cornerMayBe", "(LEvenScatter$Scatter;Z)Z"⟩ ∈ wG := wgM0 15 rfl rfl
theorem ws_16 : Cond.selects "EvenScatter$Corners" ⟨"EvenScatter$Corners", "sizeOf", "(LEvenScatter$Scatter;)J"⟩ ⟨"EvenScatter$Corners", "sizeOf", "(LEvenScatter$Scatter;)J"⟩ ∈ wG := wgM0 16 rfl rfl
theorem ws_17 : Cond.selects "EvenScatter$Corners" ⟨"EvenScatter$Corners", "consider", "(LEvenScatter$Scatter;JZ)V"⟩ ⟨"EvenScatter$Corners", "consider", "(LEvenScatter$Scatter;JZ)V"⟩ ∈ wG := wgM0 17 rfl rfl
theorem ws_18 : Cond.selects "EvenScatter" ⟨"EvenScatter", "fillWaves", "(LEvenScatter$Scatter;I)V"⟩ ⟨"EvenScatter", "fillWaves", "(LEvenScatter$Scatter;I)V"⟩ ∈ wG := wgM0 18 rfl rfl
theorem ws_19 : Cond.selects "EvenScatterModel" ⟨"EvenScatterModel", "refuse", "(I)I"⟩ ⟨"EvenScatterModel", "refuse", "(I)I"⟩ ∈ wG := wgM0 19 rfl rfl
theorem ws_20 : Cond.selects "EvenScatterModel" ⟨"EvenScatterModel", "make", "(IIII)I"⟩ ⟨"EvenScatterModel", "make", "(IIII)I"⟩ ∈ wG := wgM0 20 rfl rfl
theorem ws_21 : Cond.selects "EvenScatterModel" ⟨"EvenScatterModel", "hasDirection", "(II)Z"⟩ ⟨"EvenScatterModel", "hasDirection", "(II)Z"⟩ ∈ wG := wgM0 21 rfl rfl
theorem ws_22 : Cond.selects "EvenScatterModel" ⟨"EvenScatterModel", "isScatter", "(I)Z"⟩ ⟨"EvenScatterModel", "isScatter", "(I)Z"⟩ ∈ wG := wgM0 22 rfl rfl
theorem ws_23 : Cond.selects "EvenScatterModel" ⟨"EvenScatterModel", "partOf", "(III)I"⟩ ⟨"EvenScatterModel", "partOf", "(III)I"⟩ ∈ wG := wgM0 23 rfl rfl
theorem ws_24 : Cond.selects "EvenScatterModel" ⟨"EvenScatterModel", "lacksShape", "(I)I"⟩ ⟨"EvenScatterModel", "lacksShape", "(I)I"⟩ ∈ wG := wgM0 24 rfl rfl
theorem ws_25 : Cond.selects "EvenScatterModel" ⟨"EvenScatterModel", "uneven", "(I)I"⟩ ⟨"EvenScatterModel", "uneven", "(I)I"⟩ ∈ wG := wgM0 25 rfl rfl
theorem ws_26 : Cond.selects "EvenScatterModel" ⟨"EvenScatterModel", "gradeOf", "(II)I"⟩ ⟨"EvenScatterModel", "gradeOf", "(II)I"⟩ ∈ wG := wgM0 26 rfl rfl
theorem ws_27 : Cond.selects "EvenScatterModel" ⟨"EvenScatterModel", "areEven", "(III)Z"⟩ ⟨"EvenScatterModel", "areEven", "(III)Z"⟩ ∈ wG := wgM0 27 rfl rfl
theorem ws_28 : Cond.selects "EvenScatterModel" ⟨"EvenScatterModel", "refuseLong", "(I)J"⟩ ⟨"EvenScatterModel", "refuseLong", "(I)J"⟩ ∈ wG := wgM0 28 rfl rfl
theorem ws_29 : Cond.selects "EvenScatterModel" ⟨"EvenScatterModel", "cornerLess", "(IZ)J"⟩ ⟨"EvenScatterModel", "cornerLess", "(IZ)J"⟩ ∈ wG := wgM0 29 rfl rfl
theorem ws_30 : Cond.selects "EvenScatterModel" ⟨"EvenScatterModel", "inCorner", "(IZ)I"⟩ ⟨"EvenScatterModel", "inCorner", "(IZ)I"⟩ ∈ wG := wgM0 30 rfl rfl
theorem ws_31 : Cond.selects "EvenScatterModel" ⟨"EvenScatterModel", "waveOf", "(I)J"⟩ ⟨"EvenScatterModel", "waveOf", "(I)J"⟩ ∈ wG := wgM0 31 rfl rfl
theorem wt_0 : (Jvm.Cond.initialized "EvenScatterLaw") ∈ wG := wgM1 0 rfl rfl
theorem wt_1 : (Jvm.Cond.initialized "EvenScatter") ∈ wG := wgM1 1 rfl rfl
theorem wt_2 : (Jvm.Cond.initialized "EvenScatter$Tray") ∈ wG := wgM1 2 rfl rfl
theorem wt_3 : (Jvm.Cond.initialized "EvenScatter$Ranks") ∈ wG := wgM1 3 rfl rfl
theorem wt_4 : (Jvm.Cond.initialized "EvenScatter$Corners") ∈ wG := wgM1 4 rfl rfl
theorem wt_5 : (Jvm.Cond.initialized "EvenScatterModel") ∈ wG := wgM1 5 rfl rfl
theorem wt_6 : (Jvm.Cond.initialized "EvenScatter$Scatter") ∈ wG := wgM1 6 rfl rfl
theorem wt_7 : (Jvm.Cond.initialized "java/lang/Math") ∈ wG := wgM1 7 rfl rfl
theorem wt_8 : (Jvm.Cond.initialized "java/lang/System") ∈ wG := wgM1 8 rfl rfl
theorem wt_9 : (Jvm.Cond.initialized "java/util/Arrays") ∈ wG := wgM1 9 rfl rfl
theorem wt_10 : (Jvm.Cond.initialized "java/lang/Integer") ∈ wG := wgM1 10 rfl rfl
theorem wt_11 : (Jvm.Cond.classLink "EvenScatterLaw" (7 : Nat) "EvenScatter") ∈ wG := wgM1 11 rfl rfl
theorem wt_12 : (Jvm.Cond.instantiable "EvenScatter" (8 : Nat)) ∈ wG := wgM1 12 rfl rfl
theorem wt_13 : (Jvm.Cond.methodLink "EvenScatterLaw" (9 : Nat) ({ cls := "EvenScatter", name := "<init>", desc := "()V" } : Jvm.MethodName)) ∈ wG := wgM1 13 rfl rfl
theorem wt_14 : (Jvm.Cond.instanceMethod ({ cls := "EvenScatter", name := "<init>", desc := "()V" } : Jvm.MethodName)) ∈ wG := wgM1 14 rfl rfl
theorem wt_15 : (Jvm.Cond.code ({ cls := "EvenScatter", name := "<init>", desc := "()V" } : Jvm.MethodName) prog_1_method_1_code (1 : Nat) (Option.none : Option Jvm.ClassFile.FieldType)) ∈ wG := wgM1 15 rfl rfl
theorem wt_16 : (Jvm.Cond.methodLink "EvenScatter" (1 : Nat) ({ cls := "java/lang/Object", name := "<init>", desc := "()V" } : Jvm.MethodName)) ∈ wG := wgM1 16 rfl rfl
theorem wt_17 : (Jvm.Cond.instanceMethod ({ cls := "java/lang/Object", name := "<init>", desc := "()V" } : Jvm.MethodName)) ∈ wG := wgM1 17 rfl rfl
theorem wt_18 : (Jvm.Cond.code ({ cls := "java/lang/Object", name := "<init>", desc := "()V" } : Jvm.MethodName) object_method_1_code (1 : Nat) (Option.none : Option Jvm.ClassFile.FieldType)) ∈ wG := wgM1 18 rfl rfl
theorem wt_19 : (Jvm.Cond.classLink "EvenScatter" (9 : Nat) "EvenScatter$Scatter") ∈ wG := wgM1 19 rfl rfl
theorem wn_20 : (Jvm.Cond.arrayOver (Jvm.ClassFile.FieldType.object "EvenScatter$Scatter")) ∈ lw_tbl := lw_m1 (List.mem_of_getElem? (i := 20) rfl)
theorem wt_21 : (Jvm.Cond.classLink "EvenScatter" (15 : Nat) "EvenScatter$Tray") ∈ wG := wgM1 21 rfl rfl
theorem wt_22 : (Jvm.Cond.instantiable "EvenScatter$Tray" (3 : Nat)) ∈ wG := wgM1 22 rfl rfl
theorem wn_23 : (Jvm.Cond.methodLinkNest "EvenScatter" (17 : Nat) ({ cls := "EvenScatter$Tray", name := "<init>", desc := "()V" } : Jvm.MethodName) "EvenScatter") ∈ lw_tbl := lw_m1 (List.mem_of_getElem? (i := 23) rfl)
theorem wt_24 : (Jvm.Cond.instanceMethod ({ cls := "EvenScatter$Tray", name := "<init>", desc := "()V" } : Jvm.MethodName)) ∈ wG := wgM1 24 rfl rfl
theorem wt_25 : (Jvm.Cond.code ({ cls := "EvenScatter$Tray", name := "<init>", desc := "()V" } : Jvm.MethodName) prog_5_method_1_code (1 : Nat) (Option.none : Option Jvm.ClassFile.FieldType)) ∈ wG := wgM1 25 rfl rfl
theorem wt_26 : (Jvm.Cond.methodLink "EvenScatter$Tray" (3 : Nat) ({ cls := "java/lang/Object", name := "<init>", desc := "()V" } : Jvm.MethodName)) ∈ wG := wgM1 26 rfl rfl
theorem wt_27 : (Jvm.Cond.fieldLink "EvenScatter$Tray" (9 : Nat) "EvenScatter$Tray" "lows" "[I") ∈ wG := wgM1 27 rfl rfl
theorem wt_28 : (Jvm.Cond.fieldLink "EvenScatter" (139 : Nat) "EvenScatter$Tray" "lows" "[I") ∈ wG := wgM1 28 rfl rfl
theorem wt_29 : (Jvm.Cond.fieldLink "EvenScatter$Tray" (15 : Nat) "EvenScatter$Tray" "highs" "[I") ∈ wG := wgM1 29 rfl rfl
theorem wt_30 : (Jvm.Cond.fieldLink "EvenScatter" (142 : Nat) "EvenScatter$Tray" "highs" "[I") ∈ wG := wgM1 30 rfl rfl
theorem wt_31 : (Jvm.Cond.fieldLink "EvenScatter$Tray" (18 : Nat) "EvenScatter$Tray" "marks" "[I") ∈ wG := wgM1 31 rfl rfl
theorem wt_32 : (Jvm.Cond.fieldLink "EvenScatter" (145 : Nat) "EvenScatter$Tray" "marks" "[I") ∈ wG := wgM1 32 rfl rfl
theorem wt_40 : (Jvm.Cond.arrayClass Jvm.ClassFile.FieldType.int) ∈ wG := wgM1 40 rfl rfl
theorem wt_41 : (Jvm.Cond.classLink "EvenScatter" (22 : Nat) "EvenScatter$Ranks") ∈ wG := wgM1 41 rfl rfl
theorem wt_42 : (Jvm.Cond.instantiable "EvenScatter$Ranks" (5 : Nat)) ∈ wG := wgM1 42 rfl rfl
theorem wn_43 : (Jvm.Cond.methodLinkNest "EvenScatter" (24 : Nat) ({ cls := "EvenScatter$Ranks", name := "<init>", desc := "()V" } : Jvm.MethodName) "EvenScatter") ∈ lw_tbl := lw_m1 (List.mem_of_getElem? (i := 43) rfl)
theorem wt_44 : (Jvm.Cond.instanceMethod ({ cls := "EvenScatter$Ranks", name := "<init>", desc := "()V" } : Jvm.MethodName)) ∈ wG := wgM1 44 rfl rfl
theorem wt_45 : (Jvm.Cond.code ({ cls := "EvenScatter$Ranks", name := "<init>", desc := "()V" } : Jvm.MethodName) prog_3_method_1_code (1 : Nat) (Option.none : Option Jvm.ClassFile.FieldType)) ∈ wG := wgM1 45 rfl rfl
theorem wt_46 : (Jvm.Cond.methodLink "EvenScatter$Ranks" (3 : Nat) ({ cls := "java/lang/Object", name := "<init>", desc := "()V" } : Jvm.MethodName)) ∈ wG := wgM1 46 rfl rfl
theorem wt_47 : (Jvm.Cond.fieldLink "EvenScatter$Ranks" (9 : Nat) "EvenScatter$Ranks" "chosen" "[I") ∈ wG := wgM1 47 rfl rfl
theorem wt_48 : (Jvm.Cond.fieldLink "EvenScatter$Ranks" (15 : Nat) "EvenScatter$Ranks" "kept" "[I") ∈ wG := wgM1 48 rfl rfl
theorem wt_49 : (Jvm.Cond.fieldLink "EvenScatter$Ranks" (24 : Nat) "EvenScatter$Ranks" "choices" "I") ∈ wG := wgM1 49 rfl rfl
theorem wt_50 : (Jvm.Cond.fieldLink "EvenScatter$Ranks" (31 : Nat) "EvenScatter$Ranks" "size" "I") ∈ wG := wgM1 50 rfl rfl
theorem wt_51 : (Jvm.Cond.fieldLink "EvenScatter$Ranks" (37 : Nat) "EvenScatter$Ranks" "leastDependent" "I") ∈ wG := wgM1 51 rfl rfl
theorem wt_63 : (Jvm.Cond.classLink "EvenScatter" (33 : Nat) "EvenScatter$Corners") ∈ wG := wgM1 63 rfl rfl
theorem wt_64 : (Jvm.Cond.instantiable "EvenScatter$Corners" (7 : Nat)) ∈ wG := wgM1 64 rfl rfl
theorem wn_65 : (Jvm.Cond.methodLinkNest "EvenScatter" (35 : Nat) ({ cls := "EvenScatter$Corners", name := "<init>", desc := "()V" } : Jvm.MethodName) "EvenScatter") ∈ lw_tbl := lw_m1 (List.mem_of_getElem? (i := 65) rfl)
theorem wt_66 : (Jvm.Cond.instanceMethod ({ cls := "EvenScatter$Corners", name := "<init>", desc := "()V" } : Jvm.MethodName)) ∈ wG := wgM1 66 rfl rfl
theorem wt_67 : (Jvm.Cond.code ({ cls := "EvenScatter$Corners", name := "<init>", desc := "()V" } : Jvm.MethodName) prog_2_method_1_code (1 : Nat) (Option.none : Option Jvm.ClassFile.FieldType)) ∈ wG := wgM1 67 rfl rfl
theorem wt_68 : (Jvm.Cond.methodLink "EvenScatter$Corners" (3 : Nat) ({ cls := "java/lang/Object", name := "<init>", desc := "()V" } : Jvm.MethodName)) ∈ wG := wgM1 68 rfl rfl
theorem wt_69 : (Jvm.Cond.fieldLink "EvenScatter$Corners" (9 : Nat) "EvenScatter$Corners" "bestHighs" "[I") ∈ wG := wgM1 69 rfl rfl
theorem wt_70 : (Jvm.Cond.fieldLink "EvenScatter" (209 : Nat) "EvenScatter$Corners" "bestHighs" "[I") ∈ wG := wgM1 70 rfl rfl
theorem wt_71 : (Jvm.Cond.fieldLink "EvenScatter$Corners" (44 : Nat) "EvenScatter$Corners" "best" "J") ∈ wG := wgM1 71 rfl rfl
theorem wt_72 : (Jvm.Cond.fieldLink "EvenScatter" (201 : Nat) "EvenScatter$Corners" "best" "J") ∈ wG := wgM1 72 rfl rfl
theorem wt_73 : (Jvm.Cond.fieldLink "EvenScatter$Corners" (76 : Nat) "EvenScatter$Corners" "bestIsClosed" "Z") ∈ wG := wgM1 73 rfl rfl
theorem wt_74 : (Jvm.Cond.fieldLink "EvenScatter" (205 : Nat) "EvenScatter$Corners" "bestIsClosed" "Z") ∈ wG := wgM1 74 rfl rfl
theorem wt_75 : (Jvm.Cond.fieldLink "EvenScatter$Corners" (15 : Nat) "EvenScatter$Corners" "highs" "[I") ∈ wG := wgM1 75 rfl rfl
theorem wt_76 : (Jvm.Cond.fieldLink "EvenScatter$Corners" (18 : Nat) "EvenScatter$Corners" "uses" "[I") ∈ wG := wgM1 76 rfl rfl
theorem wt_77 : (Jvm.Cond.fieldLink "EvenScatter$Corners" (27 : Nat) "EvenScatter$Corners" "base" "I") ∈ wG := wgM1 77 rfl rfl
theorem wt_78 : (Jvm.Cond.fieldLink "EvenScatter$Corners" (37 : Nat) "EvenScatter$Corners" "number" "I") ∈ wG := wgM1 78 rfl rfl
theorem wt_94 : (Jvm.Cond.fieldLink "EvenScatter" (11 : Nat) "EvenScatter" "scatters" "[LEvenScatter$Scatter;") ∈ wG := wgM1 94 rfl rfl
theorem wt_95 : (Jvm.Cond.fieldLink "EvenScatter" (18 : Nat) "EvenScatter" "tray" "LEvenScatter$Tray;") ∈ wG := wgM1 95 rfl rfl
theorem wt_96 : (Jvm.Cond.fieldLink "EvenScatter" (25 : Nat) "EvenScatter" "ranks" "LEvenScatter$Ranks;") ∈ wG := wgM1 96 rfl rfl
theorem wt_97 : (Jvm.Cond.fieldLink "EvenScatter" (29 : Nat) "EvenScatter" "cells" "[I") ∈ wG := wgM1 97 rfl rfl
theorem wt_98 : (Jvm.Cond.fieldLink "EvenScatter" (36 : Nat) "EvenScatter" "corners" "LEvenScatter$Corners;") ∈ wG := wgM1 98 rfl rfl
theorem wt_99 : (Jvm.Cond.fieldLink "EvenScatter" (40 : Nat) "EvenScatter" "refusals" "[I") ∈ wG := wgM1 99 rfl rfl
theorem wt_100 : (Jvm.Cond.fieldLink "EvenScatter" (43 : Nat) "EvenScatter" "made" "I") ∈ wG := wgM1 100 rfl rfl
theorem wt_101 : (Jvm.Cond.fieldLink "EvenScatter" (47 : Nat) "EvenScatter" "told" "I") ∈ wG := wgM1 101 rfl rfl
theorem wt_119 : (Jvm.Cond.methodLink "EvenScatterLaw" (13 : Nat) ({ cls := "EvenScatter", name := "table", desc := "(II)I" } : Jvm.MethodName)) ∈ wG := wgM1 119 rfl rfl
theorem wt_120 : (Jvm.Cond.instanceMethod ({ cls := "EvenScatter", name := "table", desc := "(II)I" } : Jvm.MethodName)) ∈ wG := wgM1 120 rfl rfl
theorem wt_121 : (Jvm.Cond.selects "EvenScatter" ({ cls := "EvenScatter", name := "table", desc := "(II)I" } : Jvm.MethodName) ({ cls := "EvenScatter", name := "table", desc := "(II)I" } : Jvm.MethodName)) ∈ wG := wgM1 121 rfl rfl
theorem wt_122 : (Jvm.Cond.code ({ cls := "EvenScatter", name := "table", desc := "(II)I" } : Jvm.MethodName) prog_1_method_2_code (4 : Nat) (Option.some Jvm.ClassFile.FieldType.int)) ∈ wG := wgM1 122 rfl rfl
theorem wt_123 : (Jvm.Cond.methodLink "EvenScatter" (50 : Nat) ({ cls := "EvenScatter", name := "sizeFault", desc := "(II)I" } : Jvm.MethodName)) ∈ wG := wgM1 123 rfl rfl
theorem wt_125 : (Jvm.Cond.instanceMethod ({ cls := "EvenScatter", name := "sizeFault", desc := "(II)I" } : Jvm.MethodName)) ∈ wG := wgM1 125 rfl rfl
theorem wt_126 : (Jvm.Cond.code ({ cls := "EvenScatter", name := "sizeFault", desc := "(II)I" } : Jvm.MethodName) prog_1_method_34_code (3 : Nat) (Option.some Jvm.ClassFile.FieldType.int)) ∈ wG := wgM1 126 rfl rfl
theorem wt_127 : (Jvm.Cond.methodLink "EvenScatter" (54 : Nat) ({ cls := "EvenScatter", name := "refuse", desc := "(I)I" } : Jvm.MethodName)) ∈ wG := wgM1 127 rfl rfl
theorem wt_129 : (Jvm.Cond.instanceMethod ({ cls := "EvenScatter", name := "refuse", desc := "(I)I" } : Jvm.MethodName)) ∈ wG := wgM1 129 rfl rfl
theorem wt_130 : (Jvm.Cond.code ({ cls := "EvenScatter", name := "refuse", desc := "(I)I" } : Jvm.MethodName) prog_1_method_32_code (3 : Nat) (Option.some Jvm.ClassFile.FieldType.int)) ∈ wG := wgM1 130 rfl rfl
theorem wt_131 : (Jvm.Cond.instantiable "EvenScatter$Scatter" (9 : Nat)) ∈ wG := wgM1 131 rfl rfl
theorem wt_132 : (Jvm.Cond.methodLink "EvenScatter" (58 : Nat) ({ cls := "EvenScatter$Scatter", name := "<init>", desc := "(IIII)V" } : Jvm.MethodName)) ∈ wG := wgM1 132 rfl rfl
theorem wt_133 : (Jvm.Cond.instanceMethod ({ cls := "EvenScatter$Scatter", name := "<init>", desc := "(IIII)V" } : Jvm.MethodName)) ∈ wG := wgM1 133 rfl rfl
theorem wt_134 : (Jvm.Cond.code ({ cls := "EvenScatter$Scatter", name := "<init>", desc := "(IIII)V" } : Jvm.MethodName) prog_4_method_1_code (5 : Nat) (Option.none : Option Jvm.ClassFile.FieldType)) ∈ wG := wgM1 134 rfl rfl
theorem wt_135 : (Jvm.Cond.methodLink "EvenScatter$Scatter" (3 : Nat) ({ cls := "java/lang/Object", name := "<init>", desc := "()V" } : Jvm.MethodName)) ∈ wG := wgM1 135 rfl rfl
theorem wt_136 : (Jvm.Cond.methodLink "EvenScatter$Scatter" (31 : Nat) ({ cls := "java/lang/Math", name := "min", desc := "(II)I" } : Jvm.MethodName)) ∈ wG := wgM1 136 rfl rfl
theorem wt_137 : (Jvm.Cond.static ({ cls := "java/lang/Math", name := "min", desc := "(II)I" } : Jvm.MethodName)) ∈ wG := wgM1 137 rfl rfl
theorem wt_138 : (Jvm.Cond.code ({ cls := "java/lang/Math", name := "min", desc := "(II)I" } : Jvm.MethodName) prog_9_method_69_code (2 : Nat) (Option.some Jvm.ClassFile.FieldType.int)) ∈ wG := wgM1 138 rfl rfl
theorem wt_139 : (Jvm.Cond.methodLink "EvenScatter$Scatter" (37 : Nat) ({ cls := "java/lang/Math", name := "max", desc := "(II)I" } : Jvm.MethodName)) ∈ wG := wgM1 139 rfl rfl
theorem wt_140 : (Jvm.Cond.static ({ cls := "java/lang/Math", name := "max", desc := "(II)I" } : Jvm.MethodName)) ∈ wG := wgM1 140 rfl rfl
theorem wt_141 : (Jvm.Cond.code ({ cls := "java/lang/Math", name := "max", desc := "(II)I" } : Jvm.MethodName) prog_9_method_65_code (2 : Nat) (Option.some Jvm.ClassFile.FieldType.int)) ∈ wG := wgM1 141 rfl rfl
theorem wt_142 : (Jvm.Cond.fieldLink "EvenScatter$Scatter" (21 : Nat) "EvenScatter$Scatter" "kind" "I") ∈ wG := wgM1 142 rfl rfl
theorem wt_143 : (Jvm.Cond.fieldLink "EvenScatter" (73 : Nat) "EvenScatter$Scatter" "kind" "I") ∈ wG := wgM1 143 rfl rfl
theorem wt_144 : (Jvm.Cond.fieldLink "EvenScatter$Scatter" (28 : Nat) "EvenScatter$Scatter" "power" "I") ∈ wG := wgM1 144 rfl rfl
theorem wt_145 : (Jvm.Cond.fieldLink "EvenScatter" (76 : Nat) "EvenScatter$Scatter" "power" "I") ∈ wG := wgM1 145 rfl rfl
theorem wt_146 : (Jvm.Cond.fieldLink "EvenScatter$Ranks" (34 : Nat) "EvenScatter$Scatter" "power" "I") ∈ wG := wgM1 146 rfl rfl
theorem wt_147 : (Jvm.Cond.fieldLink "EvenScatter$Tray" (34 : Nat) "EvenScatter$Scatter" "power" "I") ∈ wG := wgM1 147 rfl rfl
theorem wt_148 : (Jvm.Cond.fieldLink "EvenScatter$Scatter" (40 : Nat) "EvenScatter$Scatter" "count" "I") ∈ wG := wgM1 148 rfl rfl
theorem wt_149 : (Jvm.Cond.fieldLink "EvenScatter$Corners" (21 : Nat) "EvenScatter$Scatter" "count" "I") ∈ wG := wgM1 149 rfl rfl
theorem wt_150 : (Jvm.Cond.fieldLink "EvenScatter" (79 : Nat) "EvenScatter$Scatter" "count" "I") ∈ wG := wgM1 150 rfl rfl
theorem wt_151 : (Jvm.Cond.fieldLink "EvenScatter$Tray" (31 : Nat) "EvenScatter$Scatter" "count" "I") ∈ wG := wgM1 151 rfl rfl
theorem wt_152 : (Jvm.Cond.fieldLink "EvenScatter$Scatter" (25 : Nat) "EvenScatter$Scatter" "directions" "I") ∈ wG := wgM1 152 rfl rfl
theorem wt_153 : (Jvm.Cond.fieldLink "EvenScatter$Ranks" (18 : Nat) "EvenScatter$Scatter" "directions" "I") ∈ wG := wgM1 153 rfl rfl
theorem wt_154 : (Jvm.Cond.fieldLink "EvenScatter$Tray" (21 : Nat) "EvenScatter$Scatter" "directions" "I") ∈ wG := wgM1 154 rfl rfl
theorem wt_155 : (Jvm.Cond.fieldLink "EvenScatter$Corners" (30 : Nat) "EvenScatter$Scatter" "directions" "I") ∈ wG := wgM1 155 rfl rfl
theorem wt_156 : (Jvm.Cond.fieldLink "EvenScatter" (93 : Nat) "EvenScatter$Scatter" "directions" "I") ∈ wG := wgM1 156 rfl rfl
theorem wt_157 : (Jvm.Cond.fieldLink "EvenScatter$Scatter" (43 : Nat) "EvenScatter$Scatter" "turn" "I") ∈ wG := wgM1 157 rfl rfl
theorem wt_158 : (Jvm.Cond.fieldLink "EvenScatter" (128 : Nat) "EvenScatter$Scatter" "turn" "I") ∈ wG := wgM1 158 rfl rfl
theorem wt_159 : (Jvm.Cond.fieldLink "EvenScatter$Scatter" (9 : Nat) "EvenScatter$Scatter" "rows" "[I") ∈ wG := wgM1 159 rfl rfl
theorem wt_160 : (Jvm.Cond.fieldLink "EvenScatter$Scatter" (15 : Nat) "EvenScatter$Scatter" "masks" "[I") ∈ wG := wgM1 160 rfl rfl
theorem wt_161 : (Jvm.Cond.fieldLink "EvenScatter" (115 : Nat) "EvenScatter$Scatter" "masks" "[I") ∈ wG := wgM1 161 rfl rfl
theorem wt_162 : (Jvm.Cond.fieldLink "EvenScatter$Scatter" (18 : Nat) "EvenScatter$Scatter" "steps" "[I") ∈ wG := wgM1 162 rfl rfl
theorem wt_163 : (Jvm.Cond.fieldLink "EvenScatter" (118 : Nat) "EvenScatter$Scatter" "steps" "[I") ∈ wG := wgM1 163 rfl rfl
theorem wt_164 : (Jvm.Cond.fieldLink "EvenScatter$Scatter" (46 : Nat) "EvenScatter$Scatter" "parts" "[I") ∈ wG := wgM1 164 rfl rfl
theorem wt_184 : (Jvm.Cond.methodLink "EvenScatter" (61 : Nat) ({ cls := "EvenScatter", name := "keep", desc := "(LEvenScatter$Scatter;)I" } : Jvm.MethodName)) ∈ wG := wgM1 184 rfl rfl
theorem wt_186 : (Jvm.Cond.instanceMethod ({ cls := "EvenScatter", name := "keep", desc := "(LEvenScatter$Scatter;)I" } : Jvm.MethodName)) ∈ wG := wgM1 186 rfl rfl
theorem wt_187 : (Jvm.Cond.code ({ cls := "EvenScatter", name := "keep", desc := "(LEvenScatter$Scatter;)I" } : Jvm.MethodName) prog_1_method_31_code (3 : Nat) (Option.some Jvm.ClassFile.FieldType.int)) ∈ wG := wgM1 187 rfl rfl
theorem wt_188 : (Jvm.Cond.methodLink "EvenScatterLaw" (18 : Nat) ({ cls := "EvenScatter", name := "row", desc := "(IIII)I" } : Jvm.MethodName)) ∈ wG := wgM1 188 rfl rfl
theorem wt_189 : (Jvm.Cond.instanceMethod ({ cls := "EvenScatter", name := "row", desc := "(IIII)I" } : Jvm.MethodName)) ∈ wG := wgM1 189 rfl rfl
theorem wt_190 : (Jvm.Cond.selects "EvenScatter" ({ cls := "EvenScatter", name := "row", desc := "(IIII)I" } : Jvm.MethodName) ({ cls := "EvenScatter", name := "row", desc := "(IIII)I" } : Jvm.MethodName)) ∈ wG := wgM1 190 rfl rfl
theorem wt_191 : (Jvm.Cond.code ({ cls := "EvenScatter", name := "row", desc := "(IIII)I" } : Jvm.MethodName) prog_1_method_3_code (7 : Nat) (Option.some Jvm.ClassFile.FieldType.int)) ∈ wG := wgM1 191 rfl rfl
theorem wt_192 : (Jvm.Cond.methodLink "EvenScatter" (65 : Nat) ({ cls := "EvenScatter", name := "find", desc := "(I)LEvenScatter$Scatter;" } : Jvm.MethodName)) ∈ wG := wgM1 192 rfl rfl
theorem wt_194 : (Jvm.Cond.instanceMethod ({ cls := "EvenScatter", name := "find", desc := "(I)LEvenScatter$Scatter;" } : Jvm.MethodName)) ∈ wG := wgM1 194 rfl rfl
theorem wt_195 : (Jvm.Cond.code ({ cls := "EvenScatter", name := "find", desc := "(I)LEvenScatter$Scatter;" } : Jvm.MethodName) prog_1_method_30_code (2 : Nat) (Option.some (Jvm.ClassFile.FieldType.object "EvenScatter$Scatter"))) ∈ wG := wgM1 195 rfl rfl
theorem wt_196 : (Jvm.Cond.methodLink "EvenScatter" (69 : Nat) ({ cls := "EvenScatter$Scatter", name := "hasDirection", desc := "(I)Z" } : Jvm.MethodName)) ∈ wG := wgM1 196 rfl rfl
theorem wt_197 : (Jvm.Cond.instanceMethod ({ cls := "EvenScatter$Scatter", name := "hasDirection", desc := "(I)Z" } : Jvm.MethodName)) ∈ wG := wgM1 197 rfl rfl
theorem wt_198 : (Jvm.Cond.selects "EvenScatter$Scatter" ({ cls := "EvenScatter$Scatter", name := "hasDirection", desc := "(I)Z" } : Jvm.MethodName) ({ cls := "EvenScatter$Scatter", name := "hasDirection", desc := "(I)Z" } : Jvm.MethodName)) ∈ wG := wgM1 198 rfl rfl
theorem wt_199 : (Jvm.Cond.code ({ cls := "EvenScatter$Scatter", name := "hasDirection", desc := "(I)Z" } : Jvm.MethodName) prog_4_method_2_code (2 : Nat) (Option.some Jvm.ClassFile.FieldType.boolean)) ∈ wG := wgM1 199 rfl rfl
theorem wt_200 : (Jvm.Cond.methodLink "EvenScatter" (82 : Nat) ({ cls := "EvenScatter$Scatter", name := "rowAt", desc := "(II)I" } : Jvm.MethodName)) ∈ wG := wgM1 200 rfl rfl
theorem wt_201 : (Jvm.Cond.instanceMethod ({ cls := "EvenScatter$Scatter", name := "rowAt", desc := "(II)I" } : Jvm.MethodName)) ∈ wG := wgM1 201 rfl rfl
theorem wt_202 : (Jvm.Cond.selects "EvenScatter$Scatter" ({ cls := "EvenScatter$Scatter", name := "rowAt", desc := "(II)I" } : Jvm.MethodName) ({ cls := "EvenScatter$Scatter", name := "rowAt", desc := "(II)I" } : Jvm.MethodName)) ∈ wG := wgM1 202 rfl rfl
theorem wt_203 : (Jvm.Cond.code ({ cls := "EvenScatter$Scatter", name := "rowAt", desc := "(II)I" } : Jvm.MethodName) prog_4_method_5_code (3 : Nat) (Option.some Jvm.ClassFile.FieldType.int)) ∈ wG := wgM1 203 rfl rfl
theorem wt_204 : (Jvm.Cond.methodLink "EvenScatter" (85 : Nat) ({ cls := "EvenScatter$Scatter", name := "setRow", desc := "(III)V" } : Jvm.MethodName)) ∈ wG := wgM1 204 rfl rfl
theorem wt_205 : (Jvm.Cond.instanceMethod ({ cls := "EvenScatter$Scatter", name := "setRow", desc := "(III)V" } : Jvm.MethodName)) ∈ wG := wgM1 205 rfl rfl
theorem wt_206 : (Jvm.Cond.selects "EvenScatter$Scatter" ({ cls := "EvenScatter$Scatter", name := "setRow", desc := "(III)V" } : Jvm.MethodName) ({ cls := "EvenScatter$Scatter", name := "setRow", desc := "(III)V" } : Jvm.MethodName)) ∈ wG := wgM1 206 rfl rfl
theorem wt_207 : (Jvm.Cond.code ({ cls := "EvenScatter$Scatter", name := "setRow", desc := "(III)V" } : Jvm.MethodName) prog_4_method_6_code (4 : Nat) (Option.none : Option Jvm.ClassFile.FieldType)) ∈ wG := wgM1 207 rfl rfl
theorem wt_208 : (Jvm.Cond.methodLink "EvenScatter" (89 : Nat) ({ cls := "EvenScatter$Scatter", name := "fillFromRows", desc := "(I)V" } : Jvm.MethodName)) ∈ wG := wgM1 208 rfl rfl
theorem wt_209 : (Jvm.Cond.instanceMethod ({ cls := "EvenScatter$Scatter", name := "fillFromRows", desc := "(I)V" } : Jvm.MethodName)) ∈ wG := wgM1 209 rfl rfl
theorem wt_210 : (Jvm.Cond.selects "EvenScatter$Scatter" ({ cls := "EvenScatter$Scatter", name := "fillFromRows", desc := "(I)V" } : Jvm.MethodName) ({ cls := "EvenScatter$Scatter", name := "fillFromRows", desc := "(I)V" } : Jvm.MethodName)) ∈ wG := wgM1 210 rfl rfl
theorem wt_211 : (Jvm.Cond.code ({ cls := "EvenScatter$Scatter", name := "fillFromRows", desc := "(I)V" } : Jvm.MethodName) prog_4_method_9_code (7 : Nat) (Option.none : Option Jvm.ClassFile.FieldType)) ∈ wG := wgM1 211 rfl rfl
theorem wt_212 : (Jvm.Cond.methodLink "EvenScatter$Scatter" (59 : Nat) ({ cls := "EvenScatter$Scatter", name := "columnAt", desc := "(II)I" } : Jvm.MethodName)) ∈ wG := wgM1 212 rfl rfl
theorem wt_214 : (Jvm.Cond.instanceMethod ({ cls := "EvenScatter$Scatter", name := "columnAt", desc := "(II)I" } : Jvm.MethodName)) ∈ wG := wgM1 214 rfl rfl
theorem wt_215 : (Jvm.Cond.code ({ cls := "EvenScatter$Scatter", name := "columnAt", desc := "(II)I" } : Jvm.MethodName) prog_4_method_10_code (5 : Nat) (Option.some Jvm.ClassFile.FieldType.int)) ∈ wG := wgM1 215 rfl rfl
theorem wt_216 : (Jvm.Cond.methodLink "EvenScatter$Scatter" (62 : Nat) ({ cls := "EvenScatter$Scatter", name := "rowAt", desc := "(II)I" } : Jvm.MethodName)) ∈ wG := wgM1 216 rfl rfl
theorem wt_217 : (Jvm.Cond.methodLink "EvenScatterLaw" (23 : Nat) ({ cls := "EvenScatter", name := "ladder", desc := "(I)I" } : Jvm.MethodName)) ∈ wG := wgM1 217 rfl rfl
theorem wt_218 : (Jvm.Cond.instanceMethod ({ cls := "EvenScatter", name := "ladder", desc := "(I)I" } : Jvm.MethodName)) ∈ wG := wgM1 218 rfl rfl
theorem wt_219 : (Jvm.Cond.selects "EvenScatter" ({ cls := "EvenScatter", name := "ladder", desc := "(I)I" } : Jvm.MethodName) ({ cls := "EvenScatter", name := "ladder", desc := "(I)I" } : Jvm.MethodName)) ∈ wG := wgM1 219 rfl rfl
theorem wt_220 : (Jvm.Cond.code ({ cls := "EvenScatter", name := "ladder", desc := "(I)I" } : Jvm.MethodName) prog_1_method_4_code (5 : Nat) (Option.some Jvm.ClassFile.FieldType.int)) ∈ wG := wgM1 220 rfl rfl
theorem wt_221 : (Jvm.Cond.methodLink "EvenScatterLaw" (30 : Nat) ({ cls := "EvenScatter", name := "direction", desc := "(IIJ)I" } : Jvm.MethodName)) ∈ wG := wgM1 221 rfl rfl
theorem wt_222 : (Jvm.Cond.instanceMethod ({ cls := "EvenScatter", name := "direction", desc := "(IIJ)I" } : Jvm.MethodName)) ∈ wG := wgM1 222 rfl rfl
theorem wt_223 : (Jvm.Cond.selects "EvenScatter" ({ cls := "EvenScatter", name := "direction", desc := "(IIJ)I" } : Jvm.MethodName) ({ cls := "EvenScatter", name := "direction", desc := "(IIJ)I" } : Jvm.MethodName)) ∈ wG := wgM1 223 rfl rfl
theorem wt_224 : (Jvm.Cond.code ({ cls := "EvenScatter", name := "direction", desc := "(IIJ)I" } : Jvm.MethodName) prog_1_method_5_code (6 : Nat) (Option.some Jvm.ClassFile.FieldType.int)) ∈ wG := wgM1 224 rfl rfl
theorem wt_225 : (Jvm.Cond.methodLink "EvenScatter" (96 : Nat) ({ cls := "EvenScatter", name := "degree", desc := "(I)I" } : Jvm.MethodName)) ∈ wG := wgM1 225 rfl rfl
theorem wt_226 : (Jvm.Cond.static ({ cls := "EvenScatter", name := "degree", desc := "(I)I" } : Jvm.MethodName)) ∈ wG := wgM1 226 rfl rfl
theorem wt_227 : (Jvm.Cond.code ({ cls := "EvenScatter", name := "degree", desc := "(I)I" } : Jvm.MethodName) prog_1_method_41_code (3 : Nat) (Option.some Jvm.ClassFile.FieldType.int)) ∈ wG := wgM1 227 rfl rfl
theorem wt_228 : (Jvm.Cond.methodLink "EvenScatter" (99 : Nat) ({ cls := "EvenScatter", name := "firstsMayBe", desc := "(IJ)Z" } : Jvm.MethodName)) ∈ wG := wgM1 228 rfl rfl
theorem wt_229 : (Jvm.Cond.static ({ cls := "EvenScatter", name := "firstsMayBe", desc := "(IJ)Z" } : Jvm.MethodName)) ∈ wG := wgM1 229 rfl rfl
theorem wt_230 : (Jvm.Cond.code ({ cls := "EvenScatter", name := "firstsMayBe", desc := "(IJ)Z" } : Jvm.MethodName) prog_1_method_43_code (5 : Nat) (Option.some Jvm.ClassFile.FieldType.boolean)) ∈ wG := wgM1 230 rfl rfl
theorem wt_231 : (Jvm.Cond.methodLink "EvenScatter" (264 : Nat) ({ cls := "EvenScatter", name := "firstOf", desc := "(JI)I" } : Jvm.MethodName)) ∈ wG := wgM1 231 rfl rfl
theorem wt_232 : (Jvm.Cond.static ({ cls := "EvenScatter", name := "firstOf", desc := "(JI)I" } : Jvm.MethodName)) ∈ wG := wgM1 232 rfl rfl
theorem wt_233 : (Jvm.Cond.code ({ cls := "EvenScatter", name := "firstOf", desc := "(JI)I" } : Jvm.MethodName) prog_1_method_42_code (3 : Nat) (Option.some Jvm.ClassFile.FieldType.int)) ∈ wG := wgM1 233 rfl rfl
theorem wt_234 : (Jvm.Cond.constantLong "EvenScatter" (262 : Nat) (255 : Int64)) ∈ wG := wgM1 234 rfl rfl
theorem wt_235 : (Jvm.Cond.methodLink "EvenScatter" (103 : Nat) ({ cls := "EvenScatter$Scatter", name := "addRung", desc := "(IIJ)V" } : Jvm.MethodName)) ∈ wG := wgM1 235 rfl rfl
theorem wt_236 : (Jvm.Cond.instanceMethod ({ cls := "EvenScatter$Scatter", name := "addRung", desc := "(IIJ)V" } : Jvm.MethodName)) ∈ wG := wgM1 236 rfl rfl
theorem wt_237 : (Jvm.Cond.selects "EvenScatter$Scatter" ({ cls := "EvenScatter$Scatter", name := "addRung", desc := "(IIJ)V" } : Jvm.MethodName) ({ cls := "EvenScatter$Scatter", name := "addRung", desc := "(IIJ)V" } : Jvm.MethodName)) ∈ wG := wgM1 237 rfl rfl
theorem wt_238 : (Jvm.Cond.code ({ cls := "EvenScatter$Scatter", name := "addRung", desc := "(IIJ)V" } : Jvm.MethodName) prog_4_method_13_code (10 : Nat) (Option.none : Option Jvm.ClassFile.FieldType)) ∈ wG := wgM1 238 rfl rfl
theorem wt_239 : (Jvm.Cond.methodLink "EvenScatter$Scatter" (69 : Nat) ({ cls := "EvenScatter$Scatter", name := "rungNumbers", desc := "(IIJ)[I" } : Jvm.MethodName)) ∈ wG := wgM1 239 rfl rfl
theorem wt_240 : (Jvm.Cond.static ({ cls := "EvenScatter$Scatter", name := "rungNumbers", desc := "(IIJ)[I" } : Jvm.MethodName)) ∈ wG := wgM2 0 rfl rfl
theorem wt_241 : (Jvm.Cond.code ({ cls := "EvenScatter$Scatter", name := "rungNumbers", desc := "(IIJ)[I" } : Jvm.MethodName) prog_4_method_14_code (9 : Nat) (Option.some (Jvm.ClassFile.FieldType.array Jvm.ClassFile.FieldType.int))) ∈ wG := wgM2 1 rfl rfl
theorem wn_242 : (Jvm.Cond.methodLinkNest "EvenScatter$Scatter" (77 : Nat) ({ cls := "EvenScatter", name := "firstOf", desc := "(JI)I" } : Jvm.MethodName) "EvenScatter") ∈ lw_tbl := lw_m2 (List.mem_of_getElem? (i := 2) rfl)
theorem wt_243 : (Jvm.Cond.methodLink "EvenScatter$Scatter" (73 : Nat) ({ cls := "EvenScatter$Scatter", name := "setRow", desc := "(III)V" } : Jvm.MethodName)) ∈ wG := wgM2 3 rfl rfl
theorem wt_244 : (Jvm.Cond.methodLink "EvenScatter$Scatter" (55 : Nat) ({ cls := "EvenScatter$Scatter", name := "fillFromRows", desc := "(I)V" } : Jvm.MethodName)) ∈ wG := wgM2 4 rfl rfl
theorem wt_245 : (Jvm.Cond.methodLink "EvenScatterLaw" (35 : Nat) ({ cls := "EvenScatter", name := "turned", desc := "(I)I" } : Jvm.MethodName)) ∈ wG := wgM2 5 rfl rfl
theorem wt_246 : (Jvm.Cond.instanceMethod ({ cls := "EvenScatter", name := "turned", desc := "(I)I" } : Jvm.MethodName)) ∈ wG := wgM2 6 rfl rfl
theorem wt_247 : (Jvm.Cond.selects "EvenScatter" ({ cls := "EvenScatter", name := "turned", desc := "(I)I" } : Jvm.MethodName) ({ cls := "EvenScatter", name := "turned", desc := "(I)I" } : Jvm.MethodName)) ∈ wG := wgM2 7 rfl rfl
theorem wt_248 : (Jvm.Cond.code ({ cls := "EvenScatter", name := "turned", desc := "(I)I" } : Jvm.MethodName) prog_1_method_6_code (4 : Nat) (Option.some Jvm.ClassFile.FieldType.int)) ∈ wG := wgM2 8 rfl rfl
theorem wt_249 : (Jvm.Cond.methodLink "EvenScatter" (107 : Nat) ({ cls := "EvenScatter$Scatter", name := "hasRows", desc := "()Z" } : Jvm.MethodName)) ∈ wG := wgM2 9 rfl rfl
theorem wt_250 : (Jvm.Cond.instanceMethod ({ cls := "EvenScatter$Scatter", name := "hasRows", desc := "()Z" } : Jvm.MethodName)) ∈ wG := wgM2 10 rfl rfl
theorem wt_251 : (Jvm.Cond.selects "EvenScatter$Scatter" ({ cls := "EvenScatter$Scatter", name := "hasRows", desc := "()Z" } : Jvm.MethodName) ({ cls := "EvenScatter$Scatter", name := "hasRows", desc := "()Z" } : Jvm.MethodName)) ∈ wG := wgM2 11 rfl rfl
theorem wt_252 : (Jvm.Cond.code ({ cls := "EvenScatter$Scatter", name := "hasRows", desc := "()Z" } : Jvm.MethodName) prog_4_method_3_code (1 : Nat) (Option.some Jvm.ClassFile.FieldType.boolean)) ∈ wG := wgM2 12 rfl rfl
theorem wt_253 : (Jvm.Cond.methodLink "EvenScatter" (111 : Nat) ({ cls := "EvenScatter$Scatter", name := "takeRowsAndMasks", desc := "(LEvenScatter$Scatter;)V" } : Jvm.MethodName)) ∈ wG := wgM2 13 rfl rfl
theorem wt_254 : (Jvm.Cond.instanceMethod ({ cls := "EvenScatter$Scatter", name := "takeRowsAndMasks", desc := "(LEvenScatter$Scatter;)V" } : Jvm.MethodName)) ∈ wG := wgM2 14 rfl rfl
theorem wt_255 : (Jvm.Cond.selects "EvenScatter$Scatter" ({ cls := "EvenScatter$Scatter", name := "takeRowsAndMasks", desc := "(LEvenScatter$Scatter;)V" } : Jvm.MethodName) ({ cls := "EvenScatter$Scatter", name := "takeRowsAndMasks", desc := "(LEvenScatter$Scatter;)V" } : Jvm.MethodName)) ∈ wG := wgM2 15 rfl rfl
theorem wt_256 : (Jvm.Cond.code ({ cls := "EvenScatter$Scatter", name := "takeRowsAndMasks", desc := "(LEvenScatter$Scatter;)V" } : Jvm.MethodName) prog_4_method_8_code (3 : Nat) (Option.none : Option Jvm.ClassFile.FieldType)) ∈ wG := wgM2 16 rfl rfl
theorem wt_257 : (Jvm.Cond.methodLink "EvenScatter$Scatter" (49 : Nat) ({ cls := "java/lang/System", name := "arraycopy", desc := "(Ljava/lang/Object;ILjava/lang/Object;II)V" } : Jvm.MethodName)) ∈ wG := wgM2 17 rfl rfl
theorem wt_258 : (Jvm.Cond.static ({ cls := "java/lang/System", name := "arraycopy", desc := "(Ljava/lang/Object;ILjava/lang/Object;II)V" } : Jvm.MethodName)) ∈ wG := wgM2 18 rfl rfl
theorem wt_259 : (Jvm.Cond.native ({ cls := "java/lang/System", name := "arraycopy", desc := "(Ljava/lang/Object;ILjava/lang/Object;II)V" } : Jvm.MethodName)) ∈ wG := wgM2 19 rfl rfl
theorem wt_260 : (Jvm.Cond.methodLink "EvenScatterLaw" (39 : Nat) ({ cls := "EvenScatter", name := "mask", desc := "(III)I" } : Jvm.MethodName)) ∈ wG := wgM2 20 rfl rfl
theorem wt_261 : (Jvm.Cond.instanceMethod ({ cls := "EvenScatter", name := "mask", desc := "(III)I" } : Jvm.MethodName)) ∈ wG := wgM2 21 rfl rfl
theorem wt_262 : (Jvm.Cond.selects "EvenScatter" ({ cls := "EvenScatter", name := "mask", desc := "(III)I" } : Jvm.MethodName) ({ cls := "EvenScatter", name := "mask", desc := "(III)I" } : Jvm.MethodName)) ∈ wG := wgM2 22 rfl rfl
theorem wt_263 : (Jvm.Cond.code ({ cls := "EvenScatter", name := "mask", desc := "(III)I" } : Jvm.MethodName) prog_1_method_7_code (6 : Nat) (Option.some Jvm.ClassFile.FieldType.int)) ∈ wG := wgM2 23 rfl rfl
theorem wt_264 : (Jvm.Cond.methodLink "EvenScatterLaw" (44 : Nat) ({ cls := "EvenScatter", name := "grid", desc := "(II)I" } : Jvm.MethodName)) ∈ wG := wgM2 24 rfl rfl
theorem wt_265 : (Jvm.Cond.instanceMethod ({ cls := "EvenScatter", name := "grid", desc := "(II)I" } : Jvm.MethodName)) ∈ wG := wgM2 25 rfl rfl
theorem wt_266 : (Jvm.Cond.selects "EvenScatter" ({ cls := "EvenScatter", name := "grid", desc := "(II)I" } : Jvm.MethodName) ({ cls := "EvenScatter", name := "grid", desc := "(II)I" } : Jvm.MethodName)) ∈ wG := wgM2 26 rfl rfl
theorem wt_267 : (Jvm.Cond.code ({ cls := "EvenScatter", name := "grid", desc := "(II)I" } : Jvm.MethodName) prog_1_method_8_code (3 : Nat) (Option.some Jvm.ClassFile.FieldType.int)) ∈ wG := wgM2 27 rfl rfl
theorem wt_268 : (Jvm.Cond.methodLink "EvenScatterLaw" (48 : Nat) ({ cls := "EvenScatter", name := "step", desc := "(III)I" } : Jvm.MethodName)) ∈ wG := wgM2 28 rfl rfl
theorem wt_269 : (Jvm.Cond.instanceMethod ({ cls := "EvenScatter", name := "step", desc := "(III)I" } : Jvm.MethodName)) ∈ wG := wgM2 29 rfl rfl
theorem wt_270 : (Jvm.Cond.selects "EvenScatter" ({ cls := "EvenScatter", name := "step", desc := "(III)I" } : Jvm.MethodName) ({ cls := "EvenScatter", name := "step", desc := "(III)I" } : Jvm.MethodName)) ∈ wG := wgM2 30 rfl rfl
theorem wt_271 : (Jvm.Cond.code ({ cls := "EvenScatter", name := "step", desc := "(III)I" } : Jvm.MethodName) prog_1_method_9_code (6 : Nat) (Option.some Jvm.ClassFile.FieldType.int)) ∈ wG := wgM2 31 rfl rfl
theorem wt_272 : (Jvm.Cond.methodLink "EvenScatter" (121 : Nat) ({ cls := "EvenScatter$Scatter", name := "fillFromStep", desc := "(I)V" } : Jvm.MethodName)) ∈ wG := wgM2 32 rfl rfl
theorem wt_273 : (Jvm.Cond.instanceMethod ({ cls := "EvenScatter$Scatter", name := "fillFromStep", desc := "(I)V" } : Jvm.MethodName)) ∈ wG := wgM2 33 rfl rfl
theorem wt_274 : (Jvm.Cond.selects "EvenScatter$Scatter" ({ cls := "EvenScatter$Scatter", name := "fillFromStep", desc := "(I)V" } : Jvm.MethodName) ({ cls := "EvenScatter$Scatter", name := "fillFromStep", desc := "(I)V" } : Jvm.MethodName)) ∈ wG := wgM2 34 rfl rfl
theorem wt_275 : (Jvm.Cond.code ({ cls := "EvenScatter$Scatter", name := "fillFromStep", desc := "(I)V" } : Jvm.MethodName) prog_4_method_11_code (3 : Nat) (Option.none : Option Jvm.ClassFile.FieldType)) ∈ wG := wgM2 35 rfl rfl
theorem wt_276 : (Jvm.Cond.methodLink "EvenScatterLaw" (52 : Nat) ({ cls := "EvenScatter", name := "lots", desc := "(IIJ)I" } : Jvm.MethodName)) ∈ wG := wgM2 36 rfl rfl
theorem wt_277 : (Jvm.Cond.instanceMethod ({ cls := "EvenScatter", name := "lots", desc := "(IIJ)I" } : Jvm.MethodName)) ∈ wG := wgM2 37 rfl rfl
theorem wt_278 : (Jvm.Cond.selects "EvenScatter" ({ cls := "EvenScatter", name := "lots", desc := "(IIJ)I" } : Jvm.MethodName) ({ cls := "EvenScatter", name := "lots", desc := "(IIJ)I" } : Jvm.MethodName)) ∈ wG := wgM2 38 rfl rfl
theorem wt_279 : (Jvm.Cond.code ({ cls := "EvenScatter", name := "lots", desc := "(IIJ)I" } : Jvm.MethodName) prog_1_method_10_code (7 : Nat) (Option.some Jvm.ClassFile.FieldType.int)) ∈ wG := wgM2 39 rfl rfl
theorem wt_280 : (Jvm.Cond.methodLink "EvenScatter" (124 : Nat) ({ cls := "EvenScatter$Scatter", name := "fillFromSeed", desc := "(J)V" } : Jvm.MethodName)) ∈ wG := wgM2 40 rfl rfl
theorem wt_281 : (Jvm.Cond.instanceMethod ({ cls := "EvenScatter$Scatter", name := "fillFromSeed", desc := "(J)V" } : Jvm.MethodName)) ∈ wG := wgM2 41 rfl rfl
theorem wt_282 : (Jvm.Cond.selects "EvenScatter$Scatter" ({ cls := "EvenScatter$Scatter", name := "fillFromSeed", desc := "(J)V" } : Jvm.MethodName) ({ cls := "EvenScatter$Scatter", name := "fillFromSeed", desc := "(J)V" } : Jvm.MethodName)) ∈ wG := wgM2 42 rfl rfl
theorem wt_283 : (Jvm.Cond.code ({ cls := "EvenScatter$Scatter", name := "fillFromSeed", desc := "(J)V" } : Jvm.MethodName) prog_4_method_12_code (7 : Nat) (Option.none : Option Jvm.ClassFile.FieldType)) ∈ wG := wgM2 43 rfl rfl
theorem wt_284 : (Jvm.Cond.constantLong "EvenScatter$Scatter" (65 : Nat) (6364136223846793005 : Int64)) ∈ wG := wgM2 44 rfl rfl
theorem wt_285 : (Jvm.Cond.constantLong "EvenScatter$Scatter" (67 : Nat) (1442695040888963407 : Int64)) ∈ wG := wgM2 45 rfl rfl
theorem wt_286 : (Jvm.Cond.methodLink "EvenScatterLaw" (56 : Nat) ({ cls := "EvenScatter", name := "scatter", desc := "(II)I" } : Jvm.MethodName)) ∈ wG := wgM2 46 rfl rfl
theorem wt_287 : (Jvm.Cond.instanceMethod ({ cls := "EvenScatter", name := "scatter", desc := "(II)I" } : Jvm.MethodName)) ∈ wG := wgM2 47 rfl rfl
theorem wt_288 : (Jvm.Cond.selects "EvenScatter" ({ cls := "EvenScatter", name := "scatter", desc := "(II)I" } : Jvm.MethodName) ({ cls := "EvenScatter", name := "scatter", desc := "(II)I" } : Jvm.MethodName)) ∈ wG := wgM2 48 rfl rfl
theorem wt_289 : (Jvm.Cond.code ({ cls := "EvenScatter", name := "scatter", desc := "(II)I" } : Jvm.MethodName) prog_1_method_11_code (4 : Nat) (Option.some Jvm.ClassFile.FieldType.int)) ∈ wG := wgM2 49 rfl rfl
theorem wt_290 : (Jvm.Cond.methodLink "EvenScatterLaw" (60 : Nat) ({ cls := "EvenScatter", name := "part", desc := "(III)I" } : Jvm.MethodName)) ∈ wG := wgM2 50 rfl rfl
theorem wt_291 : (Jvm.Cond.instanceMethod ({ cls := "EvenScatter", name := "part", desc := "(III)I" } : Jvm.MethodName)) ∈ wG := wgM2 51 rfl rfl
theorem wt_292 : (Jvm.Cond.selects "EvenScatter" ({ cls := "EvenScatter", name := "part", desc := "(III)I" } : Jvm.MethodName) ({ cls := "EvenScatter", name := "part", desc := "(III)I" } : Jvm.MethodName)) ∈ wG := wgM2 52 rfl rfl
theorem wt_293 : (Jvm.Cond.code ({ cls := "EvenScatter", name := "part", desc := "(III)I" } : Jvm.MethodName) prog_1_method_12_code (5 : Nat) (Option.some Jvm.ClassFile.FieldType.int)) ∈ wG := wgM2 53 rfl rfl
theorem wt_294 : (Jvm.Cond.methodLink "EvenScatter" (131 : Nat) ({ cls := "EvenScatter$Scatter", name := "partAt", desc := "(II)I" } : Jvm.MethodName)) ∈ wG := wgM2 54 rfl rfl
theorem wt_295 : (Jvm.Cond.instanceMethod ({ cls := "EvenScatter$Scatter", name := "partAt", desc := "(II)I" } : Jvm.MethodName)) ∈ wG := wgM2 55 rfl rfl
theorem wt_296 : (Jvm.Cond.selects "EvenScatter$Scatter" ({ cls := "EvenScatter$Scatter", name := "partAt", desc := "(II)I" } : Jvm.MethodName) ({ cls := "EvenScatter$Scatter", name := "partAt", desc := "(II)I" } : Jvm.MethodName)) ∈ wG := wgM2 56 rfl rfl
theorem wt_297 : (Jvm.Cond.code ({ cls := "EvenScatter$Scatter", name := "partAt", desc := "(II)I" } : Jvm.MethodName) prog_4_method_4_code (3 : Nat) (Option.some Jvm.ClassFile.FieldType.int)) ∈ wG := wgM2 57 rfl rfl
theorem wt_298 : (Jvm.Cond.methodLink "EvenScatterLaw" (64 : Nat) ({ cls := "EvenScatter", name := "next", desc := "(I)I" } : Jvm.MethodName)) ∈ wG := wgM2 58 rfl rfl
theorem wt_299 : (Jvm.Cond.instanceMethod ({ cls := "EvenScatter", name := "next", desc := "(I)I" } : Jvm.MethodName)) ∈ wG := wgM2 59 rfl rfl
theorem wt_300 : (Jvm.Cond.selects "EvenScatter" ({ cls := "EvenScatter", name := "next", desc := "(I)I" } : Jvm.MethodName) ({ cls := "EvenScatter", name := "next", desc := "(I)I" } : Jvm.MethodName)) ∈ wG := wgM2 60 rfl rfl
theorem wt_301 : (Jvm.Cond.code ({ cls := "EvenScatter", name := "next", desc := "(I)I" } : Jvm.MethodName) prog_1_method_13_code (4 : Nat) (Option.some Jvm.ClassFile.FieldType.int)) ∈ wG := wgM2 61 rfl rfl
theorem wt_302 : (Jvm.Cond.constant "EvenScatter" (134 : Nat) (1000000 : Int32)) ∈ wG := wgM2 62 rfl rfl
theorem wt_303 : (Jvm.Cond.methodLink "EvenScatter" (135 : Nat) ({ cls := "EvenScatter$Scatter", name := "pointOfTurn", desc := "()I" } : Jvm.MethodName)) ∈ wG := wgM2 63 rfl rfl
theorem wt_304 : (Jvm.Cond.instanceMethod ({ cls := "EvenScatter$Scatter", name := "pointOfTurn", desc := "()I" } : Jvm.MethodName)) ∈ wG := wgM2 64 rfl rfl
theorem wt_305 : (Jvm.Cond.selects "EvenScatter$Scatter" ({ cls := "EvenScatter$Scatter", name := "pointOfTurn", desc := "()I" } : Jvm.MethodName) ({ cls := "EvenScatter$Scatter", name := "pointOfTurn", desc := "()I" } : Jvm.MethodName)) ∈ wG := wgM2 65 rfl rfl
theorem wt_306 : (Jvm.Cond.code ({ cls := "EvenScatter$Scatter", name := "pointOfTurn", desc := "()I" } : Jvm.MethodName) prog_4_method_7_code (2 : Nat) (Option.some Jvm.ClassFile.FieldType.int)) ∈ wG := wgM2 66 rfl rfl
theorem wt_307 : (Jvm.Cond.methodLink "EvenScatterLaw" (68 : Nat) ({ cls := "EvenScatter", name := "skip", desc := "(II)I" } : Jvm.MethodName)) ∈ wG := wgM2 67 rfl rfl
theorem wt_308 : (Jvm.Cond.instanceMethod ({ cls := "EvenScatter", name := "skip", desc := "(II)I" } : Jvm.MethodName)) ∈ wG := wgM2 68 rfl rfl
theorem wt_309 : (Jvm.Cond.selects "EvenScatter" ({ cls := "EvenScatter", name := "skip", desc := "(II)I" } : Jvm.MethodName) ({ cls := "EvenScatter", name := "skip", desc := "(II)I" } : Jvm.MethodName)) ∈ wG := wgM2 69 rfl rfl
theorem wt_310 : (Jvm.Cond.code ({ cls := "EvenScatter", name := "skip", desc := "(II)I" } : Jvm.MethodName) prog_1_method_14_code (5 : Nat) (Option.some Jvm.ClassFile.FieldType.int)) ∈ wG := wgM2 70 rfl rfl
theorem wt_311 : (Jvm.Cond.methodLink "EvenScatterLaw" (72 : Nat) ({ cls := "EvenScatter", name := "side", desc := "(III)I" } : Jvm.MethodName)) ∈ wG := wgM2 71 rfl rfl
theorem wt_312 : (Jvm.Cond.instanceMethod ({ cls := "EvenScatter", name := "side", desc := "(III)I" } : Jvm.MethodName)) ∈ wG := wgM2 72 rfl rfl
theorem wt_313 : (Jvm.Cond.selects "EvenScatter" ({ cls := "EvenScatter", name := "side", desc := "(III)I" } : Jvm.MethodName) ({ cls := "EvenScatter", name := "side", desc := "(III)I" } : Jvm.MethodName)) ∈ wG := wgM2 73 rfl rfl
theorem wt_314 : (Jvm.Cond.code ({ cls := "EvenScatter", name := "side", desc := "(III)I" } : Jvm.MethodName) prog_1_method_15_code (4 : Nat) (Option.some Jvm.ClassFile.FieldType.int)) ∈ wG := wgM2 74 rfl rfl
theorem wt_315 : (Jvm.Cond.methodLink "EvenScatterLaw" (76 : Nat) ({ cls := "EvenScatter", name := "mark", desc := "(II)I" } : Jvm.MethodName)) ∈ wG := wgM2 75 rfl rfl
theorem wt_316 : (Jvm.Cond.instanceMethod ({ cls := "EvenScatter", name := "mark", desc := "(II)I" } : Jvm.MethodName)) ∈ wG := wgM2 76 rfl rfl
theorem wt_317 : (Jvm.Cond.selects "EvenScatter" ({ cls := "EvenScatter", name := "mark", desc := "(II)I" } : Jvm.MethodName) ({ cls := "EvenScatter", name := "mark", desc := "(II)I" } : Jvm.MethodName)) ∈ wG := wgM2 77 rfl rfl
theorem wt_318 : (Jvm.Cond.code ({ cls := "EvenScatter", name := "mark", desc := "(II)I" } : Jvm.MethodName) prog_1_method_16_code (4 : Nat) (Option.some Jvm.ClassFile.FieldType.int)) ∈ wG := wgM2 78 rfl rfl
theorem wt_319 : (Jvm.Cond.methodLink "EvenScatterLaw" (80 : Nat) ({ cls := "EvenScatter", name := "count", desc := "(I)I" } : Jvm.MethodName)) ∈ wG := wgM2 79 rfl rfl
theorem wt_320 : (Jvm.Cond.instanceMethod ({ cls := "EvenScatter", name := "count", desc := "(I)I" } : Jvm.MethodName)) ∈ wG := wgM2 80 rfl rfl
theorem wt_321 : (Jvm.Cond.selects "EvenScatter" ({ cls := "EvenScatter", name := "count", desc := "(I)I" } : Jvm.MethodName) ({ cls := "EvenScatter", name := "count", desc := "(I)I" } : Jvm.MethodName)) ∈ wG := wgM2 81 rfl rfl
theorem wt_322 : (Jvm.Cond.code ({ cls := "EvenScatter", name := "count", desc := "(I)I" } : Jvm.MethodName) prog_1_method_17_code (5 : Nat) (Option.some Jvm.ClassFile.FieldType.int)) ∈ wG := wgM2 82 rfl rfl
theorem wt_323 : (Jvm.Cond.methodLink "EvenScatter" (148 : Nat) ({ cls := "EvenScatter$Tray", name := "boxHas", desc := "(LEvenScatter$Scatter;I)Z" } : Jvm.MethodName)) ∈ wG := wgM2 83 rfl rfl
theorem wt_324 : (Jvm.Cond.instanceMethod ({ cls := "EvenScatter$Tray", name := "boxHas", desc := "(LEvenScatter$Scatter;I)Z" } : Jvm.MethodName)) ∈ wG := wgM2 84 rfl rfl
theorem wt_325 : (Jvm.Cond.selects "EvenScatter$Tray" ({ cls := "EvenScatter$Tray", name := "boxHas", desc := "(LEvenScatter$Scatter;I)Z" } : Jvm.MethodName) ({ cls := "EvenScatter$Tray", name := "boxHas", desc := "(LEvenScatter$Scatter;I)Z" } : Jvm.MethodName)) ∈ wG := wgM2 85 rfl rfl
theorem wt_326 : (Jvm.Cond.code ({ cls := "EvenScatter$Tray", name := "boxHas", desc := "(LEvenScatter$Scatter;I)Z" } : Jvm.MethodName) prog_5_method_2_code (5 : Nat) (Option.some Jvm.ClassFile.FieldType.boolean)) ∈ wG := wgM2 86 rfl rfl
theorem wt_327 : (Jvm.Cond.methodLink "EvenScatter$Tray" (27 : Nat) ({ cls := "EvenScatter$Scatter", name := "partAt", desc := "(II)I" } : Jvm.MethodName)) ∈ wG := wgM2 87 rfl rfl
theorem wt_328 : (Jvm.Cond.methodLink "EvenScatterLaw" (84 : Nat) ({ cls := "EvenScatter", name := "back", desc := "(I)I" } : Jvm.MethodName)) ∈ wG := wgM2 88 rfl rfl
theorem wt_329 : (Jvm.Cond.instanceMethod ({ cls := "EvenScatter", name := "back", desc := "(I)I" } : Jvm.MethodName)) ∈ wG := wgM2 89 rfl rfl
theorem wt_330 : (Jvm.Cond.selects "EvenScatter" ({ cls := "EvenScatter", name := "back", desc := "(I)I" } : Jvm.MethodName) ({ cls := "EvenScatter", name := "back", desc := "(I)I" } : Jvm.MethodName)) ∈ wG := wgM2 90 rfl rfl
theorem wt_331 : (Jvm.Cond.code ({ cls := "EvenScatter", name := "back", desc := "(I)I" } : Jvm.MethodName) prog_1_method_18_code (4 : Nat) (Option.some Jvm.ClassFile.FieldType.int)) ∈ wG := wgM2 91 rfl rfl
theorem wt_332 : (Jvm.Cond.methodLink "EvenScatter" (152 : Nat) ({ cls := "EvenScatter$Tray", name := "marksAreParts", desc := "(LEvenScatter$Scatter;I)Z" } : Jvm.MethodName)) ∈ wG := wgM2 92 rfl rfl
theorem wt_333 : (Jvm.Cond.instanceMethod ({ cls := "EvenScatter$Tray", name := "marksAreParts", desc := "(LEvenScatter$Scatter;I)Z" } : Jvm.MethodName)) ∈ wG := wgM2 93 rfl rfl
theorem wt_334 : (Jvm.Cond.selects "EvenScatter$Tray" ({ cls := "EvenScatter$Tray", name := "marksAreParts", desc := "(LEvenScatter$Scatter;I)Z" } : Jvm.MethodName) ({ cls := "EvenScatter$Tray", name := "marksAreParts", desc := "(LEvenScatter$Scatter;I)Z" } : Jvm.MethodName)) ∈ wG := wgM2 94 rfl rfl
theorem wt_335 : (Jvm.Cond.code ({ cls := "EvenScatter$Tray", name := "marksAreParts", desc := "(LEvenScatter$Scatter;I)Z" } : Jvm.MethodName) prog_5_method_4_code (4 : Nat) (Option.some Jvm.ClassFile.FieldType.boolean)) ∈ wG := wgM2 95 rfl rfl
theorem wt_336 : (Jvm.Cond.methodLink "EvenScatterLaw" (88 : Nat) ({ cls := "EvenScatter", name := "even", desc := "(I)I" } : Jvm.MethodName)) ∈ wG := wgM2 96 rfl rfl
theorem wt_337 : (Jvm.Cond.instanceMethod ({ cls := "EvenScatter", name := "even", desc := "(I)I" } : Jvm.MethodName)) ∈ wG := wgM2 97 rfl rfl
theorem wt_338 : (Jvm.Cond.selects "EvenScatter" ({ cls := "EvenScatter", name := "even", desc := "(I)I" } : Jvm.MethodName) ({ cls := "EvenScatter", name := "even", desc := "(I)I" } : Jvm.MethodName)) ∈ wG := wgM2 98 rfl rfl
theorem wt_339 : (Jvm.Cond.code ({ cls := "EvenScatter", name := "even", desc := "(I)I" } : Jvm.MethodName) prog_1_method_19_code (4 : Nat) (Option.some Jvm.ClassFile.FieldType.int)) ∈ wG := wgM2 99 rfl rfl
theorem wt_340 : (Jvm.Cond.methodLink "EvenScatter" (155 : Nat) ({ cls := "EvenScatter", name := "shapeFault", desc := "(LEvenScatter$Scatter;)I" } : Jvm.MethodName)) ∈ wG := wgM2 100 rfl rfl
theorem wt_342 : (Jvm.Cond.instanceMethod ({ cls := "EvenScatter", name := "shapeFault", desc := "(LEvenScatter$Scatter;)I" } : Jvm.MethodName)) ∈ wG := wgM2 102 rfl rfl
theorem wt_343 : (Jvm.Cond.code ({ cls := "EvenScatter", name := "shapeFault", desc := "(LEvenScatter$Scatter;)I" } : Jvm.MethodName) prog_1_method_35_code (2 : Nat) (Option.some Jvm.ClassFile.FieldType.int)) ∈ wG := wgM2 103 rfl rfl
theorem wt_344 : (Jvm.Cond.methodLink "EvenScatter" (223 : Nat) ({ cls := "EvenScatter$Tray", name := "marksMayBe", desc := "(LEvenScatter$Scatter;I)Z" } : Jvm.MethodName)) ∈ wG := wgM2 104 rfl rfl
theorem wt_345 : (Jvm.Cond.instanceMethod ({ cls := "EvenScatter$Tray", name := "marksMayBe", desc := "(LEvenScatter$Scatter;I)Z" } : Jvm.MethodName)) ∈ wG := wgM2 105 rfl rfl
theorem wt_346 : (Jvm.Cond.selects "EvenScatter$Tray" ({ cls := "EvenScatter$Tray", name := "marksMayBe", desc := "(LEvenScatter$Scatter;I)Z" } : Jvm.MethodName) ({ cls := "EvenScatter$Tray", name := "marksMayBe", desc := "(LEvenScatter$Scatter;I)Z" } : Jvm.MethodName)) ∈ wG := wgM2 106 rfl rfl
theorem wt_347 : (Jvm.Cond.code ({ cls := "EvenScatter$Tray", name := "marksMayBe", desc := "(LEvenScatter$Scatter;I)Z" } : Jvm.MethodName) prog_5_method_6_code (4 : Nat) (Option.some Jvm.ClassFile.FieldType.boolean)) ∈ wG := wgM2 107 rfl rfl
theorem wt_348 : (Jvm.Cond.methodLink "EvenScatter" (241 : Nat) ({ cls := "EvenScatter$Tray", name := "markSum", desc := "(LEvenScatter$Scatter;)I" } : Jvm.MethodName)) ∈ wG := wgM2 108 rfl rfl
theorem wt_349 : (Jvm.Cond.instanceMethod ({ cls := "EvenScatter$Tray", name := "markSum", desc := "(LEvenScatter$Scatter;)I" } : Jvm.MethodName)) ∈ wG := wgM2 109 rfl rfl
theorem wt_350 : (Jvm.Cond.selects "EvenScatter$Tray" ({ cls := "EvenScatter$Tray", name := "markSum", desc := "(LEvenScatter$Scatter;)I" } : Jvm.MethodName) ({ cls := "EvenScatter$Tray", name := "markSum", desc := "(LEvenScatter$Scatter;)I" } : Jvm.MethodName)) ∈ wG := wgM2 110 rfl rfl
theorem wt_351 : (Jvm.Cond.code ({ cls := "EvenScatter$Tray", name := "markSum", desc := "(LEvenScatter$Scatter;)I" } : Jvm.MethodName) prog_5_method_7_code (4 : Nat) (Option.some Jvm.ClassFile.FieldType.int)) ∈ wG := wgM2 111 rfl rfl
theorem wt_352 : (Jvm.Cond.methodLink "EvenScatter" (158 : Nat) ({ cls := "EvenScatter", name := "firstUneven", desc := "(LEvenScatter$Scatter;)I" } : Jvm.MethodName)) ∈ wG := wgM2 112 rfl rfl
theorem wt_354 : (Jvm.Cond.instanceMethod ({ cls := "EvenScatter", name := "firstUneven", desc := "(LEvenScatter$Scatter;)I" } : Jvm.MethodName)) ∈ wG := wgM2 114 rfl rfl
theorem wt_355 : (Jvm.Cond.code ({ cls := "EvenScatter", name := "firstUneven", desc := "(LEvenScatter$Scatter;)I" } : Jvm.MethodName) prog_1_method_36_code (6 : Nat) (Option.some Jvm.ClassFile.FieldType.int)) ∈ wG := wgM2 115 rfl rfl
theorem wt_356 : (Jvm.Cond.methodLink "EvenScatter" (250 : Nat) ({ cls := "java/util/Arrays", name := "fill", desc := "([IIII)V" } : Jvm.MethodName)) ∈ wG := wgM2 116 rfl rfl
theorem wt_357 : (Jvm.Cond.static ({ cls := "java/util/Arrays", name := "fill", desc := "([IIII)V" } : Jvm.MethodName)) ∈ wG := wgM2 117 rfl rfl
theorem wt_358 : (Jvm.Cond.code ({ cls := "java/util/Arrays", name := "fill", desc := "([IIII)V" } : Jvm.MethodName) prog_11_method_104_code (5 : Nat) (Option.none : Option Jvm.ClassFile.FieldType)) ∈ wG := wgM2 118 rfl rfl
theorem wt_359 : (Jvm.Cond.methodLink "java/util/Arrays" (13 : Nat) ({ cls := "java/util/Arrays", name := "rangeCheck", desc := "(III)V" } : Jvm.MethodName)) ∈ wG := wgM2 119 rfl rfl
theorem wt_360 : (Jvm.Cond.static ({ cls := "java/util/Arrays", name := "rangeCheck", desc := "(III)V" } : Jvm.MethodName)) ∈ wG := wgM2 120 rfl rfl
theorem wt_361 : (Jvm.Cond.code ({ cls := "java/util/Arrays", name := "rangeCheck", desc := "(III)V" } : Jvm.MethodName) prog_11_method_30_code (3 : Nat) (Option.none : Option Jvm.ClassFile.FieldType)) ∈ wG := wgM2 121 rfl rfl
theorem wt_362 : (Jvm.Cond.methodLink "EvenScatter" (256 : Nat) ({ cls := "EvenScatter$Tray", name := "boxOf", desc := "(LEvenScatter$Scatter;I)I" } : Jvm.MethodName)) ∈ wG := wgM2 122 rfl rfl
theorem wt_363 : (Jvm.Cond.instanceMethod ({ cls := "EvenScatter$Tray", name := "boxOf", desc := "(LEvenScatter$Scatter;I)I" } : Jvm.MethodName)) ∈ wG := wgM2 123 rfl rfl
theorem wt_364 : (Jvm.Cond.selects "EvenScatter$Tray" ({ cls := "EvenScatter$Tray", name := "boxOf", desc := "(LEvenScatter$Scatter;I)I" } : Jvm.MethodName) ({ cls := "EvenScatter$Tray", name := "boxOf", desc := "(LEvenScatter$Scatter;I)I" } : Jvm.MethodName)) ∈ wG := wgM2 124 rfl rfl
theorem wt_365 : (Jvm.Cond.code ({ cls := "EvenScatter$Tray", name := "boxOf", desc := "(LEvenScatter$Scatter;I)I" } : Jvm.MethodName) prog_5_method_8_code (6 : Nat) (Option.some Jvm.ClassFile.FieldType.int)) ∈ wG := wgM2 125 rfl rfl
theorem wt_366 : (Jvm.Cond.methodLink "EvenScatterLaw" (92 : Nat) ({ cls := "EvenScatter", name := "why", desc := "(I)I" } : Jvm.MethodName)) ∈ wG := wgM2 126 rfl rfl
theorem wt_367 : (Jvm.Cond.instanceMethod ({ cls := "EvenScatter", name := "why", desc := "(I)I" } : Jvm.MethodName)) ∈ wG := wgM2 127 rfl rfl
theorem wt_368 : (Jvm.Cond.selects "EvenScatter" ({ cls := "EvenScatter", name := "why", desc := "(I)I" } : Jvm.MethodName) ({ cls := "EvenScatter", name := "why", desc := "(I)I" } : Jvm.MethodName)) ∈ wG := wgM2 128 rfl rfl
theorem wt_369 : (Jvm.Cond.code ({ cls := "EvenScatter", name := "why", desc := "(I)I" } : Jvm.MethodName) prog_1_method_20_code (3 : Nat) (Option.some Jvm.ClassFile.FieldType.int)) ∈ wG := wgM2 129 rfl rfl
theorem wt_370 : (Jvm.Cond.methodLink "EvenScatterLaw" (96 : Nat) ({ cls := "EvenScatter", name := "grade", desc := "(I)I" } : Jvm.MethodName)) ∈ wG := wgM2 130 rfl rfl
theorem wt_371 : (Jvm.Cond.instanceMethod ({ cls := "EvenScatter", name := "grade", desc := "(I)I" } : Jvm.MethodName)) ∈ wG := wgM2 131 rfl rfl
theorem wt_372 : (Jvm.Cond.selects "EvenScatter" ({ cls := "EvenScatter", name := "grade", desc := "(I)I" } : Jvm.MethodName) ({ cls := "EvenScatter", name := "grade", desc := "(I)I" } : Jvm.MethodName)) ∈ wG := wgM2 132 rfl rfl
theorem wt_373 : (Jvm.Cond.code ({ cls := "EvenScatter", name := "grade", desc := "(I)I" } : Jvm.MethodName) prog_1_method_21_code (3 : Nat) (Option.some Jvm.ClassFile.FieldType.int)) ∈ wG := wgM2 133 rfl rfl
theorem wt_374 : (Jvm.Cond.methodLink "EvenScatter" (161 : Nat) ({ cls := "EvenScatter$Ranks", name := "gradeOfAll", desc := "(LEvenScatter$Scatter;)I" } : Jvm.MethodName)) ∈ wG := wgM2 134 rfl rfl
theorem wt_375 : (Jvm.Cond.instanceMethod ({ cls := "EvenScatter$Ranks", name := "gradeOfAll", desc := "(LEvenScatter$Scatter;)I" } : Jvm.MethodName)) ∈ wG := wgM2 135 rfl rfl
theorem wt_376 : (Jvm.Cond.selects "EvenScatter$Ranks" ({ cls := "EvenScatter$Ranks", name := "gradeOfAll", desc := "(LEvenScatter$Scatter;)I" } : Jvm.MethodName) ({ cls := "EvenScatter$Ranks", name := "gradeOfAll", desc := "(LEvenScatter$Scatter;)I" } : Jvm.MethodName)) ∈ wG := wgM2 136 rfl rfl
theorem wt_377 : (Jvm.Cond.code ({ cls := "EvenScatter$Ranks", name := "gradeOfAll", desc := "(LEvenScatter$Scatter;)I" } : Jvm.MethodName) prog_3_method_2_code (3 : Nat) (Option.some Jvm.ClassFile.FieldType.int)) ∈ wG := wgM2 137 rfl rfl
theorem wt_378 : (Jvm.Cond.methodLink "EvenScatter$Ranks" (27 : Nat) ({ cls := "EvenScatter$Ranks", name := "gradeOfChosen", desc := "(LEvenScatter$Scatter;)I" } : Jvm.MethodName)) ∈ wG := wgM2 138 rfl rfl
theorem wt_380 : (Jvm.Cond.instanceMethod ({ cls := "EvenScatter$Ranks", name := "gradeOfChosen", desc := "(LEvenScatter$Scatter;)I" } : Jvm.MethodName)) ∈ wG := wgM2 140 rfl rfl
theorem wt_381 : (Jvm.Cond.code ({ cls := "EvenScatter$Ranks", name := "gradeOfChosen", desc := "(LEvenScatter$Scatter;)I" } : Jvm.MethodName) prog_3_method_4_code (2 : Nat) (Option.some Jvm.ClassFile.FieldType.int)) ∈ wG := wgM2 141 rfl rfl
theorem wt_382 : (Jvm.Cond.methodLink "EvenScatter$Ranks" (40 : Nat) ({ cls := "EvenScatter$Ranks", name := "walk", desc := "(LEvenScatter$Scatter;I)V" } : Jvm.MethodName)) ∈ wG := wgM2 142 rfl rfl
theorem wt_384 : (Jvm.Cond.instanceMethod ({ cls := "EvenScatter$Ranks", name := "walk", desc := "(LEvenScatter$Scatter;I)V" } : Jvm.MethodName)) ∈ wG := wgM2 144 rfl rfl
theorem wt_385 : (Jvm.Cond.code ({ cls := "EvenScatter$Ranks", name := "walk", desc := "(LEvenScatter$Scatter;I)V" } : Jvm.MethodName) prog_3_method_5_code (5 : Nat) (Option.none : Option Jvm.ClassFile.FieldType)) ∈ wG := wgM2 145 rfl rfl
theorem wt_386 : (Jvm.Cond.methodLink "EvenScatter$Ranks" (44 : Nat) ({ cls := "EvenScatter$Scatter", name := "rowAt", desc := "(II)I" } : Jvm.MethodName)) ∈ wG := wgM2 146 rfl rfl
theorem wt_387 : (Jvm.Cond.methodLink "EvenScatter$Ranks" (48 : Nat) ({ cls := "EvenScatter$Ranks", name := "keepIfIndependent", desc := "(I)Z" } : Jvm.MethodName)) ∈ wG := wgM2 147 rfl rfl
theorem wt_389 : (Jvm.Cond.instanceMethod ({ cls := "EvenScatter$Ranks", name := "keepIfIndependent", desc := "(I)Z" } : Jvm.MethodName)) ∈ wG := wgM2 149 rfl rfl
theorem wt_390 : (Jvm.Cond.code ({ cls := "EvenScatter$Ranks", name := "keepIfIndependent", desc := "(I)Z" } : Jvm.MethodName) prog_3_method_6_code (4 : Nat) (Option.some Jvm.ClassFile.FieldType.boolean)) ∈ wG := wgM2 150 rfl rfl
theorem wt_391 : (Jvm.Cond.methodLink "EvenScatter$Ranks" (52 : Nat) ({ cls := "java/lang/Math", name := "min", desc := "(II)I" } : Jvm.MethodName)) ∈ wG := wgM2 151 rfl rfl
theorem wt_392 : (Jvm.Cond.methodLink "EvenScatterLaw" (100 : Nat) ({ cls := "EvenScatter", name := "pair", desc := "(III)I" } : Jvm.MethodName)) ∈ wG := wgM2 152 rfl rfl
theorem wt_393 : (Jvm.Cond.instanceMethod ({ cls := "EvenScatter", name := "pair", desc := "(III)I" } : Jvm.MethodName)) ∈ wG := wgM2 153 rfl rfl
theorem wt_394 : (Jvm.Cond.selects "EvenScatter" ({ cls := "EvenScatter", name := "pair", desc := "(III)I" } : Jvm.MethodName) ({ cls := "EvenScatter", name := "pair", desc := "(III)I" } : Jvm.MethodName)) ∈ wG := wgM2 154 rfl rfl
theorem wt_395 : (Jvm.Cond.code ({ cls := "EvenScatter", name := "pair", desc := "(III)I" } : Jvm.MethodName) prog_1_method_22_code (5 : Nat) (Option.some Jvm.ClassFile.FieldType.int)) ∈ wG := wgM2 155 rfl rfl
theorem wt_396 : (Jvm.Cond.methodLink "EvenScatter" (164 : Nat) ({ cls := "EvenScatter$Ranks", name := "gradeOfTwo", desc := "(LEvenScatter$Scatter;II)I" } : Jvm.MethodName)) ∈ wG := wgM2 156 rfl rfl
theorem wt_397 : (Jvm.Cond.instanceMethod ({ cls := "EvenScatter$Ranks", name := "gradeOfTwo", desc := "(LEvenScatter$Scatter;II)I" } : Jvm.MethodName)) ∈ wG := wgM2 157 rfl rfl
theorem wt_398 : (Jvm.Cond.selects "EvenScatter$Ranks" ({ cls := "EvenScatter$Ranks", name := "gradeOfTwo", desc := "(LEvenScatter$Scatter;II)I" } : Jvm.MethodName) ({ cls := "EvenScatter$Ranks", name := "gradeOfTwo", desc := "(LEvenScatter$Scatter;II)I" } : Jvm.MethodName)) ∈ wG := wgM2 158 rfl rfl
theorem wt_399 : (Jvm.Cond.code ({ cls := "EvenScatter$Ranks", name := "gradeOfTwo", desc := "(LEvenScatter$Scatter;II)I" } : Jvm.MethodName) prog_3_method_3_code (4 : Nat) (Option.some Jvm.ClassFile.FieldType.int)) ∈ wG := wgM2 159 rfl rfl
theorem wt_400 : (Jvm.Cond.methodLink "EvenScatterLaw" (104 : Nat) ({ cls := "EvenScatter", name := "gap", desc := "(IZI)J" } : Jvm.MethodName)) ∈ wG := wgM2 160 rfl rfl
theorem wt_401 : (Jvm.Cond.instanceMethod ({ cls := "EvenScatter", name := "gap", desc := "(IZI)J" } : Jvm.MethodName)) ∈ wG := wgM2 161 rfl rfl
theorem wt_402 : (Jvm.Cond.selects "EvenScatter" ({ cls := "EvenScatter", name := "gap", desc := "(IZI)J" } : Jvm.MethodName) ({ cls := "EvenScatter", name := "gap", desc := "(IZI)J" } : Jvm.MethodName)) ∈ wG := wgM2 162 rfl rfl
theorem wt_403 : (Jvm.Cond.code ({ cls := "EvenScatter", name := "gap", desc := "(IZI)J" } : Jvm.MethodName) prog_1_method_23_code (13 : Nat) (Option.some Jvm.ClassFile.FieldType.long)) ∈ wG := wgM2 163 rfl rfl
theorem wt_404 : (Jvm.Cond.methodLink "EvenScatter" (168 : Nat) ({ cls := "EvenScatter", name := "refuseLong", desc := "(I)J" } : Jvm.MethodName)) ∈ wG := wgM2 164 rfl rfl
theorem wt_406 : (Jvm.Cond.instanceMethod ({ cls := "EvenScatter", name := "refuseLong", desc := "(I)J" } : Jvm.MethodName)) ∈ wG := wgM2 166 rfl rfl
theorem wt_407 : (Jvm.Cond.code ({ cls := "EvenScatter", name := "refuseLong", desc := "(I)J" } : Jvm.MethodName) prog_1_method_33_code (2 : Nat) (Option.some Jvm.ClassFile.FieldType.long)) ∈ wG := wgM2 167 rfl rfl
theorem wt_408 : (Jvm.Cond.constantLong "EvenScatter" (248 : Nat) (-1000 : Int64)) ∈ wG := wgM2 168 rfl rfl
theorem wt_409 : (Jvm.Cond.methodLink "EvenScatter" (172 : Nat) ({ cls := "EvenScatter$Tray", name := "highsMayBe", desc := "(LEvenScatter$Scatter;)Z" } : Jvm.MethodName)) ∈ wG := wgM2 169 rfl rfl
theorem wt_410 : (Jvm.Cond.instanceMethod ({ cls := "EvenScatter$Tray", name := "highsMayBe", desc := "(LEvenScatter$Scatter;)Z" } : Jvm.MethodName)) ∈ wG := wgM2 170 rfl rfl
theorem wt_411 : (Jvm.Cond.selects "EvenScatter$Tray" ({ cls := "EvenScatter$Tray", name := "highsMayBe", desc := "(LEvenScatter$Scatter;)Z" } : Jvm.MethodName) ({ cls := "EvenScatter$Tray", name := "highsMayBe", desc := "(LEvenScatter$Scatter;)Z" } : Jvm.MethodName)) ∈ wG := wgM2 171 rfl rfl
theorem wt_412 : (Jvm.Cond.code ({ cls := "EvenScatter$Tray", name := "highsMayBe", desc := "(LEvenScatter$Scatter;)Z" } : Jvm.MethodName) prog_5_method_5_code (3 : Nat) (Option.some Jvm.ClassFile.FieldType.boolean)) ∈ wG := wgM2 172 rfl rfl
theorem wt_413 : (Jvm.Cond.methodLink "EvenScatter" (176 : Nat) ({ cls := "EvenScatter$Tray", name := "cornerHas", desc := "(LEvenScatter$Scatter;IZ)Z" } : Jvm.MethodName)) ∈ wG := wgM2 173 rfl rfl
theorem wt_414 : (Jvm.Cond.instanceMethod ({ cls := "EvenScatter$Tray", name := "cornerHas", desc := "(LEvenScatter$Scatter;IZ)Z" } : Jvm.MethodName)) ∈ wG := wgM2 174 rfl rfl
theorem wt_415 : (Jvm.Cond.selects "EvenScatter$Tray" ({ cls := "EvenScatter$Tray", name := "cornerHas", desc := "(LEvenScatter$Scatter;IZ)Z" } : Jvm.MethodName) ({ cls := "EvenScatter$Tray", name := "cornerHas", desc := "(LEvenScatter$Scatter;IZ)Z" } : Jvm.MethodName)) ∈ wG := wgM2 175 rfl rfl
theorem wt_416 : (Jvm.Cond.code ({ cls := "EvenScatter$Tray", name := "cornerHas", desc := "(LEvenScatter$Scatter;IZ)Z" } : Jvm.MethodName) prog_5_method_3_code (6 : Nat) (Option.some Jvm.ClassFile.FieldType.boolean)) ∈ wG := wgM2 176 rfl rfl
theorem wt_417 : (Jvm.Cond.methodLink "EvenScatter" (180 : Nat) ({ cls := "EvenScatter", name := "powerOf", desc := "(JI)J" } : Jvm.MethodName)) ∈ wG := wgM2 177 rfl rfl
theorem wt_418 : (Jvm.Cond.static ({ cls := "EvenScatter", name := "powerOf", desc := "(JI)J" } : Jvm.MethodName)) ∈ wG := wgM2 178 rfl rfl
theorem wt_419 : (Jvm.Cond.code ({ cls := "EvenScatter", name := "powerOf", desc := "(JI)J" } : Jvm.MethodName) prog_1_method_44_code (6 : Nat) (Option.some Jvm.ClassFile.FieldType.long)) ∈ wG := wgM2 179 rfl rfl
theorem wt_420 : (Jvm.Cond.methodLink "EvenScatter" (184 : Nat) ({ cls := "java/lang/Math", name := "abs", desc := "(J)J" } : Jvm.MethodName)) ∈ wG := wgM2 180 rfl rfl
theorem wt_421 : (Jvm.Cond.static ({ cls := "java/lang/Math", name := "abs", desc := "(J)J" } : Jvm.MethodName)) ∈ wG := wgM2 181 rfl rfl
theorem wt_422 : (Jvm.Cond.code ({ cls := "java/lang/Math", name := "abs", desc := "(J)J" } : Jvm.MethodName) prog_9_method_61_code (2 : Nat) (Option.some Jvm.ClassFile.FieldType.long)) ∈ wG := wgM2 182 rfl rfl
theorem wt_423 : (Jvm.Cond.methodLink "EvenScatter" (190 : Nat) ({ cls := "EvenScatter", name := "fraction", desc := "(JJZ)J" } : Jvm.MethodName)) ∈ wG := wgM2 183 rfl rfl
theorem wt_424 : (Jvm.Cond.static ({ cls := "EvenScatter", name := "fraction", desc := "(JJZ)J" } : Jvm.MethodName)) ∈ wG := wgM2 184 rfl rfl
theorem wt_425 : (Jvm.Cond.code ({ cls := "EvenScatter", name := "fraction", desc := "(JJZ)J" } : Jvm.MethodName) prog_1_method_45_code (9 : Nat) (Option.some Jvm.ClassFile.FieldType.long)) ∈ wG := wgM2 185 rfl rfl
theorem wt_426 : (Jvm.Cond.methodLink "EvenScatter" (268 : Nat) ({ cls := "EvenScatter", name := "commonFactor", desc := "(JJ)J" } : Jvm.MethodName)) ∈ wG := wgM2 186 rfl rfl
theorem wt_427 : (Jvm.Cond.static ({ cls := "EvenScatter", name := "commonFactor", desc := "(JJ)J" } : Jvm.MethodName)) ∈ wG := wgM2 187 rfl rfl
theorem wt_428 : (Jvm.Cond.code ({ cls := "EvenScatter", name := "commonFactor", desc := "(JJ)J" } : Jvm.MethodName) prog_1_method_46_code (11 : Nat) (Option.some Jvm.ClassFile.FieldType.long)) ∈ wG := wgM2 188 rfl rfl
theorem wt_429 : (Jvm.Cond.methodLink "EvenScatterLaw" (109 : Nat) ({ cls := "EvenScatter", name := "worst", desc := "(II)J" } : Jvm.MethodName)) ∈ wG := wgM2 189 rfl rfl
theorem wt_430 : (Jvm.Cond.instanceMethod ({ cls := "EvenScatter", name := "worst", desc := "(II)J" } : Jvm.MethodName)) ∈ wG := wgM2 190 rfl rfl
theorem wt_431 : (Jvm.Cond.selects "EvenScatter" ({ cls := "EvenScatter", name := "worst", desc := "(II)J" } : Jvm.MethodName) ({ cls := "EvenScatter", name := "worst", desc := "(II)J" } : Jvm.MethodName)) ∈ wG := wgM2 191 rfl rfl
theorem wt_432 : (Jvm.Cond.code ({ cls := "EvenScatter", name := "worst", desc := "(II)J" } : Jvm.MethodName) prog_1_method_24_code (6 : Nat) (Option.some Jvm.ClassFile.FieldType.long)) ∈ wG := wgM2 192 rfl rfl
theorem wt_433 : (Jvm.Cond.methodLink "EvenScatter" (194 : Nat) ({ cls := "EvenScatter", name := "mayBeMeasured", desc := "(LEvenScatter$Scatter;)Z" } : Jvm.MethodName)) ∈ wG := wgM2 193 rfl rfl
theorem wt_434 : (Jvm.Cond.static ({ cls := "EvenScatter", name := "mayBeMeasured", desc := "(LEvenScatter$Scatter;)Z" } : Jvm.MethodName)) ∈ wG := wgM2 194 rfl rfl
theorem wt_435 : (Jvm.Cond.code ({ cls := "EvenScatter", name := "mayBeMeasured", desc := "(LEvenScatter$Scatter;)Z" } : Jvm.MethodName) prog_1_method_37_code (1 : Nat) (Option.some Jvm.ClassFile.FieldType.boolean)) ∈ wG := wgM2 195 rfl rfl
theorem wt_436 : (Jvm.Cond.methodLink "EvenScatter" (197 : Nat) ({ cls := "EvenScatter$Corners", name := "search", desc := "(LEvenScatter$Scatter;[I)V" } : Jvm.MethodName)) ∈ wG := wgM2 196 rfl rfl
theorem wt_437 : (Jvm.Cond.instanceMethod ({ cls := "EvenScatter$Corners", name := "search", desc := "(LEvenScatter$Scatter;[I)V" } : Jvm.MethodName)) ∈ wG := wgM2 197 rfl rfl
theorem wt_438 : (Jvm.Cond.selects "EvenScatter$Corners" ({ cls := "EvenScatter$Corners", name := "search", desc := "(LEvenScatter$Scatter;[I)V" } : Jvm.MethodName) ({ cls := "EvenScatter$Corners", name := "search", desc := "(LEvenScatter$Scatter;[I)V" } : Jvm.MethodName)) ∈ wG := wgM2 198 rfl rfl
theorem wt_439 : (Jvm.Cond.code ({ cls := "EvenScatter$Corners", name := "search", desc := "(LEvenScatter$Scatter;[I)V" } : Jvm.MethodName) prog_2_method_2_code (9 : Nat) (Option.none : Option Jvm.ClassFile.FieldType)) ∈ wG := wgM2 199 rfl rfl
theorem wn_440 : (Jvm.Cond.methodLinkNest "EvenScatter$Corners" (33 : Nat) ({ cls := "EvenScatter", name := "powerOf", desc := "(JI)J" } : Jvm.MethodName) "EvenScatter") ∈ lw_tbl := lw_m2 (List.mem_of_getElem? (i := 200) rfl)
theorem wt_441 : (Jvm.Cond.constantLong "EvenScatter$Corners" (42 : Nat) (-9223372036854775808 : Int64)) ∈ wG := wgM2 201 rfl rfl
theorem wt_442 : (Jvm.Cond.methodLink "EvenScatter$Corners" (48 : Nat) ({ cls := "EvenScatter$Corners", name := "noteParts", desc := "(LEvenScatter$Scatter;)V" } : Jvm.MethodName)) ∈ wG := wgM2 202 rfl rfl
theorem wt_444 : (Jvm.Cond.instanceMethod ({ cls := "EvenScatter$Corners", name := "noteParts", desc := "(LEvenScatter$Scatter;)V" } : Jvm.MethodName)) ∈ wG := wgM2 204 rfl rfl
theorem wt_445 : (Jvm.Cond.code ({ cls := "EvenScatter$Corners", name := "noteParts", desc := "(LEvenScatter$Scatter;)V" } : Jvm.MethodName) prog_2_method_4_code (4 : Nat) (Option.none : Option Jvm.ClassFile.FieldType)) ∈ wG := wgM2 205 rfl rfl
theorem wt_446 : (Jvm.Cond.methodLink "EvenScatter$Corners" (86 : Nat) ({ cls := "java/util/Arrays", name := "fill", desc := "([II)V" } : Jvm.MethodName)) ∈ wG := wgM2 206 rfl rfl
theorem wt_447 : (Jvm.Cond.static ({ cls := "java/util/Arrays", name := "fill", desc := "([II)V" } : Jvm.MethodName)) ∈ wG := wgM2 207 rfl rfl
theorem wt_448 : (Jvm.Cond.code ({ cls := "java/util/Arrays", name := "fill", desc := "([II)V" } : Jvm.MethodName) prog_11_method_103_code (4 : Nat) (Option.none : Option Jvm.ClassFile.FieldType)) ∈ wG := wgM2 208 rfl rfl
theorem wt_449 : (Jvm.Cond.methodLink "EvenScatter$Corners" (92 : Nat) ({ cls := "EvenScatter$Scatter", name := "partAt", desc := "(II)I" } : Jvm.MethodName)) ∈ wG := wgM2 209 rfl rfl
theorem wt_450 : (Jvm.Cond.methodLink "EvenScatter$Corners" (52 : Nat) ({ cls := "EvenScatter$Corners", name := "countBelow", desc := "(LEvenScatter$Scatter;[I)V" } : Jvm.MethodName)) ∈ wG := wgM2 210 rfl rfl
theorem wt_452 : (Jvm.Cond.instanceMethod ({ cls := "EvenScatter$Corners", name := "countBelow", desc := "(LEvenScatter$Scatter;[I)V" } : Jvm.MethodName)) ∈ wG := wgM2 212 rfl rfl
theorem wt_453 : (Jvm.Cond.code ({ cls := "EvenScatter$Corners", name := "countBelow", desc := "(LEvenScatter$Scatter;[I)V" } : Jvm.MethodName) prog_2_method_5_code (6 : Nat) (Option.none : Option Jvm.ClassFile.FieldType)) ∈ wG := wgM2 213 rfl rfl
theorem wt_454 : (Jvm.Cond.methodLink "EvenScatter$Corners" (96 : Nat) ({ cls := "java/util/Arrays", name := "fill", desc := "([IIII)V" } : Jvm.MethodName)) ∈ wG := wgM2 214 rfl rfl
theorem wt_455 : (Jvm.Cond.methodLink "EvenScatter$Corners" (56 : Nat) ({ cls := "EvenScatter$Corners", name := "diagonalOf", desc := "(LEvenScatter$Scatter;)I" } : Jvm.MethodName)) ∈ wG := wgM2 215 rfl rfl
theorem wt_457 : (Jvm.Cond.instanceMethod ({ cls := "EvenScatter$Corners", name := "diagonalOf", desc := "(LEvenScatter$Scatter;)I" } : Jvm.MethodName)) ∈ wG := wgM2 217 rfl rfl
theorem wt_458 : (Jvm.Cond.code ({ cls := "EvenScatter$Corners", name := "diagonalOf", desc := "(LEvenScatter$Scatter;)I" } : Jvm.MethodName) prog_2_method_6_code (4 : Nat) (Option.some Jvm.ClassFile.FieldType.int)) ∈ wG := wgM2 218 rfl rfl
theorem wt_459 : (Jvm.Cond.methodLink "EvenScatter$Corners" (60 : Nat) ({ cls := "EvenScatter$Corners", name := "setHighs", desc := "(LEvenScatter$Scatter;I)V" } : Jvm.MethodName)) ∈ wG := wgM2 219 rfl rfl
theorem wt_461 : (Jvm.Cond.instanceMethod ({ cls := "EvenScatter$Corners", name := "setHighs", desc := "(LEvenScatter$Scatter;I)V" } : Jvm.MethodName)) ∈ wG := wgM2 221 rfl rfl
theorem wt_462 : (Jvm.Cond.code ({ cls := "EvenScatter$Corners", name := "setHighs", desc := "(LEvenScatter$Scatter;I)V" } : Jvm.MethodName) prog_2_method_7_code (5 : Nat) (Option.none : Option Jvm.ClassFile.FieldType)) ∈ wG := wgM2 222 rfl rfl
theorem wt_463 : (Jvm.Cond.methodLink "EvenScatter$Corners" (64 : Nat) ({ cls := "EvenScatter$Corners", name := "cornerMayBe", desc := "(LEvenScatter$Scatter;Z)Z" } : Jvm.MethodName)) ∈ wG := wgM2 223 rfl rfl
theorem wt_465 : (Jvm.Cond.instanceMethod ({ cls := "EvenScatter$Corners", name := "cornerMayBe", desc := "(LEvenScatter$Scatter;Z)Z" } : Jvm.MethodName)) ∈ wG := wgM2 225 rfl rfl
theorem wt_466 : (Jvm.Cond.code ({ cls := "EvenScatter$Corners", name := "cornerMayBe", desc := "(LEvenScatter$Scatter;Z)Z" } : Jvm.MethodName) prog_2_method_8_code (5 : Nat) (Option.some Jvm.ClassFile.FieldType.boolean)) ∈ wG := wgM2 226 rfl rfl
theorem wt_467 : (Jvm.Cond.methodLink "EvenScatter$Corners" (68 : Nat) ({ cls := "EvenScatter$Corners", name := "sizeOf", desc := "(LEvenScatter$Scatter;)J" } : Jvm.MethodName)) ∈ wG := wgM2 227 rfl rfl
theorem wt_469 : (Jvm.Cond.instanceMethod ({ cls := "EvenScatter$Corners", name := "sizeOf", desc := "(LEvenScatter$Scatter;)J" } : Jvm.MethodName)) ∈ wG := wgM2 229 rfl rfl
theorem wt_470 : (Jvm.Cond.code ({ cls := "EvenScatter$Corners", name := "sizeOf", desc := "(LEvenScatter$Scatter;)J" } : Jvm.MethodName) prog_2_method_9_code (5 : Nat) (Option.some Jvm.ClassFile.FieldType.long)) ∈ wG := wgM2 230 rfl rfl
theorem wt_471 : (Jvm.Cond.methodLink "EvenScatter$Corners" (72 : Nat) ({ cls := "EvenScatter$Corners", name := "consider", desc := "(LEvenScatter$Scatter;JZ)V" } : Jvm.MethodName)) ∈ wG := wgM2 231 rfl rfl
theorem wt_473 : (Jvm.Cond.instanceMethod ({ cls := "EvenScatter$Corners", name := "consider", desc := "(LEvenScatter$Scatter;JZ)V" } : Jvm.MethodName)) ∈ wG := wgM2 233 rfl rfl
theorem wt_474 : (Jvm.Cond.code ({ cls := "EvenScatter$Corners", name := "consider", desc := "(LEvenScatter$Scatter;JZ)V" } : Jvm.MethodName) prog_2_method_3_code (5 : Nat) (Option.none : Option Jvm.ClassFile.FieldType)) ∈ wG := wgM2 234 rfl rfl
theorem wt_475 : (Jvm.Cond.methodLink "EvenScatter$Corners" (80 : Nat) ({ cls := "java/lang/System", name := "arraycopy", desc := "(Ljava/lang/Object;ILjava/lang/Object;II)V" } : Jvm.MethodName)) ∈ wG := wgM2 235 rfl rfl
theorem wt_476 : (Jvm.Cond.methodLink "EvenScatterLaw" (114 : Nat) ({ cls := "EvenScatter", name := "square", desc := "(II)J" } : Jvm.MethodName)) ∈ wG := wgM2 236 rfl rfl
theorem wt_477 : (Jvm.Cond.instanceMethod ({ cls := "EvenScatter", name := "square", desc := "(II)J" } : Jvm.MethodName)) ∈ wG := wgM2 237 rfl rfl
theorem wt_478 : (Jvm.Cond.selects "EvenScatter" ({ cls := "EvenScatter", name := "square", desc := "(II)J" } : Jvm.MethodName) ({ cls := "EvenScatter", name := "square", desc := "(II)J" } : Jvm.MethodName)) ∈ wG := wgM2 238 rfl rfl
theorem wt_479 : (Jvm.Cond.code ({ cls := "EvenScatter", name := "square", desc := "(II)J" } : Jvm.MethodName) prog_1_method_25_code (15 : Nat) (Option.some Jvm.ClassFile.FieldType.long)) ∈ wG := wgM2 239 rfl rfl
theorem wt_480 : (Jvm.Cond.constantLong "EvenScatter" (212 : Nat) (3 : Int64)) ∈ wG := wgM3 0 rfl rfl
theorem wt_481 : (Jvm.Cond.constantLong "EvenScatter" (214 : Nat) (2 : Int64)) ∈ wG := wgM3 1 rfl rfl
theorem wt_482 : (Jvm.Cond.methodLink "EvenScatter" (216 : Nat) ({ cls := "EvenScatter", name := "pairSum", desc := "(LEvenScatter$Scatter;)J" } : Jvm.MethodName)) ∈ wG := wgM3 2 rfl rfl
theorem wt_483 : (Jvm.Cond.static ({ cls := "EvenScatter", name := "pairSum", desc := "(LEvenScatter$Scatter;)J" } : Jvm.MethodName)) ∈ wG := wgM3 3 rfl rfl
theorem wt_484 : (Jvm.Cond.code ({ cls := "EvenScatter", name := "pairSum", desc := "(LEvenScatter$Scatter;)J" } : Jvm.MethodName) prog_1_method_39_code (8 : Nat) (Option.some Jvm.ClassFile.FieldType.long)) ∈ wG := wgM3 4 rfl rfl
theorem wt_485 : (Jvm.Cond.methodLink "EvenScatter" (259 : Nat) ({ cls := "java/lang/Math", name := "max", desc := "(II)I" } : Jvm.MethodName)) ∈ wG := wgM3 5 rfl rfl
theorem wt_486 : (Jvm.Cond.methodLink "EvenScatter" (220 : Nat) ({ cls := "EvenScatter", name := "pointSum", desc := "(LEvenScatter$Scatter;)J" } : Jvm.MethodName)) ∈ wG := wgM3 6 rfl rfl
theorem wt_487 : (Jvm.Cond.static ({ cls := "EvenScatter", name := "pointSum", desc := "(LEvenScatter$Scatter;)J" } : Jvm.MethodName)) ∈ wG := wgM3 7 rfl rfl
theorem wt_488 : (Jvm.Cond.code ({ cls := "EvenScatter", name := "pointSum", desc := "(LEvenScatter$Scatter;)J" } : Jvm.MethodName) prog_1_method_38_code (11 : Nat) (Option.some Jvm.ClassFile.FieldType.long)) ∈ wG := wgM3 8 rfl rfl
theorem wt_489 : (Jvm.Cond.methodLink "EvenScatterLaw" (118 : Nat) ({ cls := "EvenScatter", name := "wave", desc := "(I)J" } : Jvm.MethodName)) ∈ wG := wgM3 9 rfl rfl
theorem wt_490 : (Jvm.Cond.instanceMethod ({ cls := "EvenScatter", name := "wave", desc := "(I)J" } : Jvm.MethodName)) ∈ wG := wgM3 10 rfl rfl
theorem wt_491 : (Jvm.Cond.selects "EvenScatter" ({ cls := "EvenScatter", name := "wave", desc := "(I)J" } : Jvm.MethodName) ({ cls := "EvenScatter", name := "wave", desc := "(I)J" } : Jvm.MethodName)) ∈ wG := wgM3 11 rfl rfl
theorem wt_492 : (Jvm.Cond.code ({ cls := "EvenScatter", name := "wave", desc := "(I)J" } : Jvm.MethodName) prog_1_method_26_code (6 : Nat) (Option.some Jvm.ClassFile.FieldType.long)) ∈ wG := wgM3 12 rfl rfl
theorem wt_493 : (Jvm.Cond.methodLink "EvenScatter" (226 : Nat) ({ cls := "EvenScatter$Tray", name := "signOf", desc := "(LEvenScatter$Scatter;I)I" } : Jvm.MethodName)) ∈ wG := wgM3 13 rfl rfl
theorem wt_494 : (Jvm.Cond.instanceMethod ({ cls := "EvenScatter$Tray", name := "signOf", desc := "(LEvenScatter$Scatter;I)I" } : Jvm.MethodName)) ∈ wG := wgM3 14 rfl rfl
theorem wt_495 : (Jvm.Cond.selects "EvenScatter$Tray" ({ cls := "EvenScatter$Tray", name := "signOf", desc := "(LEvenScatter$Scatter;I)I" } : Jvm.MethodName) ({ cls := "EvenScatter$Tray", name := "signOf", desc := "(LEvenScatter$Scatter;I)I" } : Jvm.MethodName)) ∈ wG := wgM3 15 rfl rfl
theorem wt_496 : (Jvm.Cond.code ({ cls := "EvenScatter$Tray", name := "signOf", desc := "(LEvenScatter$Scatter;I)I" } : Jvm.MethodName) prog_5_method_9_code (5 : Nat) (Option.some Jvm.ClassFile.FieldType.int)) ∈ wG := wgM3 16 rfl rfl
theorem wt_497 : (Jvm.Cond.methodLink "EvenScatter$Tray" (37 : Nat) ({ cls := "java/lang/Integer", name := "bitCount", desc := "(I)I" } : Jvm.MethodName)) ∈ wG := wgM3 17 rfl rfl
theorem wt_498 : (Jvm.Cond.static ({ cls := "java/lang/Integer", name := "bitCount", desc := "(I)I" } : Jvm.MethodName)) ∈ wG := wgM3 18 rfl rfl
theorem wt_499 : (Jvm.Cond.code ({ cls := "java/lang/Integer", name := "bitCount", desc := "(I)I" } : Jvm.MethodName) prog_8_method_49_code (1 : Nat) (Option.some Jvm.ClassFile.FieldType.int)) ∈ wG := wgM3 19 rfl rfl
theorem wt_500 : (Jvm.Cond.constant "java/lang/Integer" (265 : Nat) (1431655765 : Int32)) ∈ wG := wgM3 20 rfl rfl
theorem wt_501 : (Jvm.Cond.constant "java/lang/Integer" (266 : Nat) (858993459 : Int32)) ∈ wG := wgM3 21 rfl rfl
theorem wt_502 : (Jvm.Cond.constant "java/lang/Integer" (267 : Nat) (252645135 : Int32)) ∈ wG := wgM3 22 rfl rfl
theorem wt_503 : (Jvm.Cond.methodLink "EvenScatterLaw" (123 : Nat) ({ cls := "EvenScatter", name := "waves", desc := "(III)J" } : Jvm.MethodName)) ∈ wG := wgM3 23 rfl rfl
theorem wt_504 : (Jvm.Cond.instanceMethod ({ cls := "EvenScatter", name := "waves", desc := "(III)J" } : Jvm.MethodName)) ∈ wG := wgM3 24 rfl rfl
theorem wt_505 : (Jvm.Cond.selects "EvenScatter" ({ cls := "EvenScatter", name := "waves", desc := "(III)J" } : Jvm.MethodName) ({ cls := "EvenScatter", name := "waves", desc := "(III)J" } : Jvm.MethodName)) ∈ wG := wgM3 25 rfl rfl
theorem wt_506 : (Jvm.Cond.code ({ cls := "EvenScatter", name := "waves", desc := "(III)J" } : Jvm.MethodName) prog_1_method_27_code (9 : Nat) (Option.some Jvm.ClassFile.FieldType.long)) ∈ wG := wgM3 26 rfl rfl
theorem wt_507 : (Jvm.Cond.methodLink "EvenScatter" (230 : Nat) ({ cls := "EvenScatter", name := "fillWaves", desc := "(LEvenScatter$Scatter;I)V" } : Jvm.MethodName)) ∈ wG := wgM3 27 rfl rfl
theorem wt_509 : (Jvm.Cond.instanceMethod ({ cls := "EvenScatter", name := "fillWaves", desc := "(LEvenScatter$Scatter;I)V" } : Jvm.MethodName)) ∈ wG := wgM3 29 rfl rfl
theorem wt_510 : (Jvm.Cond.code ({ cls := "EvenScatter", name := "fillWaves", desc := "(LEvenScatter$Scatter;I)V" } : Jvm.MethodName) prog_1_method_40_code (9 : Nat) (Option.none : Option Jvm.ClassFile.FieldType)) ∈ wG := wgM3 30 rfl rfl
theorem wt_511 : (Jvm.Cond.methodLink "EvenScatter" (234 : Nat) ({ cls := "java/lang/Integer", name := "bitCount", desc := "(I)I" } : Jvm.MethodName)) ∈ wG := wgM3 31 rfl rfl
theorem wt_512 : (Jvm.Cond.constantLong "EvenScatter" (239 : Nat) (-9 : Int64)) ∈ wG := wgM3 32 rfl rfl
theorem wt_513 : (Jvm.Cond.methodLink "EvenScatterLaw" (128 : Nat) ({ cls := "EvenScatter", name := "sum", desc := "(II)J" } : Jvm.MethodName)) ∈ wG := wgM3 33 rfl rfl
theorem wt_514 : (Jvm.Cond.instanceMethod ({ cls := "EvenScatter", name := "sum", desc := "(II)J" } : Jvm.MethodName)) ∈ wG := wgM3 34 rfl rfl
theorem wt_515 : (Jvm.Cond.selects "EvenScatter" ({ cls := "EvenScatter", name := "sum", desc := "(II)J" } : Jvm.MethodName) ({ cls := "EvenScatter", name := "sum", desc := "(II)J" } : Jvm.MethodName)) ∈ wG := wgM3 35 rfl rfl
theorem wt_516 : (Jvm.Cond.code ({ cls := "EvenScatter", name := "sum", desc := "(II)J" } : Jvm.MethodName) prog_1_method_28_code (10 : Nat) (Option.some Jvm.ClassFile.FieldType.long)) ∈ wG := wgM3 36 rfl rfl
theorem wt_517 : (Jvm.Cond.methodLink "EvenScatter" (244 : Nat) ({ cls := "EvenScatter$Tray", name := "productOfPowers", desc := "(LEvenScatter$Scatter;I)J" } : Jvm.MethodName)) ∈ wG := wgM3 37 rfl rfl
theorem wt_518 : (Jvm.Cond.instanceMethod ({ cls := "EvenScatter$Tray", name := "productOfPowers", desc := "(LEvenScatter$Scatter;I)J" } : Jvm.MethodName)) ∈ wG := wgM3 38 rfl rfl
theorem wt_519 : (Jvm.Cond.selects "EvenScatter$Tray" ({ cls := "EvenScatter$Tray", name := "productOfPowers", desc := "(LEvenScatter$Scatter;I)J" } : Jvm.MethodName) ({ cls := "EvenScatter$Tray", name := "productOfPowers", desc := "(LEvenScatter$Scatter;I)J" } : Jvm.MethodName)) ∈ wG := wgM3 39 rfl rfl
theorem wt_520 : (Jvm.Cond.code ({ cls := "EvenScatter$Tray", name := "productOfPowers", desc := "(LEvenScatter$Scatter;I)J" } : Jvm.MethodName) prog_5_method_10_code (6 : Nat) (Option.some Jvm.ClassFile.FieldType.long)) ∈ wG := wgM3 40 rfl rfl
theorem wn_521 : (Jvm.Cond.methodLinkNest "EvenScatter$Tray" (43 : Nat) ({ cls := "EvenScatter", name := "powerOf", desc := "(JI)J" } : Jvm.MethodName) "EvenScatter") ∈ lw_tbl := lw_m3 (List.mem_of_getElem? (i := 41) rfl)
theorem wt_522 : (Jvm.Cond.methodLink "EvenScatterLaw" (132 : Nat) ({ cls := "EvenScatter", name := "status", desc := "(I)I" } : Jvm.MethodName)) ∈ wG := wgM3 42 rfl rfl
theorem wt_523 : (Jvm.Cond.instanceMethod ({ cls := "EvenScatter", name := "status", desc := "(I)I" } : Jvm.MethodName)) ∈ wG := wgM3 43 rfl rfl
theorem wt_524 : (Jvm.Cond.selects "EvenScatter" ({ cls := "EvenScatter", name := "status", desc := "(I)I" } : Jvm.MethodName) ({ cls := "EvenScatter", name := "status", desc := "(I)I" } : Jvm.MethodName)) ∈ wG := wgM3 44 rfl rfl
theorem wt_525 : (Jvm.Cond.code ({ cls := "EvenScatter", name := "status", desc := "(I)I" } : Jvm.MethodName) prog_1_method_29_code (2 : Nat) (Option.some Jvm.ClassFile.FieldType.int)) ∈ wG := wgM3 45 rfl rfl
theorem wt_526 : (Jvm.Cond.classLink "EvenScatterLaw" (10 : Nat) "EvenScatterModel") ∈ wG := wgM3 46 rfl rfl
theorem wt_527 : (Jvm.Cond.instantiable "EvenScatterModel" (21 : Nat)) ∈ wG := wgM3 47 rfl rfl
theorem wt_528 : (Jvm.Cond.methodLink "EvenScatterLaw" (12 : Nat) ({ cls := "EvenScatterModel", name := "<init>", desc := "()V" } : Jvm.MethodName)) ∈ wG := wgM3 48 rfl rfl
theorem wt_529 : (Jvm.Cond.instanceMethod ({ cls := "EvenScatterModel", name := "<init>", desc := "()V" } : Jvm.MethodName)) ∈ wG := wgM3 49 rfl rfl
theorem wt_530 : (Jvm.Cond.code ({ cls := "EvenScatterModel", name := "<init>", desc := "()V" } : Jvm.MethodName) prog_7_method_1_code (1 : Nat) (Option.none : Option Jvm.ClassFile.FieldType)) ∈ wG := wgM3 50 rfl rfl
theorem wt_531 : (Jvm.Cond.methodLink "EvenScatterModel" (1 : Nat) ({ cls := "java/lang/Object", name := "<init>", desc := "()V" } : Jvm.MethodName)) ∈ wG := wgM3 51 rfl rfl
theorem wt_532 : (Jvm.Cond.constant "EvenScatterModel" (53 : Nat) (65536 : Int32)) ∈ wG := wgM3 52 rfl rfl
theorem wt_533 : (Jvm.Cond.fieldLink "EvenScatterModel" (72 : Nat) "EvenScatterModel" "many" "I") ∈ wG := wgM3 53 rfl rfl
theorem wt_534 : (Jvm.Cond.fieldLink "EvenScatterModel" (7 : Nat) "EvenScatterModel" "kind" "[I") ∈ wG := wgM3 54 rfl rfl
theorem wt_535 : (Jvm.Cond.fieldLink "EvenScatterModel" (13 : Nat) "EvenScatterModel" "dims" "[I") ∈ wG := wgM3 55 rfl rfl
theorem wt_536 : (Jvm.Cond.fieldLink "EvenScatterModel" (16 : Nat) "EvenScatterModel" "power" "[I") ∈ wG := wgM3 56 rfl rfl
theorem wt_537 : (Jvm.Cond.fieldLink "EvenScatterModel" (19 : Nat) "EvenScatterModel" "count" "[I") ∈ wG := wgM3 57 rfl rfl
theorem wt_538 : (Jvm.Cond.fieldLink "EvenScatterModel" (22 : Nat) "EvenScatterModel" "turn" "[I") ∈ wG := wgM3 58 rfl rfl
theorem wt_539 : (Jvm.Cond.fieldLink "EvenScatterModel" (25 : Nat) "EvenScatterModel" "rows" "[I") ∈ wG := wgM3 59 rfl rfl
theorem wt_540 : (Jvm.Cond.fieldLink "EvenScatterModel" (28 : Nat) "EvenScatterModel" "masks" "[I") ∈ wG := wgM3 60 rfl rfl
theorem wt_541 : (Jvm.Cond.fieldLink "EvenScatterModel" (31 : Nat) "EvenScatterModel" "steps" "[I") ∈ wG := wgM3 61 rfl rfl
theorem wt_542 : (Jvm.Cond.fieldLink "EvenScatterModel" (34 : Nat) "EvenScatterModel" "lots" "[I") ∈ wG := wgM3 62 rfl rfl
theorem wt_543 : (Jvm.Cond.fieldLink "EvenScatterModel" (37 : Nat) "EvenScatterModel" "low" "[I") ∈ wG := wgM3 63 rfl rfl
theorem wt_544 : (Jvm.Cond.fieldLink "EvenScatterModel" (40 : Nat) "EvenScatterModel" "high" "[I") ∈ wG := wgM3 64 rfl rfl
theorem wt_545 : (Jvm.Cond.fieldLink "EvenScatterModel" (43 : Nat) "EvenScatterModel" "marks" "[I") ∈ wG := wgM3 65 rfl rfl
theorem wt_546 : (Jvm.Cond.fieldLink "EvenScatterModel" (114 : Nat) "EvenScatterModel" "told" "I") ∈ wG := wgM3 66 rfl rfl
theorem wt_547 : (Jvm.Cond.fieldLink "EvenScatterModel" (46 : Nat) "EvenScatterModel" "refused" "[I") ∈ wG := wgM3 67 rfl rfl
theorem wt_548 : (Jvm.Cond.fieldLink "EvenScatterModel" (49 : Nat) "EvenScatterModel" "numbers" "[J") ∈ wG := wgM3 68 rfl rfl
theorem wt_549 : (Jvm.Cond.fieldLink "EvenScatterModel" (54 : Nat) "EvenScatterModel" "boxes" "[I") ∈ wG := wgM3 69 rfl rfl
theorem wt_550 : (Jvm.Cond.fieldLink "EvenScatterModel" (57 : Nat) "EvenScatterModel" "cuts" "[I") ∈ wG := wgM3 70 rfl rfl
theorem wt_551 : (Jvm.Cond.fieldLink "EvenScatterModel" (60 : Nat) "EvenScatterModel" "freely" "[I") ∈ wG := wgM3 71 rfl rfl
theorem wt_552 : (Jvm.Cond.fieldLink "EvenScatterModel" (63 : Nat) "EvenScatterModel" "corner" "[I") ∈ wG := wgM3 72 rfl rfl
theorem wt_553 : (Jvm.Cond.fieldLink "EvenScatterModel" (66 : Nat) "EvenScatterModel" "isPart" "[Z") ∈ wG := wgM3 73 rfl rfl
theorem wt_597 : (Jvm.Cond.arrayClass Jvm.ClassFile.FieldType.long) ∈ wG := wgM3 117 rfl rfl
theorem wt_598 : (Jvm.Cond.arrayClass Jvm.ClassFile.FieldType.boolean) ∈ wG := wgM3 118 rfl rfl
theorem wt_599 : (Jvm.Cond.methodLink "EvenScatterLaw" (17 : Nat) ({ cls := "EvenScatterModel", name := "table", desc := "(II)I" } : Jvm.MethodName)) ∈ wG := wgM3 119 rfl rfl
theorem wt_600 : (Jvm.Cond.instanceMethod ({ cls := "EvenScatterModel", name := "table", desc := "(II)I" } : Jvm.MethodName)) ∈ wG := wgM3 120 rfl rfl
theorem wt_601 : (Jvm.Cond.selects "EvenScatterModel" ({ cls := "EvenScatterModel", name := "table", desc := "(II)I" } : Jvm.MethodName) ({ cls := "EvenScatterModel", name := "table", desc := "(II)I" } : Jvm.MethodName)) ∈ wG := wgM3 121 rfl rfl
theorem wt_602 : (Jvm.Cond.code ({ cls := "EvenScatterModel", name := "table", desc := "(II)I" } : Jvm.MethodName) prog_7_method_10_code (4 : Nat) (Option.some Jvm.ClassFile.FieldType.int)) ∈ wG := wgM3 122 rfl rfl
theorem wt_603 : (Jvm.Cond.methodLink "EvenScatterModel" (84 : Nat) ({ cls := "EvenScatterModel", name := "lacks", desc := "(II)I" } : Jvm.MethodName)) ∈ wG := wgM3 123 rfl rfl
theorem wt_604 : (Jvm.Cond.static ({ cls := "EvenScatterModel", name := "lacks", desc := "(II)I" } : Jvm.MethodName)) ∈ wG := wgM3 124 rfl rfl
theorem wt_605 : (Jvm.Cond.code ({ cls := "EvenScatterModel", name := "lacks", desc := "(II)I" } : Jvm.MethodName) prog_7_method_9_code (2 : Nat) (Option.some Jvm.ClassFile.FieldType.int)) ∈ wG := wgM3 125 rfl rfl
theorem wt_606 : (Jvm.Cond.methodLink "EvenScatterModel" (88 : Nat) ({ cls := "EvenScatterModel", name := "refuse", desc := "(I)I" } : Jvm.MethodName)) ∈ wG := wgM3 126 rfl rfl
theorem wt_608 : (Jvm.Cond.instanceMethod ({ cls := "EvenScatterModel", name := "refuse", desc := "(I)I" } : Jvm.MethodName)) ∈ wG := wgM3 128 rfl rfl
theorem wt_609 : (Jvm.Cond.code ({ cls := "EvenScatterModel", name := "refuse", desc := "(I)I" } : Jvm.MethodName) prog_7_method_4_code (2 : Nat) (Option.some Jvm.ClassFile.FieldType.int)) ∈ wG := wgM3 129 rfl rfl
theorem wt_610 : (Jvm.Cond.methodLink "EvenScatterModel" (92 : Nat) ({ cls := "EvenScatterModel", name := "make", desc := "(IIII)I" } : Jvm.MethodName)) ∈ wG := wgM3 130 rfl rfl
theorem wt_612 : (Jvm.Cond.instanceMethod ({ cls := "EvenScatterModel", name := "make", desc := "(IIII)I" } : Jvm.MethodName)) ∈ wG := wgM3 132 rfl rfl
theorem wt_613 : (Jvm.Cond.code ({ cls := "EvenScatterModel", name := "make", desc := "(IIII)I" } : Jvm.MethodName) prog_7_method_8_code (6 : Nat) (Option.some Jvm.ClassFile.FieldType.int)) ∈ wG := wgM3 133 rfl rfl
theorem wt_614 : (Jvm.Cond.methodLink "EvenScatterLaw" (22 : Nat) ({ cls := "EvenScatterModel", name := "row", desc := "(IIII)I" } : Jvm.MethodName)) ∈ wG := wgM3 134 rfl rfl
theorem wt_615 : (Jvm.Cond.instanceMethod ({ cls := "EvenScatterModel", name := "row", desc := "(IIII)I" } : Jvm.MethodName)) ∈ wG := wgM3 135 rfl rfl
theorem wt_616 : (Jvm.Cond.selects "EvenScatterModel" ({ cls := "EvenScatterModel", name := "row", desc := "(IIII)I" } : Jvm.MethodName) ({ cls := "EvenScatterModel", name := "row", desc := "(IIII)I" } : Jvm.MethodName)) ∈ wG := wgM3 136 rfl rfl
theorem wt_617 : (Jvm.Cond.code ({ cls := "EvenScatterModel", name := "row", desc := "(IIII)I" } : Jvm.MethodName) prog_7_method_11_code (7 : Nat) (Option.some Jvm.ClassFile.FieldType.int)) ∈ wG := wgM3 137 rfl rfl
theorem wt_618 : (Jvm.Cond.methodLink "EvenScatterModel" (96 : Nat) ({ cls := "EvenScatterModel", name := "hasDirection", desc := "(II)Z" } : Jvm.MethodName)) ∈ wG := wgM3 138 rfl rfl
theorem wt_620 : (Jvm.Cond.instanceMethod ({ cls := "EvenScatterModel", name := "hasDirection", desc := "(II)Z" } : Jvm.MethodName)) ∈ wG := wgM3 140 rfl rfl
theorem wt_621 : (Jvm.Cond.code ({ cls := "EvenScatterModel", name := "hasDirection", desc := "(II)Z" } : Jvm.MethodName) prog_7_method_7_code (3 : Nat) (Option.some Jvm.ClassFile.FieldType.boolean)) ∈ wG := wgM3 141 rfl rfl
theorem wt_622 : (Jvm.Cond.methodLink "EvenScatterModel" (80 : Nat) ({ cls := "EvenScatterModel", name := "isScatter", desc := "(I)Z" } : Jvm.MethodName)) ∈ wG := wgM3 142 rfl rfl
theorem wt_624 : (Jvm.Cond.instanceMethod ({ cls := "EvenScatterModel", name := "isScatter", desc := "(I)Z" } : Jvm.MethodName)) ∈ wG := wgM3 144 rfl rfl
theorem wt_625 : (Jvm.Cond.code ({ cls := "EvenScatterModel", name := "isScatter", desc := "(I)Z" } : Jvm.MethodName) prog_7_method_6_code (2 : Nat) (Option.some Jvm.ClassFile.FieldType.boolean)) ∈ wG := wgM3 145 rfl rfl
theorem wt_626 : (Jvm.Cond.methodLink "EvenScatterModel" (76 : Nat) ({ cls := "EvenScatterModel", name := "in", desc := "(JJJ)Z" } : Jvm.MethodName)) ∈ wG := wgM3 146 rfl rfl
theorem wt_627 : (Jvm.Cond.static ({ cls := "EvenScatterModel", name := "in", desc := "(JJJ)Z" } : Jvm.MethodName)) ∈ wG := wgM3 147 rfl rfl
theorem wt_628 : (Jvm.Cond.code ({ cls := "EvenScatterModel", name := "in", desc := "(JJJ)Z" } : Jvm.MethodName) prog_7_method_3_code (6 : Nat) (Option.some Jvm.ClassFile.FieldType.boolean)) ∈ wG := wgM3 148 rfl rfl
theorem wt_629 : (Jvm.Cond.methodLink "EvenScatterLaw" (27 : Nat) ({ cls := "EvenScatterModel", name := "ladder", desc := "(I)I" } : Jvm.MethodName)) ∈ wG := wgM3 149 rfl rfl
theorem wt_630 : (Jvm.Cond.instanceMethod ({ cls := "EvenScatterModel", name := "ladder", desc := "(I)I" } : Jvm.MethodName)) ∈ wG := wgM3 150 rfl rfl
theorem wt_631 : (Jvm.Cond.selects "EvenScatterModel" ({ cls := "EvenScatterModel", name := "ladder", desc := "(I)I" } : Jvm.MethodName) ({ cls := "EvenScatterModel", name := "ladder", desc := "(I)I" } : Jvm.MethodName)) ∈ wG := wgM3 151 rfl rfl
theorem wt_632 : (Jvm.Cond.code ({ cls := "EvenScatterModel", name := "ladder", desc := "(I)I" } : Jvm.MethodName) prog_7_method_12_code (5 : Nat) (Option.some Jvm.ClassFile.FieldType.int)) ∈ wG := wgM3 152 rfl rfl
theorem wt_633 : (Jvm.Cond.methodLink "EvenScatterLaw" (34 : Nat) ({ cls := "EvenScatterModel", name := "direction", desc := "(IIJ)I" } : Jvm.MethodName)) ∈ wG := wgM3 153 rfl rfl
theorem wt_634 : (Jvm.Cond.instanceMethod ({ cls := "EvenScatterModel", name := "direction", desc := "(IIJ)I" } : Jvm.MethodName)) ∈ wG := wgM3 154 rfl rfl
theorem wt_635 : (Jvm.Cond.selects "EvenScatterModel" ({ cls := "EvenScatterModel", name := "direction", desc := "(IIJ)I" } : Jvm.MethodName) ({ cls := "EvenScatterModel", name := "direction", desc := "(IIJ)I" } : Jvm.MethodName)) ∈ wG := wgM3 155 rfl rfl
theorem wt_636 : (Jvm.Cond.code ({ cls := "EvenScatterModel", name := "direction", desc := "(IIJ)I" } : Jvm.MethodName) prog_7_method_13_code (11 : Nat) (Option.some Jvm.ClassFile.FieldType.int)) ∈ wG := wgM3 156 rfl rfl
theorem wt_637 : (Jvm.Cond.constantLong "EvenScatterModel" (100 : Nat) (255 : Int64)) ∈ wG := wgM3 157 rfl rfl
theorem wt_638 : (Jvm.Cond.methodLink "EvenScatterLaw" (38 : Nat) ({ cls := "EvenScatterModel", name := "turned", desc := "(I)I" } : Jvm.MethodName)) ∈ wG := wgM3 158 rfl rfl
theorem wt_639 : (Jvm.Cond.instanceMethod ({ cls := "EvenScatterModel", name := "turned", desc := "(I)I" } : Jvm.MethodName)) ∈ wG := wgM3 159 rfl rfl
theorem wt_640 : (Jvm.Cond.selects "EvenScatterModel" ({ cls := "EvenScatterModel", name := "turned", desc := "(I)I" } : Jvm.MethodName) ({ cls := "EvenScatterModel", name := "turned", desc := "(I)I" } : Jvm.MethodName)) ∈ wG := wgM3 160 rfl rfl
theorem wt_641 : (Jvm.Cond.code ({ cls := "EvenScatterModel", name := "turned", desc := "(I)I" } : Jvm.MethodName) prog_7_method_14_code (4 : Nat) (Option.some Jvm.ClassFile.FieldType.int)) ∈ wG := wgM3 161 rfl rfl
theorem wt_642 : (Jvm.Cond.methodLink "EvenScatterLaw" (43 : Nat) ({ cls := "EvenScatterModel", name := "mask", desc := "(III)I" } : Jvm.MethodName)) ∈ wG := wgM3 162 rfl rfl
theorem wt_643 : (Jvm.Cond.instanceMethod ({ cls := "EvenScatterModel", name := "mask", desc := "(III)I" } : Jvm.MethodName)) ∈ wG := wgM3 163 rfl rfl
theorem wt_644 : (Jvm.Cond.selects "EvenScatterModel" ({ cls := "EvenScatterModel", name := "mask", desc := "(III)I" } : Jvm.MethodName) ({ cls := "EvenScatterModel", name := "mask", desc := "(III)I" } : Jvm.MethodName)) ∈ wG := wgM3 164 rfl rfl
theorem wt_645 : (Jvm.Cond.code ({ cls := "EvenScatterModel", name := "mask", desc := "(III)I" } : Jvm.MethodName) prog_7_method_15_code (5 : Nat) (Option.some Jvm.ClassFile.FieldType.int)) ∈ wG := wgM3 165 rfl rfl
theorem wt_646 : (Jvm.Cond.methodLink "EvenScatterLaw" (47 : Nat) ({ cls := "EvenScatterModel", name := "grid", desc := "(II)I" } : Jvm.MethodName)) ∈ wG := wgM3 166 rfl rfl
theorem wt_647 : (Jvm.Cond.instanceMethod ({ cls := "EvenScatterModel", name := "grid", desc := "(II)I" } : Jvm.MethodName)) ∈ wG := wgM3 167 rfl rfl
theorem wt_648 : (Jvm.Cond.selects "EvenScatterModel" ({ cls := "EvenScatterModel", name := "grid", desc := "(II)I" } : Jvm.MethodName) ({ cls := "EvenScatterModel", name := "grid", desc := "(II)I" } : Jvm.MethodName)) ∈ wG := wgM3 168 rfl rfl
theorem wt_649 : (Jvm.Cond.code ({ cls := "EvenScatterModel", name := "grid", desc := "(II)I" } : Jvm.MethodName) prog_7_method_16_code (3 : Nat) (Option.some Jvm.ClassFile.FieldType.int)) ∈ wG := wgM3 169 rfl rfl
theorem wt_650 : (Jvm.Cond.methodLink "EvenScatterLaw" (51 : Nat) ({ cls := "EvenScatterModel", name := "step", desc := "(III)I" } : Jvm.MethodName)) ∈ wG := wgM3 170 rfl rfl
theorem wt_651 : (Jvm.Cond.instanceMethod ({ cls := "EvenScatterModel", name := "step", desc := "(III)I" } : Jvm.MethodName)) ∈ wG := wgM3 171 rfl rfl
theorem wt_652 : (Jvm.Cond.selects "EvenScatterModel" ({ cls := "EvenScatterModel", name := "step", desc := "(III)I" } : Jvm.MethodName) ({ cls := "EvenScatterModel", name := "step", desc := "(III)I" } : Jvm.MethodName)) ∈ wG := wgM3 172 rfl rfl
theorem wt_653 : (Jvm.Cond.code ({ cls := "EvenScatterModel", name := "step", desc := "(III)I" } : Jvm.MethodName) prog_7_method_17_code (5 : Nat) (Option.some Jvm.ClassFile.FieldType.int)) ∈ wG := wgM3 173 rfl rfl
theorem wt_654 : (Jvm.Cond.methodLink "EvenScatterLaw" (55 : Nat) ({ cls := "EvenScatterModel", name := "lots", desc := "(IIJ)I" } : Jvm.MethodName)) ∈ wG := wgM3 174 rfl rfl
theorem wt_655 : (Jvm.Cond.instanceMethod ({ cls := "EvenScatterModel", name := "lots", desc := "(IIJ)I" } : Jvm.MethodName)) ∈ wG := wgM3 175 rfl rfl
theorem wt_656 : (Jvm.Cond.selects "EvenScatterModel" ({ cls := "EvenScatterModel", name := "lots", desc := "(IIJ)I" } : Jvm.MethodName) ({ cls := "EvenScatterModel", name := "lots", desc := "(IIJ)I" } : Jvm.MethodName)) ∈ wG := wgM3 176 rfl rfl
theorem wt_657 : (Jvm.Cond.code ({ cls := "EvenScatterModel", name := "lots", desc := "(IIJ)I" } : Jvm.MethodName) prog_7_method_18_code (11 : Nat) (Option.some Jvm.ClassFile.FieldType.int)) ∈ wG := wgM3 177 rfl rfl
theorem wt_658 : (Jvm.Cond.constantLong "EvenScatterModel" (102 : Nat) (6364136223846793005 : Int64)) ∈ wG := wgM3 178 rfl rfl
theorem wt_659 : (Jvm.Cond.constantLong "EvenScatterModel" (104 : Nat) (1442695040888963407 : Int64)) ∈ wG := wgM3 179 rfl rfl
theorem wt_660 : (Jvm.Cond.methodLink "EvenScatterLaw" (59 : Nat) ({ cls := "EvenScatterModel", name := "scatter", desc := "(II)I" } : Jvm.MethodName)) ∈ wG := wgM3 180 rfl rfl
theorem wt_661 : (Jvm.Cond.instanceMethod ({ cls := "EvenScatterModel", name := "scatter", desc := "(II)I" } : Jvm.MethodName)) ∈ wG := wgM3 181 rfl rfl
theorem wt_662 : (Jvm.Cond.selects "EvenScatterModel" ({ cls := "EvenScatterModel", name := "scatter", desc := "(II)I" } : Jvm.MethodName) ({ cls := "EvenScatterModel", name := "scatter", desc := "(II)I" } : Jvm.MethodName)) ∈ wG := wgM3 182 rfl rfl
theorem wt_663 : (Jvm.Cond.code ({ cls := "EvenScatterModel", name := "scatter", desc := "(II)I" } : Jvm.MethodName) prog_7_method_19_code (3 : Nat) (Option.some Jvm.ClassFile.FieldType.int)) ∈ wG := wgM3 183 rfl rfl
theorem wt_664 : (Jvm.Cond.methodLink "EvenScatterLaw" (63 : Nat) ({ cls := "EvenScatterModel", name := "part", desc := "(III)I" } : Jvm.MethodName)) ∈ wG := wgM3 184 rfl rfl
theorem wt_665 : (Jvm.Cond.instanceMethod ({ cls := "EvenScatterModel", name := "part", desc := "(III)I" } : Jvm.MethodName)) ∈ wG := wgM3 185 rfl rfl
theorem wt_666 : (Jvm.Cond.selects "EvenScatterModel" ({ cls := "EvenScatterModel", name := "part", desc := "(III)I" } : Jvm.MethodName) ({ cls := "EvenScatterModel", name := "part", desc := "(III)I" } : Jvm.MethodName)) ∈ wG := wgM3 186 rfl rfl
theorem wt_667 : (Jvm.Cond.code ({ cls := "EvenScatterModel", name := "part", desc := "(III)I" } : Jvm.MethodName) prog_7_method_22_code (4 : Nat) (Option.some Jvm.ClassFile.FieldType.int)) ∈ wG := wgM3 187 rfl rfl
theorem wt_668 : (Jvm.Cond.methodLink "EvenScatterModel" (109 : Nat) ({ cls := "EvenScatterModel", name := "partOf", desc := "(III)I" } : Jvm.MethodName)) ∈ wG := wgM3 188 rfl rfl
theorem wt_670 : (Jvm.Cond.instanceMethod ({ cls := "EvenScatterModel", name := "partOf", desc := "(III)I" } : Jvm.MethodName)) ∈ wG := wgM3 190 rfl rfl
theorem wt_671 : (Jvm.Cond.code ({ cls := "EvenScatterModel", name := "partOf", desc := "(III)I" } : Jvm.MethodName) prog_7_method_21_code (6 : Nat) (Option.some Jvm.ClassFile.FieldType.int)) ∈ wG := wgM3 191 rfl rfl
theorem wt_672 : (Jvm.Cond.methodLink "EvenScatterModel" (106 : Nat) ({ cls := "EvenScatterModel", name := "odd", desc := "(I)I" } : Jvm.MethodName)) ∈ wG := wgM3 192 rfl rfl
theorem wt_673 : (Jvm.Cond.static ({ cls := "EvenScatterModel", name := "odd", desc := "(I)I" } : Jvm.MethodName)) ∈ wG := wgM3 193 rfl rfl
theorem wt_674 : (Jvm.Cond.code ({ cls := "EvenScatterModel", name := "odd", desc := "(I)I" } : Jvm.MethodName) prog_7_method_20_code (3 : Nat) (Option.some Jvm.ClassFile.FieldType.int)) ∈ wG := wgM3 194 rfl rfl
theorem wt_675 : (Jvm.Cond.methodLink "EvenScatterLaw" (67 : Nat) ({ cls := "EvenScatterModel", name := "next", desc := "(I)I" } : Jvm.MethodName)) ∈ wG := wgM3 195 rfl rfl
theorem wt_676 : (Jvm.Cond.instanceMethod ({ cls := "EvenScatterModel", name := "next", desc := "(I)I" } : Jvm.MethodName)) ∈ wG := wgM3 196 rfl rfl
theorem wt_677 : (Jvm.Cond.selects "EvenScatterModel" ({ cls := "EvenScatterModel", name := "next", desc := "(I)I" } : Jvm.MethodName) ({ cls := "EvenScatterModel", name := "next", desc := "(I)I" } : Jvm.MethodName)) ∈ wG := wgM3 197 rfl rfl
theorem wt_678 : (Jvm.Cond.code ({ cls := "EvenScatterModel", name := "next", desc := "(I)I" } : Jvm.MethodName) prog_7_method_23_code (3 : Nat) (Option.some Jvm.ClassFile.FieldType.int)) ∈ wG := wgM3 198 rfl rfl
theorem wt_679 : (Jvm.Cond.constant "EvenScatterModel" (113 : Nat) (1000000 : Int32)) ∈ wG := wgM3 199 rfl rfl
theorem wt_680 : (Jvm.Cond.methodLink "EvenScatterLaw" (71 : Nat) ({ cls := "EvenScatterModel", name := "skip", desc := "(II)I" } : Jvm.MethodName)) ∈ wG := wgM3 200 rfl rfl
theorem wt_681 : (Jvm.Cond.instanceMethod ({ cls := "EvenScatterModel", name := "skip", desc := "(II)I" } : Jvm.MethodName)) ∈ wG := wgM3 201 rfl rfl
theorem wt_682 : (Jvm.Cond.selects "EvenScatterModel" ({ cls := "EvenScatterModel", name := "skip", desc := "(II)I" } : Jvm.MethodName) ({ cls := "EvenScatterModel", name := "skip", desc := "(II)I" } : Jvm.MethodName)) ∈ wG := wgM3 202 rfl rfl
theorem wt_683 : (Jvm.Cond.code ({ cls := "EvenScatterModel", name := "skip", desc := "(II)I" } : Jvm.MethodName) prog_7_method_24_code (4 : Nat) (Option.some Jvm.ClassFile.FieldType.int)) ∈ wG := wgM3 203 rfl rfl
theorem wt_684 : (Jvm.Cond.methodLink "EvenScatterLaw" (75 : Nat) ({ cls := "EvenScatterModel", name := "side", desc := "(III)I" } : Jvm.MethodName)) ∈ wG := wgM3 204 rfl rfl
theorem wt_685 : (Jvm.Cond.instanceMethod ({ cls := "EvenScatterModel", name := "side", desc := "(III)I" } : Jvm.MethodName)) ∈ wG := wgM3 205 rfl rfl
theorem wt_686 : (Jvm.Cond.selects "EvenScatterModel" ({ cls := "EvenScatterModel", name := "side", desc := "(III)I" } : Jvm.MethodName) ({ cls := "EvenScatterModel", name := "side", desc := "(III)I" } : Jvm.MethodName)) ∈ wG := wgM3 206 rfl rfl
theorem wt_687 : (Jvm.Cond.code ({ cls := "EvenScatterModel", name := "side", desc := "(III)I" } : Jvm.MethodName) prog_7_method_25_code (4 : Nat) (Option.some Jvm.ClassFile.FieldType.int)) ∈ wG := wgM3 207 rfl rfl
theorem wt_688 : (Jvm.Cond.constantLong "EvenScatterModel" (117 : Nat) (5 : Int64)) ∈ wG := wgM3 208 rfl rfl
theorem wt_689 : (Jvm.Cond.methodLink "EvenScatterLaw" (79 : Nat) ({ cls := "EvenScatterModel", name := "mark", desc := "(II)I" } : Jvm.MethodName)) ∈ wG := wgM3 209 rfl rfl
theorem wt_690 : (Jvm.Cond.instanceMethod ({ cls := "EvenScatterModel", name := "mark", desc := "(II)I" } : Jvm.MethodName)) ∈ wG := wgM3 210 rfl rfl
theorem wt_691 : (Jvm.Cond.selects "EvenScatterModel" ({ cls := "EvenScatterModel", name := "mark", desc := "(II)I" } : Jvm.MethodName) ({ cls := "EvenScatterModel", name := "mark", desc := "(II)I" } : Jvm.MethodName)) ∈ wG := wgM3 211 rfl rfl
theorem wt_692 : (Jvm.Cond.code ({ cls := "EvenScatterModel", name := "mark", desc := "(II)I" } : Jvm.MethodName) prog_7_method_26_code (4 : Nat) (Option.some Jvm.ClassFile.FieldType.int)) ∈ wG := wgM3 212 rfl rfl
theorem wt_693 : (Jvm.Cond.methodLink "EvenScatterLaw" (83 : Nat) ({ cls := "EvenScatterModel", name := "count", desc := "(I)I" } : Jvm.MethodName)) ∈ wG := wgM3 213 rfl rfl
theorem wt_694 : (Jvm.Cond.instanceMethod ({ cls := "EvenScatterModel", name := "count", desc := "(I)I" } : Jvm.MethodName)) ∈ wG := wgM3 214 rfl rfl
theorem wt_695 : (Jvm.Cond.selects "EvenScatterModel" ({ cls := "EvenScatterModel", name := "count", desc := "(I)I" } : Jvm.MethodName) ({ cls := "EvenScatterModel", name := "count", desc := "(I)I" } : Jvm.MethodName)) ∈ wG := wgM3 215 rfl rfl
theorem wt_696 : (Jvm.Cond.code ({ cls := "EvenScatterModel", name := "count", desc := "(I)I" } : Jvm.MethodName) prog_7_method_27_code (7 : Nat) (Option.some Jvm.ClassFile.FieldType.int)) ∈ wG := wgM3 216 rfl rfl
theorem wt_697 : (Jvm.Cond.methodLink "EvenScatterLaw" (87 : Nat) ({ cls := "EvenScatterModel", name := "back", desc := "(I)I" } : Jvm.MethodName)) ∈ wG := wgM3 217 rfl rfl
theorem wt_698 : (Jvm.Cond.instanceMethod ({ cls := "EvenScatterModel", name := "back", desc := "(I)I" } : Jvm.MethodName)) ∈ wG := wgM3 218 rfl rfl
theorem wt_699 : (Jvm.Cond.selects "EvenScatterModel" ({ cls := "EvenScatterModel", name := "back", desc := "(I)I" } : Jvm.MethodName) ({ cls := "EvenScatterModel", name := "back", desc := "(I)I" } : Jvm.MethodName)) ∈ wG := wgM3 219 rfl rfl
theorem wt_700 : (Jvm.Cond.code ({ cls := "EvenScatterModel", name := "back", desc := "(I)I" } : Jvm.MethodName) prog_7_method_28_code (5 : Nat) (Option.some Jvm.ClassFile.FieldType.int)) ∈ wG := wgM3 220 rfl rfl
theorem wt_701 : (Jvm.Cond.methodLink "EvenScatterLaw" (91 : Nat) ({ cls := "EvenScatterModel", name := "even", desc := "(I)I" } : Jvm.MethodName)) ∈ wG := wgM3 221 rfl rfl
theorem wt_702 : (Jvm.Cond.instanceMethod ({ cls := "EvenScatterModel", name := "even", desc := "(I)I" } : Jvm.MethodName)) ∈ wG := wgM3 222 rfl rfl
theorem wt_703 : (Jvm.Cond.selects "EvenScatterModel" ({ cls := "EvenScatterModel", name := "even", desc := "(I)I" } : Jvm.MethodName) ({ cls := "EvenScatterModel", name := "even", desc := "(I)I" } : Jvm.MethodName)) ∈ wG := wgM3 223 rfl rfl
theorem wt_704 : (Jvm.Cond.code ({ cls := "EvenScatterModel", name := "even", desc := "(I)I" } : Jvm.MethodName) prog_7_method_31_code (3 : Nat) (Option.some Jvm.ClassFile.FieldType.int)) ∈ wG := wgM3 224 rfl rfl
theorem wt_705 : (Jvm.Cond.methodLink "EvenScatterModel" (119 : Nat) ({ cls := "EvenScatterModel", name := "lacksShape", desc := "(I)I" } : Jvm.MethodName)) ∈ wG := wgM3 225 rfl rfl
theorem wt_707 : (Jvm.Cond.instanceMethod ({ cls := "EvenScatterModel", name := "lacksShape", desc := "(I)I" } : Jvm.MethodName)) ∈ wG := wgM3 227 rfl rfl
theorem wt_708 : (Jvm.Cond.code ({ cls := "EvenScatterModel", name := "lacksShape", desc := "(I)I" } : Jvm.MethodName) prog_7_method_30_code (4 : Nat) (Option.some Jvm.ClassFile.FieldType.int)) ∈ wG := wgM3 228 rfl rfl
theorem wt_709 : (Jvm.Cond.methodLink "EvenScatterModel" (122 : Nat) ({ cls := "EvenScatterModel", name := "uneven", desc := "(I)I" } : Jvm.MethodName)) ∈ wG := wgM3 229 rfl rfl
theorem wt_711 : (Jvm.Cond.instanceMethod ({ cls := "EvenScatterModel", name := "uneven", desc := "(I)I" } : Jvm.MethodName)) ∈ wG := wgM3 231 rfl rfl
theorem wt_712 : (Jvm.Cond.code ({ cls := "EvenScatterModel", name := "uneven", desc := "(I)I" } : Jvm.MethodName) prog_7_method_29_code (6 : Nat) (Option.some Jvm.ClassFile.FieldType.int)) ∈ wG := wgM3 232 rfl rfl
theorem wt_713 : (Jvm.Cond.methodLink "EvenScatterLaw" (95 : Nat) ({ cls := "EvenScatterModel", name := "why", desc := "(I)I" } : Jvm.MethodName)) ∈ wG := wgM3 233 rfl rfl
theorem wt_714 : (Jvm.Cond.instanceMethod ({ cls := "EvenScatterModel", name := "why", desc := "(I)I" } : Jvm.MethodName)) ∈ wG := wgM3 234 rfl rfl
theorem wt_715 : (Jvm.Cond.selects "EvenScatterModel" ({ cls := "EvenScatterModel", name := "why", desc := "(I)I" } : Jvm.MethodName) ({ cls := "EvenScatterModel", name := "why", desc := "(I)I" } : Jvm.MethodName)) ∈ wG := wgM3 235 rfl rfl
theorem wt_716 : (Jvm.Cond.code ({ cls := "EvenScatterModel", name := "why", desc := "(I)I" } : Jvm.MethodName) prog_7_method_32_code (3 : Nat) (Option.some Jvm.ClassFile.FieldType.int)) ∈ wG := wgM3 236 rfl rfl
theorem wt_717 : (Jvm.Cond.methodLink "EvenScatterLaw" (99 : Nat) ({ cls := "EvenScatterModel", name := "grade", desc := "(I)I" } : Jvm.MethodName)) ∈ wG := wgM3 237 rfl rfl
theorem wt_718 : (Jvm.Cond.instanceMethod ({ cls := "EvenScatterModel", name := "grade", desc := "(I)I" } : Jvm.MethodName)) ∈ wG := wgM3 238 rfl rfl
theorem wt_719 : (Jvm.Cond.selects "EvenScatterModel" ({ cls := "EvenScatterModel", name := "grade", desc := "(I)I" } : Jvm.MethodName) ({ cls := "EvenScatterModel", name := "grade", desc := "(I)I" } : Jvm.MethodName)) ∈ wG := wgM3 239 rfl rfl
theorem wt_720 : (Jvm.Cond.code ({ cls := "EvenScatterModel", name := "grade", desc := "(I)I" } : Jvm.MethodName) prog_7_method_35_code (2 : Nat) (Option.some Jvm.ClassFile.FieldType.int)) ∈ wG := wgM4 0 rfl rfl
theorem wt_721 : (Jvm.Cond.methodLink "EvenScatterModel" (129 : Nat) ({ cls := "EvenScatterModel", name := "gradeOf", desc := "(II)I" } : Jvm.MethodName)) ∈ wG := wgM4 1 rfl rfl
theorem wt_723 : (Jvm.Cond.instanceMethod ({ cls := "EvenScatterModel", name := "gradeOf", desc := "(II)I" } : Jvm.MethodName)) ∈ wG := wgM4 3 rfl rfl
theorem wt_724 : (Jvm.Cond.code ({ cls := "EvenScatterModel", name := "gradeOf", desc := "(II)I" } : Jvm.MethodName) prog_7_method_34_code (4 : Nat) (Option.some Jvm.ClassFile.FieldType.int)) ∈ wG := wgM4 4 rfl rfl
theorem wt_725 : (Jvm.Cond.methodLink "EvenScatterModel" (125 : Nat) ({ cls := "EvenScatterModel", name := "areEven", desc := "(III)Z" } : Jvm.MethodName)) ∈ wG := wgM4 5 rfl rfl
theorem wt_727 : (Jvm.Cond.instanceMethod ({ cls := "EvenScatterModel", name := "areEven", desc := "(III)Z" } : Jvm.MethodName)) ∈ wG := wgM4 7 rfl rfl
theorem wt_728 : (Jvm.Cond.code ({ cls := "EvenScatterModel", name := "areEven", desc := "(III)Z" } : Jvm.MethodName) prog_7_method_33_code (8 : Nat) (Option.some Jvm.ClassFile.FieldType.boolean)) ∈ wG := wgM4 8 rfl rfl
theorem wt_729 : (Jvm.Cond.methodLink "EvenScatterLaw" (103 : Nat) ({ cls := "EvenScatterModel", name := "pair", desc := "(III)I" } : Jvm.MethodName)) ∈ wG := wgM4 9 rfl rfl
theorem wt_730 : (Jvm.Cond.instanceMethod ({ cls := "EvenScatterModel", name := "pair", desc := "(III)I" } : Jvm.MethodName)) ∈ wG := wgM4 10 rfl rfl
theorem wt_731 : (Jvm.Cond.selects "EvenScatterModel" ({ cls := "EvenScatterModel", name := "pair", desc := "(III)I" } : Jvm.MethodName) ({ cls := "EvenScatterModel", name := "pair", desc := "(III)I" } : Jvm.MethodName)) ∈ wG := wgM4 11 rfl rfl
theorem wt_732 : (Jvm.Cond.code ({ cls := "EvenScatterModel", name := "pair", desc := "(III)I" } : Jvm.MethodName) prog_7_method_36_code (4 : Nat) (Option.some Jvm.ClassFile.FieldType.int)) ∈ wG := wgM4 12 rfl rfl
theorem wt_733 : (Jvm.Cond.methodLink "EvenScatterLaw" (108 : Nat) ({ cls := "EvenScatterModel", name := "gap", desc := "(IZI)J" } : Jvm.MethodName)) ∈ wG := wgM4 13 rfl rfl
theorem wt_734 : (Jvm.Cond.instanceMethod ({ cls := "EvenScatterModel", name := "gap", desc := "(IZI)J" } : Jvm.MethodName)) ∈ wG := wgM4 14 rfl rfl
theorem wt_735 : (Jvm.Cond.selects "EvenScatterModel" ({ cls := "EvenScatterModel", name := "gap", desc := "(IZI)J" } : Jvm.MethodName) ({ cls := "EvenScatterModel", name := "gap", desc := "(IZI)J" } : Jvm.MethodName)) ∈ wG := wgM4 15 rfl rfl
theorem wt_736 : (Jvm.Cond.code ({ cls := "EvenScatterModel", name := "gap", desc := "(IZI)J" } : Jvm.MethodName) prog_7_method_42_code (6 : Nat) (Option.some Jvm.ClassFile.FieldType.long)) ∈ wG := wgM4 16 rfl rfl
theorem wt_737 : (Jvm.Cond.methodLink "EvenScatterModel" (143 : Nat) ({ cls := "EvenScatterModel", name := "refuseLong", desc := "(I)J" } : Jvm.MethodName)) ∈ wG := wgM4 17 rfl rfl
theorem wt_739 : (Jvm.Cond.instanceMethod ({ cls := "EvenScatterModel", name := "refuseLong", desc := "(I)J" } : Jvm.MethodName)) ∈ wG := wgM4 19 rfl rfl
theorem wt_740 : (Jvm.Cond.code ({ cls := "EvenScatterModel", name := "refuseLong", desc := "(I)J" } : Jvm.MethodName) prog_7_method_5_code (2 : Nat) (Option.some Jvm.ClassFile.FieldType.long)) ∈ wG := wgM4 20 rfl rfl
theorem wt_741 : (Jvm.Cond.constantLong "EvenScatterModel" (70 : Nat) (-1000 : Int64)) ∈ wG := wgM4 21 rfl rfl
theorem wt_742 : (Jvm.Cond.methodLink "EvenScatterModel" (147 : Nat) ({ cls := "EvenScatterModel", name := "cornerLess", desc := "(IZ)J" } : Jvm.MethodName)) ∈ wG := wgM4 22 rfl rfl
theorem wt_744 : (Jvm.Cond.instanceMethod ({ cls := "EvenScatterModel", name := "cornerLess", desc := "(IZ)J" } : Jvm.MethodName)) ∈ wG := wgM4 24 rfl rfl
theorem wt_745 : (Jvm.Cond.code ({ cls := "EvenScatterModel", name := "cornerLess", desc := "(IZ)J" } : Jvm.MethodName) prog_7_method_41_code (6 : Nat) (Option.some Jvm.ClassFile.FieldType.long)) ∈ wG := wgM4 25 rfl rfl
theorem wt_746 : (Jvm.Cond.methodLink "EvenScatterModel" (136 : Nat) ({ cls := "EvenScatterModel", name := "inCorner", desc := "(IZ)I" } : Jvm.MethodName)) ∈ wG := wgM4 26 rfl rfl
theorem wt_748 : (Jvm.Cond.instanceMethod ({ cls := "EvenScatterModel", name := "inCorner", desc := "(IZ)I" } : Jvm.MethodName)) ∈ wG := wgM4 28 rfl rfl
theorem wt_749 : (Jvm.Cond.code ({ cls := "EvenScatterModel", name := "inCorner", desc := "(IZ)I" } : Jvm.MethodName) prog_7_method_40_code (8 : Nat) (Option.some Jvm.ClassFile.FieldType.int)) ∈ wG := wgM4 29 rfl rfl
theorem wt_750 : (Jvm.Cond.methodLink "EvenScatterModel" (140 : Nat) ({ cls := "EvenScatterModel", name := "power", desc := "(JI)J" } : Jvm.MethodName)) ∈ wG := wgM4 30 rfl rfl
theorem wt_751 : (Jvm.Cond.static ({ cls := "EvenScatterModel", name := "power", desc := "(JI)J" } : Jvm.MethodName)) ∈ wG := wgM4 31 rfl rfl
theorem wt_752 : (Jvm.Cond.code ({ cls := "EvenScatterModel", name := "power", desc := "(JI)J" } : Jvm.MethodName) prog_7_method_37_code (6 : Nat) (Option.some Jvm.ClassFile.FieldType.long)) ∈ wG := wgM4 32 rfl rfl
theorem wt_753 : (Jvm.Cond.methodLink "EvenScatterModel" (151 : Nat) ({ cls := "EvenScatterModel", name := "ratio", desc := "(JJZ)J" } : Jvm.MethodName)) ∈ wG := wgM4 33 rfl rfl
theorem wt_754 : (Jvm.Cond.static ({ cls := "EvenScatterModel", name := "ratio", desc := "(JJZ)J" } : Jvm.MethodName)) ∈ wG := wgM4 34 rfl rfl
theorem wt_755 : (Jvm.Cond.code ({ cls := "EvenScatterModel", name := "ratio", desc := "(JJZ)J" } : Jvm.MethodName) prog_7_method_39_code (7 : Nat) (Option.some Jvm.ClassFile.FieldType.long)) ∈ wG := wgM4 35 rfl rfl
theorem wt_756 : (Jvm.Cond.methodLink "EvenScatterModel" (132 : Nat) ({ cls := "EvenScatterModel", name := "common", desc := "(JJ)J" } : Jvm.MethodName)) ∈ wG := wgM4 36 rfl rfl
theorem wt_757 : (Jvm.Cond.static ({ cls := "EvenScatterModel", name := "common", desc := "(JJ)J" } : Jvm.MethodName)) ∈ wG := wgM4 37 rfl rfl
theorem wt_758 : (Jvm.Cond.code ({ cls := "EvenScatterModel", name := "common", desc := "(JJ)J" } : Jvm.MethodName) prog_7_method_38_code (10 : Nat) (Option.some Jvm.ClassFile.FieldType.long)) ∈ wG := wgM4 38 rfl rfl
theorem wt_759 : (Jvm.Cond.methodLink "EvenScatterLaw" (113 : Nat) ({ cls := "EvenScatterModel", name := "worst", desc := "(II)J" } : Jvm.MethodName)) ∈ wG := wgM4 39 rfl rfl
theorem wt_760 : (Jvm.Cond.instanceMethod ({ cls := "EvenScatterModel", name := "worst", desc := "(II)J" } : Jvm.MethodName)) ∈ wG := wgM4 40 rfl rfl
theorem wt_761 : (Jvm.Cond.selects "EvenScatterModel" ({ cls := "EvenScatterModel", name := "worst", desc := "(II)J" } : Jvm.MethodName) ({ cls := "EvenScatterModel", name := "worst", desc := "(II)J" } : Jvm.MethodName)) ∈ wG := wgM4 41 rfl rfl
theorem wt_762 : (Jvm.Cond.code ({ cls := "EvenScatterModel", name := "worst", desc := "(II)J" } : Jvm.MethodName) prog_7_method_43_code (17 : Nat) (Option.some Jvm.ClassFile.FieldType.long)) ∈ wG := wgM4 42 rfl rfl
theorem wt_763 : (Jvm.Cond.methodLink "EvenScatterLaw" (117 : Nat) ({ cls := "EvenScatterModel", name := "square", desc := "(II)J" } : Jvm.MethodName)) ∈ wG := wgM4 43 rfl rfl
theorem wt_764 : (Jvm.Cond.instanceMethod ({ cls := "EvenScatterModel", name := "square", desc := "(II)J" } : Jvm.MethodName)) ∈ wG := wgM4 44 rfl rfl
theorem wt_765 : (Jvm.Cond.selects "EvenScatterModel" ({ cls := "EvenScatterModel", name := "square", desc := "(II)J" } : Jvm.MethodName) ({ cls := "EvenScatterModel", name := "square", desc := "(II)J" } : Jvm.MethodName)) ∈ wG := wgM4 45 rfl rfl
theorem wt_766 : (Jvm.Cond.code ({ cls := "EvenScatterModel", name := "square", desc := "(II)J" } : Jvm.MethodName) prog_7_method_44_code (19 : Nat) (Option.some Jvm.ClassFile.FieldType.long)) ∈ wG := wgM4 46 rfl rfl
theorem wt_767 : (Jvm.Cond.constantLong "EvenScatterModel" (155 : Nat) (3 : Int64)) ∈ wG := wgM4 47 rfl rfl
theorem wt_768 : (Jvm.Cond.constantLong "EvenScatterModel" (157 : Nat) (2 : Int64)) ∈ wG := wgM4 48 rfl rfl
theorem wt_769 : (Jvm.Cond.methodLink "EvenScatterLaw" (122 : Nat) ({ cls := "EvenScatterModel", name := "wave", desc := "(I)J" } : Jvm.MethodName)) ∈ wG := wgM4 49 rfl rfl
theorem wt_770 : (Jvm.Cond.instanceMethod ({ cls := "EvenScatterModel", name := "wave", desc := "(I)J" } : Jvm.MethodName)) ∈ wG := wgM4 50 rfl rfl
theorem wt_771 : (Jvm.Cond.selects "EvenScatterModel" ({ cls := "EvenScatterModel", name := "wave", desc := "(I)J" } : Jvm.MethodName) ({ cls := "EvenScatterModel", name := "wave", desc := "(I)J" } : Jvm.MethodName)) ∈ wG := wgM4 51 rfl rfl
theorem wt_772 : (Jvm.Cond.code ({ cls := "EvenScatterModel", name := "wave", desc := "(I)J" } : Jvm.MethodName) prog_7_method_46_code (3 : Nat) (Option.some Jvm.ClassFile.FieldType.long)) ∈ wG := wgM4 52 rfl rfl
theorem wt_773 : (Jvm.Cond.methodLink "EvenScatterModel" (161 : Nat) ({ cls := "EvenScatterModel", name := "waveOf", desc := "(I)J" } : Jvm.MethodName)) ∈ wG := wgM4 53 rfl rfl
theorem wt_775 : (Jvm.Cond.instanceMethod ({ cls := "EvenScatterModel", name := "waveOf", desc := "(I)J" } : Jvm.MethodName)) ∈ wG := wgM4 55 rfl rfl
theorem wt_776 : (Jvm.Cond.code ({ cls := "EvenScatterModel", name := "waveOf", desc := "(I)J" } : Jvm.MethodName) prog_7_method_45_code (7 : Nat) (Option.some Jvm.ClassFile.FieldType.long)) ∈ wG := wgM4 56 rfl rfl
theorem wt_777 : (Jvm.Cond.constantLong "EvenScatterModel" (159 : Nat) (-1 : Int64)) ∈ wG := wgM4 57 rfl rfl
theorem wt_778 : (Jvm.Cond.methodLink "EvenScatterLaw" (127 : Nat) ({ cls := "EvenScatterModel", name := "waves", desc := "(III)J" } : Jvm.MethodName)) ∈ wG := wgM4 58 rfl rfl
theorem wt_779 : (Jvm.Cond.instanceMethod ({ cls := "EvenScatterModel", name := "waves", desc := "(III)J" } : Jvm.MethodName)) ∈ wG := wgM4 59 rfl rfl
theorem wt_780 : (Jvm.Cond.selects "EvenScatterModel" ({ cls := "EvenScatterModel", name := "waves", desc := "(III)J" } : Jvm.MethodName) ({ cls := "EvenScatterModel", name := "waves", desc := "(III)J" } : Jvm.MethodName)) ∈ wG := wgM4 60 rfl rfl
theorem wt_781 : (Jvm.Cond.code ({ cls := "EvenScatterModel", name := "waves", desc := "(III)J" } : Jvm.MethodName) prog_7_method_48_code (7 : Nat) (Option.some Jvm.ClassFile.FieldType.long)) ∈ wG := wgM4 61 rfl rfl
theorem wt_782 : (Jvm.Cond.methodLink "EvenScatterModel" (164 : Nat) ({ cls := "EvenScatterModel", name := "ones", desc := "(I)I" } : Jvm.MethodName)) ∈ wG := wgM4 62 rfl rfl
theorem wt_783 : (Jvm.Cond.static ({ cls := "EvenScatterModel", name := "ones", desc := "(I)I" } : Jvm.MethodName)) ∈ wG := wgM4 63 rfl rfl
theorem wt_784 : (Jvm.Cond.code ({ cls := "EvenScatterModel", name := "ones", desc := "(I)I" } : Jvm.MethodName) prog_7_method_47_code (3 : Nat) (Option.some Jvm.ClassFile.FieldType.int)) ∈ wG := wgM4 64 rfl rfl
theorem wt_785 : (Jvm.Cond.constantLong "EvenScatterModel" (167 : Nat) (-9 : Int64)) ∈ wG := wgM4 65 rfl rfl
theorem wt_786 : (Jvm.Cond.methodLink "EvenScatterLaw" (131 : Nat) ({ cls := "EvenScatterModel", name := "sum", desc := "(II)J" } : Jvm.MethodName)) ∈ wG := wgM4 66 rfl rfl
theorem wt_787 : (Jvm.Cond.instanceMethod ({ cls := "EvenScatterModel", name := "sum", desc := "(II)J" } : Jvm.MethodName)) ∈ wG := wgM4 67 rfl rfl
theorem wt_788 : (Jvm.Cond.selects "EvenScatterModel" ({ cls := "EvenScatterModel", name := "sum", desc := "(II)J" } : Jvm.MethodName) ({ cls := "EvenScatterModel", name := "sum", desc := "(II)J" } : Jvm.MethodName)) ∈ wG := wgM4 68 rfl rfl
theorem wt_789 : (Jvm.Cond.code ({ cls := "EvenScatterModel", name := "sum", desc := "(II)J" } : Jvm.MethodName) prog_7_method_49_code (14 : Nat) (Option.some Jvm.ClassFile.FieldType.long)) ∈ wG := wgM4 69 rfl rfl
theorem wt_790 : (Jvm.Cond.methodLink "EvenScatterLaw" (135 : Nat) ({ cls := "EvenScatterModel", name := "status", desc := "(I)I" } : Jvm.MethodName)) ∈ wG := wgM4 70 rfl rfl
theorem wt_791 : (Jvm.Cond.instanceMethod ({ cls := "EvenScatterModel", name := "status", desc := "(I)I" } : Jvm.MethodName)) ∈ wG := wgM4 71 rfl rfl
theorem wt_792 : (Jvm.Cond.selects "EvenScatterModel" ({ cls := "EvenScatterModel", name := "status", desc := "(I)I" } : Jvm.MethodName) ({ cls := "EvenScatterModel", name := "status", desc := "(I)I" } : Jvm.MethodName)) ∈ wG := wgM4 72 rfl rfl
theorem wt_793 : (Jvm.Cond.code ({ cls := "EvenScatterModel", name := "status", desc := "(I)I" } : Jvm.MethodName) prog_7_method_50_code (2 : Nat) (Option.some Jvm.ClassFile.FieldType.int)) ∈ wG := wgM4 73 rfl rfl
theorem wt_794 : (Jvm.Cond.constantLong "EvenScatterModel" (169 : Nat) (11 : Int64)) ∈ wG := wgM4 74 rfl rfl
theorem wt_795 : (Jvm.Cond.constantLong "EvenScatterModel" (171 : Nat) (16 : Int64)) ∈ wG := wgM4 75 rfl rfl
theorem wt_796 : (Jvm.Cond.constantLong "EvenScatterLaw" (28 : Nat) (4294967295 : Int64)) ∈ wG := wgM4 76 rfl rfl
theorem inX0 : ∀ w ∈ wsX00, w ∈ wG := fun w h => (goodIn_of (big := lw_tbl) wsX00 (by decide +kernel) w h) |> fun q => List.mem_filter.mpr ⟨q.1, List.all_eq_true.mp (show wsX00.all goodWord = true by decide +kernel) w h⟩
theorem inX1 : ∀ w ∈ wsX10, w ∈ wG := fun w h => (goodIn_of (big := lw_tbl) wsX10 (by decide +kernel) w h) |> fun q => List.mem_filter.mpr ⟨q.1, List.all_eq_true.mp (show wsX10.all goodWord = true by decide +kernel) w h⟩
theorem inX2 : ∀ w ∈ wsX20, w ∈ wG := fun w h => (goodIn_of (big := lw_tbl) wsX20 (by decide +kernel) w h) |> fun q => List.mem_filter.mpr ⟨q.1, List.all_eq_true.mp (show wsX20.all goodWord = true by decide +kernel) w h⟩
theorem inX3 : ∀ w ∈ wsX30, w ∈ wG := fun w h => (goodIn_of (big := lw_tbl) wsX30 (by decide +kernel) w h) |> fun q => List.mem_filter.mpr ⟨q.1, List.all_eq_true.mp (show wsX30.all goodWord = true by decide +kernel) w h⟩
theorem inX4 : ∀ w ∈ wsX40, w ∈ wG := fun w h => (goodIn_of (big := lw_tbl) wsX40 (by decide +kernel) w h) |> fun q => List.mem_filter.mpr ⟨q.1, List.all_eq_true.mp (show wsX40.all goodWord = true by decide +kernel) w h⟩
theorem inX5 : ∀ w ∈ wsX50, w ∈ wG := fun w h => (goodIn_of (big := lw_tbl) wsX50 (by decide +kernel) w h) |> fun q => List.mem_filter.mpr ⟨q.1, List.all_eq_true.mp (show wsX50.all goodWord = true by decide +kernel) w h⟩
