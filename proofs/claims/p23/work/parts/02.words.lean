/-! ===== the words of the tables that a method may ask for, each by its place ===== -/
def wU : List Cond := (k2_sels lw_privs ++ tables_1).filter goodWord
theorem wU_tbl : ∀ w ∈ wU, w ∈ lw_tbl := fun _ h => (List.mem_filter.mp h).1
theorem wU_good {w : Cond} (h : w ∈ wU) : (w.onTables && w.keeps) = true ∨ ∃ ty, w = .arrayClass ty := good_of_word (List.mem_filter.mp h).2
theorem wU_s {w : Cond} (h : w ∈ k2_sels lw_privs) (g : goodWord w = true) : w ∈ wU := List.mem_filter.mpr ⟨List.mem_append_left _ h, g⟩
theorem wU_1 {w : Cond} (h : w ∈ tables_1_1) (g : goodWord w = true) : w ∈ wU := List.mem_filter.mpr ⟨List.mem_append_right _ (show w ∈ tables_1_1 ++ (tables_1_2 ++ tables_1_3) from List.mem_append_left _ (h)), g⟩
theorem wT_1 {w : Cond} (h : w ∈ tables_1_1) : w ∈ lw_tbl := List.mem_append_right _ (show w ∈ tables_1_1 ++ (tables_1_2 ++ tables_1_3) from List.mem_append_left _ (h))
theorem wU_2 {w : Cond} (h : w ∈ tables_1_2) (g : goodWord w = true) : w ∈ wU := List.mem_filter.mpr ⟨List.mem_append_right _ (show w ∈ tables_1_1 ++ (tables_1_2 ++ tables_1_3) from List.mem_append_right _ (List.mem_append_left _ (h))), g⟩
theorem wT_2 {w : Cond} (h : w ∈ tables_1_2) : w ∈ lw_tbl := List.mem_append_right _ (show w ∈ tables_1_1 ++ (tables_1_2 ++ tables_1_3) from List.mem_append_right _ (List.mem_append_left _ (h)))
theorem wU_3 {w : Cond} (h : w ∈ tables_1_3) (g : goodWord w = true) : w ∈ wU := List.mem_filter.mpr ⟨List.mem_append_right _ (show w ∈ tables_1_1 ++ (tables_1_2 ++ tables_1_3) from List.mem_append_right _ (List.mem_append_right _ (h))), g⟩
theorem wT_3 {w : Cond} (h : w ∈ tables_1_3) : w ∈ lw_tbl := List.mem_append_right _ (show w ∈ tables_1_1 ++ (tables_1_2 ++ tables_1_3) from List.mem_append_right _ (List.mem_append_right _ (h)))
theorem tw_0 : Jvm.Cond.initialized "DovetailRowLaw" ∈ wU := wU_1 (List.mem_of_getElem? (i := 0) rfl) rfl
theorem tw_1 : Jvm.Cond.initialized "DovetailRow" ∈ wU := wU_1 (List.mem_of_getElem? (i := 1) rfl) rfl
theorem tw_2 : Jvm.Cond.initialized "java/util/AbstractCollection" ∈ wU := wU_1 (List.mem_of_getElem? (i := 2) rfl) rfl
theorem tw_3 : Jvm.Cond.initialized "java/util/AbstractList" ∈ wU := wU_1 (List.mem_of_getElem? (i := 3) rfl) rfl
theorem tw_4 : Jvm.Cond.initialized "java/util/ArrayList" ∈ wU := wU_1 (List.mem_of_getElem? (i := 4) rfl) rfl
theorem tw_5 : Jvm.Cond.initialized "java/util/Arrays" ∈ wU := wU_1 (List.mem_of_getElem? (i := 5) rfl) rfl
theorem tw_6 : Jvm.Cond.initialized "java/lang/Throwable" ∈ wU := wU_1 (List.mem_of_getElem? (i := 6) rfl) rfl
theorem tw_7 : Jvm.Cond.initialized "java/lang/Exception" ∈ wU := wU_1 (List.mem_of_getElem? (i := 7) rfl) rfl
theorem tw_8 : Jvm.Cond.initialized "java/lang/RuntimeException" ∈ wU := wU_1 (List.mem_of_getElem? (i := 8) rfl) rfl
theorem tw_9 : Jvm.Cond.initialized "java/lang/IllegalArgumentException" ∈ wU := wU_1 (List.mem_of_getElem? (i := 9) rfl) rfl
theorem tw_10 : Jvm.Cond.initialized "java/lang/IllegalStateException" ∈ wU := wU_1 (List.mem_of_getElem? (i := 10) rfl) rfl
theorem tw_11 : Jvm.Cond.initialized "java/util/Objects" ∈ wU := wU_1 (List.mem_of_getElem? (i := 11) rfl) rfl
theorem tw_12 : Jvm.Cond.initialized "jdk/internal/util/Preconditions" ∈ wU := wU_1 (List.mem_of_getElem? (i := 12) rfl) rfl
theorem tw_13 : Jvm.Cond.initialized "DovetailRow$Wood" ∈ wU := wU_1 (List.mem_of_getElem? (i := 13) rfl) rfl
theorem tw_14 : Jvm.Cond.initialized "DovetailRow$Board" ∈ wU := wU_1 (List.mem_of_getElem? (i := 14) rfl) rfl
theorem tw_15 : Jvm.Cond.initialized "jdk/internal/util/ArraysSupport" ∈ wU := wU_1 (List.mem_of_getElem? (i := 15) rfl) rfl
theorem tw_16 : Jvm.Cond.initialized "java/lang/Math" ∈ wU := wU_1 (List.mem_of_getElem? (i := 16) rfl) rfl
theorem tw_17 : Jvm.Cond.initialized "java/lang/System" ∈ wU := wU_1 (List.mem_of_getElem? (i := 17) rfl) rfl
theorem tw_18 : Jvm.Cond.initialized "java/lang/IndexOutOfBoundsException" ∈ wU := wU_1 (List.mem_of_getElem? (i := 18) rfl) rfl
theorem tw_19 : Jvm.Cond.initialized "DovetailRow$Part" ∈ wU := wU_1 (List.mem_of_getElem? (i := 19) rfl) rfl
theorem tw_20 : Jvm.Cond.initialized "DovetailRow$Span" ∈ wU := wU_1 (List.mem_of_getElem? (i := 20) rfl) rfl
theorem tw_21 : Jvm.Cond.initialized "DovetailRow$Joint" ∈ wU := wU_1 (List.mem_of_getElem? (i := 21) rfl) rfl
theorem tw_22 : Jvm.Cond.initialized "java/lang/Integer" ∈ wU := wU_1 (List.mem_of_getElem? (i := 22) rfl) rfl
theorem tw_23 : Jvm.Cond.classLink "DovetailRowLaw" (8 : Nat) "DovetailRow" ∈ wU := wU_1 (List.mem_of_getElem? (i := 23) rfl) rfl
theorem tw_24 : Jvm.Cond.instantiable "DovetailRow" (8 : Nat) ∈ wU := wU_1 (List.mem_of_getElem? (i := 24) rfl) rfl
theorem tw_25 : Jvm.Cond.methodLink "DovetailRowLaw" (28 : Nat) ({ cls := "DovetailRow", name := "<init>", desc := "()V" } : Jvm.MethodName) ∈ wU := wU_1 (List.mem_of_getElem? (i := 25) rfl) rfl
theorem tw_26 : Jvm.Cond.instanceMethod ({ cls := "DovetailRow", name := "<init>", desc := "()V" } : Jvm.MethodName) ∈ wU := wU_1 (List.mem_of_getElem? (i := 26) rfl) rfl
theorem tw_27 : Jvm.Cond.code ({ cls := "DovetailRow", name := "<init>", desc := "()V" } : Jvm.MethodName) prog_1_method_1_code (1 : Nat) (Option.none : Option Jvm.ClassFile.FieldType) ∈ wU := wU_1 (List.mem_of_getElem? (i := 27) rfl) rfl
theorem tw_28 : Jvm.Cond.methodLink "DovetailRow" (1 : Nat) ({ cls := "java/lang/Object", name := "<init>", desc := "()V" } : Jvm.MethodName) ∈ wU := wU_1 (List.mem_of_getElem? (i := 28) rfl) rfl
theorem tw_29 : Jvm.Cond.instanceMethod ({ cls := "java/lang/Object", name := "<init>", desc := "()V" } : Jvm.MethodName) ∈ wU := wU_1 (List.mem_of_getElem? (i := 29) rfl) rfl
theorem tw_30 : Jvm.Cond.code ({ cls := "java/lang/Object", name := "<init>", desc := "()V" } : Jvm.MethodName) object_method_1_code (1 : Nat) (Option.none : Option Jvm.ClassFile.FieldType) ∈ wU := wU_1 (List.mem_of_getElem? (i := 30) rfl) rfl
theorem tw_31 : Jvm.Cond.classLink "DovetailRow" (7 : Nat) "java/util/ArrayList" ∈ wU := wU_1 (List.mem_of_getElem? (i := 31) rfl) rfl
theorem tw_32 : Jvm.Cond.instantiable "java/util/ArrayList" (3 : Nat) ∈ wU := wU_1 (List.mem_of_getElem? (i := 32) rfl) rfl
theorem tw_33 : Jvm.Cond.methodLink "DovetailRow" (9 : Nat) ({ cls := "java/util/ArrayList", name := "<init>", desc := "()V" } : Jvm.MethodName) ∈ wU := wU_1 (List.mem_of_getElem? (i := 33) rfl) rfl
theorem tw_34 : Jvm.Cond.instanceMethod ({ cls := "java/util/ArrayList", name := "<init>", desc := "()V" } : Jvm.MethodName) ∈ wU := wU_1 (List.mem_of_getElem? (i := 34) rfl) rfl
theorem tw_35 : Jvm.Cond.code ({ cls := "java/util/ArrayList", name := "<init>", desc := "()V" } : Jvm.MethodName) prog_24_method_2_code (1 : Nat) (Option.none : Option Jvm.ClassFile.FieldType) ∈ wU := wU_1 (List.mem_of_getElem? (i := 35) rfl) rfl
theorem tw_36 : Jvm.Cond.methodLink "java/util/ArrayList" (1 : Nat) ({ cls := "java/util/AbstractList", name := "<init>", desc := "()V" } : Jvm.MethodName) ∈ wU := wU_1 (List.mem_of_getElem? (i := 36) rfl) rfl
theorem tw_37 : Jvm.Cond.instanceMethod ({ cls := "java/util/AbstractList", name := "<init>", desc := "()V" } : Jvm.MethodName) ∈ wU := wU_1 (List.mem_of_getElem? (i := 37) rfl) rfl
theorem tw_38 : Jvm.Cond.code ({ cls := "java/util/AbstractList", name := "<init>", desc := "()V" } : Jvm.MethodName) prog_23_method_1_code (1 : Nat) (Option.none : Option Jvm.ClassFile.FieldType) ∈ wU := wU_1 (List.mem_of_getElem? (i := 38) rfl) rfl
theorem tw_39 : Jvm.Cond.methodLink "java/util/AbstractList" (1 : Nat) ({ cls := "java/util/AbstractCollection", name := "<init>", desc := "()V" } : Jvm.MethodName) ∈ wU := wU_1 (List.mem_of_getElem? (i := 39) rfl) rfl
theorem tw_40 : Jvm.Cond.instanceMethod ({ cls := "java/util/AbstractCollection", name := "<init>", desc := "()V" } : Jvm.MethodName) ∈ wU := wU_1 (List.mem_of_getElem? (i := 40) rfl) rfl
theorem tw_41 : Jvm.Cond.code ({ cls := "java/util/AbstractCollection", name := "<init>", desc := "()V" } : Jvm.MethodName) prog_22_method_1_code (1 : Nat) (Option.none : Option Jvm.ClassFile.FieldType) ∈ wU := wU_1 (List.mem_of_getElem? (i := 41) rfl) rfl
theorem tw_42 : Jvm.Cond.methodLink "java/util/AbstractCollection" (1 : Nat) ({ cls := "java/lang/Object", name := "<init>", desc := "()V" } : Jvm.MethodName) ∈ wU := wU_1 (List.mem_of_getElem? (i := 42) rfl) rfl
theorem tw_43 : Jvm.Cond.fieldLink "java/util/ArrayList" (39 : Nat) "java/util/ArrayList" "DEFAULTCAPACITY_EMPTY_ELEMENTDATA" "[Ljava/lang/Object;" ∈ wU := wU_1 (List.mem_of_getElem? (i := 43) rfl) rfl
theorem tw_44 : Jvm.Cond.laysStatic "java/util/ArrayList" "DEFAULTCAPACITY_EMPTY_ELEMENTDATA" "[Ljava/lang/Object;" ∈ lw_tbl := wT_1 (List.mem_of_getElem? (i := 44) rfl)
theorem tw_45 : Jvm.Cond.fieldLink "java/util/ArrayList" (9 : Nat) "java/util/ArrayList" "elementData" "[Ljava/lang/Object;" ∈ wU := wU_1 (List.mem_of_getElem? (i := 45) rfl) rfl
theorem tw_46 : Jvm.Cond.fieldLink "java/util/ArrayList" (48 : Nat) "java/util/ArrayList" "size" "I" ∈ wU := wU_1 (List.mem_of_getElem? (i := 46) rfl) rfl
theorem tw_47 : Jvm.Cond.fieldLink "java/util/AbstractList" (7 : Nat) "java/util/AbstractList" "modCount" "I" ∈ wU := wU_1 (List.mem_of_getElem? (i := 47) rfl) rfl
theorem tw_48 : Jvm.Cond.fieldLink "java/util/ArrayList" (63 : Nat) "java/util/ArrayList" "modCount" "I" ∈ wU := wU_1 (List.mem_of_getElem? (i := 48) rfl) rfl
theorem tw_49 : Jvm.Cond.sameField "java/util/ArrayList" "java/util/AbstractList" "modCount" "I" ∈ wU := wU_1 (List.mem_of_getElem? (i := 49) rfl) rfl
theorem tw_50 : Jvm.Cond.lays "java/util/ArrayList" "java/util/ArrayList" "elementData" "[Ljava/lang/Object;" ∈ wU := wU_1 (List.mem_of_getElem? (i := 50) rfl) rfl
theorem tw_51 : Jvm.Cond.soleField "java/util/ArrayList" "elementData" ∈ wU := wU_1 (List.mem_of_getElem? (i := 51) rfl) rfl
theorem tw_52 : Jvm.Cond.lays "java/util/ArrayList" "java/util/ArrayList" "size" "I" ∈ wU := wU_1 (List.mem_of_getElem? (i := 52) rfl) rfl
theorem tw_53 : Jvm.Cond.soleField "java/util/ArrayList" "size" ∈ wU := wU_1 (List.mem_of_getElem? (i := 53) rfl) rfl
theorem tw_54 : Jvm.Cond.lays "java/util/ArrayList" "java/util/AbstractList" "modCount" "I" ∈ wU := wU_1 (List.mem_of_getElem? (i := 54) rfl) rfl
theorem tw_55 : Jvm.Cond.soleField "java/util/AbstractList" "modCount" ∈ wU := wU_1 (List.mem_of_getElem? (i := 55) rfl) rfl
theorem tw_56 : Jvm.Cond.superclass "java/util/ArrayList" "java/util/AbstractList" ∈ lw_tbl := wT_1 (List.mem_of_getElem? (i := 56) rfl)
theorem tw_57 : Jvm.Cond.methodLink "DovetailRow" (39 : Nat) ({ cls := "java/util/Arrays", name := "fill", desc := "([II)V" } : Jvm.MethodName) ∈ wU := wU_1 (List.mem_of_getElem? (i := 57) rfl) rfl
theorem tw_58 : Jvm.Cond.static ({ cls := "java/util/Arrays", name := "fill", desc := "([II)V" } : Jvm.MethodName) ∈ wU := wU_1 (List.mem_of_getElem? (i := 58) rfl) rfl
theorem tw_59 : Jvm.Cond.code ({ cls := "java/util/Arrays", name := "fill", desc := "([II)V" } : Jvm.MethodName) prog_25_method_103_code (4 : Nat) (Option.none : Option Jvm.ClassFile.FieldType) ∈ wU := wU_1 (List.mem_of_getElem? (i := 59) rfl) rfl
theorem tw_60 : Jvm.Cond.fieldLink "DovetailRow" (10 : Nat) "DovetailRow" "boards" "Ljava/util/ArrayList;" ∈ wU := wU_1 (List.mem_of_getElem? (i := 60) rfl) rfl
theorem tw_61 : Jvm.Cond.fieldLink "DovetailRow" (16 : Nat) "DovetailRow" "parts" "Ljava/util/ArrayList;" ∈ wU := wU_1 (List.mem_of_getElem? (i := 61) rfl) rfl
theorem tw_62 : Jvm.Cond.fieldLink "DovetailRow" (19 : Nat) "DovetailRow" "joints" "Ljava/util/ArrayList;" ∈ wU := wU_1 (List.mem_of_getElem? (i := 62) rfl) rfl
theorem tw_63 : Jvm.Cond.fieldLink "DovetailRow" (22 : Nat) "DovetailRow" "air" "[I" ∈ wU := wU_1 (List.mem_of_getElem? (i := 63) rfl) rfl
theorem tw_64 : Jvm.Cond.fieldLink "DovetailRow" (26 : Nat) "DovetailRow" "nextMonth" "I" ∈ wU := wU_1 (List.mem_of_getElem? (i := 64) rfl) rfl
theorem tw_65 : Jvm.Cond.fieldLink "DovetailRow" (30 : Nat) "DovetailRow" "saw" "I" ∈ wU := wU_1 (List.mem_of_getElem? (i := 65) rfl) rfl
theorem tw_66 : Jvm.Cond.fieldLink "DovetailRow" (33 : Nat) "DovetailRow" "chisel" "I" ∈ wU := wU_1 (List.mem_of_getElem? (i := 66) rfl) rfl
theorem tw_67 : Jvm.Cond.fieldLink "DovetailRow" (36 : Nat) "DovetailRow" "clampCount" "I" ∈ wU := wU_1 (List.mem_of_getElem? (i := 67) rfl) rfl
theorem tw_68 : Jvm.Cond.laysFinal "DovetailRow" "DovetailRow" "boards" "Ljava/util/ArrayList;" ∈ wU := wU_1 (List.mem_of_getElem? (i := 68) rfl) rfl
theorem tw_69 : Jvm.Cond.soleField "DovetailRow" "boards" ∈ wU := wU_1 (List.mem_of_getElem? (i := 69) rfl) rfl
theorem tw_70 : Jvm.Cond.laysFinal "DovetailRow" "DovetailRow" "parts" "Ljava/util/ArrayList;" ∈ wU := wU_1 (List.mem_of_getElem? (i := 70) rfl) rfl
theorem tw_71 : Jvm.Cond.soleField "DovetailRow" "parts" ∈ wU := wU_1 (List.mem_of_getElem? (i := 71) rfl) rfl
theorem tw_72 : Jvm.Cond.laysFinal "DovetailRow" "DovetailRow" "joints" "Ljava/util/ArrayList;" ∈ wU := wU_1 (List.mem_of_getElem? (i := 72) rfl) rfl
theorem tw_73 : Jvm.Cond.soleField "DovetailRow" "joints" ∈ wU := wU_1 (List.mem_of_getElem? (i := 73) rfl) rfl
theorem tw_74 : Jvm.Cond.laysFinal "DovetailRow" "DovetailRow" "air" "[I" ∈ wU := wU_1 (List.mem_of_getElem? (i := 74) rfl) rfl
theorem tw_75 : Jvm.Cond.soleField "DovetailRow" "air" ∈ wU := wU_1 (List.mem_of_getElem? (i := 75) rfl) rfl
theorem tw_76 : Jvm.Cond.lays "DovetailRow" "DovetailRow" "nextMonth" "I" ∈ wU := wU_1 (List.mem_of_getElem? (i := 76) rfl) rfl
theorem tw_77 : Jvm.Cond.soleField "DovetailRow" "nextMonth" ∈ wU := wU_1 (List.mem_of_getElem? (i := 77) rfl) rfl
theorem tw_78 : Jvm.Cond.lays "DovetailRow" "DovetailRow" "saw" "I" ∈ wU := wU_1 (List.mem_of_getElem? (i := 78) rfl) rfl
theorem tw_79 : Jvm.Cond.soleField "DovetailRow" "saw" ∈ wU := wU_1 (List.mem_of_getElem? (i := 79) rfl) rfl
theorem tw_80 : Jvm.Cond.lays "DovetailRow" "DovetailRow" "chisel" "I" ∈ wU := wU_1 (List.mem_of_getElem? (i := 80) rfl) rfl
theorem tw_81 : Jvm.Cond.soleField "DovetailRow" "chisel" ∈ wU := wU_1 (List.mem_of_getElem? (i := 81) rfl) rfl
theorem tw_82 : Jvm.Cond.lays "DovetailRow" "DovetailRow" "clampCount" "I" ∈ wU := wU_1 (List.mem_of_getElem? (i := 82) rfl) rfl
theorem tw_83 : Jvm.Cond.soleField "DovetailRow" "clampCount" ∈ wU := wU_1 (List.mem_of_getElem? (i := 83) rfl) rfl
theorem tw_84 : Jvm.Cond.superclass "DovetailRow" "java/lang/Object" ∈ lw_tbl := wT_1 (List.mem_of_getElem? (i := 84) rfl)
theorem tw_85 : Jvm.Cond.arrayClass Jvm.ClassFile.FieldType.int ∈ wU := wU_1 (List.mem_of_getElem? (i := 85) rfl) rfl
theorem tw_86 : Jvm.Cond.methodLink "DovetailRowLaw" (47 : Nat) ({ cls := "DovetailRow", name := "weather", desc := "(II)I" } : Jvm.MethodName) ∈ wU := wU_1 (List.mem_of_getElem? (i := 86) rfl) rfl
theorem tw_87 : Jvm.Cond.instanceMethod ({ cls := "DovetailRow", name := "weather", desc := "(II)I" } : Jvm.MethodName) ∈ wU := wU_1 (List.mem_of_getElem? (i := 87) rfl) rfl
theorem tw_88 : Jvm.Cond.selects "DovetailRow" ({ cls := "DovetailRow", name := "weather", desc := "(II)I" } : Jvm.MethodName) ({ cls := "DovetailRow", name := "weather", desc := "(II)I" } : Jvm.MethodName) ∈ wU := wU_1 (List.mem_of_getElem? (i := 88) rfl) rfl
theorem tw_89 : Jvm.Cond.code ({ cls := "DovetailRow", name := "weather", desc := "(II)I" } : Jvm.MethodName) prog_1_method_2_code (4 : Nat) (Option.some Jvm.ClassFile.FieldType.int) ∈ wU := wU_1 (List.mem_of_getElem? (i := 89) rfl) rfl
theorem tw_90 : Jvm.Cond.classLink "DovetailRow" (45 : Nat) "java/lang/IndexOutOfBoundsException" ∈ wU := wU_1 (List.mem_of_getElem? (i := 90) rfl) rfl
theorem tw_91 : Jvm.Cond.instantiable "java/lang/IndexOutOfBoundsException" (6 : Nat) ∈ wU := wU_1 (List.mem_of_getElem? (i := 91) rfl) rfl
theorem tw_92 : Jvm.Cond.castable "java/lang/IndexOutOfBoundsException" "java/lang/IndexOutOfBoundsException" ∈ lw_tbl := wT_1 (List.mem_of_getElem? (i := 92) rfl)
theorem tw_93 : Jvm.Cond.declares ({ cls := "java/lang/RuntimeException", name := "<init>", desc := "()V" } : Jvm.MethodName) ∈ lw_tbl := wT_1 (List.mem_of_getElem? (i := 93) rfl)
theorem tw_94 : Jvm.Cond.declares ({ cls := "java/lang/RuntimeException", name := "<init>", desc := "(Ljava/lang/String;)V" } : Jvm.MethodName) ∈ lw_tbl := wT_1 (List.mem_of_getElem? (i := 94) rfl)
theorem tw_95 : Jvm.Cond.declares ({ cls := "java/lang/Exception", name := "<init>", desc := "()V" } : Jvm.MethodName) ∈ lw_tbl := wT_1 (List.mem_of_getElem? (i := 95) rfl)
theorem tw_96 : Jvm.Cond.declares ({ cls := "java/lang/Exception", name := "<init>", desc := "(Ljava/lang/String;)V" } : Jvm.MethodName) ∈ lw_tbl := wT_1 (List.mem_of_getElem? (i := 96) rfl)
theorem tw_97 : Jvm.Cond.declares ({ cls := "java/lang/Throwable", name := "<init>", desc := "()V" } : Jvm.MethodName) ∈ lw_tbl := wT_1 (List.mem_of_getElem? (i := 97) rfl)
theorem tw_98 : Jvm.Cond.declares ({ cls := "java/lang/Throwable", name := "<init>", desc := "(Ljava/lang/String;)V" } : Jvm.MethodName) ∈ lw_tbl := wT_1 (List.mem_of_getElem? (i := 98) rfl)
theorem tw_99 : Jvm.Cond.selects "java/lang/IndexOutOfBoundsException" ({ cls := "java/lang/Throwable", name := "fillInStackTrace", desc := "(I)Ljava/lang/Throwable;" } : Jvm.MethodName) ({ cls := "java/lang/Throwable", name := "fillInStackTrace", desc := "(I)Ljava/lang/Throwable;" } : Jvm.MethodName) ∈ wU := wU_1 (List.mem_of_getElem? (i := 99) rfl) rfl
theorem tw_100 : Jvm.Cond.selects "java/lang/IndexOutOfBoundsException" ({ cls := "java/lang/Throwable", name := "fillInStackTrace", desc := "()Ljava/lang/Throwable;" } : Jvm.MethodName) ({ cls := "java/lang/Throwable", name := "fillInStackTrace", desc := "()Ljava/lang/Throwable;" } : Jvm.MethodName) ∈ wU := wU_1 (List.mem_of_getElem? (i := 100) rfl) rfl
theorem tw_101 : Jvm.Cond.lays "java/lang/IndexOutOfBoundsException" "java/lang/Throwable" "cause" "Ljava/lang/Throwable;" ∈ wU := wU_1 (List.mem_of_getElem? (i := 101) rfl) rfl
theorem tw_102 : Jvm.Cond.lays "java/lang/Throwable" "java/lang/Throwable" "cause" "Ljava/lang/Throwable;" ∈ wU := wU_1 (List.mem_of_getElem? (i := 102) rfl) rfl
theorem tw_103 : Jvm.Cond.lays "java/lang/IndexOutOfBoundsException" "java/lang/Throwable" "stackTrace" "[Ljava/lang/StackTraceElement;" ∈ wU := wU_1 (List.mem_of_getElem? (i := 103) rfl) rfl
theorem tw_104 : Jvm.Cond.lays "java/lang/Throwable" "java/lang/Throwable" "stackTrace" "[Ljava/lang/StackTraceElement;" ∈ wU := wU_1 (List.mem_of_getElem? (i := 104) rfl) rfl
theorem tw_105 : Jvm.Cond.lays "java/lang/IndexOutOfBoundsException" "java/lang/Throwable" "suppressedExceptions" "Ljava/util/List;" ∈ wU := wU_1 (List.mem_of_getElem? (i := 105) rfl) rfl
theorem tw_106 : Jvm.Cond.lays "java/lang/Throwable" "java/lang/Throwable" "suppressedExceptions" "Ljava/util/List;" ∈ wU := wU_1 (List.mem_of_getElem? (i := 106) rfl) rfl
theorem tw_107 : Jvm.Cond.lays "java/lang/IndexOutOfBoundsException" "java/lang/Throwable" "detailMessage" "Ljava/lang/String;" ∈ wU := wU_1 (List.mem_of_getElem? (i := 107) rfl) rfl
theorem tw_108 : Jvm.Cond.lays "java/lang/Throwable" "java/lang/Throwable" "detailMessage" "Ljava/lang/String;" ∈ wU := wU_1 (List.mem_of_getElem? (i := 108) rfl) rfl
theorem tw_109 : Jvm.Cond.lays "java/lang/IndexOutOfBoundsException" "java/lang/Throwable" "backtrace" "Ljava/lang/Object;" ∈ wU := wU_1 (List.mem_of_getElem? (i := 109) rfl) rfl
theorem tw_110 : Jvm.Cond.lays "java/lang/Throwable" "java/lang/Throwable" "backtrace" "Ljava/lang/Object;" ∈ wU := wU_1 (List.mem_of_getElem? (i := 110) rfl) rfl
theorem tw_111 : Jvm.Cond.fieldLink "java/lang/Throwable" (198 : Nat) "java/lang/Throwable" "backtrace" "Ljava/lang/Object;" ∈ wU := wU_1 (List.mem_of_getElem? (i := 111) rfl) rfl
theorem tw_112 : Jvm.Cond.superclass "java/lang/Throwable" "java/lang/Object" ∈ lw_tbl := wT_1 (List.mem_of_getElem? (i := 112) rfl)
theorem tw_113 : Jvm.Cond.instanceMethod ({ cls := "java/lang/Throwable", name := "<init>", desc := "()V" } : Jvm.MethodName) ∈ wU := wU_1 (List.mem_of_getElem? (i := 113) rfl) rfl
theorem tw_114 : Jvm.Cond.code ({ cls := "java/lang/Throwable", name := "<init>", desc := "()V" } : Jvm.MethodName) prog_21_method_1_code (1 : Nat) (Option.none : Option Jvm.ClassFile.FieldType) ∈ wU := wU_1 (List.mem_of_getElem? (i := 114) rfl) rfl
theorem tw_115 : Jvm.Cond.methodLink "java/lang/Throwable" (1 : Nat) ({ cls := "java/lang/Object", name := "<init>", desc := "()V" } : Jvm.MethodName) ∈ wU := wU_1 (List.mem_of_getElem? (i := 115) rfl) rfl
theorem tw_116 : Jvm.Cond.fieldLink "java/lang/Throwable" (13 : Nat) "java/lang/Throwable" "UNASSIGNED_STACK" "[Ljava/lang/StackTraceElement;" ∈ wU := wU_1 (List.mem_of_getElem? (i := 116) rfl) rfl
theorem tw_117 : Jvm.Cond.laysStatic "java/lang/Throwable" "UNASSIGNED_STACK" "[Ljava/lang/StackTraceElement;" ∈ lw_tbl := wT_1 (List.mem_of_getElem? (i := 117) rfl)
theorem tw_118 : Jvm.Cond.fieldLink "java/lang/Throwable" (20 : Nat) "java/lang/Throwable" "SUPPRESSED_SENTINEL" "Ljava/util/List;" ∈ wU := wU_1 (List.mem_of_getElem? (i := 118) rfl) rfl
theorem tw_119 : Jvm.Cond.laysStatic "java/lang/Throwable" "SUPPRESSED_SENTINEL" "Ljava/util/List;" ∈ lw_tbl := wT_1 (List.mem_of_getElem? (i := 119) rfl)
theorem tw_120 : Jvm.Cond.methodLink "java/lang/Throwable" (27 : Nat) ({ cls := "java/lang/Throwable", name := "fillInStackTrace", desc := "()Ljava/lang/Throwable;" } : Jvm.MethodName) ∈ wU := wU_1 (List.mem_of_getElem? (i := 120) rfl) rfl
theorem tw_121 : Jvm.Cond.instanceMethod ({ cls := "java/lang/Throwable", name := "fillInStackTrace", desc := "()Ljava/lang/Throwable;" } : Jvm.MethodName) ∈ wU := wU_1 (List.mem_of_getElem? (i := 121) rfl) rfl
theorem tw_122 : Jvm.Cond.sameMethod "java/lang/Throwable" "java/lang/Throwable" "fillInStackTrace" "()Ljava/lang/Throwable;" ∈ wU := wU_1 (List.mem_of_getElem? (i := 122) rfl) rfl
theorem tw_123 : Jvm.Cond.selects "java/lang/IllegalArgumentException" ({ cls := "java/lang/Throwable", name := "fillInStackTrace", desc := "()Ljava/lang/Throwable;" } : Jvm.MethodName) ({ cls := "java/lang/Throwable", name := "fillInStackTrace", desc := "()Ljava/lang/Throwable;" } : Jvm.MethodName) ∈ wU := wU_1 (List.mem_of_getElem? (i := 123) rfl) rfl
theorem tw_124 : Jvm.Cond.selects "java/lang/IllegalStateException" ({ cls := "java/lang/Throwable", name := "fillInStackTrace", desc := "()Ljava/lang/Throwable;" } : Jvm.MethodName) ({ cls := "java/lang/Throwable", name := "fillInStackTrace", desc := "()Ljava/lang/Throwable;" } : Jvm.MethodName) ∈ wU := wU_1 (List.mem_of_getElem? (i := 124) rfl) rfl
theorem tw_125 : Jvm.Cond.codeSync ({ cls := "java/lang/Throwable", name := "fillInStackTrace", desc := "()Ljava/lang/Throwable;" } : Jvm.MethodName) prog_21_method_18_code (1 : Nat) (Option.some (Jvm.ClassFile.FieldType.object "java/lang/Throwable")) ∈ lw_tbl := wT_1 (List.mem_of_getElem? (i := 125) rfl)
theorem tw_126 : Jvm.Cond.methodLink "java/lang/Throwable" (202 : Nat) ({ cls := "java/lang/Throwable", name := "fillInStackTrace", desc := "(I)Ljava/lang/Throwable;" } : Jvm.MethodName) ∈ wU := wU_1 (List.mem_of_getElem? (i := 126) rfl) rfl
theorem tw_127 : Jvm.Cond.privateMethod ({ cls := "java/lang/Throwable", name := "fillInStackTrace", desc := "(I)Ljava/lang/Throwable;" } : Jvm.MethodName) ∈ lw_tbl := wT_1 (List.mem_of_getElem? (i := 127) rfl)
theorem tw_128 : Jvm.Cond.instanceMethod ({ cls := "java/lang/Throwable", name := "fillInStackTrace", desc := "(I)Ljava/lang/Throwable;" } : Jvm.MethodName) ∈ wU := wU_1 (List.mem_of_getElem? (i := 128) rfl) rfl
theorem tw_129 : Jvm.Cond.instantiable "java/lang/Throwable" (6 : Nat) ∈ wU := wU_1 (List.mem_of_getElem? (i := 129) rfl) rfl
theorem tw_130 : Jvm.Cond.native ({ cls := "java/lang/Throwable", name := "fillInStackTrace", desc := "(I)Ljava/lang/Throwable;" } : Jvm.MethodName) ∈ lw_tbl := wT_1 (List.mem_of_getElem? (i := 130) rfl)
theorem tw_131 : Jvm.Cond.stringRef "DovetailRow" (47 : Nat) "there is no such month" ∈ lw_tbl := wT_1 (List.mem_of_getElem? (i := 131) rfl)
theorem tw_132 : Jvm.Cond.methodLink "DovetailRow" (49 : Nat) ({ cls := "java/lang/IndexOutOfBoundsException", name := "<init>", desc := "(Ljava/lang/String;)V" } : Jvm.MethodName) ∈ wU := wU_1 (List.mem_of_getElem? (i := 132) rfl) rfl
theorem tw_133 : Jvm.Cond.instanceMethod ({ cls := "java/lang/IndexOutOfBoundsException", name := "<init>", desc := "(Ljava/lang/String;)V" } : Jvm.MethodName) ∈ wU := wU_1 (List.mem_of_getElem? (i := 133) rfl) rfl
theorem tw_134 : Jvm.Cond.code ({ cls := "java/lang/IndexOutOfBoundsException", name := "<init>", desc := "(Ljava/lang/String;)V" } : Jvm.MethodName) prog_14_method_2_code (2 : Nat) (Option.none : Option Jvm.ClassFile.FieldType) ∈ wU := wU_1 (List.mem_of_getElem? (i := 134) rfl) rfl
theorem tw_135 : Jvm.Cond.methodLink "java/lang/IndexOutOfBoundsException" (7 : Nat) ({ cls := "java/lang/RuntimeException", name := "<init>", desc := "(Ljava/lang/String;)V" } : Jvm.MethodName) ∈ wU := wU_1 (List.mem_of_getElem? (i := 135) rfl) rfl
theorem tw_136 : Jvm.Cond.instanceMethod ({ cls := "java/lang/RuntimeException", name := "<init>", desc := "(Ljava/lang/String;)V" } : Jvm.MethodName) ∈ wU := wU_1 (List.mem_of_getElem? (i := 136) rfl) rfl
theorem tw_137 : Jvm.Cond.code ({ cls := "java/lang/RuntimeException", name := "<init>", desc := "(Ljava/lang/String;)V" } : Jvm.MethodName) prog_18_method_2_code (2 : Nat) (Option.none : Option Jvm.ClassFile.FieldType) ∈ wU := wU_1 (List.mem_of_getElem? (i := 137) rfl) rfl
theorem tw_138 : Jvm.Cond.methodLink "java/lang/RuntimeException" (7 : Nat) ({ cls := "java/lang/Exception", name := "<init>", desc := "(Ljava/lang/String;)V" } : Jvm.MethodName) ∈ wU := wU_1 (List.mem_of_getElem? (i := 138) rfl) rfl
theorem tw_139 : Jvm.Cond.instanceMethod ({ cls := "java/lang/Exception", name := "<init>", desc := "(Ljava/lang/String;)V" } : Jvm.MethodName) ∈ wU := wU_1 (List.mem_of_getElem? (i := 139) rfl) rfl
theorem tw_140 : Jvm.Cond.code ({ cls := "java/lang/Exception", name := "<init>", desc := "(Ljava/lang/String;)V" } : Jvm.MethodName) prog_11_method_2_code (2 : Nat) (Option.none : Option Jvm.ClassFile.FieldType) ∈ wU := wU_1 (List.mem_of_getElem? (i := 140) rfl) rfl
theorem tw_141 : Jvm.Cond.methodLink "java/lang/Exception" (7 : Nat) ({ cls := "java/lang/Throwable", name := "<init>", desc := "(Ljava/lang/String;)V" } : Jvm.MethodName) ∈ wU := wU_1 (List.mem_of_getElem? (i := 141) rfl) rfl
theorem tw_142 : Jvm.Cond.instanceMethod ({ cls := "java/lang/Throwable", name := "<init>", desc := "(Ljava/lang/String;)V" } : Jvm.MethodName) ∈ wU := wU_1 (List.mem_of_getElem? (i := 142) rfl) rfl
theorem tw_143 : Jvm.Cond.code ({ cls := "java/lang/Throwable", name := "<init>", desc := "(Ljava/lang/String;)V" } : Jvm.MethodName) prog_21_method_2_code (2 : Nat) (Option.none : Option Jvm.ClassFile.FieldType) ∈ wU := wU_1 (List.mem_of_getElem? (i := 143) rfl) rfl
theorem tw_144 : Jvm.Cond.fieldLink "java/lang/Throwable" (198 : Nat) "java/lang/Throwable" "backtrace" "Ljava/lang/Object;" ∈ wU := wU_1 (List.mem_of_getElem? (i := 144) rfl) rfl
theorem tw_145 : Jvm.Cond.fieldLink "java/lang/Throwable" (31 : Nat) "java/lang/Throwable" "detailMessage" "Ljava/lang/String;" ∈ wU := wU_1 (List.mem_of_getElem? (i := 145) rfl) rfl
theorem tw_146 : Jvm.Cond.fieldLink "java/lang/Throwable" (7 : Nat) "java/lang/Throwable" "cause" "Ljava/lang/Throwable;" ∈ wU := wU_1 (List.mem_of_getElem? (i := 146) rfl) rfl
theorem tw_147 : Jvm.Cond.fieldLink "java/lang/Throwable" (17 : Nat) "java/lang/Throwable" "stackTrace" "[Ljava/lang/StackTraceElement;" ∈ wU := wU_1 (List.mem_of_getElem? (i := 147) rfl) rfl
theorem tw_148 : Jvm.Cond.fieldLink "java/lang/Throwable" (24 : Nat) "java/lang/Throwable" "suppressedExceptions" "Ljava/util/List;" ∈ wU := wU_1 (List.mem_of_getElem? (i := 148) rfl) rfl
theorem tw_149 : Jvm.Cond.soleField "java/lang/Throwable" "backtrace" ∈ wU := wU_1 (List.mem_of_getElem? (i := 149) rfl) rfl
theorem tw_150 : Jvm.Cond.soleField "java/lang/Throwable" "detailMessage" ∈ wU := wU_1 (List.mem_of_getElem? (i := 150) rfl) rfl
theorem tw_151 : Jvm.Cond.soleField "java/lang/Throwable" "cause" ∈ wU := wU_1 (List.mem_of_getElem? (i := 151) rfl) rfl
theorem tw_152 : Jvm.Cond.soleField "java/lang/Throwable" "stackTrace" ∈ wU := wU_1 (List.mem_of_getElem? (i := 152) rfl) rfl
theorem tw_153 : Jvm.Cond.lays "java/lang/IndexOutOfBoundsException" "java/lang/Throwable" "depth" "I" ∈ wU := wU_1 (List.mem_of_getElem? (i := 153) rfl) rfl
theorem tw_154 : Jvm.Cond.soleField "java/lang/Throwable" "depth" ∈ wU := wU_1 (List.mem_of_getElem? (i := 154) rfl) rfl
theorem tw_155 : Jvm.Cond.soleField "java/lang/Throwable" "suppressedExceptions" ∈ wU := wU_1 (List.mem_of_getElem? (i := 155) rfl) rfl
theorem tw_156 : Jvm.Cond.superclass "java/lang/IndexOutOfBoundsException" "java/lang/RuntimeException" ∈ lw_tbl := wT_1 (List.mem_of_getElem? (i := 156) rfl)
theorem tw_157 : Jvm.Cond.arrayClass Jvm.ClassFile.FieldType.byte ∈ wU := wU_1 (List.mem_of_getElem? (i := 157) rfl) rfl
theorem tw_158 : Jvm.Cond.methodLink "DovetailRow" (52 : Nat) ({ cls := "DovetailRow", name := "isWithin", desc := "(III)Z" } : Jvm.MethodName) ∈ wU := wU_1 (List.mem_of_getElem? (i := 158) rfl) rfl
theorem tw_159 : Jvm.Cond.static ({ cls := "DovetailRow", name := "isWithin", desc := "(III)Z" } : Jvm.MethodName) ∈ wU := wU_1 (List.mem_of_getElem? (i := 159) rfl) rfl
theorem tw_160 : Jvm.Cond.code ({ cls := "DovetailRow", name := "isWithin", desc := "(III)Z" } : Jvm.MethodName) prog_1_method_22_code (3 : Nat) (Option.some Jvm.ClassFile.FieldType.boolean) ∈ wU := wU_1 (List.mem_of_getElem? (i := 160) rfl) rfl
theorem tw_161 : Jvm.Cond.classLink "DovetailRow" (56 : Nat) "java/lang/IllegalArgumentException" ∈ wU := wU_1 (List.mem_of_getElem? (i := 161) rfl) rfl
theorem tw_162 : Jvm.Cond.instantiable "java/lang/IllegalArgumentException" (6 : Nat) ∈ wU := wU_1 (List.mem_of_getElem? (i := 162) rfl) rfl
theorem tw_163 : Jvm.Cond.castable "java/lang/IllegalArgumentException" "java/lang/IllegalArgumentException" ∈ lw_tbl := wT_1 (List.mem_of_getElem? (i := 163) rfl)
theorem tw_164 : Jvm.Cond.selects "java/lang/IllegalArgumentException" ({ cls := "java/lang/Throwable", name := "fillInStackTrace", desc := "(I)Ljava/lang/Throwable;" } : Jvm.MethodName) ({ cls := "java/lang/Throwable", name := "fillInStackTrace", desc := "(I)Ljava/lang/Throwable;" } : Jvm.MethodName) ∈ wU := wU_1 (List.mem_of_getElem? (i := 164) rfl) rfl
theorem tw_165 : Jvm.Cond.lays "java/lang/IllegalArgumentException" "java/lang/Throwable" "cause" "Ljava/lang/Throwable;" ∈ wU := wU_1 (List.mem_of_getElem? (i := 165) rfl) rfl
theorem tw_166 : Jvm.Cond.lays "java/lang/IllegalArgumentException" "java/lang/Throwable" "stackTrace" "[Ljava/lang/StackTraceElement;" ∈ wU := wU_1 (List.mem_of_getElem? (i := 166) rfl) rfl
theorem tw_167 : Jvm.Cond.lays "java/lang/IllegalArgumentException" "java/lang/Throwable" "suppressedExceptions" "Ljava/util/List;" ∈ wU := wU_1 (List.mem_of_getElem? (i := 167) rfl) rfl
theorem tw_168 : Jvm.Cond.lays "java/lang/IllegalArgumentException" "java/lang/Throwable" "detailMessage" "Ljava/lang/String;" ∈ wU := wU_1 (List.mem_of_getElem? (i := 168) rfl) rfl
theorem tw_169 : Jvm.Cond.lays "java/lang/IllegalArgumentException" "java/lang/Throwable" "backtrace" "Ljava/lang/Object;" ∈ wU := wU_1 (List.mem_of_getElem? (i := 169) rfl) rfl
theorem tw_170 : Jvm.Cond.stringRef "DovetailRow" (58 : Nat) "moisture is out of its range" ∈ lw_tbl := wT_1 (List.mem_of_getElem? (i := 170) rfl)
theorem tw_171 : Jvm.Cond.methodLink "DovetailRow" (60 : Nat) ({ cls := "java/lang/IllegalArgumentException", name := "<init>", desc := "(Ljava/lang/String;)V" } : Jvm.MethodName) ∈ wU := wU_1 (List.mem_of_getElem? (i := 171) rfl) rfl
theorem tw_172 : Jvm.Cond.instanceMethod ({ cls := "java/lang/IllegalArgumentException", name := "<init>", desc := "(Ljava/lang/String;)V" } : Jvm.MethodName) ∈ wU := wU_1 (List.mem_of_getElem? (i := 172) rfl) rfl
theorem tw_173 : Jvm.Cond.code ({ cls := "java/lang/IllegalArgumentException", name := "<init>", desc := "(Ljava/lang/String;)V" } : Jvm.MethodName) prog_12_method_2_code (2 : Nat) (Option.none : Option Jvm.ClassFile.FieldType) ∈ wU := wU_1 (List.mem_of_getElem? (i := 173) rfl) rfl
theorem tw_174 : Jvm.Cond.methodLink "java/lang/IllegalArgumentException" (7 : Nat) ({ cls := "java/lang/RuntimeException", name := "<init>", desc := "(Ljava/lang/String;)V" } : Jvm.MethodName) ∈ wU := wU_1 (List.mem_of_getElem? (i := 174) rfl) rfl
theorem tw_175 : Jvm.Cond.lays "java/lang/IllegalArgumentException" "java/lang/Throwable" "depth" "I" ∈ wU := wU_1 (List.mem_of_getElem? (i := 175) rfl) rfl
theorem tw_176 : Jvm.Cond.superclass "java/lang/IllegalArgumentException" "java/lang/RuntimeException" ∈ lw_tbl := wT_1 (List.mem_of_getElem? (i := 176) rfl)
theorem tw_177 : Jvm.Cond.methodLink "DovetailRowLaw" (68 : Nat) ({ cls := "DovetailRow", name := "pass", desc := "(I)I" } : Jvm.MethodName) ∈ wU := wU_1 (List.mem_of_getElem? (i := 177) rfl) rfl
theorem tw_178 : Jvm.Cond.instanceMethod ({ cls := "DovetailRow", name := "pass", desc := "(I)I" } : Jvm.MethodName) ∈ wU := wU_1 (List.mem_of_getElem? (i := 178) rfl) rfl
theorem tw_179 : Jvm.Cond.selects "DovetailRow" ({ cls := "DovetailRow", name := "pass", desc := "(I)I" } : Jvm.MethodName) ({ cls := "DovetailRow", name := "pass", desc := "(I)I" } : Jvm.MethodName) ∈ wU := wU_1 (List.mem_of_getElem? (i := 179) rfl) rfl
theorem tw_180 : Jvm.Cond.code ({ cls := "DovetailRow", name := "pass", desc := "(I)I" } : Jvm.MethodName) prog_1_method_3_code (4 : Nat) (Option.some Jvm.ClassFile.FieldType.int) ∈ wU := wU_1 (List.mem_of_getElem? (i := 180) rfl) rfl
theorem tw_181 : Jvm.Cond.stringRef "DovetailRow" (61 : Nat) "months is out of its range" ∈ lw_tbl := wT_1 (List.mem_of_getElem? (i := 181) rfl)
theorem tw_182 : Jvm.Cond.classLink "DovetailRow" (63 : Nat) "java/lang/IllegalStateException" ∈ wU := wU_1 (List.mem_of_getElem? (i := 182) rfl) rfl
theorem tw_183 : Jvm.Cond.instantiable "java/lang/IllegalStateException" (6 : Nat) ∈ wU := wU_1 (List.mem_of_getElem? (i := 183) rfl) rfl
theorem tw_184 : Jvm.Cond.castable "java/lang/IllegalStateException" "java/lang/IllegalStateException" ∈ lw_tbl := wT_1 (List.mem_of_getElem? (i := 184) rfl)
theorem tw_185 : Jvm.Cond.selects "java/lang/IllegalStateException" ({ cls := "java/lang/Throwable", name := "fillInStackTrace", desc := "(I)Ljava/lang/Throwable;" } : Jvm.MethodName) ({ cls := "java/lang/Throwable", name := "fillInStackTrace", desc := "(I)Ljava/lang/Throwable;" } : Jvm.MethodName) ∈ wU := wU_1 (List.mem_of_getElem? (i := 185) rfl) rfl
theorem tw_186 : Jvm.Cond.lays "java/lang/IllegalStateException" "java/lang/Throwable" "cause" "Ljava/lang/Throwable;" ∈ wU := wU_1 (List.mem_of_getElem? (i := 186) rfl) rfl
theorem tw_187 : Jvm.Cond.lays "java/lang/IllegalStateException" "java/lang/Throwable" "stackTrace" "[Ljava/lang/StackTraceElement;" ∈ wU := wU_1 (List.mem_of_getElem? (i := 187) rfl) rfl
theorem tw_188 : Jvm.Cond.lays "java/lang/IllegalStateException" "java/lang/Throwable" "suppressedExceptions" "Ljava/util/List;" ∈ wU := wU_1 (List.mem_of_getElem? (i := 188) rfl) rfl
theorem tw_189 : Jvm.Cond.lays "java/lang/IllegalStateException" "java/lang/Throwable" "detailMessage" "Ljava/lang/String;" ∈ wU := wU_1 (List.mem_of_getElem? (i := 189) rfl) rfl
theorem tw_190 : Jvm.Cond.lays "java/lang/IllegalStateException" "java/lang/Throwable" "backtrace" "Ljava/lang/Object;" ∈ wU := wU_1 (List.mem_of_getElem? (i := 190) rfl) rfl
theorem tw_191 : Jvm.Cond.stringRef "DovetailRow" (65 : Nat) "the month would be above 1200" ∈ lw_tbl := wT_1 (List.mem_of_getElem? (i := 191) rfl)
theorem tw_192 : Jvm.Cond.methodLink "DovetailRow" (67 : Nat) ({ cls := "java/lang/IllegalStateException", name := "<init>", desc := "(Ljava/lang/String;)V" } : Jvm.MethodName) ∈ wU := wU_1 (List.mem_of_getElem? (i := 192) rfl) rfl
theorem tw_193 : Jvm.Cond.instanceMethod ({ cls := "java/lang/IllegalStateException", name := "<init>", desc := "(Ljava/lang/String;)V" } : Jvm.MethodName) ∈ wU := wU_1 (List.mem_of_getElem? (i := 193) rfl) rfl
theorem tw_194 : Jvm.Cond.code ({ cls := "java/lang/IllegalStateException", name := "<init>", desc := "(Ljava/lang/String;)V" } : Jvm.MethodName) prog_13_method_2_code (2 : Nat) (Option.none : Option Jvm.ClassFile.FieldType) ∈ wU := wU_1 (List.mem_of_getElem? (i := 194) rfl) rfl
theorem tw_195 : Jvm.Cond.methodLink "java/lang/IllegalStateException" (7 : Nat) ({ cls := "java/lang/RuntimeException", name := "<init>", desc := "(Ljava/lang/String;)V" } : Jvm.MethodName) ∈ wU := wU_1 (List.mem_of_getElem? (i := 195) rfl) rfl
theorem tw_196 : Jvm.Cond.lays "java/lang/IllegalStateException" "java/lang/Throwable" "depth" "I" ∈ wU := wU_1 (List.mem_of_getElem? (i := 196) rfl) rfl
theorem tw_197 : Jvm.Cond.superclass "java/lang/IllegalStateException" "java/lang/RuntimeException" ∈ lw_tbl := wT_1 (List.mem_of_getElem? (i := 197) rfl)
theorem tw_198 : Jvm.Cond.methodLink "DovetailRow" (68 : Nat) ({ cls := "DovetailRow", name := "airIn", desc := "(I)I" } : Jvm.MethodName) ∈ wU := wU_1 (List.mem_of_getElem? (i := 198) rfl) rfl
theorem tw_199 : Jvm.Cond.privateMethod ({ cls := "DovetailRow", name := "airIn", desc := "(I)I" } : Jvm.MethodName) ∈ lw_tbl := wT_1 (List.mem_of_getElem? (i := 199) rfl)
theorem tw_200 : Jvm.Cond.instanceMethod ({ cls := "DovetailRow", name := "airIn", desc := "(I)I" } : Jvm.MethodName) ∈ wU := wU_1 (List.mem_of_getElem? (i := 200) rfl) rfl
theorem tw_201 : Jvm.Cond.code ({ cls := "DovetailRow", name := "airIn", desc := "(I)I" } : Jvm.MethodName) prog_1_method_27_code (2 : Nat) (Option.some Jvm.ClassFile.FieldType.int) ∈ wU := wU_1 (List.mem_of_getElem? (i := 201) rfl) rfl
theorem tw_202 : Jvm.Cond.methodLink "DovetailRow" (313 : Nat) ({ cls := "java/lang/Math", name := "floorMod", desc := "(II)I" } : Jvm.MethodName) ∈ wU := wU_1 (List.mem_of_getElem? (i := 202) rfl) rfl
theorem tw_203 : Jvm.Cond.static ({ cls := "java/lang/Math", name := "floorMod", desc := "(II)I" } : Jvm.MethodName) ∈ wU := wU_1 (List.mem_of_getElem? (i := 203) rfl) rfl
theorem tw_204 : Jvm.Cond.code ({ cls := "java/lang/Math", name := "floorMod", desc := "(II)I" } : Jvm.MethodName) prog_17_method_50_code (3 : Nat) (Option.some Jvm.ClassFile.FieldType.int) ∈ wU := wU_1 (List.mem_of_getElem? (i := 204) rfl) rfl
theorem tw_205 : Jvm.Cond.methodLink "DovetailRow" (72 : Nat) ({ cls := "DovetailRow", name := "moistenAll", desc := "(I)V" } : Jvm.MethodName) ∈ wU := wU_1 (List.mem_of_getElem? (i := 205) rfl) rfl
theorem tw_206 : Jvm.Cond.privateMethod ({ cls := "DovetailRow", name := "moistenAll", desc := "(I)V" } : Jvm.MethodName) ∈ lw_tbl := wT_1 (List.mem_of_getElem? (i := 206) rfl)
theorem tw_207 : Jvm.Cond.instanceMethod ({ cls := "DovetailRow", name := "moistenAll", desc := "(I)V" } : Jvm.MethodName) ∈ wU := wU_1 (List.mem_of_getElem? (i := 207) rfl) rfl
theorem tw_208 : Jvm.Cond.code ({ cls := "DovetailRow", name := "moistenAll", desc := "(I)V" } : Jvm.MethodName) prog_1_method_28_code (3 : Nat) (Option.none : Option Jvm.ClassFile.FieldType) ∈ wU := wU_1 (List.mem_of_getElem? (i := 208) rfl) rfl
theorem tw_209 : Jvm.Cond.methodLink "DovetailRow" (84 : Nat) ({ cls := "java/util/ArrayList", name := "size", desc := "()I" } : Jvm.MethodName) ∈ wU := wU_1 (List.mem_of_getElem? (i := 209) rfl) rfl
theorem tw_210 : Jvm.Cond.instanceMethod ({ cls := "java/util/ArrayList", name := "size", desc := "()I" } : Jvm.MethodName) ∈ wU := wU_1 (List.mem_of_getElem? (i := 210) rfl) rfl
theorem tw_211 : Jvm.Cond.selects "java/util/ArrayList" ({ cls := "java/util/ArrayList", name := "size", desc := "()I" } : Jvm.MethodName) ({ cls := "java/util/ArrayList", name := "size", desc := "()I" } : Jvm.MethodName) ∈ wU := wU_1 (List.mem_of_getElem? (i := 211) rfl) rfl
theorem tw_212 : Jvm.Cond.code ({ cls := "java/util/ArrayList", name := "size", desc := "()I" } : Jvm.MethodName) prog_24_method_8_code (1 : Nat) (Option.some Jvm.ClassFile.FieldType.int) ∈ wU := wU_1 (List.mem_of_getElem? (i := 212) rfl) rfl
theorem tw_213 : Jvm.Cond.methodLink "DovetailRow" (259 : Nat) ({ cls := "java/util/ArrayList", name := "get", desc := "(I)Ljava/lang/Object;" } : Jvm.MethodName) ∈ wU := wU_1 (List.mem_of_getElem? (i := 213) rfl) rfl
theorem tw_214 : Jvm.Cond.instanceMethod ({ cls := "java/util/ArrayList", name := "get", desc := "(I)Ljava/lang/Object;" } : Jvm.MethodName) ∈ wU := wU_1 (List.mem_of_getElem? (i := 214) rfl) rfl
theorem tw_215 : Jvm.Cond.selects "java/util/ArrayList" ({ cls := "java/util/ArrayList", name := "get", desc := "(I)Ljava/lang/Object;" } : Jvm.MethodName) ({ cls := "java/util/ArrayList", name := "get", desc := "(I)Ljava/lang/Object;" } : Jvm.MethodName) ∈ wU := wU_1 (List.mem_of_getElem? (i := 215) rfl) rfl
theorem tw_216 : Jvm.Cond.code ({ cls := "java/util/ArrayList", name := "get", desc := "(I)Ljava/lang/Object;" } : Jvm.MethodName) prog_24_method_20_code (2 : Nat) (Option.some (Jvm.ClassFile.FieldType.object "java/lang/Object")) ∈ wU := wU_1 (List.mem_of_getElem? (i := 216) rfl) rfl
theorem tw_217 : Jvm.Cond.methodLink "java/util/ArrayList" (118 : Nat) ({ cls := "java/util/Objects", name := "checkIndex", desc := "(II)I" } : Jvm.MethodName) ∈ wU := wU_1 (List.mem_of_getElem? (i := 217) rfl) rfl
theorem tw_218 : Jvm.Cond.static ({ cls := "java/util/Objects", name := "checkIndex", desc := "(II)I" } : Jvm.MethodName) ∈ wU := wU_1 (List.mem_of_getElem? (i := 218) rfl) rfl
theorem tw_219 : Jvm.Cond.code ({ cls := "java/util/Objects", name := "checkIndex", desc := "(II)I" } : Jvm.MethodName) prog_28_method_17_code (2 : Nat) (Option.some Jvm.ClassFile.FieldType.int) ∈ wU := wU_1 (List.mem_of_getElem? (i := 219) rfl) rfl
theorem tw_220 : Jvm.Cond.methodLink "java/util/Objects" (105 : Nat) ({ cls := "jdk/internal/util/Preconditions", name := "checkIndex", desc := "(IILjava/util/function/BiFunction;)I" } : Jvm.MethodName) ∈ wU := wU_1 (List.mem_of_getElem? (i := 220) rfl) rfl
theorem tw_221 : Jvm.Cond.static ({ cls := "jdk/internal/util/Preconditions", name := "checkIndex", desc := "(IILjava/util/function/BiFunction;)I" } : Jvm.MethodName) ∈ wU := wU_1 (List.mem_of_getElem? (i := 221) rfl) rfl
theorem tw_222 : Jvm.Cond.code ({ cls := "jdk/internal/util/Preconditions", name := "checkIndex", desc := "(IILjava/util/function/BiFunction;)I" } : Jvm.MethodName) prog_32_method_11_code (3 : Nat) (Option.some Jvm.ClassFile.FieldType.int) ∈ wU := wU_1 (List.mem_of_getElem? (i := 222) rfl) rfl
theorem tw_223 : Jvm.Cond.methodLink "java/util/ArrayList" (123 : Nat) ({ cls := "java/util/ArrayList", name := "elementData", desc := "(I)Ljava/lang/Object;" } : Jvm.MethodName) ∈ wU := wU_1 (List.mem_of_getElem? (i := 223) rfl) rfl
theorem tw_224 : Jvm.Cond.instanceMethod ({ cls := "java/util/ArrayList", name := "elementData", desc := "(I)Ljava/lang/Object;" } : Jvm.MethodName) ∈ wU := wU_1 (List.mem_of_getElem? (i := 224) rfl) rfl
theorem tw_225 : Jvm.Cond.selects "java/util/ArrayList" ({ cls := "java/util/ArrayList", name := "elementData", desc := "(I)Ljava/lang/Object;" } : Jvm.MethodName) ({ cls := "java/util/ArrayList", name := "elementData", desc := "(I)Ljava/lang/Object;" } : Jvm.MethodName) ∈ wU := wU_1 (List.mem_of_getElem? (i := 225) rfl) rfl
theorem tw_226 : Jvm.Cond.code ({ cls := "java/util/ArrayList", name := "elementData", desc := "(I)Ljava/lang/Object;" } : Jvm.MethodName) prog_24_method_18_code (2 : Nat) (Option.some (Jvm.ClassFile.FieldType.object "java/lang/Object")) ∈ wU := wU_1 (List.mem_of_getElem? (i := 226) rfl) rfl
theorem tw_227 : Jvm.Cond.classLink "DovetailRow" (94 : Nat) "DovetailRow$Board" ∈ wU := wU_1 (List.mem_of_getElem? (i := 227) rfl) rfl
theorem tw_228 : Jvm.Cond.methodLink "DovetailRow" (317 : Nat) ({ cls := "DovetailRow$Board", name := "moisten", desc := "(I)V" } : Jvm.MethodName) ∈ wU := wU_1 (List.mem_of_getElem? (i := 228) rfl) rfl
theorem tw_229 : Jvm.Cond.sameMethod "DovetailRow$Board" "DovetailRow$Wood" "moisten" "(I)V" ∈ wU := wU_1 (List.mem_of_getElem? (i := 229) rfl) rfl
theorem tw_230 : Jvm.Cond.declares ({ cls := "DovetailRow$Wood", name := "moisten", desc := "(I)V" } : Jvm.MethodName) ∈ lw_tbl := wT_1 (List.mem_of_getElem? (i := 230) rfl)
theorem tw_231 : Jvm.Cond.selects "DovetailRow$Board" ({ cls := "DovetailRow$Board", name := "moisten", desc := "(I)V" } : Jvm.MethodName) ({ cls := "DovetailRow$Wood", name := "moisten", desc := "(I)V" } : Jvm.MethodName) ∈ wU := wU_1 (List.mem_of_getElem? (i := 231) rfl) rfl
theorem tw_232 : Jvm.Cond.instanceMethod ({ cls := "DovetailRow$Wood", name := "moisten", desc := "(I)V" } : Jvm.MethodName) ∈ wU := wU_1 (List.mem_of_getElem? (i := 232) rfl) rfl
theorem tw_233 : Jvm.Cond.code ({ cls := "DovetailRow$Wood", name := "moisten", desc := "(I)V" } : Jvm.MethodName) prog_6_method_6_code (2 : Nat) (Option.none : Option Jvm.ClassFile.FieldType) ∈ wU := wU_1 (List.mem_of_getElem? (i := 233) rfl) rfl
theorem tw_234 : Jvm.Cond.methodLink "DovetailRow$Wood" (43 : Nat) ({ cls := "DovetailRow$Wood", name := "moistureAfter", desc := "(II)I" } : Jvm.MethodName) ∈ wU := wU_1 (List.mem_of_getElem? (i := 234) rfl) rfl
theorem tw_235 : Jvm.Cond.instanceMethod ({ cls := "DovetailRow$Wood", name := "moistureAfter", desc := "(II)I" } : Jvm.MethodName) ∈ wU := wU_1 (List.mem_of_getElem? (i := 235) rfl) rfl
theorem tw_236 : Jvm.Cond.sameMethod "DovetailRow$Wood" "DovetailRow$Wood" "moistureAfter" "(II)I" ∈ wU := wU_1 (List.mem_of_getElem? (i := 236) rfl) rfl
theorem tw_237 : Jvm.Cond.selects "DovetailRow$Board" ({ cls := "DovetailRow$Wood", name := "moistureAfter", desc := "(II)I" } : Jvm.MethodName) ({ cls := "DovetailRow$Wood", name := "moistureAfter", desc := "(II)I" } : Jvm.MethodName) ∈ wU := wU_1 (List.mem_of_getElem? (i := 237) rfl) rfl
theorem tw_238 : Jvm.Cond.selects "DovetailRow$Part" ({ cls := "DovetailRow$Wood", name := "moistureAfter", desc := "(II)I" } : Jvm.MethodName) ({ cls := "DovetailRow$Wood", name := "moistureAfter", desc := "(II)I" } : Jvm.MethodName) ∈ wU := wU_1 (List.mem_of_getElem? (i := 238) rfl) rfl
theorem tw_239 : Jvm.Cond.code ({ cls := "DovetailRow$Wood", name := "moistureAfter", desc := "(II)I" } : Jvm.MethodName) prog_6_method_5_code (6 : Nat) (Option.some Jvm.ClassFile.FieldType.int) ∈ wU := wU_1 (List.mem_of_getElem? (i := 239) rfl) rfl
theorem tw_240 : Jvm.Cond.methodLink "DovetailRow$Wood" (38 : Nat) ({ cls := "java/lang/Integer", name := "signum", desc := "(I)I" } : Jvm.MethodName) ∈ wU := wU_2 (List.mem_of_getElem? (i := 0) rfl) rfl
theorem tw_241 : Jvm.Cond.static ({ cls := "java/lang/Integer", name := "signum", desc := "(I)I" } : Jvm.MethodName) ∈ wU := wU_2 (List.mem_of_getElem? (i := 1) rfl) rfl
theorem tw_242 : Jvm.Cond.code ({ cls := "java/lang/Integer", name := "signum", desc := "(I)I" } : Jvm.MethodName) prog_15_method_56_code (1 : Nat) (Option.some Jvm.ClassFile.FieldType.int) ∈ wU := wU_2 (List.mem_of_getElem? (i := 2) rfl) rfl
theorem tw_243 : Jvm.Cond.classLink "DovetailRow" (156 : Nat) "DovetailRow$Part" ∈ wU := wU_2 (List.mem_of_getElem? (i := 3) rfl) rfl
theorem tw_244 : Jvm.Cond.methodLink "DovetailRow" (320 : Nat) ({ cls := "DovetailRow$Part", name := "moisten", desc := "(I)V" } : Jvm.MethodName) ∈ wU := wU_2 (List.mem_of_getElem? (i := 4) rfl) rfl
theorem tw_245 : Jvm.Cond.sameMethod "DovetailRow$Part" "DovetailRow$Wood" "moisten" "(I)V" ∈ wU := wU_2 (List.mem_of_getElem? (i := 5) rfl) rfl
theorem tw_246 : Jvm.Cond.selects "DovetailRow$Part" ({ cls := "DovetailRow$Part", name := "moisten", desc := "(I)V" } : Jvm.MethodName) ({ cls := "DovetailRow$Wood", name := "moisten", desc := "(I)V" } : Jvm.MethodName) ∈ wU := wU_2 (List.mem_of_getElem? (i := 6) rfl) rfl
theorem tw_247 : Jvm.Cond.methodLink "DovetailRow" (76 : Nat) ({ cls := "DovetailRow", name := "breakJoints", desc := "()I" } : Jvm.MethodName) ∈ wU := wU_2 (List.mem_of_getElem? (i := 7) rfl) rfl
theorem tw_248 : Jvm.Cond.privateMethod ({ cls := "DovetailRow", name := "breakJoints", desc := "()I" } : Jvm.MethodName) ∈ lw_tbl := wT_2 (List.mem_of_getElem? (i := 8) rfl)
theorem tw_249 : Jvm.Cond.instanceMethod ({ cls := "DovetailRow", name := "breakJoints", desc := "()I" } : Jvm.MethodName) ∈ wU := wU_2 (List.mem_of_getElem? (i := 9) rfl) rfl
theorem tw_250 : Jvm.Cond.code ({ cls := "DovetailRow", name := "breakJoints", desc := "()I" } : Jvm.MethodName) prog_1_method_29_code (4 : Nat) (Option.some Jvm.ClassFile.FieldType.int) ∈ wU := wU_2 (List.mem_of_getElem? (i := 10) rfl) rfl
theorem tw_251 : Jvm.Cond.classLink "DovetailRow" (216 : Nat) "DovetailRow$Joint" ∈ wU := wU_2 (List.mem_of_getElem? (i := 11) rfl) rfl
theorem tw_252 : Jvm.Cond.methodLink "DovetailRow" (284 : Nat) ({ cls := "DovetailRow$Joint", name := "isHeld", desc := "()Z" } : Jvm.MethodName) ∈ wU := wU_2 (List.mem_of_getElem? (i := 12) rfl) rfl
theorem tw_253 : Jvm.Cond.instanceMethod ({ cls := "DovetailRow$Joint", name := "isHeld", desc := "()Z" } : Jvm.MethodName) ∈ wU := wU_2 (List.mem_of_getElem? (i := 13) rfl) rfl
theorem tw_254 : Jvm.Cond.selects "DovetailRow$Joint" ({ cls := "DovetailRow$Joint", name := "isHeld", desc := "()Z" } : Jvm.MethodName) ({ cls := "DovetailRow$Joint", name := "isHeld", desc := "()Z" } : Jvm.MethodName) ∈ wU := wU_2 (List.mem_of_getElem? (i := 14) rfl) rfl
theorem tw_255 : Jvm.Cond.code ({ cls := "DovetailRow$Joint", name := "isHeld", desc := "()Z" } : Jvm.MethodName) prog_3_method_3_code (1 : Nat) (Option.some Jvm.ClassFile.FieldType.boolean) ∈ wU := wU_2 (List.mem_of_getElem? (i := 15) rfl) rfl
theorem tw_256 : Jvm.Cond.methodLink "DovetailRow" (321 : Nat) ({ cls := "DovetailRow$Joint", name := "breaksAt", desc := "(I)Z" } : Jvm.MethodName) ∈ wU := wU_2 (List.mem_of_getElem? (i := 16) rfl) rfl
theorem tw_257 : Jvm.Cond.instanceMethod ({ cls := "DovetailRow$Joint", name := "breaksAt", desc := "(I)Z" } : Jvm.MethodName) ∈ wU := wU_2 (List.mem_of_getElem? (i := 17) rfl) rfl
theorem tw_258 : Jvm.Cond.selects "DovetailRow$Joint" ({ cls := "DovetailRow$Joint", name := "breaksAt", desc := "(I)Z" } : Jvm.MethodName) ({ cls := "DovetailRow$Joint", name := "breaksAt", desc := "(I)Z" } : Jvm.MethodName) ∈ wU := wU_2 (List.mem_of_getElem? (i := 18) rfl) rfl
theorem tw_259 : Jvm.Cond.code ({ cls := "DovetailRow$Joint", name := "breaksAt", desc := "(I)Z" } : Jvm.MethodName) prog_3_method_4_code (2 : Nat) (Option.some Jvm.ClassFile.FieldType.boolean) ∈ wU := wU_2 (List.mem_of_getElem? (i := 19) rfl) rfl
theorem tw_260 : Jvm.Cond.methodLink "DovetailRow$Joint" (46 : Nat) ({ cls := "DovetailRow$Part", name := "movementOf", desc := "(II)I" } : Jvm.MethodName) ∈ wU := wU_2 (List.mem_of_getElem? (i := 20) rfl) rfl
theorem tw_261 : Jvm.Cond.sameMethod "DovetailRow$Part" "DovetailRow$Wood" "movementOf" "(II)I" ∈ wU := wU_2 (List.mem_of_getElem? (i := 21) rfl) rfl
theorem tw_262 : Jvm.Cond.declares ({ cls := "DovetailRow$Wood", name := "movementOf", desc := "(II)I" } : Jvm.MethodName) ∈ lw_tbl := wT_2 (List.mem_of_getElem? (i := 22) rfl)
theorem tw_263 : Jvm.Cond.selects "DovetailRow$Part" ({ cls := "DovetailRow$Part", name := "movementOf", desc := "(II)I" } : Jvm.MethodName) ({ cls := "DovetailRow$Wood", name := "movementOf", desc := "(II)I" } : Jvm.MethodName) ∈ wU := wU_2 (List.mem_of_getElem? (i := 23) rfl) rfl
theorem tw_264 : Jvm.Cond.instanceMethod ({ cls := "DovetailRow$Wood", name := "movementOf", desc := "(II)I" } : Jvm.MethodName) ∈ wU := wU_2 (List.mem_of_getElem? (i := 24) rfl) rfl
theorem tw_265 : Jvm.Cond.code ({ cls := "DovetailRow$Wood", name := "movementOf", desc := "(II)I" } : Jvm.MethodName) prog_6_method_2_code (3 : Nat) (Option.some Jvm.ClassFile.FieldType.int) ∈ wU := wU_2 (List.mem_of_getElem? (i := 25) rfl) rfl
theorem tw_266 : Jvm.Cond.methodLinkNest "DovetailRow$Wood" (27 : Nat) ({ cls := "DovetailRow", name := "movingOf", desc := "(I)I" } : Jvm.MethodName) "DovetailRow" ∈ lw_tbl := wT_2 (List.mem_of_getElem? (i := 26) rfl)
theorem tw_267 : Jvm.Cond.static ({ cls := "DovetailRow", name := "movingOf", desc := "(I)I" } : Jvm.MethodName) ∈ wU := wU_2 (List.mem_of_getElem? (i := 27) rfl) rfl
theorem tw_268 : Jvm.Cond.code ({ cls := "DovetailRow", name := "movingOf", desc := "(I)I" } : Jvm.MethodName) prog_1_method_31_code (1 : Nat) (Option.some Jvm.ClassFile.FieldType.int) ∈ wU := wU_2 (List.mem_of_getElem? (i := 28) rfl) rfl
theorem tw_269 : Jvm.Cond.methodLink "DovetailRow$Joint" (50 : Nat) ({ cls := "java/lang/Math", name := "abs", desc := "(I)I" } : Jvm.MethodName) ∈ wU := wU_2 (List.mem_of_getElem? (i := 29) rfl) rfl
theorem tw_270 : Jvm.Cond.static ({ cls := "java/lang/Math", name := "abs", desc := "(I)I" } : Jvm.MethodName) ∈ wU := wU_2 (List.mem_of_getElem? (i := 30) rfl) rfl
theorem tw_271 : Jvm.Cond.code ({ cls := "java/lang/Math", name := "abs", desc := "(I)I" } : Jvm.MethodName) prog_17_method_59_code (1 : Nat) (Option.some Jvm.ClassFile.FieldType.int) ∈ wU := wU_2 (List.mem_of_getElem? (i := 31) rfl) rfl
theorem tw_272 : Jvm.Cond.methodLink "DovetailRow$Joint" (56 : Nat) ({ cls := "DovetailRow$Part", name := "widthAt", desc := "(I)I" } : Jvm.MethodName) ∈ wU := wU_2 (List.mem_of_getElem? (i := 32) rfl) rfl
theorem tw_273 : Jvm.Cond.sameMethod "DovetailRow$Part" "DovetailRow$Wood" "widthAt" "(I)I" ∈ wU := wU_2 (List.mem_of_getElem? (i := 33) rfl) rfl
theorem tw_274 : Jvm.Cond.declares ({ cls := "DovetailRow$Wood", name := "widthAt", desc := "(I)I" } : Jvm.MethodName) ∈ lw_tbl := wT_2 (List.mem_of_getElem? (i := 34) rfl)
theorem tw_275 : Jvm.Cond.selects "DovetailRow$Part" ({ cls := "DovetailRow$Part", name := "widthAt", desc := "(I)I" } : Jvm.MethodName) ({ cls := "DovetailRow$Wood", name := "widthAt", desc := "(I)I" } : Jvm.MethodName) ∈ wU := wU_2 (List.mem_of_getElem? (i := 35) rfl) rfl
theorem tw_276 : Jvm.Cond.instanceMethod ({ cls := "DovetailRow$Wood", name := "widthAt", desc := "(I)I" } : Jvm.MethodName) ∈ wU := wU_2 (List.mem_of_getElem? (i := 36) rfl) rfl
theorem tw_277 : Jvm.Cond.code ({ cls := "DovetailRow$Wood", name := "widthAt", desc := "(I)I" } : Jvm.MethodName) prog_6_method_3_code (2 : Nat) (Option.some Jvm.ClassFile.FieldType.int) ∈ wU := wU_2 (List.mem_of_getElem? (i := 37) rfl) rfl
theorem tw_278 : Jvm.Cond.methodLink "DovetailRow$Wood" (31 : Nat) ({ cls := "DovetailRow$Wood", name := "movementOf", desc := "(II)I" } : Jvm.MethodName) ∈ wU := wU_2 (List.mem_of_getElem? (i := 38) rfl) rfl
theorem tw_279 : Jvm.Cond.methodLink "DovetailRowLaw" (36 : Nat) ({ cls := "DovetailRow", name := "board", desc := "(IIIIII)I" } : Jvm.MethodName) ∈ wU := wU_2 (List.mem_of_getElem? (i := 39) rfl) rfl
theorem tw_280 : Jvm.Cond.instanceMethod ({ cls := "DovetailRow", name := "board", desc := "(IIIIII)I" } : Jvm.MethodName) ∈ wU := wU_2 (List.mem_of_getElem? (i := 40) rfl) rfl
theorem tw_281 : Jvm.Cond.selects "DovetailRow" ({ cls := "DovetailRow", name := "board", desc := "(IIIIII)I" } : Jvm.MethodName) ({ cls := "DovetailRow", name := "board", desc := "(IIIIII)I" } : Jvm.MethodName) ∈ wU := wU_2 (List.mem_of_getElem? (i := 41) rfl) rfl
theorem tw_282 : Jvm.Cond.code ({ cls := "DovetailRow", name := "board", desc := "(IIIIII)I" } : Jvm.MethodName) prog_1_method_4_code (8 : Nat) (Option.some Jvm.ClassFile.FieldType.int) ∈ wU := wU_2 (List.mem_of_getElem? (i := 42) rfl) rfl
theorem tw_283 : Jvm.Cond.stringRef "DovetailRow" (80 : Nat) "species, flitch or place is out of its range" ∈ lw_tbl := wT_2 (List.mem_of_getElem? (i := 43) rfl)
theorem tw_284 : Jvm.Cond.stringRef "DovetailRow" (82 : Nat) "width, length or moisture is out of its range" ∈ lw_tbl := wT_2 (List.mem_of_getElem? (i := 44) rfl)
theorem tw_285 : Jvm.Cond.stringRef "DovetailRow" (87 : Nat) "there are 20 boards" ∈ lw_tbl := wT_2 (List.mem_of_getElem? (i := 45) rfl)
theorem tw_286 : Jvm.Cond.methodLink "DovetailRow" (89 : Nat) ({ cls := "DovetailRow", name := "suitsFlitch", desc := "(III)Z" } : Jvm.MethodName) ∈ wU := wU_2 (List.mem_of_getElem? (i := 46) rfl) rfl
theorem tw_287 : Jvm.Cond.privateMethod ({ cls := "DovetailRow", name := "suitsFlitch", desc := "(III)Z" } : Jvm.MethodName) ∈ lw_tbl := wT_2 (List.mem_of_getElem? (i := 47) rfl)
theorem tw_288 : Jvm.Cond.instanceMethod ({ cls := "DovetailRow", name := "suitsFlitch", desc := "(III)Z" } : Jvm.MethodName) ∈ wU := wU_2 (List.mem_of_getElem? (i := 48) rfl) rfl
theorem tw_289 : Jvm.Cond.code ({ cls := "DovetailRow", name := "suitsFlitch", desc := "(III)Z" } : Jvm.MethodName) prog_1_method_33_code (6 : Nat) (Option.some Jvm.ClassFile.FieldType.boolean) ∈ wU := wU_2 (List.mem_of_getElem? (i := 49) rfl) rfl
theorem tw_290 : Jvm.Cond.stringRef "DovetailRow" (92 : Nat) "the flitch has that place, or is of another species" ∈ lw_tbl := wT_2 (List.mem_of_getElem? (i := 50) rfl)
theorem tw_291 : Jvm.Cond.instantiable "DovetailRow$Board" (11 : Nat) ∈ wU := wU_2 (List.mem_of_getElem? (i := 51) rfl) rfl
theorem tw_292 : Jvm.Cond.methodLink "DovetailRow" (96 : Nat) ({ cls := "DovetailRow$Board", name := "<init>", desc := "(IIIIIII)V" } : Jvm.MethodName) ∈ wU := wU_2 (List.mem_of_getElem? (i := 52) rfl) rfl
theorem tw_293 : Jvm.Cond.instanceMethod ({ cls := "DovetailRow$Board", name := "<init>", desc := "(IIIIIII)V" } : Jvm.MethodName) ∈ wU := wU_2 (List.mem_of_getElem? (i := 53) rfl) rfl
theorem tw_294 : Jvm.Cond.code ({ cls := "DovetailRow$Board", name := "<init>", desc := "(IIIIIII)V" } : Jvm.MethodName) prog_2_method_1_code (8 : Nat) (Option.none : Option Jvm.ClassFile.FieldType) ∈ wU := wU_2 (List.mem_of_getElem? (i := 54) rfl) rfl
theorem tw_295 : Jvm.Cond.methodLink "DovetailRow$Board" (1 : Nat) ({ cls := "DovetailRow$Wood", name := "<init>", desc := "(III)V" } : Jvm.MethodName) ∈ wU := wU_2 (List.mem_of_getElem? (i := 55) rfl) rfl
theorem tw_296 : Jvm.Cond.instanceMethod ({ cls := "DovetailRow$Wood", name := "<init>", desc := "(III)V" } : Jvm.MethodName) ∈ wU := wU_2 (List.mem_of_getElem? (i := 56) rfl) rfl
theorem tw_297 : Jvm.Cond.code ({ cls := "DovetailRow$Wood", name := "<init>", desc := "(III)V" } : Jvm.MethodName) prog_6_method_1_code (4 : Nat) (Option.none : Option Jvm.ClassFile.FieldType) ∈ wU := wU_2 (List.mem_of_getElem? (i := 57) rfl) rfl
theorem tw_298 : Jvm.Cond.methodLink "DovetailRow$Wood" (3 : Nat) ({ cls := "java/lang/Object", name := "<init>", desc := "()V" } : Jvm.MethodName) ∈ wU := wU_2 (List.mem_of_getElem? (i := 58) rfl) rfl
theorem tw_299 : Jvm.Cond.classLink "DovetailRow$Board" (7 : Nat) "java/util/ArrayList" ∈ wU := wU_2 (List.mem_of_getElem? (i := 59) rfl) rfl
theorem tw_300 : Jvm.Cond.methodLink "DovetailRow$Board" (9 : Nat) ({ cls := "java/util/ArrayList", name := "<init>", desc := "()V" } : Jvm.MethodName) ∈ wU := wU_2 (List.mem_of_getElem? (i := 60) rfl) rfl
theorem tw_301 : Jvm.Cond.fieldLink "DovetailRow$Board" (21 : Nat) "DovetailRow$Board" "number" "I" ∈ wU := wU_2 (List.mem_of_getElem? (i := 61) rfl) rfl
theorem tw_302 : Jvm.Cond.fieldLink "DovetailRow" (299 : Nat) "DovetailRow$Board" "number" "I" ∈ wU := wU_2 (List.mem_of_getElem? (i := 62) rfl) rfl
theorem tw_303 : Jvm.Cond.fieldLink "DovetailRow$Board" (25 : Nat) "DovetailRow$Board" "flitch" "I" ∈ wU := wU_2 (List.mem_of_getElem? (i := 63) rfl) rfl
theorem tw_304 : Jvm.Cond.fieldLink "DovetailRow" (189 : Nat) "DovetailRow$Board" "flitch" "I" ∈ wU := wU_2 (List.mem_of_getElem? (i := 64) rfl) rfl
theorem tw_305 : Jvm.Cond.fieldLink "DovetailRow$Board" (28 : Nat) "DovetailRow$Board" "place" "I" ∈ wU := wU_2 (List.mem_of_getElem? (i := 65) rfl) rfl
theorem tw_306 : Jvm.Cond.fieldLink "DovetailRow" (192 : Nat) "DovetailRow$Board" "place" "I" ∈ wU := wU_2 (List.mem_of_getElem? (i := 66) rfl) rfl
theorem tw_307 : Jvm.Cond.fieldLink "DovetailRow$Board" (31 : Nat) "DovetailRow$Board" "length" "I" ∈ wU := wU_2 (List.mem_of_getElem? (i := 67) rfl) rfl
theorem tw_308 : Jvm.Cond.fieldLink "DovetailRow$Board" (12 : Nat) "DovetailRow$Board" "knots" "Ljava/util/ArrayList;" ∈ wU := wU_2 (List.mem_of_getElem? (i := 68) rfl) rfl
theorem tw_309 : Jvm.Cond.fieldLink "DovetailRow" (114 : Nat) "DovetailRow$Board" "knots" "Ljava/util/ArrayList;" ∈ wU := wU_2 (List.mem_of_getElem? (i := 69) rfl) rfl
theorem tw_310 : Jvm.Cond.fieldLink "DovetailRow$Board" (18 : Nat) "DovetailRow$Board" "taken" "Ljava/util/ArrayList;" ∈ wU := wU_2 (List.mem_of_getElem? (i := 70) rfl) rfl
theorem tw_311 : Jvm.Cond.fieldLink "DovetailRow" (119 : Nat) "DovetailRow$Board" "taken" "Ljava/util/ArrayList;" ∈ wU := wU_2 (List.mem_of_getElem? (i := 71) rfl) rfl
theorem tw_312 : Jvm.Cond.fieldLink "DovetailRow$Part" (1 : Nat) "DovetailRow$Board" "species" "I" ∈ wU := wU_2 (List.mem_of_getElem? (i := 72) rfl) rfl
theorem tw_313 : Jvm.Cond.sameField "DovetailRow$Board" "DovetailRow$Wood" "species" "I" ∈ wU := wU_2 (List.mem_of_getElem? (i := 73) rfl) rfl
theorem tw_314 : Jvm.Cond.fieldLink "DovetailRow$Wood" (15 : Nat) "DovetailRow$Wood" "species" "I" ∈ wU := wU_2 (List.mem_of_getElem? (i := 74) rfl) rfl
theorem tw_315 : Jvm.Cond.fieldLink "DovetailRow" (148 : Nat) "DovetailRow$Board" "species" "I" ∈ wU := wU_2 (List.mem_of_getElem? (i := 75) rfl) rfl
theorem tw_316 : Jvm.Cond.fieldLink "DovetailRow" (213 : Nat) "DovetailRow$Part" "species" "I" ∈ wU := wU_2 (List.mem_of_getElem? (i := 76) rfl) rfl
theorem tw_317 : Jvm.Cond.sameField "DovetailRow$Part" "DovetailRow$Wood" "species" "I" ∈ wU := wU_2 (List.mem_of_getElem? (i := 77) rfl) rfl
theorem tw_318 : Jvm.Cond.fieldLink "DovetailRow$Wood" (18 : Nat) "DovetailRow$Wood" "measuredWidth" "I" ∈ wU := wU_2 (List.mem_of_getElem? (i := 78) rfl) rfl
theorem tw_319 : Jvm.Cond.fieldLink "DovetailRow$Wood" (21 : Nat) "DovetailRow$Wood" "measuredMoisture" "I" ∈ wU := wU_2 (List.mem_of_getElem? (i := 79) rfl) rfl
theorem tw_320 : Jvm.Cond.fieldLink "DovetailRow$Part" (7 : Nat) "DovetailRow$Board" "moisture" "I" ∈ wU := wU_2 (List.mem_of_getElem? (i := 80) rfl) rfl
theorem tw_321 : Jvm.Cond.sameField "DovetailRow$Board" "DovetailRow$Wood" "moisture" "I" ∈ wU := wU_2 (List.mem_of_getElem? (i := 81) rfl) rfl
theorem tw_322 : Jvm.Cond.fieldLink "DovetailRow$Wood" (24 : Nat) "DovetailRow$Wood" "moisture" "I" ∈ wU := wU_2 (List.mem_of_getElem? (i := 82) rfl) rfl
theorem tw_323 : Jvm.Cond.fieldLink "DovetailRow$Joint" (41 : Nat) "DovetailRow$Part" "moisture" "I" ∈ wU := wU_2 (List.mem_of_getElem? (i := 83) rfl) rfl
theorem tw_324 : Jvm.Cond.sameField "DovetailRow$Part" "DovetailRow$Wood" "moisture" "I" ∈ wU := wU_2 (List.mem_of_getElem? (i := 84) rfl) rfl
theorem tw_325 : Jvm.Cond.fieldLink "DovetailRow" (294 : Nat) "DovetailRow$Board" "moisture" "I" ∈ wU := wU_2 (List.mem_of_getElem? (i := 85) rfl) rfl
theorem tw_326 : Jvm.Cond.fieldLink "DovetailRow" (302 : Nat) "DovetailRow$Part" "moisture" "I" ∈ wU := wU_2 (List.mem_of_getElem? (i := 86) rfl) rfl
theorem tw_327 : Jvm.Cond.fieldLink "DovetailRow$Wood" (9 : Nat) "DovetailRow$Wood" "coats" "I" ∈ wU := wU_2 (List.mem_of_getElem? (i := 87) rfl) rfl
theorem tw_328 : Jvm.Cond.fieldLink "DovetailRow" (178 : Nat) "DovetailRow$Part" "coats" "I" ∈ wU := wU_2 (List.mem_of_getElem? (i := 88) rfl) rfl
theorem tw_329 : Jvm.Cond.sameField "DovetailRow$Part" "DovetailRow$Wood" "coats" "I" ∈ wU := wU_2 (List.mem_of_getElem? (i := 89) rfl) rfl
theorem tw_330 : Jvm.Cond.laysFinal "DovetailRow$Board" "DovetailRow$Board" "number" "I" ∈ wU := wU_2 (List.mem_of_getElem? (i := 90) rfl) rfl
theorem tw_331 : Jvm.Cond.soleField "DovetailRow$Board" "number" ∈ wU := wU_2 (List.mem_of_getElem? (i := 91) rfl) rfl
theorem tw_332 : Jvm.Cond.laysFinal "DovetailRow$Board" "DovetailRow$Board" "flitch" "I" ∈ wU := wU_2 (List.mem_of_getElem? (i := 92) rfl) rfl
theorem tw_333 : Jvm.Cond.soleField "DovetailRow$Board" "flitch" ∈ wU := wU_2 (List.mem_of_getElem? (i := 93) rfl) rfl
theorem tw_334 : Jvm.Cond.laysFinal "DovetailRow$Board" "DovetailRow$Board" "place" "I" ∈ wU := wU_2 (List.mem_of_getElem? (i := 94) rfl) rfl
theorem tw_335 : Jvm.Cond.soleField "DovetailRow$Board" "place" ∈ wU := wU_2 (List.mem_of_getElem? (i := 95) rfl) rfl
theorem tw_336 : Jvm.Cond.laysFinal "DovetailRow$Board" "DovetailRow$Board" "length" "I" ∈ wU := wU_2 (List.mem_of_getElem? (i := 96) rfl) rfl
theorem tw_337 : Jvm.Cond.soleField "DovetailRow$Board" "length" ∈ wU := wU_2 (List.mem_of_getElem? (i := 97) rfl) rfl
theorem tw_338 : Jvm.Cond.laysFinal "DovetailRow$Board" "DovetailRow$Board" "knots" "Ljava/util/ArrayList;" ∈ wU := wU_2 (List.mem_of_getElem? (i := 98) rfl) rfl
theorem tw_339 : Jvm.Cond.soleField "DovetailRow$Board" "knots" ∈ wU := wU_2 (List.mem_of_getElem? (i := 99) rfl) rfl
theorem tw_340 : Jvm.Cond.laysFinal "DovetailRow$Board" "DovetailRow$Board" "taken" "Ljava/util/ArrayList;" ∈ wU := wU_2 (List.mem_of_getElem? (i := 100) rfl) rfl
theorem tw_341 : Jvm.Cond.soleField "DovetailRow$Board" "taken" ∈ wU := wU_2 (List.mem_of_getElem? (i := 101) rfl) rfl
theorem tw_342 : Jvm.Cond.laysFinal "DovetailRow$Board" "DovetailRow$Wood" "species" "I" ∈ wU := wU_2 (List.mem_of_getElem? (i := 102) rfl) rfl
theorem tw_343 : Jvm.Cond.soleField "DovetailRow$Wood" "species" ∈ wU := wU_2 (List.mem_of_getElem? (i := 103) rfl) rfl
theorem tw_344 : Jvm.Cond.laysFinal "DovetailRow$Board" "DovetailRow$Wood" "measuredWidth" "I" ∈ wU := wU_2 (List.mem_of_getElem? (i := 104) rfl) rfl
theorem tw_345 : Jvm.Cond.soleField "DovetailRow$Wood" "measuredWidth" ∈ wU := wU_2 (List.mem_of_getElem? (i := 105) rfl) rfl
theorem tw_346 : Jvm.Cond.laysFinal "DovetailRow$Board" "DovetailRow$Wood" "measuredMoisture" "I" ∈ wU := wU_2 (List.mem_of_getElem? (i := 106) rfl) rfl
theorem tw_347 : Jvm.Cond.soleField "DovetailRow$Wood" "measuredMoisture" ∈ wU := wU_2 (List.mem_of_getElem? (i := 107) rfl) rfl
theorem tw_348 : Jvm.Cond.lays "DovetailRow$Board" "DovetailRow$Wood" "moisture" "I" ∈ wU := wU_2 (List.mem_of_getElem? (i := 108) rfl) rfl
theorem tw_349 : Jvm.Cond.soleField "DovetailRow$Wood" "moisture" ∈ wU := wU_2 (List.mem_of_getElem? (i := 109) rfl) rfl
theorem tw_350 : Jvm.Cond.lays "DovetailRow$Board" "DovetailRow$Wood" "coats" "I" ∈ wU := wU_2 (List.mem_of_getElem? (i := 110) rfl) rfl
theorem tw_351 : Jvm.Cond.soleField "DovetailRow$Wood" "coats" ∈ wU := wU_2 (List.mem_of_getElem? (i := 111) rfl) rfl
theorem tw_352 : Jvm.Cond.superclass "DovetailRow$Board" "DovetailRow$Wood" ∈ lw_tbl := wT_2 (List.mem_of_getElem? (i := 112) rfl)
theorem tw_353 : Jvm.Cond.methodLink "DovetailRow" (99 : Nat) ({ cls := "java/util/ArrayList", name := "add", desc := "(Ljava/lang/Object;)Z" } : Jvm.MethodName) ∈ wU := wU_2 (List.mem_of_getElem? (i := 113) rfl) rfl
theorem tw_354 : Jvm.Cond.instanceMethod ({ cls := "java/util/ArrayList", name := "add", desc := "(Ljava/lang/Object;)Z" } : Jvm.MethodName) ∈ wU := wU_2 (List.mem_of_getElem? (i := 114) rfl) rfl
theorem tw_355 : Jvm.Cond.selects "java/util/ArrayList" ({ cls := "java/util/ArrayList", name := "add", desc := "(Ljava/lang/Object;)Z" } : Jvm.MethodName) ({ cls := "java/util/ArrayList", name := "add", desc := "(Ljava/lang/Object;)Z" } : Jvm.MethodName) ∈ wU := wU_2 (List.mem_of_getElem? (i := 115) rfl) rfl
theorem tw_356 : Jvm.Cond.code ({ cls := "java/util/ArrayList", name := "add", desc := "(Ljava/lang/Object;)Z" } : Jvm.MethodName) prog_24_method_25_code (2 : Nat) (Option.some Jvm.ClassFile.FieldType.boolean) ∈ wU := wU_2 (List.mem_of_getElem? (i := 116) rfl) rfl
theorem tw_357 : Jvm.Cond.methodLink "java/util/ArrayList" (131 : Nat) ({ cls := "java/util/ArrayList", name := "add", desc := "(Ljava/lang/Object;[Ljava/lang/Object;I)V" } : Jvm.MethodName) ∈ wU := wU_2 (List.mem_of_getElem? (i := 117) rfl) rfl
theorem tw_358 : Jvm.Cond.privateMethod ({ cls := "java/util/ArrayList", name := "add", desc := "(Ljava/lang/Object;[Ljava/lang/Object;I)V" } : Jvm.MethodName) ∈ lw_tbl := wT_2 (List.mem_of_getElem? (i := 118) rfl)
theorem tw_359 : Jvm.Cond.instanceMethod ({ cls := "java/util/ArrayList", name := "add", desc := "(Ljava/lang/Object;[Ljava/lang/Object;I)V" } : Jvm.MethodName) ∈ wU := wU_2 (List.mem_of_getElem? (i := 119) rfl) rfl
theorem tw_360 : Jvm.Cond.code ({ cls := "java/util/ArrayList", name := "add", desc := "(Ljava/lang/Object;[Ljava/lang/Object;I)V" } : Jvm.MethodName) prog_24_method_24_code (4 : Nat) (Option.none : Option Jvm.ClassFile.FieldType) ∈ wU := wU_2 (List.mem_of_getElem? (i := 120) rfl) rfl
theorem tw_361 : Jvm.Cond.methodLink "java/util/ArrayList" (129 : Nat) ({ cls := "java/util/ArrayList", name := "grow", desc := "()[Ljava/lang/Object;" } : Jvm.MethodName) ∈ wU := wU_2 (List.mem_of_getElem? (i := 121) rfl) rfl
theorem tw_362 : Jvm.Cond.privateMethod ({ cls := "java/util/ArrayList", name := "grow", desc := "()[Ljava/lang/Object;" } : Jvm.MethodName) ∈ lw_tbl := wT_2 (List.mem_of_getElem? (i := 122) rfl)
theorem tw_363 : Jvm.Cond.instanceMethod ({ cls := "java/util/ArrayList", name := "grow", desc := "()[Ljava/lang/Object;" } : Jvm.MethodName) ∈ wU := wU_2 (List.mem_of_getElem? (i := 123) rfl) rfl
theorem tw_364 : Jvm.Cond.code ({ cls := "java/util/ArrayList", name := "grow", desc := "()[Ljava/lang/Object;" } : Jvm.MethodName) prog_24_method_7_code (1 : Nat) (Option.some (Jvm.ClassFile.FieldType.array (Jvm.ClassFile.FieldType.object "java/lang/Object"))) ∈ wU := wU_2 (List.mem_of_getElem? (i := 124) rfl) rfl
theorem tw_365 : Jvm.Cond.methodLink "java/util/ArrayList" (69 : Nat) ({ cls := "java/util/ArrayList", name := "grow", desc := "(I)[Ljava/lang/Object;" } : Jvm.MethodName) ∈ wU := wU_2 (List.mem_of_getElem? (i := 125) rfl) rfl
theorem tw_366 : Jvm.Cond.privateMethod ({ cls := "java/util/ArrayList", name := "grow", desc := "(I)[Ljava/lang/Object;" } : Jvm.MethodName) ∈ lw_tbl := wT_2 (List.mem_of_getElem? (i := 126) rfl)
theorem tw_367 : Jvm.Cond.instanceMethod ({ cls := "java/util/ArrayList", name := "grow", desc := "(I)[Ljava/lang/Object;" } : Jvm.MethodName) ∈ wU := wU_2 (List.mem_of_getElem? (i := 127) rfl) rfl
theorem tw_368 : Jvm.Cond.code ({ cls := "java/util/ArrayList", name := "grow", desc := "(I)[Ljava/lang/Object;" } : Jvm.MethodName) prog_24_method_6_code (4 : Nat) (Option.some (Jvm.ClassFile.FieldType.array (Jvm.ClassFile.FieldType.object "java/lang/Object"))) ∈ wU := wU_2 (List.mem_of_getElem? (i := 128) rfl) rfl
theorem tw_369 : Jvm.Cond.methodLink "java/util/ArrayList" (73 : Nat) ({ cls := "jdk/internal/util/ArraysSupport", name := "newLength", desc := "(III)I" } : Jvm.MethodName) ∈ wU := wU_2 (List.mem_of_getElem? (i := 129) rfl) rfl
theorem tw_370 : Jvm.Cond.static ({ cls := "jdk/internal/util/ArraysSupport", name := "newLength", desc := "(III)I" } : Jvm.MethodName) ∈ wU := wU_2 (List.mem_of_getElem? (i := 130) rfl) rfl
theorem tw_371 : Jvm.Cond.code ({ cls := "jdk/internal/util/ArraysSupport", name := "newLength", desc := "(III)I" } : Jvm.MethodName) prog_31_method_27_code (4 : Nat) (Option.some Jvm.ClassFile.FieldType.int) ∈ wU := wU_2 (List.mem_of_getElem? (i := 131) rfl) rfl
theorem tw_372 : Jvm.Cond.methodLink "jdk/internal/util/ArraysSupport" (194 : Nat) ({ cls := "java/lang/Math", name := "max", desc := "(II)I" } : Jvm.MethodName) ∈ wU := wU_2 (List.mem_of_getElem? (i := 132) rfl) rfl
theorem tw_373 : Jvm.Cond.static ({ cls := "java/lang/Math", name := "max", desc := "(II)I" } : Jvm.MethodName) ∈ wU := wU_2 (List.mem_of_getElem? (i := 133) rfl) rfl
theorem tw_374 : Jvm.Cond.code ({ cls := "java/lang/Math", name := "max", desc := "(II)I" } : Jvm.MethodName) prog_17_method_65_code (2 : Nat) (Option.some Jvm.ClassFile.FieldType.int) ∈ wU := wU_2 (List.mem_of_getElem? (i := 134) rfl) rfl
theorem tw_375 : Jvm.Cond.constant "jdk/internal/util/ArraysSupport" (200 : Nat) (2147483639 : Int32) ∈ wU := wU_2 (List.mem_of_getElem? (i := 135) rfl) rfl
theorem tw_376 : Jvm.Cond.methodLink "jdk/internal/util/ArraysSupport" (201 : Nat) ({ cls := "jdk/internal/util/ArraysSupport", name := "hugeLength", desc := "(II)I" } : Jvm.MethodName) ∈ wU := wU_2 (List.mem_of_getElem? (i := 136) rfl) rfl
theorem tw_377 : Jvm.Cond.static ({ cls := "jdk/internal/util/ArraysSupport", name := "hugeLength", desc := "(II)I" } : Jvm.MethodName) ∈ wU := wU_2 (List.mem_of_getElem? (i := 137) rfl) rfl
theorem tw_378 : Jvm.Cond.code ({ cls := "jdk/internal/util/ArraysSupport", name := "hugeLength", desc := "(II)I" } : Jvm.MethodName) prog_31_method_28_code (3 : Nat) (Option.some Jvm.ClassFile.FieldType.int) ∈ wU := wU_2 (List.mem_of_getElem? (i := 138) rfl) rfl
theorem tw_379 : Jvm.Cond.methodLink "java/util/ArrayList" (66 : Nat) ({ cls := "java/util/Arrays", name := "copyOf", desc := "([Ljava/lang/Object;I)[Ljava/lang/Object;" } : Jvm.MethodName) ∈ wU := wU_2 (List.mem_of_getElem? (i := 139) rfl) rfl
theorem tw_380 : Jvm.Cond.static ({ cls := "java/util/Arrays", name := "copyOf", desc := "([Ljava/lang/Object;I)[Ljava/lang/Object;" } : Jvm.MethodName) ∈ wU := wU_2 (List.mem_of_getElem? (i := 140) rfl) rfl
theorem tw_381 : Jvm.Cond.code ({ cls := "java/util/Arrays", name := "copyOf", desc := "([Ljava/lang/Object;I)[Ljava/lang/Object;" } : Jvm.MethodName) prog_25_method_119_code (2 : Nat) (Option.some (Jvm.ClassFile.FieldType.array (Jvm.ClassFile.FieldType.object "java/lang/Object"))) ∈ wU := wU_2 (List.mem_of_getElem? (i := 141) rfl) rfl
theorem tw_382 : Jvm.Cond.methodLink "java/util/Arrays" (86 : Nat) ({ cls := "java/lang/Object", name := "getClass", desc := "()Ljava/lang/Class;" } : Jvm.MethodName) ∈ wU := wU_2 (List.mem_of_getElem? (i := 142) rfl) rfl
theorem tw_383 : Jvm.Cond.instanceMethod ({ cls := "java/lang/Object", name := "getClass", desc := "()Ljava/lang/Class;" } : Jvm.MethodName) ∈ wU := wU_2 (List.mem_of_getElem? (i := 143) rfl) rfl
theorem tw_384 : Jvm.Cond.sameMethod "java/lang/Object" "java/lang/Object" "getClass" "()Ljava/lang/Class;" ∈ wU := wU_2 (List.mem_of_getElem? (i := 144) rfl) rfl
theorem tw_385 : Jvm.Cond.selects "DovetailRow" ({ cls := "java/lang/Object", name := "getClass", desc := "()Ljava/lang/Class;" } : Jvm.MethodName) ({ cls := "java/lang/Object", name := "getClass", desc := "()Ljava/lang/Class;" } : Jvm.MethodName) ∈ wU := wU_2 (List.mem_of_getElem? (i := 145) rfl) rfl
theorem tw_386 : Jvm.Cond.selects "DovetailRow$Board" ({ cls := "java/lang/Object", name := "getClass", desc := "()Ljava/lang/Class;" } : Jvm.MethodName) ({ cls := "java/lang/Object", name := "getClass", desc := "()Ljava/lang/Class;" } : Jvm.MethodName) ∈ wU := wU_2 (List.mem_of_getElem? (i := 146) rfl) rfl
theorem tw_387 : Jvm.Cond.selects "DovetailRow$Joint" ({ cls := "java/lang/Object", name := "getClass", desc := "()Ljava/lang/Class;" } : Jvm.MethodName) ({ cls := "java/lang/Object", name := "getClass", desc := "()Ljava/lang/Class;" } : Jvm.MethodName) ∈ wU := wU_2 (List.mem_of_getElem? (i := 147) rfl) rfl
theorem tw_388 : Jvm.Cond.selects "DovetailRow$Part" ({ cls := "java/lang/Object", name := "getClass", desc := "()Ljava/lang/Class;" } : Jvm.MethodName) ({ cls := "java/lang/Object", name := "getClass", desc := "()Ljava/lang/Class;" } : Jvm.MethodName) ∈ wU := wU_2 (List.mem_of_getElem? (i := 148) rfl) rfl
theorem tw_389 : Jvm.Cond.selects "DovetailRow$Span" ({ cls := "java/lang/Object", name := "getClass", desc := "()Ljava/lang/Class;" } : Jvm.MethodName) ({ cls := "java/lang/Object", name := "getClass", desc := "()Ljava/lang/Class;" } : Jvm.MethodName) ∈ wU := wU_2 (List.mem_of_getElem? (i := 149) rfl) rfl
theorem tw_390 : Jvm.Cond.selects "java/lang/IllegalArgumentException" ({ cls := "java/lang/Object", name := "getClass", desc := "()Ljava/lang/Class;" } : Jvm.MethodName) ({ cls := "java/lang/Object", name := "getClass", desc := "()Ljava/lang/Class;" } : Jvm.MethodName) ∈ wU := wU_2 (List.mem_of_getElem? (i := 150) rfl) rfl
theorem tw_391 : Jvm.Cond.selects "java/lang/IllegalStateException" ({ cls := "java/lang/Object", name := "getClass", desc := "()Ljava/lang/Class;" } : Jvm.MethodName) ({ cls := "java/lang/Object", name := "getClass", desc := "()Ljava/lang/Class;" } : Jvm.MethodName) ∈ wU := wU_2 (List.mem_of_getElem? (i := 151) rfl) rfl
theorem tw_392 : Jvm.Cond.selects "java/lang/IndexOutOfBoundsException" ({ cls := "java/lang/Object", name := "getClass", desc := "()Ljava/lang/Class;" } : Jvm.MethodName) ({ cls := "java/lang/Object", name := "getClass", desc := "()Ljava/lang/Class;" } : Jvm.MethodName) ∈ wU := wU_2 (List.mem_of_getElem? (i := 152) rfl) rfl
theorem tw_393 : Jvm.Cond.selects "java/util/ArrayList" ({ cls := "java/lang/Object", name := "getClass", desc := "()Ljava/lang/Class;" } : Jvm.MethodName) ({ cls := "java/lang/Object", name := "getClass", desc := "()Ljava/lang/Class;" } : Jvm.MethodName) ∈ wU := wU_2 (List.mem_of_getElem? (i := 153) rfl) rfl
theorem tw_394 : Jvm.Cond.native ({ cls := "java/lang/Object", name := "getClass", desc := "()Ljava/lang/Class;" } : Jvm.MethodName) ∈ lw_tbl := wT_2 (List.mem_of_getElem? (i := 154) rfl)
theorem tw_395 : Jvm.Cond.methodLink "java/util/Arrays" (300 : Nat) ({ cls := "java/util/Arrays", name := "copyOf", desc := "([Ljava/lang/Object;ILjava/lang/Class;)[Ljava/lang/Object;" } : Jvm.MethodName) ∈ wU := wU_2 (List.mem_of_getElem? (i := 155) rfl) rfl
theorem tw_396 : Jvm.Cond.static ({ cls := "java/util/Arrays", name := "copyOf", desc := "([Ljava/lang/Object;ILjava/lang/Class;)[Ljava/lang/Object;" } : Jvm.MethodName) ∈ wU := wU_2 (List.mem_of_getElem? (i := 156) rfl) rfl
theorem tw_397 : Jvm.Cond.code ({ cls := "java/util/Arrays", name := "copyOf", desc := "([Ljava/lang/Object;ILjava/lang/Class;)[Ljava/lang/Object;" } : Jvm.MethodName) prog_25_method_120_code (4 : Nat) (Option.some (Jvm.ClassFile.FieldType.array (Jvm.ClassFile.FieldType.object "java/lang/Object"))) ∈ wU := wU_2 (List.mem_of_getElem? (i := 157) rfl) rfl
theorem tw_398 : Jvm.Cond.classLink "java/util/Arrays" (110 : Nat) "[Ljava/lang/Object;" ∈ wU := wU_2 (List.mem_of_getElem? (i := 158) rfl) rfl
theorem tw_399 : Jvm.Cond.arrayOver (Jvm.ClassFile.FieldType.object "java/lang/Object") ∈ lw_tbl := wT_2 (List.mem_of_getElem? (i := 159) rfl)
theorem tw_400 : Jvm.Cond.classLink "java/util/Arrays" (2 : Nat) "java/lang/Object" ∈ wU := wU_2 (List.mem_of_getElem? (i := 160) rfl) rfl
theorem tw_401 : Jvm.Cond.methodLink "java/util/Arrays" (304 : Nat) ({ cls := "java/lang/Math", name := "min", desc := "(II)I" } : Jvm.MethodName) ∈ wU := wU_2 (List.mem_of_getElem? (i := 161) rfl) rfl
theorem tw_402 : Jvm.Cond.static ({ cls := "java/lang/Math", name := "min", desc := "(II)I" } : Jvm.MethodName) ∈ wU := wU_2 (List.mem_of_getElem? (i := 162) rfl) rfl
theorem tw_403 : Jvm.Cond.code ({ cls := "java/lang/Math", name := "min", desc := "(II)I" } : Jvm.MethodName) prog_17_method_69_code (2 : Nat) (Option.some Jvm.ClassFile.FieldType.int) ∈ wU := wU_2 (List.mem_of_getElem? (i := 163) rfl) rfl
theorem tw_404 : Jvm.Cond.methodLink "java/util/Arrays" (150 : Nat) ({ cls := "java/lang/System", name := "arraycopy", desc := "(Ljava/lang/Object;ILjava/lang/Object;II)V" } : Jvm.MethodName) ∈ wU := wU_2 (List.mem_of_getElem? (i := 164) rfl) rfl
theorem tw_405 : Jvm.Cond.static ({ cls := "java/lang/System", name := "arraycopy", desc := "(Ljava/lang/Object;ILjava/lang/Object;II)V" } : Jvm.MethodName) ∈ wU := wU_2 (List.mem_of_getElem? (i := 165) rfl) rfl
theorem tw_406 : Jvm.Cond.native ({ cls := "java/lang/System", name := "arraycopy", desc := "(Ljava/lang/Object;ILjava/lang/Object;II)V" } : Jvm.MethodName) ∈ lw_tbl := wT_2 (List.mem_of_getElem? (i := 166) rfl)
theorem tw_407 : Jvm.Cond.methodLink "java/util/ArrayList" (79 : Nat) ({ cls := "java/lang/Math", name := "max", desc := "(II)I" } : Jvm.MethodName) ∈ wU := wU_2 (List.mem_of_getElem? (i := 167) rfl) rfl
theorem tw_408 : Jvm.Cond.classLink "java/util/ArrayList" (7 : Nat) "java/lang/Object" ∈ wU := wU_2 (List.mem_of_getElem? (i := 168) rfl) rfl
theorem tw_409 : Jvm.Cond.methodLink "DovetailRowLaw" (40 : Nat) ({ cls := "DovetailRow", name := "cut", desc := "(IIIIZ)I" } : Jvm.MethodName) ∈ wU := wU_2 (List.mem_of_getElem? (i := 169) rfl) rfl
theorem tw_410 : Jvm.Cond.instanceMethod ({ cls := "DovetailRow", name := "cut", desc := "(IIIIZ)I" } : Jvm.MethodName) ∈ wU := wU_2 (List.mem_of_getElem? (i := 170) rfl) rfl
theorem tw_411 : Jvm.Cond.selects "DovetailRow" ({ cls := "DovetailRow", name := "cut", desc := "(IIIIZ)I" } : Jvm.MethodName) ({ cls := "DovetailRow", name := "cut", desc := "(IIIIZ)I" } : Jvm.MethodName) ∈ wU := wU_2 (List.mem_of_getElem? (i := 171) rfl) rfl
theorem tw_412 : Jvm.Cond.code ({ cls := "DovetailRow", name := "cut", desc := "(IIIIZ)I" } : Jvm.MethodName) prog_1_method_6_code (9 : Nat) (Option.some Jvm.ClassFile.FieldType.int) ∈ wU := wU_2 (List.mem_of_getElem? (i := 172) rfl) rfl
theorem tw_413 : Jvm.Cond.methodLink "DovetailRow" (103 : Nat) ({ cls := "DovetailRow", name := "findBoard", desc := "(I)LDovetailRow$Board;" } : Jvm.MethodName) ∈ wU := wU_2 (List.mem_of_getElem? (i := 173) rfl) rfl
theorem tw_414 : Jvm.Cond.privateMethod ({ cls := "DovetailRow", name := "findBoard", desc := "(I)LDovetailRow$Board;" } : Jvm.MethodName) ∈ lw_tbl := wT_2 (List.mem_of_getElem? (i := 174) rfl)
theorem tw_415 : Jvm.Cond.instanceMethod ({ cls := "DovetailRow", name := "findBoard", desc := "(I)LDovetailRow$Board;" } : Jvm.MethodName) ∈ wU := wU_2 (List.mem_of_getElem? (i := 175) rfl) rfl
theorem tw_416 : Jvm.Cond.code ({ cls := "DovetailRow", name := "findBoard", desc := "(I)LDovetailRow$Board;" } : Jvm.MethodName) prog_1_method_24_code (2 : Nat) (Option.some (Jvm.ClassFile.FieldType.object "DovetailRow$Board")) ∈ wU := wU_2 (List.mem_of_getElem? (i := 176) rfl) rfl
theorem tw_417 : Jvm.Cond.stringRef "DovetailRow" (107 : Nat) "there is no such board" ∈ lw_tbl := wT_2 (List.mem_of_getElem? (i := 177) rfl)
theorem tw_418 : Jvm.Cond.stringRef "DovetailRow" (133 : Nat) "from, length or width is out of its range" ∈ lw_tbl := wT_2 (List.mem_of_getElem? (i := 178) rfl)
theorem tw_419 : Jvm.Cond.stringRef "DovetailRow" (135 : Nat) "there are 40 parts" ∈ lw_tbl := wT_2 (List.mem_of_getElem? (i := 179) rfl)
theorem tw_420 : Jvm.Cond.methodLink "DovetailRow" (137 : Nat) ({ cls := "DovetailRow$Board", name := "hasRoom", desc := "(II)Z" } : Jvm.MethodName) ∈ wU := wU_2 (List.mem_of_getElem? (i := 180) rfl) rfl
theorem tw_421 : Jvm.Cond.instanceMethod ({ cls := "DovetailRow$Board", name := "hasRoom", desc := "(II)Z" } : Jvm.MethodName) ∈ wU := wU_2 (List.mem_of_getElem? (i := 181) rfl) rfl
theorem tw_422 : Jvm.Cond.selects "DovetailRow$Board" ({ cls := "DovetailRow$Board", name := "hasRoom", desc := "(II)Z" } : Jvm.MethodName) ({ cls := "DovetailRow$Board", name := "hasRoom", desc := "(II)Z" } : Jvm.MethodName) ∈ wU := wU_2 (List.mem_of_getElem? (i := 182) rfl) rfl
theorem tw_423 : Jvm.Cond.code ({ cls := "DovetailRow$Board", name := "hasRoom", desc := "(II)Z" } : Jvm.MethodName) prog_2_method_2_code (3 : Nat) (Option.some Jvm.ClassFile.FieldType.boolean) ∈ wU := wU_2 (List.mem_of_getElem? (i := 183) rfl) rfl
theorem tw_424 : Jvm.Cond.methodLinkNest "DovetailRow$Board" (34 : Nat) ({ cls := "DovetailRow", name := "touchesAny", desc := "(Ljava/util/ArrayList;II)Z" } : Jvm.MethodName) "DovetailRow" ∈ lw_tbl := wT_2 (List.mem_of_getElem? (i := 184) rfl)
theorem tw_425 : Jvm.Cond.static ({ cls := "DovetailRow", name := "touchesAny", desc := "(Ljava/util/ArrayList;II)Z" } : Jvm.MethodName) ∈ wU := wU_2 (List.mem_of_getElem? (i := 185) rfl) rfl
theorem tw_426 : Jvm.Cond.code ({ cls := "DovetailRow", name := "touchesAny", desc := "(Ljava/util/ArrayList;II)Z" } : Jvm.MethodName) prog_1_method_34_code (4 : Nat) (Option.some Jvm.ClassFile.FieldType.boolean) ∈ wU := wU_2 (List.mem_of_getElem? (i := 186) rfl) rfl
theorem tw_427 : Jvm.Cond.classLink "DovetailRow" (128 : Nat) "DovetailRow$Span" ∈ wU := wU_2 (List.mem_of_getElem? (i := 187) rfl) rfl
theorem tw_428 : Jvm.Cond.methodLink "DovetailRow" (327 : Nat) ({ cls := "DovetailRow$Span", name := "touches", desc := "(II)Z" } : Jvm.MethodName) ∈ wU := wU_2 (List.mem_of_getElem? (i := 188) rfl) rfl
theorem tw_429 : Jvm.Cond.instanceMethod ({ cls := "DovetailRow$Span", name := "touches", desc := "(II)Z" } : Jvm.MethodName) ∈ wU := wU_2 (List.mem_of_getElem? (i := 189) rfl) rfl
theorem tw_430 : Jvm.Cond.selects "DovetailRow$Span" ({ cls := "DovetailRow$Span", name := "touches", desc := "(II)Z" } : Jvm.MethodName) ({ cls := "DovetailRow$Span", name := "touches", desc := "(II)Z" } : Jvm.MethodName) ∈ wU := wU_2 (List.mem_of_getElem? (i := 190) rfl) rfl
theorem tw_431 : Jvm.Cond.code ({ cls := "DovetailRow$Span", name := "touches", desc := "(II)Z" } : Jvm.MethodName) prog_5_method_2_code (3 : Nat) (Option.some Jvm.ClassFile.FieldType.boolean) ∈ wU := wU_2 (List.mem_of_getElem? (i := 191) rfl) rfl
theorem tw_432 : Jvm.Cond.methodLink "DovetailRow" (141 : Nat) ({ cls := "DovetailRow$Board", name := "widthNow", desc := "()I" } : Jvm.MethodName) ∈ wU := wU_2 (List.mem_of_getElem? (i := 192) rfl) rfl
theorem tw_433 : Jvm.Cond.sameMethod "DovetailRow$Board" "DovetailRow$Wood" "widthNow" "()I" ∈ wU := wU_2 (List.mem_of_getElem? (i := 193) rfl) rfl
theorem tw_434 : Jvm.Cond.declares ({ cls := "DovetailRow$Wood", name := "widthNow", desc := "()I" } : Jvm.MethodName) ∈ lw_tbl := wT_2 (List.mem_of_getElem? (i := 194) rfl)
theorem tw_435 : Jvm.Cond.selects "DovetailRow$Board" ({ cls := "DovetailRow$Board", name := "widthNow", desc := "()I" } : Jvm.MethodName) ({ cls := "DovetailRow$Wood", name := "widthNow", desc := "()I" } : Jvm.MethodName) ∈ wU := wU_2 (List.mem_of_getElem? (i := 195) rfl) rfl
theorem tw_436 : Jvm.Cond.instanceMethod ({ cls := "DovetailRow$Wood", name := "widthNow", desc := "()I" } : Jvm.MethodName) ∈ wU := wU_2 (List.mem_of_getElem? (i := 196) rfl) rfl
theorem tw_437 : Jvm.Cond.code ({ cls := "DovetailRow$Wood", name := "widthNow", desc := "()I" } : Jvm.MethodName) prog_6_method_4_code (1 : Nat) (Option.some Jvm.ClassFile.FieldType.int) ∈ wU := wU_2 (List.mem_of_getElem? (i := 197) rfl) rfl
theorem tw_438 : Jvm.Cond.methodLink "DovetailRow$Wood" (35 : Nat) ({ cls := "DovetailRow$Wood", name := "widthAt", desc := "(I)I" } : Jvm.MethodName) ∈ wU := wU_2 (List.mem_of_getElem? (i := 198) rfl) rfl
theorem tw_439 : Jvm.Cond.stringRef "DovetailRow" (144 : Nat) "the board has no room for it" ∈ lw_tbl := wT_2 (List.mem_of_getElem? (i := 199) rfl)
theorem tw_440 : Jvm.Cond.methodLink "DovetailRow" (122 : Nat) ({ cls := "DovetailRow", name := "touchesAny", desc := "(Ljava/util/ArrayList;II)Z" } : Jvm.MethodName) ∈ wU := wU_2 (List.mem_of_getElem? (i := 200) rfl) rfl
theorem tw_441 : Jvm.Cond.stringRef "DovetailRow" (146 : Nat) "the part would have a knot that is not hidden" ∈ lw_tbl := wT_2 (List.mem_of_getElem? (i := 201) rfl)
theorem tw_442 : Jvm.Cond.methodLink "DovetailRow" (151 : Nat) ({ cls := "DovetailRow", name := "hardnessOf", desc := "(I)I" } : Jvm.MethodName) ∈ wU := wU_2 (List.mem_of_getElem? (i := 202) rfl) rfl
theorem tw_443 : Jvm.Cond.static ({ cls := "DovetailRow", name := "hardnessOf", desc := "(I)I" } : Jvm.MethodName) ∈ wU := wU_2 (List.mem_of_getElem? (i := 203) rfl) rfl
theorem tw_444 : Jvm.Cond.code ({ cls := "DovetailRow", name := "hardnessOf", desc := "(I)I" } : Jvm.MethodName) prog_1_method_32_code (1 : Nat) (Option.some Jvm.ClassFile.FieldType.int) ∈ wU := wU_2 (List.mem_of_getElem? (i := 204) rfl) rfl
theorem tw_445 : Jvm.Cond.stringRef "DovetailRow" (154 : Nat) "the saw is not sharp enough" ∈ lw_tbl := wT_2 (List.mem_of_getElem? (i := 205) rfl)
theorem tw_446 : Jvm.Cond.instantiable "DovetailRow$Part" (9 : Nat) ∈ wU := wU_2 (List.mem_of_getElem? (i := 206) rfl) rfl
theorem tw_447 : Jvm.Cond.methodLink "DovetailRow" (158 : Nat) ({ cls := "DovetailRow$Part", name := "<init>", desc := "(ILDovetailRow$Board;III)V" } : Jvm.MethodName) ∈ wU := wU_2 (List.mem_of_getElem? (i := 207) rfl) rfl
theorem tw_448 : Jvm.Cond.instanceMethod ({ cls := "DovetailRow$Part", name := "<init>", desc := "(ILDovetailRow$Board;III)V" } : Jvm.MethodName) ∈ wU := wU_2 (List.mem_of_getElem? (i := 208) rfl) rfl
theorem tw_449 : Jvm.Cond.code ({ cls := "DovetailRow$Part", name := "<init>", desc := "(ILDovetailRow$Board;III)V" } : Jvm.MethodName) prog_4_method_1_code (6 : Nat) (Option.none : Option Jvm.ClassFile.FieldType) ∈ wU := wU_2 (List.mem_of_getElem? (i := 209) rfl) rfl
theorem tw_450 : Jvm.Cond.methodLink "DovetailRow$Part" (10 : Nat) ({ cls := "DovetailRow$Wood", name := "<init>", desc := "(III)V" } : Jvm.MethodName) ∈ wU := wU_2 (List.mem_of_getElem? (i := 210) rfl) rfl
theorem tw_451 : Jvm.Cond.fieldLink "DovetailRow$Part" (16 : Nat) "DovetailRow$Part" "number" "I" ∈ wU := wU_2 (List.mem_of_getElem? (i := 211) rfl) rfl
theorem tw_452 : Jvm.Cond.fieldLink "DovetailRow" (309 : Nat) "DovetailRow$Part" "number" "I" ∈ wU := wU_2 (List.mem_of_getElem? (i := 212) rfl) rfl
theorem tw_453 : Jvm.Cond.fieldLink "DovetailRow$Part" (21 : Nat) "DovetailRow$Part" "board" "LDovetailRow$Board;" ∈ wU := wU_2 (List.mem_of_getElem? (i := 213) rfl) rfl
theorem tw_454 : Jvm.Cond.fieldLink "DovetailRow" (185 : Nat) "DovetailRow$Part" "board" "LDovetailRow$Board;" ∈ wU := wU_2 (List.mem_of_getElem? (i := 214) rfl) rfl
theorem tw_455 : Jvm.Cond.fieldLink "DovetailRow$Part" (25 : Nat) "DovetailRow$Part" "from" "I" ∈ wU := wU_2 (List.mem_of_getElem? (i := 215) rfl) rfl
theorem tw_456 : Jvm.Cond.fieldLink "DovetailRow" (303 : Nat) "DovetailRow$Part" "from" "I" ∈ wU := wU_2 (List.mem_of_getElem? (i := 216) rfl) rfl
theorem tw_457 : Jvm.Cond.fieldLink "DovetailRow$Part" (28 : Nat) "DovetailRow$Part" "length" "I" ∈ wU := wU_2 (List.mem_of_getElem? (i := 217) rfl) rfl
theorem tw_458 : Jvm.Cond.fieldLink "DovetailRow" (333 : Nat) "DovetailRow$Part" "length" "I" ∈ wU := wU_2 (List.mem_of_getElem? (i := 218) rfl) rfl
theorem tw_459 : Jvm.Cond.laysFinal "DovetailRow$Part" "DovetailRow$Part" "number" "I" ∈ wU := wU_2 (List.mem_of_getElem? (i := 219) rfl) rfl
theorem tw_460 : Jvm.Cond.soleField "DovetailRow$Part" "number" ∈ wU := wU_2 (List.mem_of_getElem? (i := 220) rfl) rfl
theorem tw_461 : Jvm.Cond.laysFinal "DovetailRow$Part" "DovetailRow$Part" "board" "LDovetailRow$Board;" ∈ wU := wU_2 (List.mem_of_getElem? (i := 221) rfl) rfl
theorem tw_462 : Jvm.Cond.soleField "DovetailRow$Part" "board" ∈ wU := wU_2 (List.mem_of_getElem? (i := 222) rfl) rfl
theorem tw_463 : Jvm.Cond.laysFinal "DovetailRow$Part" "DovetailRow$Part" "from" "I" ∈ wU := wU_2 (List.mem_of_getElem? (i := 223) rfl) rfl
theorem tw_464 : Jvm.Cond.soleField "DovetailRow$Part" "from" ∈ wU := wU_2 (List.mem_of_getElem? (i := 224) rfl) rfl
theorem tw_465 : Jvm.Cond.laysFinal "DovetailRow$Part" "DovetailRow$Part" "length" "I" ∈ wU := wU_2 (List.mem_of_getElem? (i := 225) rfl) rfl
theorem tw_466 : Jvm.Cond.soleField "DovetailRow$Part" "length" ∈ wU := wU_2 (List.mem_of_getElem? (i := 226) rfl) rfl
theorem tw_467 : Jvm.Cond.laysFinal "DovetailRow$Part" "DovetailRow$Wood" "species" "I" ∈ wU := wU_2 (List.mem_of_getElem? (i := 227) rfl) rfl
theorem tw_468 : Jvm.Cond.laysFinal "DovetailRow$Part" "DovetailRow$Wood" "measuredWidth" "I" ∈ wU := wU_2 (List.mem_of_getElem? (i := 228) rfl) rfl
theorem tw_469 : Jvm.Cond.laysFinal "DovetailRow$Part" "DovetailRow$Wood" "measuredMoisture" "I" ∈ wU := wU_2 (List.mem_of_getElem? (i := 229) rfl) rfl
theorem tw_470 : Jvm.Cond.lays "DovetailRow$Part" "DovetailRow$Wood" "moisture" "I" ∈ wU := wU_2 (List.mem_of_getElem? (i := 230) rfl) rfl
theorem tw_471 : Jvm.Cond.lays "DovetailRow$Part" "DovetailRow$Wood" "coats" "I" ∈ wU := wU_2 (List.mem_of_getElem? (i := 231) rfl) rfl
theorem tw_472 : Jvm.Cond.superclass "DovetailRow$Part" "DovetailRow$Wood" ∈ lw_tbl := wT_2 (List.mem_of_getElem? (i := 232) rfl)
theorem tw_473 : Jvm.Cond.instantiable "DovetailRow$Span" (2 : Nat) ∈ wU := wU_2 (List.mem_of_getElem? (i := 233) rfl) rfl
theorem tw_474 : Jvm.Cond.methodLink "DovetailRow" (130 : Nat) ({ cls := "DovetailRow$Span", name := "<init>", desc := "(II)V" } : Jvm.MethodName) ∈ wU := wU_2 (List.mem_of_getElem? (i := 234) rfl) rfl
theorem tw_475 : Jvm.Cond.instanceMethod ({ cls := "DovetailRow$Span", name := "<init>", desc := "(II)V" } : Jvm.MethodName) ∈ wU := wU_2 (List.mem_of_getElem? (i := 235) rfl) rfl
theorem tw_476 : Jvm.Cond.code ({ cls := "DovetailRow$Span", name := "<init>", desc := "(II)V" } : Jvm.MethodName) prog_5_method_1_code (3 : Nat) (Option.none : Option Jvm.ClassFile.FieldType) ∈ wU := wU_2 (List.mem_of_getElem? (i := 236) rfl) rfl
theorem tw_477 : Jvm.Cond.methodLink "DovetailRow$Span" (1 : Nat) ({ cls := "java/lang/Object", name := "<init>", desc := "()V" } : Jvm.MethodName) ∈ wU := wU_2 (List.mem_of_getElem? (i := 237) rfl) rfl
theorem tw_478 : Jvm.Cond.fieldLink "DovetailRow$Span" (7 : Nat) "DovetailRow$Span" "from" "I" ∈ wU := wU_2 (List.mem_of_getElem? (i := 238) rfl) rfl
theorem tw_479 : Jvm.Cond.fieldLink "DovetailRow$Span" (13 : Nat) "DovetailRow$Span" "to" "I" ∈ wU := wU_2 (List.mem_of_getElem? (i := 239) rfl) rfl
theorem tw_480 : Jvm.Cond.laysFinal "DovetailRow$Span" "DovetailRow$Span" "from" "I" ∈ wU := wU_3 (List.mem_of_getElem? (i := 0) rfl) rfl
theorem tw_481 : Jvm.Cond.soleField "DovetailRow$Span" "from" ∈ wU := wU_3 (List.mem_of_getElem? (i := 1) rfl) rfl
theorem tw_482 : Jvm.Cond.laysFinal "DovetailRow$Span" "DovetailRow$Span" "to" "I" ∈ wU := wU_3 (List.mem_of_getElem? (i := 2) rfl) rfl
theorem tw_483 : Jvm.Cond.soleField "DovetailRow$Span" "to" ∈ wU := wU_3 (List.mem_of_getElem? (i := 3) rfl) rfl
theorem tw_484 : Jvm.Cond.superclass "DovetailRow$Span" "java/lang/Object" ∈ lw_tbl := wT_3 (List.mem_of_getElem? (i := 4) rfl)
theorem tw_485 : Jvm.Cond.methodLink "DovetailRowLaw" (44 : Nat) ({ cls := "DovetailRow", name := "sharpen", desc := "(I)I" } : Jvm.MethodName) ∈ wU := wU_3 (List.mem_of_getElem? (i := 5) rfl) rfl
theorem tw_486 : Jvm.Cond.instanceMethod ({ cls := "DovetailRow", name := "sharpen", desc := "(I)I" } : Jvm.MethodName) ∈ wU := wU_3 (List.mem_of_getElem? (i := 6) rfl) rfl
theorem tw_487 : Jvm.Cond.selects "DovetailRow" ({ cls := "DovetailRow", name := "sharpen", desc := "(I)I" } : Jvm.MethodName) ({ cls := "DovetailRow", name := "sharpen", desc := "(I)I" } : Jvm.MethodName) ∈ wU := wU_3 (List.mem_of_getElem? (i := 7) rfl) rfl
theorem tw_488 : Jvm.Cond.code ({ cls := "DovetailRow", name := "sharpen", desc := "(I)I" } : Jvm.MethodName) prog_1_method_7_code (3 : Nat) (Option.some Jvm.ClassFile.FieldType.int) ∈ wU := wU_3 (List.mem_of_getElem? (i := 8) rfl) rfl
theorem tw_489 : Jvm.Cond.stringRef "DovetailRow" (161 : Nat) "there is no such edge" ∈ lw_tbl := wT_3 (List.mem_of_getElem? (i := 9) rfl)
theorem tw_490 : Jvm.Cond.methodLink "DovetailRowLaw" (50 : Nat) ({ cls := "DovetailRow", name := "coat", desc := "(I)I" } : Jvm.MethodName) ∈ wU := wU_3 (List.mem_of_getElem? (i := 10) rfl) rfl
theorem tw_491 : Jvm.Cond.instanceMethod ({ cls := "DovetailRow", name := "coat", desc := "(I)I" } : Jvm.MethodName) ∈ wU := wU_3 (List.mem_of_getElem? (i := 11) rfl) rfl
theorem tw_492 : Jvm.Cond.selects "DovetailRow" ({ cls := "DovetailRow", name := "coat", desc := "(I)I" } : Jvm.MethodName) ({ cls := "DovetailRow", name := "coat", desc := "(I)I" } : Jvm.MethodName) ∈ wU := wU_3 (List.mem_of_getElem? (i := 12) rfl) rfl
theorem tw_493 : Jvm.Cond.code ({ cls := "DovetailRow", name := "coat", desc := "(I)I" } : Jvm.MethodName) prog_1_method_9_code (3 : Nat) (Option.some Jvm.ClassFile.FieldType.int) ∈ wU := wU_3 (List.mem_of_getElem? (i := 13) rfl) rfl
theorem tw_494 : Jvm.Cond.methodLink "DovetailRow" (172 : Nat) ({ cls := "DovetailRow", name := "findPart", desc := "(I)LDovetailRow$Part;" } : Jvm.MethodName) ∈ wU := wU_3 (List.mem_of_getElem? (i := 14) rfl) rfl
theorem tw_495 : Jvm.Cond.privateMethod ({ cls := "DovetailRow", name := "findPart", desc := "(I)LDovetailRow$Part;" } : Jvm.MethodName) ∈ lw_tbl := wT_3 (List.mem_of_getElem? (i := 15) rfl)
theorem tw_496 : Jvm.Cond.instanceMethod ({ cls := "DovetailRow", name := "findPart", desc := "(I)LDovetailRow$Part;" } : Jvm.MethodName) ∈ wU := wU_3 (List.mem_of_getElem? (i := 16) rfl) rfl
theorem tw_497 : Jvm.Cond.code ({ cls := "DovetailRow", name := "findPart", desc := "(I)LDovetailRow$Part;" } : Jvm.MethodName) prog_1_method_25_code (2 : Nat) (Option.some (Jvm.ClassFile.FieldType.object "DovetailRow$Part")) ∈ wU := wU_3 (List.mem_of_getElem? (i := 17) rfl) rfl
theorem tw_498 : Jvm.Cond.stringRef "DovetailRow" (176 : Nat) "there is no such part" ∈ lw_tbl := wT_3 (List.mem_of_getElem? (i := 18) rfl)
theorem tw_499 : Jvm.Cond.stringRef "DovetailRow" (181 : Nat) "the part has 6 coats" ∈ lw_tbl := wT_3 (List.mem_of_getElem? (i := 19) rfl)
theorem tw_500 : Jvm.Cond.methodLink "DovetailRowLaw" (53 : Nat) ({ cls := "DovetailRow", name := "joint", desc := "(IIIII)I" } : Jvm.MethodName) ∈ wU := wU_3 (List.mem_of_getElem? (i := 20) rfl) rfl
theorem tw_501 : Jvm.Cond.instanceMethod ({ cls := "DovetailRow", name := "joint", desc := "(IIIII)I" } : Jvm.MethodName) ∈ wU := wU_3 (List.mem_of_getElem? (i := 21) rfl) rfl
theorem tw_502 : Jvm.Cond.selects "DovetailRow" ({ cls := "DovetailRow", name := "joint", desc := "(IIIII)I" } : Jvm.MethodName) ({ cls := "DovetailRow", name := "joint", desc := "(IIIII)I" } : Jvm.MethodName) ∈ wU := wU_3 (List.mem_of_getElem? (i := 22) rfl) rfl
theorem tw_503 : Jvm.Cond.code ({ cls := "DovetailRow", name := "joint", desc := "(IIIII)I" } : Jvm.MethodName) prog_1_method_11_code (10 : Nat) (Option.some Jvm.ClassFile.FieldType.int) ∈ wU := wU_3 (List.mem_of_getElem? (i := 23) rfl) rfl
theorem tw_504 : Jvm.Cond.methodLink "DovetailRow" (200 : Nat) ({ cls := "DovetailRow", name := "isTongue", desc := "(II)Z" } : Jvm.MethodName) ∈ wU := wU_3 (List.mem_of_getElem? (i := 24) rfl) rfl
theorem tw_505 : Jvm.Cond.static ({ cls := "DovetailRow", name := "isTongue", desc := "(II)Z" } : Jvm.MethodName) ∈ wU := wU_3 (List.mem_of_getElem? (i := 25) rfl) rfl
theorem tw_506 : Jvm.Cond.code ({ cls := "DovetailRow", name := "isTongue", desc := "(II)Z" } : Jvm.MethodName) prog_1_method_36_code (2 : Nat) (Option.some Jvm.ClassFile.FieldType.boolean) ∈ wU := wU_3 (List.mem_of_getElem? (i := 26) rfl) rfl
theorem tw_507 : Jvm.Cond.stringRef "DovetailRow" (203 : Nat) "kind, size or tongue is out of its range" ∈ lw_tbl := wT_3 (List.mem_of_getElem? (i := 27) rfl)
theorem tw_508 : Jvm.Cond.stringRef "DovetailRow" (183 : Nat) "both parts are the same" ∈ lw_tbl := wT_3 (List.mem_of_getElem? (i := 28) rfl)
theorem tw_509 : Jvm.Cond.stringRef "DovetailRow" (205 : Nat) "there are 30 joints" ∈ lw_tbl := wT_3 (List.mem_of_getElem? (i := 29) rfl)
theorem tw_510 : Jvm.Cond.methodLink "DovetailRow" (207 : Nat) ({ cls := "DovetailRow", name := "fits", desc := "(ILDovetailRow$Part;II)Z" } : Jvm.MethodName) ∈ wU := wU_3 (List.mem_of_getElem? (i := 30) rfl) rfl
theorem tw_511 : Jvm.Cond.static ({ cls := "DovetailRow", name := "fits", desc := "(ILDovetailRow$Part;II)Z" } : Jvm.MethodName) ∈ wU := wU_3 (List.mem_of_getElem? (i := 31) rfl) rfl
theorem tw_512 : Jvm.Cond.code ({ cls := "DovetailRow", name := "fits", desc := "(ILDovetailRow$Part;II)Z" } : Jvm.MethodName) prog_1_method_37_code (4 : Nat) (Option.some Jvm.ClassFile.FieldType.boolean) ∈ wU := wU_3 (List.mem_of_getElem? (i := 32) rfl) rfl
theorem tw_513 : Jvm.Cond.methodLink "DovetailRow" (278 : Nat) ({ cls := "DovetailRow$Part", name := "widthNow", desc := "()I" } : Jvm.MethodName) ∈ wU := wU_3 (List.mem_of_getElem? (i := 33) rfl) rfl
theorem tw_514 : Jvm.Cond.sameMethod "DovetailRow$Part" "DovetailRow$Wood" "widthNow" "()I" ∈ wU := wU_3 (List.mem_of_getElem? (i := 34) rfl) rfl
theorem tw_515 : Jvm.Cond.selects "DovetailRow$Part" ({ cls := "DovetailRow$Part", name := "widthNow", desc := "()I" } : Jvm.MethodName) ({ cls := "DovetailRow$Wood", name := "widthNow", desc := "()I" } : Jvm.MethodName) ∈ wU := wU_3 (List.mem_of_getElem? (i := 35) rfl) rfl
theorem tw_516 : Jvm.Cond.stringRef "DovetailRow" (211 : Nat) "the size does not fit" ∈ lw_tbl := wT_3 (List.mem_of_getElem? (i := 36) rfl)
theorem tw_517 : Jvm.Cond.stringRef "DovetailRow" (214 : Nat) "the chisel is not sharp enough" ∈ lw_tbl := wT_3 (List.mem_of_getElem? (i := 37) rfl)
theorem tw_518 : Jvm.Cond.instantiable "DovetailRow$Joint" (9 : Nat) ∈ wU := wU_3 (List.mem_of_getElem? (i := 38) rfl) rfl
theorem tw_519 : Jvm.Cond.methodLink "DovetailRow" (218 : Nat) ({ cls := "DovetailRow$Joint", name := "<init>", desc := "(ILDovetailRow$Part;LDovetailRow$Part;II)V" } : Jvm.MethodName) ∈ wU := wU_3 (List.mem_of_getElem? (i := 39) rfl) rfl
theorem tw_520 : Jvm.Cond.instanceMethod ({ cls := "DovetailRow$Joint", name := "<init>", desc := "(ILDovetailRow$Part;LDovetailRow$Part;II)V" } : Jvm.MethodName) ∈ wU := wU_3 (List.mem_of_getElem? (i := 40) rfl) rfl
theorem tw_521 : Jvm.Cond.code ({ cls := "DovetailRow$Joint", name := "<init>", desc := "(ILDovetailRow$Part;LDovetailRow$Part;II)V" } : Jvm.MethodName) prog_3_method_1_code (6 : Nat) (Option.none : Option Jvm.ClassFile.FieldType) ∈ wU := wU_3 (List.mem_of_getElem? (i := 41) rfl) rfl
theorem tw_522 : Jvm.Cond.methodLink "DovetailRow$Joint" (3 : Nat) ({ cls := "java/lang/Object", name := "<init>", desc := "()V" } : Jvm.MethodName) ∈ wU := wU_3 (List.mem_of_getElem? (i := 42) rfl) rfl
theorem tw_523 : Jvm.Cond.fieldLink "DovetailRow$Joint" (25 : Nat) "DovetailRow$Joint" "kind" "I" ∈ wU := wU_3 (List.mem_of_getElem? (i := 43) rfl) rfl
theorem tw_524 : Jvm.Cond.fieldLink "DovetailRow" (271 : Nat) "DovetailRow$Joint" "kind" "I" ∈ wU := wU_3 (List.mem_of_getElem? (i := 44) rfl) rfl
theorem tw_525 : Jvm.Cond.fieldLink "DovetailRow$Joint" (28 : Nat) "DovetailRow$Joint" "part" "LDovetailRow$Part;" ∈ wU := wU_3 (List.mem_of_getElem? (i := 45) rfl) rfl
theorem tw_526 : Jvm.Cond.fieldLink "DovetailRow" (274 : Nat) "DovetailRow$Joint" "part" "LDovetailRow$Part;" ∈ wU := wU_3 (List.mem_of_getElem? (i := 46) rfl) rfl
theorem tw_527 : Jvm.Cond.fieldLink "DovetailRow$Joint" (32 : Nat) "DovetailRow$Joint" "other" "LDovetailRow$Part;" ∈ wU := wU_3 (List.mem_of_getElem? (i := 47) rfl) rfl
theorem tw_528 : Jvm.Cond.fieldLink "DovetailRow" (310 : Nat) "DovetailRow$Joint" "other" "LDovetailRow$Part;" ∈ wU := wU_3 (List.mem_of_getElem? (i := 48) rfl) rfl
theorem tw_529 : Jvm.Cond.fieldLink "DovetailRow$Joint" (38 : Nat) "DovetailRow$Joint" "tongue" "I" ∈ wU := wU_3 (List.mem_of_getElem? (i := 49) rfl) rfl
theorem tw_530 : Jvm.Cond.fieldLink "DovetailRow" (279 : Nat) "DovetailRow$Joint" "tongue" "I" ∈ wU := wU_3 (List.mem_of_getElem? (i := 50) rfl) rfl
theorem tw_531 : Jvm.Cond.fieldLink "DovetailRow$Joint" (35 : Nat) "DovetailRow$Joint" "size" "I" ∈ wU := wU_3 (List.mem_of_getElem? (i := 51) rfl) rfl
theorem tw_532 : Jvm.Cond.fieldLink "DovetailRow" (282 : Nat) "DovetailRow$Joint" "size" "I" ∈ wU := wU_3 (List.mem_of_getElem? (i := 52) rfl) rfl
theorem tw_533 : Jvm.Cond.fieldLink "DovetailRow$Joint" (9 : Nat) "DovetailRow$Joint" "needs" "I" ∈ wU := wU_3 (List.mem_of_getElem? (i := 53) rfl) rfl
theorem tw_534 : Jvm.Cond.fieldLink "DovetailRow" (235 : Nat) "DovetailRow$Joint" "needs" "I" ∈ wU := wU_3 (List.mem_of_getElem? (i := 54) rfl) rfl
theorem tw_535 : Jvm.Cond.fieldLink "DovetailRow$Joint" (15 : Nat) "DovetailRow$Joint" "isGlued" "Z" ∈ wU := wU_3 (List.mem_of_getElem? (i := 55) rfl) rfl
theorem tw_536 : Jvm.Cond.fieldLink "DovetailRow" (229 : Nat) "DovetailRow$Joint" "isGlued" "Z" ∈ wU := wU_3 (List.mem_of_getElem? (i := 56) rfl) rfl
theorem tw_537 : Jvm.Cond.fieldLink "DovetailRow$Joint" (19 : Nat) "DovetailRow$Joint" "isBroken" "Z" ∈ wU := wU_3 (List.mem_of_getElem? (i := 57) rfl) rfl
theorem tw_538 : Jvm.Cond.fieldLink "DovetailRow" (266 : Nat) "DovetailRow$Joint" "isBroken" "Z" ∈ wU := wU_3 (List.mem_of_getElem? (i := 58) rfl) rfl
theorem tw_539 : Jvm.Cond.fieldLink "DovetailRow$Joint" (22 : Nat) "DovetailRow$Joint" "gluedMoisture" "I" ∈ wU := wU_3 (List.mem_of_getElem? (i := 59) rfl) rfl
theorem tw_540 : Jvm.Cond.laysFinal "DovetailRow$Joint" "DovetailRow$Joint" "kind" "I" ∈ wU := wU_3 (List.mem_of_getElem? (i := 60) rfl) rfl
theorem tw_541 : Jvm.Cond.soleField "DovetailRow$Joint" "kind" ∈ wU := wU_3 (List.mem_of_getElem? (i := 61) rfl) rfl
theorem tw_542 : Jvm.Cond.laysFinal "DovetailRow$Joint" "DovetailRow$Joint" "part" "LDovetailRow$Part;" ∈ wU := wU_3 (List.mem_of_getElem? (i := 62) rfl) rfl
theorem tw_543 : Jvm.Cond.soleField "DovetailRow$Joint" "part" ∈ wU := wU_3 (List.mem_of_getElem? (i := 63) rfl) rfl
theorem tw_544 : Jvm.Cond.laysFinal "DovetailRow$Joint" "DovetailRow$Joint" "other" "LDovetailRow$Part;" ∈ wU := wU_3 (List.mem_of_getElem? (i := 64) rfl) rfl
theorem tw_545 : Jvm.Cond.soleField "DovetailRow$Joint" "other" ∈ wU := wU_3 (List.mem_of_getElem? (i := 65) rfl) rfl
theorem tw_546 : Jvm.Cond.laysFinal "DovetailRow$Joint" "DovetailRow$Joint" "tongue" "I" ∈ wU := wU_3 (List.mem_of_getElem? (i := 66) rfl) rfl
theorem tw_547 : Jvm.Cond.soleField "DovetailRow$Joint" "tongue" ∈ wU := wU_3 (List.mem_of_getElem? (i := 67) rfl) rfl
theorem tw_548 : Jvm.Cond.lays "DovetailRow$Joint" "DovetailRow$Joint" "size" "I" ∈ wU := wU_3 (List.mem_of_getElem? (i := 68) rfl) rfl
theorem tw_549 : Jvm.Cond.soleField "DovetailRow$Joint" "size" ∈ wU := wU_3 (List.mem_of_getElem? (i := 69) rfl) rfl
theorem tw_550 : Jvm.Cond.lays "DovetailRow$Joint" "DovetailRow$Joint" "needs" "I" ∈ wU := wU_3 (List.mem_of_getElem? (i := 70) rfl) rfl
theorem tw_551 : Jvm.Cond.soleField "DovetailRow$Joint" "needs" ∈ wU := wU_3 (List.mem_of_getElem? (i := 71) rfl) rfl
theorem tw_552 : Jvm.Cond.lays "DovetailRow$Joint" "DovetailRow$Joint" "isGlued" "Z" ∈ wU := wU_3 (List.mem_of_getElem? (i := 72) rfl) rfl
theorem tw_553 : Jvm.Cond.soleField "DovetailRow$Joint" "isGlued" ∈ wU := wU_3 (List.mem_of_getElem? (i := 73) rfl) rfl
theorem tw_554 : Jvm.Cond.lays "DovetailRow$Joint" "DovetailRow$Joint" "isBroken" "Z" ∈ wU := wU_3 (List.mem_of_getElem? (i := 74) rfl) rfl
theorem tw_555 : Jvm.Cond.soleField "DovetailRow$Joint" "isBroken" ∈ wU := wU_3 (List.mem_of_getElem? (i := 75) rfl) rfl
theorem tw_556 : Jvm.Cond.lays "DovetailRow$Joint" "DovetailRow$Joint" "gluedMoisture" "I" ∈ wU := wU_3 (List.mem_of_getElem? (i := 76) rfl) rfl
theorem tw_557 : Jvm.Cond.soleField "DovetailRow$Joint" "gluedMoisture" ∈ wU := wU_3 (List.mem_of_getElem? (i := 77) rfl) rfl
theorem tw_558 : Jvm.Cond.superclass "DovetailRow$Joint" "java/lang/Object" ∈ lw_tbl := wT_3 (List.mem_of_getElem? (i := 78) rfl)
theorem tw_559 : Jvm.Cond.methodLink "DovetailRowLaw" (86 : Nat) ({ cls := "DovetailRow", name := "through", desc := "(I)I" } : Jvm.MethodName) ∈ wU := wU_3 (List.mem_of_getElem? (i := 79) rfl) rfl
theorem tw_560 : Jvm.Cond.instanceMethod ({ cls := "DovetailRow", name := "through", desc := "(I)I" } : Jvm.MethodName) ∈ wU := wU_3 (List.mem_of_getElem? (i := 80) rfl) rfl
theorem tw_561 : Jvm.Cond.selects "DovetailRow" ({ cls := "DovetailRow", name := "through", desc := "(I)I" } : Jvm.MethodName) ({ cls := "DovetailRow", name := "through", desc := "(I)I" } : Jvm.MethodName) ∈ wU := wU_3 (List.mem_of_getElem? (i := 81) rfl) rfl
theorem tw_562 : Jvm.Cond.code ({ cls := "DovetailRow", name := "through", desc := "(I)I" } : Jvm.MethodName) prog_1_method_16_code (5 : Nat) (Option.some Jvm.ClassFile.FieldType.int) ∈ wU := wU_3 (List.mem_of_getElem? (i := 82) rfl) rfl
theorem tw_563 : Jvm.Cond.methodLink "DovetailRow" (288 : Nat) ({ cls := "DovetailRow", name := "monthOfBreak", desc := "(LDovetailRow$Joint;I)I" } : Jvm.MethodName) ∈ wU := wU_3 (List.mem_of_getElem? (i := 83) rfl) rfl
theorem tw_564 : Jvm.Cond.privateMethod ({ cls := "DovetailRow", name := "monthOfBreak", desc := "(LDovetailRow$Joint;I)I" } : Jvm.MethodName) ∈ lw_tbl := wT_3 (List.mem_of_getElem? (i := 84) rfl)
theorem tw_565 : Jvm.Cond.instanceMethod ({ cls := "DovetailRow", name := "monthOfBreak", desc := "(LDovetailRow$Joint;I)I" } : Jvm.MethodName) ∈ wU := wU_3 (List.mem_of_getElem? (i := 85) rfl) rfl
theorem tw_566 : Jvm.Cond.code ({ cls := "DovetailRow", name := "monthOfBreak", desc := "(LDovetailRow$Joint;I)I" } : Jvm.MethodName) prog_1_method_30_code (5 : Nat) (Option.some Jvm.ClassFile.FieldType.int) ∈ wU := wU_3 (List.mem_of_getElem? (i := 86) rfl) rfl
theorem tw_567 : Jvm.Cond.methodLink "DovetailRow" (324 : Nat) ({ cls := "DovetailRow$Part", name := "moistureAfter", desc := "(II)I" } : Jvm.MethodName) ∈ wU := wU_3 (List.mem_of_getElem? (i := 87) rfl) rfl
theorem tw_568 : Jvm.Cond.sameMethod "DovetailRow$Part" "DovetailRow$Wood" "moistureAfter" "(II)I" ∈ wU := wU_3 (List.mem_of_getElem? (i := 88) rfl) rfl
theorem tw_569 : Jvm.Cond.declares ({ cls := "DovetailRow$Wood", name := "moistureAfter", desc := "(II)I" } : Jvm.MethodName) ∈ lw_tbl := wT_3 (List.mem_of_getElem? (i := 89) rfl)
theorem tw_570 : Jvm.Cond.selects "DovetailRow$Part" ({ cls := "DovetailRow$Part", name := "moistureAfter", desc := "(II)I" } : Jvm.MethodName) ({ cls := "DovetailRow$Wood", name := "moistureAfter", desc := "(II)I" } : Jvm.MethodName) ∈ wU := wU_3 (List.mem_of_getElem? (i := 90) rfl) rfl
theorem tw_571 : Jvm.Cond.methodLink "DovetailRowLaw" (71 : Nat) ({ cls := "DovetailRow", name := "month", desc := "()I" } : Jvm.MethodName) ∈ wU := wU_3 (List.mem_of_getElem? (i := 91) rfl) rfl
theorem tw_572 : Jvm.Cond.instanceMethod ({ cls := "DovetailRow", name := "month", desc := "()I" } : Jvm.MethodName) ∈ wU := wU_3 (List.mem_of_getElem? (i := 92) rfl) rfl
theorem tw_573 : Jvm.Cond.selects "DovetailRow" ({ cls := "DovetailRow", name := "month", desc := "()I" } : Jvm.MethodName) ({ cls := "DovetailRow", name := "month", desc := "()I" } : Jvm.MethodName) ∈ wU := wU_3 (List.mem_of_getElem? (i := 93) rfl) rfl
theorem tw_574 : Jvm.Cond.code ({ cls := "DovetailRow", name := "month", desc := "()I" } : Jvm.MethodName) prog_1_method_18_code (1 : Nat) (Option.some Jvm.ClassFile.FieldType.int) ∈ wU := wU_3 (List.mem_of_getElem? (i := 94) rfl) rfl
theorem tw_575 : Jvm.Cond.methodLink "DovetailRowLaw" (78 : Nat) ({ cls := "DovetailRow", name := "ofBoard", desc := "(II)I" } : Jvm.MethodName) ∈ wU := wU_3 (List.mem_of_getElem? (i := 95) rfl) rfl
theorem tw_576 : Jvm.Cond.instanceMethod ({ cls := "DovetailRow", name := "ofBoard", desc := "(II)I" } : Jvm.MethodName) ∈ wU := wU_3 (List.mem_of_getElem? (i := 96) rfl) rfl
theorem tw_577 : Jvm.Cond.selects "DovetailRow" ({ cls := "DovetailRow", name := "ofBoard", desc := "(II)I" } : Jvm.MethodName) ({ cls := "DovetailRow", name := "ofBoard", desc := "(II)I" } : Jvm.MethodName) ∈ wU := wU_3 (List.mem_of_getElem? (i := 97) rfl) rfl
theorem tw_578 : Jvm.Cond.code ({ cls := "DovetailRow", name := "ofBoard", desc := "(II)I" } : Jvm.MethodName) prog_1_method_19_code (4 : Nat) (Option.some Jvm.ClassFile.FieldType.int) ∈ wU := wU_3 (List.mem_of_getElem? (i := 98) rfl) rfl
theorem tw_579 : Jvm.Cond.stringRef "DovetailRow" (297 : Nat) "what is out of its range" ∈ lw_tbl := wT_3 (List.mem_of_getElem? (i := 99) rfl)
theorem tw_580 : Jvm.Cond.methodLink "DovetailRowLaw" (75 : Nat) ({ cls := "DovetailRow", name := "ofPart", desc := "(II)I" } : Jvm.MethodName) ∈ wU := wU_3 (List.mem_of_getElem? (i := 100) rfl) rfl
theorem tw_581 : Jvm.Cond.instanceMethod ({ cls := "DovetailRow", name := "ofPart", desc := "(II)I" } : Jvm.MethodName) ∈ wU := wU_3 (List.mem_of_getElem? (i := 101) rfl) rfl
theorem tw_582 : Jvm.Cond.selects "DovetailRow" ({ cls := "DovetailRow", name := "ofPart", desc := "(II)I" } : Jvm.MethodName) ({ cls := "DovetailRow", name := "ofPart", desc := "(II)I" } : Jvm.MethodName) ∈ wU := wU_3 (List.mem_of_getElem? (i := 102) rfl) rfl
theorem tw_583 : Jvm.Cond.code ({ cls := "DovetailRow", name := "ofPart", desc := "(II)I" } : Jvm.MethodName) prog_1_method_20_code (4 : Nat) (Option.some Jvm.ClassFile.FieldType.int) ∈ wU := wU_3 (List.mem_of_getElem? (i := 103) rfl) rfl
theorem tw_584 : Jvm.Cond.methodLink "DovetailRowLaw" (81 : Nat) ({ cls := "DovetailRow", name := "ofJoint", desc := "(II)I" } : Jvm.MethodName) ∈ wU := wU_3 (List.mem_of_getElem? (i := 104) rfl) rfl
theorem tw_585 : Jvm.Cond.instanceMethod ({ cls := "DovetailRow", name := "ofJoint", desc := "(II)I" } : Jvm.MethodName) ∈ wU := wU_3 (List.mem_of_getElem? (i := 105) rfl) rfl
theorem tw_586 : Jvm.Cond.selects "DovetailRow" ({ cls := "DovetailRow", name := "ofJoint", desc := "(II)I" } : Jvm.MethodName) ({ cls := "DovetailRow", name := "ofJoint", desc := "(II)I" } : Jvm.MethodName) ∈ wU := wU_3 (List.mem_of_getElem? (i := 106) rfl) rfl
theorem tw_587 : Jvm.Cond.code ({ cls := "DovetailRow", name := "ofJoint", desc := "(II)I" } : Jvm.MethodName) prog_1_method_21_code (4 : Nat) (Option.some Jvm.ClassFile.FieldType.int) ∈ wU := wU_3 (List.mem_of_getElem? (i := 107) rfl) rfl
theorem tw_588 : Jvm.Cond.methodLink "DovetailRow" (221 : Nat) ({ cls := "DovetailRow", name := "findJoint", desc := "(I)LDovetailRow$Joint;" } : Jvm.MethodName) ∈ wU := wU_3 (List.mem_of_getElem? (i := 108) rfl) rfl
theorem tw_589 : Jvm.Cond.privateMethod ({ cls := "DovetailRow", name := "findJoint", desc := "(I)LDovetailRow$Joint;" } : Jvm.MethodName) ∈ lw_tbl := wT_3 (List.mem_of_getElem? (i := 109) rfl)
theorem tw_590 : Jvm.Cond.instanceMethod ({ cls := "DovetailRow", name := "findJoint", desc := "(I)LDovetailRow$Joint;" } : Jvm.MethodName) ∈ wU := wU_3 (List.mem_of_getElem? (i := 110) rfl) rfl
theorem tw_591 : Jvm.Cond.code ({ cls := "DovetailRow", name := "findJoint", desc := "(I)LDovetailRow$Joint;" } : Jvm.MethodName) prog_1_method_26_code (2 : Nat) (Option.some (Jvm.ClassFile.FieldType.object "DovetailRow$Joint")) ∈ wU := wU_3 (List.mem_of_getElem? (i := 111) rfl) rfl
theorem tw_592 : Jvm.Cond.stringRef "DovetailRow" (225 : Nat) "there is no such joint" ∈ lw_tbl := wT_3 (List.mem_of_getElem? (i := 112) rfl)
theorem tw_593 : Jvm.Cond.methodLink "DovetailRow" (306 : Nat) ({ cls := "DovetailRow$Joint", name := "state", desc := "()I" } : Jvm.MethodName) ∈ wU := wU_3 (List.mem_of_getElem? (i := 113) rfl) rfl
theorem tw_594 : Jvm.Cond.instanceMethod ({ cls := "DovetailRow$Joint", name := "state", desc := "()I" } : Jvm.MethodName) ∈ wU := wU_3 (List.mem_of_getElem? (i := 114) rfl) rfl
theorem tw_595 : Jvm.Cond.selects "DovetailRow$Joint" ({ cls := "DovetailRow$Joint", name := "state", desc := "()I" } : Jvm.MethodName) ({ cls := "DovetailRow$Joint", name := "state", desc := "()I" } : Jvm.MethodName) ∈ wU := wU_3 (List.mem_of_getElem? (i := 115) rfl) rfl
theorem tw_596 : Jvm.Cond.code ({ cls := "DovetailRow$Joint", name := "state", desc := "()I" } : Jvm.MethodName) prog_3_method_5_code (1 : Nat) (Option.some Jvm.ClassFile.FieldType.int) ∈ wU := wU_3 (List.mem_of_getElem? (i := 116) rfl) rfl
theorem tw_597 : Jvm.Cond.methodLink "DovetailRow$Joint" (59 : Nat) ({ cls := "DovetailRow$Part", name := "widthNow", desc := "()I" } : Jvm.MethodName) ∈ wU := wU_3 (List.mem_of_getElem? (i := 117) rfl) rfl
theorem tw_598 : Jvm.Cond.methodLink "DovetailRowLaw" (33 : Nat) ({ cls := "DovetailRowLaw", name := "up", desc := "(II)I" } : Jvm.MethodName) ∈ wU := wU_3 (List.mem_of_getElem? (i := 118) rfl) rfl
theorem tw_599 : Jvm.Cond.static ({ cls := "DovetailRowLaw", name := "up", desc := "(II)I" } : Jvm.MethodName) ∈ wU := wU_3 (List.mem_of_getElem? (i := 119) rfl) rfl
theorem tw_600 : Jvm.Cond.code ({ cls := "DovetailRowLaw", name := "up", desc := "(II)I" } : Jvm.MethodName) method_2_code (2 : Nat) (Option.some Jvm.ClassFile.FieldType.int) ∈ wU := wU_3 (List.mem_of_getElem? (i := 120) rfl) rfl
theorem tw_601 : Jvm.Cond.methodLink "DovetailRowLaw" (29 : Nat) ({ cls := "DovetailRowLaw", name := "cell", desc := "([II)I" } : Jvm.MethodName) ∈ wU := wU_3 (List.mem_of_getElem? (i := 121) rfl) rfl
theorem tw_602 : Jvm.Cond.static ({ cls := "DovetailRowLaw", name := "cell", desc := "([II)I" } : Jvm.MethodName) ∈ wU := wU_3 (List.mem_of_getElem? (i := 122) rfl) rfl
theorem tw_603 : Jvm.Cond.code ({ cls := "DovetailRowLaw", name := "cell", desc := "([II)I" } : Jvm.MethodName) method_3_code (2 : Nat) (Option.some Jvm.ClassFile.FieldType.int) ∈ wU := wU_3 (List.mem_of_getElem? (i := 123) rfl) rfl
theorem tw_604 : Jvm.Cond.methodLink "DovetailRowLaw" (57 : Nat) ({ cls := "DovetailRowLaw", name := "act", desc := "(LDovetailRow;II)I" } : Jvm.MethodName) ∈ wU := wU_3 (List.mem_of_getElem? (i := 124) rfl) rfl
theorem tw_605 : Jvm.Cond.static ({ cls := "DovetailRowLaw", name := "act", desc := "(LDovetailRow;II)I" } : Jvm.MethodName) ∈ wU := wU_3 (List.mem_of_getElem? (i := 125) rfl) rfl
theorem tw_606 : Jvm.Cond.codeWith ({ cls := "DovetailRowLaw", name := "act", desc := "(LDovetailRow;II)I" } : Jvm.MethodName) method_4_code (4 : Nat) (Option.some Jvm.ClassFile.FieldType.int) [((0 : Nat), (17 : Nat), (18 : Nat), (16 : Nat))] ∈ wU := wU_3 (List.mem_of_getElem? (i := 126) rfl) rfl
theorem tw_607 : Jvm.Cond.classLink "DovetailRowLaw" (16 : Nat) "java/lang/IllegalStateException" ∈ wU := wU_3 (List.mem_of_getElem? (i := 127) rfl) rfl
theorem tw_608 : Jvm.Cond.methodLink "DovetailRowLaw" (7 : Nat) ({ cls := "DovetailRow", name := "glue", desc := "(I)I" } : Jvm.MethodName) ∈ wU := wU_3 (List.mem_of_getElem? (i := 128) rfl) rfl
theorem tw_609 : Jvm.Cond.instanceMethod ({ cls := "DovetailRow", name := "glue", desc := "(I)I" } : Jvm.MethodName) ∈ wU := wU_3 (List.mem_of_getElem? (i := 129) rfl) rfl
theorem tw_610 : Jvm.Cond.selects "DovetailRow" ({ cls := "DovetailRow", name := "glue", desc := "(I)I" } : Jvm.MethodName) ({ cls := "DovetailRow", name := "glue", desc := "(I)I" } : Jvm.MethodName) ∈ wU := wU_3 (List.mem_of_getElem? (i := 130) rfl) rfl
theorem tw_611 : Jvm.Cond.code ({ cls := "DovetailRow", name := "glue", desc := "(I)I" } : Jvm.MethodName) prog_1_method_14_code (4 : Nat) (Option.some Jvm.ClassFile.FieldType.int) ∈ wU := wU_3 (List.mem_of_getElem? (i := 131) rfl) rfl
theorem tw_612 : Jvm.Cond.stringRef "DovetailRow" (240 : Nat) "the set is empty, or has a joint that there is not" ∈ lw_tbl := wT_3 (List.mem_of_getElem? (i := 132) rfl)
theorem tw_613 : Jvm.Cond.methodLink "DovetailRow" (242 : Nat) ({ cls := "DovetailRow", name := "canBeGlued", desc := "(I)Z" } : Jvm.MethodName) ∈ wU := wU_3 (List.mem_of_getElem? (i := 133) rfl) rfl
theorem tw_614 : Jvm.Cond.privateMethod ({ cls := "DovetailRow", name := "canBeGlued", desc := "(I)Z" } : Jvm.MethodName) ∈ lw_tbl := wT_3 (List.mem_of_getElem? (i := 134) rfl)
theorem tw_615 : Jvm.Cond.instanceMethod ({ cls := "DovetailRow", name := "canBeGlued", desc := "(I)Z" } : Jvm.MethodName) ∈ wU := wU_3 (List.mem_of_getElem? (i := 135) rfl) rfl
theorem tw_616 : Jvm.Cond.code ({ cls := "DovetailRow", name := "canBeGlued", desc := "(I)Z" } : Jvm.MethodName) prog_1_method_38_code (5 : Nat) (Option.some Jvm.ClassFile.FieldType.boolean) ∈ wU := wU_3 (List.mem_of_getElem? (i := 136) rfl) rfl
theorem tw_617 : Jvm.Cond.methodLink "DovetailRow" (256 : Nat) ({ cls := "DovetailRow", name := "has", desc := "(II)Z" } : Jvm.MethodName) ∈ wU := wU_3 (List.mem_of_getElem? (i := 137) rfl) rfl
theorem tw_618 : Jvm.Cond.static ({ cls := "DovetailRow", name := "has", desc := "(II)Z" } : Jvm.MethodName) ∈ wU := wU_3 (List.mem_of_getElem? (i := 138) rfl) rfl
theorem tw_619 : Jvm.Cond.code ({ cls := "DovetailRow", name := "has", desc := "(II)Z" } : Jvm.MethodName) prog_1_method_23_code (2 : Nat) (Option.some Jvm.ClassFile.FieldType.boolean) ∈ wU := wU_3 (List.mem_of_getElem? (i := 139) rfl) rfl
theorem tw_620 : Jvm.Cond.stringRef "DovetailRow" (246 : Nat) "one is glued, or one that it needs is not glued by then" ∈ lw_tbl := wT_3 (List.mem_of_getElem? (i := 140) rfl)
theorem tw_621 : Jvm.Cond.methodLink "DovetailRow" (248 : Nat) ({ cls := "DovetailRow", name := "minutesOf", desc := "(I)I" } : Jvm.MethodName) ∈ wU := wU_3 (List.mem_of_getElem? (i := 141) rfl) rfl
theorem tw_622 : Jvm.Cond.privateMethod ({ cls := "DovetailRow", name := "minutesOf", desc := "(I)I" } : Jvm.MethodName) ∈ lw_tbl := wT_3 (List.mem_of_getElem? (i := 142) rfl)
theorem tw_623 : Jvm.Cond.instanceMethod ({ cls := "DovetailRow", name := "minutesOf", desc := "(I)I" } : Jvm.MethodName) ∈ wU := wU_3 (List.mem_of_getElem? (i := 143) rfl) rfl
theorem tw_624 : Jvm.Cond.code ({ cls := "DovetailRow", name := "minutesOf", desc := "(I)I" } : Jvm.MethodName) prog_1_method_39_code (4 : Nat) (Option.some Jvm.ClassFile.FieldType.int) ∈ wU := wU_3 (List.mem_of_getElem? (i := 144) rfl) rfl
theorem tw_625 : Jvm.Cond.methodLink "DovetailRow" (251 : Nat) ({ cls := "DovetailRow", name := "clampsOf", desc := "(I)I" } : Jvm.MethodName) ∈ wU := wU_3 (List.mem_of_getElem? (i := 145) rfl) rfl
theorem tw_626 : Jvm.Cond.privateMethod ({ cls := "DovetailRow", name := "clampsOf", desc := "(I)I" } : Jvm.MethodName) ∈ lw_tbl := wT_3 (List.mem_of_getElem? (i := 146) rfl)
theorem tw_627 : Jvm.Cond.instanceMethod ({ cls := "DovetailRow", name := "clampsOf", desc := "(I)I" } : Jvm.MethodName) ∈ wU := wU_3 (List.mem_of_getElem? (i := 147) rfl) rfl
theorem tw_628 : Jvm.Cond.code ({ cls := "DovetailRow", name := "clampsOf", desc := "(I)I" } : Jvm.MethodName) prog_1_method_40_code (4 : Nat) (Option.some Jvm.ClassFile.FieldType.int) ∈ wU := wU_3 (List.mem_of_getElem? (i := 148) rfl) rfl
theorem tw_629 : Jvm.Cond.stringRef "DovetailRow" (254 : Nat) "it would take too long, or too many clamps" ∈ lw_tbl := wT_3 (List.mem_of_getElem? (i := 149) rfl)
theorem tw_630 : Jvm.Cond.methodLink "DovetailRow" (263 : Nat) ({ cls := "DovetailRow$Joint", name := "hold", desc := "()V" } : Jvm.MethodName) ∈ wU := wU_3 (List.mem_of_getElem? (i := 150) rfl) rfl
theorem tw_631 : Jvm.Cond.instanceMethod ({ cls := "DovetailRow$Joint", name := "hold", desc := "()V" } : Jvm.MethodName) ∈ wU := wU_3 (List.mem_of_getElem? (i := 151) rfl) rfl
theorem tw_632 : Jvm.Cond.selects "DovetailRow$Joint" ({ cls := "DovetailRow$Joint", name := "hold", desc := "()V" } : Jvm.MethodName) ({ cls := "DovetailRow$Joint", name := "hold", desc := "()V" } : Jvm.MethodName) ∈ wU := wU_3 (List.mem_of_getElem? (i := 152) rfl) rfl
theorem tw_633 : Jvm.Cond.code ({ cls := "DovetailRow$Joint", name := "hold", desc := "()V" } : Jvm.MethodName) prog_3_method_2_code (1 : Nat) (Option.none : Option Jvm.ClassFile.FieldType) ∈ wU := wU_3 (List.mem_of_getElem? (i := 153) rfl) rfl
theorem tw_634 : Jvm.Cond.methodLink "DovetailRowLaw" (13 : Nat) ({ cls := "DovetailRow", name := "repair", desc := "(I)I" } : Jvm.MethodName) ∈ wU := wU_3 (List.mem_of_getElem? (i := 154) rfl) rfl
theorem tw_635 : Jvm.Cond.instanceMethod ({ cls := "DovetailRow", name := "repair", desc := "(I)I" } : Jvm.MethodName) ∈ wU := wU_3 (List.mem_of_getElem? (i := 155) rfl) rfl
theorem tw_636 : Jvm.Cond.selects "DovetailRow" ({ cls := "DovetailRow", name := "repair", desc := "(I)I" } : Jvm.MethodName) ({ cls := "DovetailRow", name := "repair", desc := "(I)I" } : Jvm.MethodName) ∈ wU := wU_3 (List.mem_of_getElem? (i := 156) rfl) rfl
theorem tw_637 : Jvm.Cond.code ({ cls := "DovetailRow", name := "repair", desc := "(I)I" } : Jvm.MethodName) prog_1_method_15_code (3 : Nat) (Option.some Jvm.ClassFile.FieldType.int) ∈ wU := wU_3 (List.mem_of_getElem? (i := 157) rfl) rfl
theorem tw_638 : Jvm.Cond.stringRef "DovetailRow" (269 : Nat) "the joint is not broken" ∈ lw_tbl := wT_3 (List.mem_of_getElem? (i := 158) rfl)
theorem tw_639 : Jvm.Cond.methodLink "DovetailRowLaw" (84 : Nat) ({ cls := "DovetailRowLaw", name := "breaksIn", desc := "(LDovetailRow;II)I" } : Jvm.MethodName) ∈ wU := wU_3 (List.mem_of_getElem? (i := 159) rfl) rfl
theorem tw_640 : Jvm.Cond.static ({ cls := "DovetailRowLaw", name := "breaksIn", desc := "(LDovetailRow;II)I" } : Jvm.MethodName) ∈ wU := wU_3 (List.mem_of_getElem? (i := 160) rfl) rfl
theorem tw_641 : Jvm.Cond.codeWith ({ cls := "DovetailRowLaw", name := "breaksIn", desc := "(LDovetailRow;II)I" } : Jvm.MethodName) method_5_code (4 : Nat) (Option.some Jvm.ClassFile.FieldType.int) [((0 : Nat), (6 : Nat), (7 : Nat), (16 : Nat))] ∈ wU := wU_3 (List.mem_of_getElem? (i := 161) rfl) rfl
theorem tw_642 : Jvm.Cond.methodLink "DovetailRowLaw" (18 : Nat) ({ cls := "DovetailRow", name := "breaksIn", desc := "(II)I" } : Jvm.MethodName) ∈ wU := wU_3 (List.mem_of_getElem? (i := 162) rfl) rfl
theorem tw_643 : Jvm.Cond.instanceMethod ({ cls := "DovetailRow", name := "breaksIn", desc := "(II)I" } : Jvm.MethodName) ∈ wU := wU_3 (List.mem_of_getElem? (i := 163) rfl) rfl
theorem tw_644 : Jvm.Cond.selects "DovetailRow" ({ cls := "DovetailRow", name := "breaksIn", desc := "(II)I" } : Jvm.MethodName) ({ cls := "DovetailRow", name := "breaksIn", desc := "(II)I" } : Jvm.MethodName) ∈ wU := wU_3 (List.mem_of_getElem? (i := 164) rfl) rfl
theorem tw_645 : Jvm.Cond.code ({ cls := "DovetailRow", name := "breaksIn", desc := "(II)I" } : Jvm.MethodName) prog_1_method_17_code (4 : Nat) (Option.some Jvm.ClassFile.FieldType.int) ∈ wU := wU_3 (List.mem_of_getElem? (i := 165) rfl) rfl
theorem tw_646 : Jvm.Cond.stringRef "DovetailRow" (292 : Nat) "the joint is not glued, or is broken" ∈ lw_tbl := wT_3 (List.mem_of_getElem? (i := 166) rfl)
theorem tw_647 : Jvm.Cond.methodLink "DovetailRowLaw" (61 : Nat) ({ cls := "DovetailRowLaw", name := "behind", desc := "(III)I" } : Jvm.MethodName) ∈ wU := wU_3 (List.mem_of_getElem? (i := 167) rfl) rfl
theorem tw_648 : Jvm.Cond.static ({ cls := "DovetailRowLaw", name := "behind", desc := "(III)I" } : Jvm.MethodName) ∈ wU := wU_3 (List.mem_of_getElem? (i := 168) rfl) rfl
theorem tw_649 : Jvm.Cond.code ({ cls := "DovetailRowLaw", name := "behind", desc := "(III)I" } : Jvm.MethodName) method_6_code (4 : Nat) (Option.some Jvm.ClassFile.FieldType.int) ∈ wU := wU_3 (List.mem_of_getElem? (i := 169) rfl) rfl
theorem tw_650 : Jvm.Cond.methodLink "DovetailRowLaw" (22 : Nat) ({ cls := "DovetailRowLaw", name := "moved", desc := "(III)I" } : Jvm.MethodName) ∈ wU := wU_3 (List.mem_of_getElem? (i := 170) rfl) rfl
theorem tw_651 : Jvm.Cond.static ({ cls := "DovetailRowLaw", name := "moved", desc := "(III)I" } : Jvm.MethodName) ∈ wU := wU_3 (List.mem_of_getElem? (i := 171) rfl) rfl
theorem tw_652 : Jvm.Cond.code ({ cls := "DovetailRowLaw", name := "moved", desc := "(III)I" } : Jvm.MethodName) method_7_code (3 : Nat) (Option.some Jvm.ClassFile.FieldType.int) ∈ wU := wU_3 (List.mem_of_getElem? (i := 172) rfl) rfl
theorem tw_653 : Jvm.Cond.methodLink "DovetailRowLaw" (64 : Nat) ({ cls := "DovetailRowLaw", name := "breaks", desc := "([II[I[II)Z" } : Jvm.MethodName) ∈ wU := wU_3 (List.mem_of_getElem? (i := 173) rfl) rfl
theorem tw_654 : Jvm.Cond.static ({ cls := "DovetailRowLaw", name := "breaks", desc := "([II[I[II)Z" } : Jvm.MethodName) ∈ wU := wU_3 (List.mem_of_getElem? (i := 174) rfl) rfl
theorem tw_655 : Jvm.Cond.code ({ cls := "DovetailRowLaw", name := "breaks", desc := "([II[I[II)Z" } : Jvm.MethodName) method_8_code (9 : Nat) (Option.some Jvm.ClassFile.FieldType.boolean) ∈ wU := wU_3 (List.mem_of_getElem? (i := 175) rfl) rfl
theorem tw_656 : Jvm.Cond.sameMethod "java/lang/Throwable" "java/lang/Throwable" "fillInStackTrace" "(I)Ljava/lang/Throwable;" ∈ wU := wU_3 (List.mem_of_getElem? (i := 176) rfl) rfl
theorem tw_657 : Jvm.Cond.sameMethod "DovetailRow$Wood" "DovetailRow$Wood" "movementOf" "(II)I" ∈ wU := wU_3 (List.mem_of_getElem? (i := 177) rfl) rfl
theorem tw_658 : Jvm.Cond.selects "DovetailRow$Board" ({ cls := "DovetailRow$Wood", name := "movementOf", desc := "(II)I" } : Jvm.MethodName) ({ cls := "DovetailRow$Wood", name := "movementOf", desc := "(II)I" } : Jvm.MethodName) ∈ wU := wU_3 (List.mem_of_getElem? (i := 178) rfl) rfl
theorem tw_659 : Jvm.Cond.selects "DovetailRow$Part" ({ cls := "DovetailRow$Wood", name := "movementOf", desc := "(II)I" } : Jvm.MethodName) ({ cls := "DovetailRow$Wood", name := "movementOf", desc := "(II)I" } : Jvm.MethodName) ∈ wU := wU_3 (List.mem_of_getElem? (i := 179) rfl) rfl
theorem tw_660 : Jvm.Cond.sameMethod "DovetailRow$Wood" "DovetailRow$Wood" "widthAt" "(I)I" ∈ wU := wU_3 (List.mem_of_getElem? (i := 180) rfl) rfl
theorem tw_661 : Jvm.Cond.selects "DovetailRow$Board" ({ cls := "DovetailRow$Wood", name := "widthAt", desc := "(I)I" } : Jvm.MethodName) ({ cls := "DovetailRow$Wood", name := "widthAt", desc := "(I)I" } : Jvm.MethodName) ∈ wU := wU_3 (List.mem_of_getElem? (i := 181) rfl) rfl
theorem tw_662 : Jvm.Cond.selects "DovetailRow$Part" ({ cls := "DovetailRow$Wood", name := "widthAt", desc := "(I)I" } : Jvm.MethodName) ({ cls := "DovetailRow$Wood", name := "widthAt", desc := "(I)I" } : Jvm.MethodName) ∈ wU := wU_3 (List.mem_of_getElem? (i := 182) rfl) rfl
theorem tw_663 : Jvm.Cond.castable "DovetailRow" "java/lang/Object" ∈ lw_tbl := wT_3 (List.mem_of_getElem? (i := 183) rfl)
theorem tw_664 : Jvm.Cond.castable "java/util/ArrayList" "java/lang/Object" ∈ lw_tbl := wT_3 (List.mem_of_getElem? (i := 184) rfl)
theorem tw_665 : Jvm.Cond.castable "java/lang/IllegalArgumentException" "java/lang/Object" ∈ lw_tbl := wT_3 (List.mem_of_getElem? (i := 185) rfl)
theorem tw_666 : Jvm.Cond.castable "java/lang/IllegalStateException" "java/lang/Object" ∈ lw_tbl := wT_3 (List.mem_of_getElem? (i := 186) rfl)
theorem tw_667 : Jvm.Cond.castable "DovetailRow$Board" "java/lang/Object" ∈ lw_tbl := wT_3 (List.mem_of_getElem? (i := 187) rfl)
theorem tw_668 : Jvm.Cond.castable "java/lang/IndexOutOfBoundsException" "java/lang/Object" ∈ lw_tbl := wT_3 (List.mem_of_getElem? (i := 188) rfl)
theorem tw_669 : Jvm.Cond.castable "DovetailRow$Part" "java/lang/Object" ∈ lw_tbl := wT_3 (List.mem_of_getElem? (i := 189) rfl)
theorem tw_670 : Jvm.Cond.castable "DovetailRow$Span" "java/lang/Object" ∈ lw_tbl := wT_3 (List.mem_of_getElem? (i := 190) rfl)
theorem tw_671 : Jvm.Cond.castable "DovetailRow$Joint" "java/lang/Object" ∈ lw_tbl := wT_3 (List.mem_of_getElem? (i := 191) rfl)
theorem tw_672 : Jvm.Cond.castable "java/lang/Throwable" "java/lang/Object" ∈ lw_tbl := wT_3 (List.mem_of_getElem? (i := 192) rfl)
theorem tw_673 : Jvm.Cond.castable "java/lang/String" "java/lang/Object" ∈ lw_tbl := wT_3 (List.mem_of_getElem? (i := 193) rfl)
theorem tw_674 : Jvm.Cond.sameMethod "[Ljava/lang/Object;" "java/lang/Object" "getClass" "()Ljava/lang/Class;" ∈ wU := wU_3 (List.mem_of_getElem? (i := 194) rfl) rfl
theorem tw_675 : Jvm.Cond.selects "[Ljava/lang/Object;" ({ cls := "java/lang/Object", name := "getClass", desc := "()Ljava/lang/Class;" } : Jvm.MethodName) ({ cls := "java/lang/Object", name := "getClass", desc := "()Ljava/lang/Class;" } : Jvm.MethodName) ∈ wU := wU_3 (List.mem_of_getElem? (i := 195) rfl) rfl
theorem tw_676 : Jvm.Cond.declares ({ cls := "java/lang/Object", name := "getClass", desc := "()Ljava/lang/Class;" } : Jvm.MethodName) ∈ lw_tbl := wT_3 (List.mem_of_getElem? (i := 196) rfl)
theorem tw_677 : Jvm.Cond.castable "[I" "java/lang/Object" ∈ lw_tbl := wT_3 (List.mem_of_getElem? (i := 197) rfl)
theorem tw_678 : Jvm.Cond.castable "[B" "java/lang/Object" ∈ lw_tbl := wT_3 (List.mem_of_getElem? (i := 198) rfl)
theorem tw_679 : Jvm.Cond.castable "[Ljava/lang/Object;" "java/lang/Object" ∈ lw_tbl := wT_3 (List.mem_of_getElem? (i := 199) rfl)
theorem tp_0 : Cond.selects "java/lang/Throwable" ⟨"java/lang/Throwable", "fillInStackTrace", "(I)Ljava/lang/Throwable;"⟩ ⟨"java/lang/Throwable", "fillInStackTrace", "(I)Ljava/lang/Throwable;"⟩ ∈ wU := wU_s (List.mem_of_getElem? (i := 0) rfl) rfl
theorem tp_1 : Cond.selects "DovetailRow" ⟨"DovetailRow", "airIn", "(I)I"⟩ ⟨"DovetailRow", "airIn", "(I)I"⟩ ∈ wU := wU_s (List.mem_of_getElem? (i := 1) rfl) rfl
theorem tp_2 : Cond.selects "DovetailRow" ⟨"DovetailRow", "moistenAll", "(I)V"⟩ ⟨"DovetailRow", "moistenAll", "(I)V"⟩ ∈ wU := wU_s (List.mem_of_getElem? (i := 2) rfl) rfl
theorem tp_3 : Cond.selects "DovetailRow" ⟨"DovetailRow", "breakJoints", "()I"⟩ ⟨"DovetailRow", "breakJoints", "()I"⟩ ∈ wU := wU_s (List.mem_of_getElem? (i := 3) rfl) rfl
theorem tp_4 : Cond.selects "DovetailRow" ⟨"DovetailRow", "suitsFlitch", "(III)Z"⟩ ⟨"DovetailRow", "suitsFlitch", "(III)Z"⟩ ∈ wU := wU_s (List.mem_of_getElem? (i := 4) rfl) rfl
theorem tp_5 : Cond.selects "java/util/ArrayList" ⟨"java/util/ArrayList", "add", "(Ljava/lang/Object;[Ljava/lang/Object;I)V"⟩ ⟨"java/util/ArrayList", "add", "(Ljava/lang/Object;[Ljava/lang/Object;I)V"⟩ ∈ wU := wU_s (List.mem_of_getElem? (i := 5) rfl) rfl
theorem tp_6 : Cond.selects "java/util/ArrayList" ⟨"java/util/ArrayList", "grow", "()[Ljava/lang/Object;"⟩ ⟨"java/util/ArrayList", "grow", "()[Ljava/lang/Object;"⟩ ∈ wU := wU_s (List.mem_of_getElem? (i := 6) rfl) rfl
theorem tp_7 : Cond.selects "java/util/ArrayList" ⟨"java/util/ArrayList", "grow", "(I)[Ljava/lang/Object;"⟩ ⟨"java/util/ArrayList", "grow", "(I)[Ljava/lang/Object;"⟩ ∈ wU := wU_s (List.mem_of_getElem? (i := 7) rfl) rfl
theorem tp_8 : Cond.selects "DovetailRow" ⟨"DovetailRow", "findBoard", "(I)LDovetailRow$Board;"⟩ ⟨"DovetailRow", "findBoard", "(I)LDovetailRow$Board;"⟩ ∈ wU := wU_s (List.mem_of_getElem? (i := 8) rfl) rfl
theorem tp_9 : Cond.selects "DovetailRow" ⟨"DovetailRow", "findPart", "(I)LDovetailRow$Part;"⟩ ⟨"DovetailRow", "findPart", "(I)LDovetailRow$Part;"⟩ ∈ wU := wU_s (List.mem_of_getElem? (i := 9) rfl) rfl
theorem tp_10 : Cond.selects "DovetailRow" ⟨"DovetailRow", "monthOfBreak", "(LDovetailRow$Joint;I)I"⟩ ⟨"DovetailRow", "monthOfBreak", "(LDovetailRow$Joint;I)I"⟩ ∈ wU := wU_s (List.mem_of_getElem? (i := 10) rfl) rfl
theorem tp_11 : Cond.selects "DovetailRow" ⟨"DovetailRow", "findJoint", "(I)LDovetailRow$Joint;"⟩ ⟨"DovetailRow", "findJoint", "(I)LDovetailRow$Joint;"⟩ ∈ wU := wU_s (List.mem_of_getElem? (i := 11) rfl) rfl
theorem tp_12 : Cond.selects "DovetailRow" ⟨"DovetailRow", "canBeGlued", "(I)Z"⟩ ⟨"DovetailRow", "canBeGlued", "(I)Z"⟩ ∈ wU := wU_s (List.mem_of_getElem? (i := 12) rfl) rfl
theorem tp_13 : Cond.selects "DovetailRow" ⟨"DovetailRow", "minutesOf", "(I)I"⟩ ⟨"DovetailRow", "minutesOf", "(I)I"⟩ ∈ wU := wU_s (List.mem_of_getElem? (i := 13) rfl) rfl
theorem tp_14 : Cond.selects "DovetailRow" ⟨"DovetailRow", "clampsOf", "(I)I"⟩ ⟨"DovetailRow", "clampsOf", "(I)I"⟩ ∈ wU := wU_s (List.mem_of_getElem? (i := 14) rfl) rfl
/-- words of a call -/
theorem gU {ws : List Cond} (h : ∀ w ∈ ws, w ∈ wU) : GoodIn wU ws := fun w hw => ⟨h w hw, wU_good (h w hw)⟩
theorem gU_c {y : MethodName} {b : ByteArray} {n : Nat} {r : Option FieldType} (h : Cond.code y b n r ∈ wU) : GoodIn wU (.code y b n r :: wU) := gU fun w hw => (List.mem_cons.mp hw).elim (fun e => e ▸ h) id
theorem gU_V {own C : String} {i : Nat} {y : MethodName} {b : ByteArray} {n : Nat} {r : Option FieldType} (h1 : Cond.methodLink own i y ∈ wU) (h2 : Cond.instanceMethod y ∈ wU) (h3 : Cond.selects C y y ∈ wU) (h4 : Cond.initialized C ∈ wU) (h : Cond.code y b n r ∈ wU) : GoodIn wU (wsV own i C y (.code y b n r :: wU)) := by
  refine gU fun w hw => ?_
  simp only [wsV, List.cons_append, List.nil_append, List.mem_cons] at hw
  rcases hw with rfl | rfl | rfl | rfl | rfl | hw <;> assumption
theorem gU_S {own : String} {i : Nat} {y : MethodName} {b : ByteArray} {n : Nat} {r : Option FieldType} (h1 : Cond.methodLink own i y ∈ wU) (h2 : Cond.static y ∈ wU) (h4 : Cond.initialized own ∈ wU) (h : Cond.code y b n r ∈ wU) : GoodIn wU (wsS own i y (.code y b n r :: wU)) := by
  refine gU fun w hw => ?_
  simp only [wsS, List.cons_append, List.nil_append, List.mem_cons] at hw
  rcases hw with rfl | rfl | rfl | rfl | hw <;> assumption
theorem gU_vS {own : String} {i : Nat} {y : MethodName} {b : ByteArray} {n : Nat} {r : Option FieldType} (h1 : Cond.methodLink own i y ∈ wU) (h2 : Cond.static y ∈ wU) (h4 : Cond.initialized y.cls ∈ wU) (h : Cond.code y b n r ∈ wU) : GoodIn wU (va_wsS own i y (.code y b n r :: wU)) := by
  refine gU fun w hw => ?_
  simp only [va_wsS, List.cons_append, List.nil_append, List.mem_cons] at hw
  rcases hw with rfl | rfl | rfl | rfl | hw <;> assumption
theorem gU_U {own C owner : String} {i : Nat} {x y : MethodName} {b : ByteArray} {n : Nat} {r : Option FieldType} (h1 : Cond.methodLink own i x ∈ wU) (h2 : Cond.sameMethod x.cls owner x.name x.desc ∈ wU) (h3 : Cond.selects C x y ∈ wU) (h4 : Cond.instanceMethod y ∈ wU) (h5 : Cond.initialized y.cls ∈ wU) (h : Cond.code y b n r ∈ wU) : GoodIn wU (va_wsU own i C owner x y (.code y b n r :: wU)) := by
  refine gU fun w hw => ?_
  simp only [va_wsU, List.cons_append, List.nil_append, List.mem_cons] at hw
  rcases hw with rfl | rfl | rfl | rfl | rfl | rfl | hw <;> assumption
