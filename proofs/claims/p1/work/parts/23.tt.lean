section TT1
noncomputable def TT : List Cond := lw_tbl.filter mj_pw
theorem pwTT : ∀ w ∈ TT, mj_pw w = true := fun w h => (List.mem_filter.mp h).2
theorem ttk_1 {w : Cond} (h : w ∈ tables_1_1) (hp : mj_pw w = true) : w ∈ TT := List.mem_filter.mpr ⟨List.mem_append_right _ (List.mem_append_left _ h), hp⟩
theorem ttk_2 {w : Cond} (h : w ∈ tables_1_2) (hp : mj_pw w = true) : w ∈ TT := List.mem_filter.mpr ⟨List.mem_append_right _ (List.mem_append_right _ (List.mem_append_left _ h)), hp⟩
theorem ttk_3 {w : Cond} (h : w ∈ tables_1_3) (hp : mj_pw w = true) : w ∈ TT := List.mem_filter.mpr ⟨List.mem_append_right _ (List.mem_append_right _ (List.mem_append_right _ (List.mem_append_left _ h))), hp⟩
theorem ttk_4 {w : Cond} (h : w ∈ tables_1_4) (hp : mj_pw w = true) : w ∈ TT := List.mem_filter.mpr ⟨List.mem_append_right _ (List.mem_append_right _ (List.mem_append_right _ (List.mem_append_right _ (List.mem_append_left _ h)))), hp⟩
theorem ttk_5 {w : Cond} (h : w ∈ tables_1_5) (hp : mj_pw w = true) : w ∈ TT := List.mem_filter.mpr ⟨List.mem_append_right _ (List.mem_append_right _ (List.mem_append_right _ (List.mem_append_right _ (List.mem_append_right _ (List.mem_append_left _ h))))), hp⟩
theorem ttk_6 {w : Cond} (h : w ∈ tables_1_6) (hp : mj_pw w = true) : w ∈ TT := List.mem_filter.mpr ⟨List.mem_append_right _ (List.mem_append_right _ (List.mem_append_right _ (List.mem_append_right _ (List.mem_append_right _ (List.mem_append_right _ (List.mem_append_left _ h)))))), hp⟩
theorem ttk_7 {w : Cond} (h : w ∈ tables_1_7) (hp : mj_pw w = true) : w ∈ TT := List.mem_filter.mpr ⟨List.mem_append_right _ (List.mem_append_right _ (List.mem_append_right _ (List.mem_append_right _ (List.mem_append_right _ (List.mem_append_right _ (List.mem_append_right _ (List.mem_append_left _ h))))))), hp⟩
theorem ttk_8 {w : Cond} (h : w ∈ tables_1_8) (hp : mj_pw w = true) : w ∈ TT := List.mem_filter.mpr ⟨List.mem_append_right _ (List.mem_append_right _ (List.mem_append_right _ (List.mem_append_right _ (List.mem_append_right _ (List.mem_append_right _ (List.mem_append_right _ (List.mem_append_right _ (List.mem_append_left _ h)))))))), hp⟩
theorem ttk_9 {w : Cond} (h : w ∈ tables_1_9) (hp : mj_pw w = true) : w ∈ TT := List.mem_filter.mpr ⟨List.mem_append_right _ (List.mem_append_right _ (List.mem_append_right _ (List.mem_append_right _ (List.mem_append_right _ (List.mem_append_right _ (List.mem_append_right _ (List.mem_append_right _ (List.mem_append_right _ (List.mem_append_left _ h))))))))), hp⟩
theorem ttk_10 {w : Cond} (h : w ∈ tables_1_10) (hp : mj_pw w = true) : w ∈ TT := List.mem_filter.mpr ⟨List.mem_append_right _ (List.mem_append_right _ (List.mem_append_right _ (List.mem_append_right _ (List.mem_append_right _ (List.mem_append_right _ (List.mem_append_right _ (List.mem_append_right _ (List.mem_append_right _ (List.mem_append_right _ (List.mem_append_left _ h)))))))))), hp⟩
theorem ttk_11 {w : Cond} (h : w ∈ tables_1_11) (hp : mj_pw w = true) : w ∈ TT := List.mem_filter.mpr ⟨List.mem_append_right _ (List.mem_append_right _ (List.mem_append_right _ (List.mem_append_right _ (List.mem_append_right _ (List.mem_append_right _ (List.mem_append_right _ (List.mem_append_right _ (List.mem_append_right _ (List.mem_append_right _ (List.mem_append_right _ (List.mem_append_left _ h))))))))))), hp⟩
theorem ttk_12 {w : Cond} (h : w ∈ tables_1_12) (hp : mj_pw w = true) : w ∈ TT := List.mem_filter.mpr ⟨List.mem_append_right _ (List.mem_append_right _ (List.mem_append_right _ (List.mem_append_right _ (List.mem_append_right _ (List.mem_append_right _ (List.mem_append_right _ (List.mem_append_right _ (List.mem_append_right _ (List.mem_append_right _ (List.mem_append_right _ (List.mem_append_right _ (List.mem_append_left _ h)))))))))))), hp⟩
theorem ttk_13 {w : Cond} (h : w ∈ tables_1_13) (hp : mj_pw w = true) : w ∈ TT := List.mem_filter.mpr ⟨List.mem_append_right _ (List.mem_append_right _ (List.mem_append_right _ (List.mem_append_right _ (List.mem_append_right _ (List.mem_append_right _ (List.mem_append_right _ (List.mem_append_right _ (List.mem_append_right _ (List.mem_append_right _ (List.mem_append_right _ (List.mem_append_right _ (List.mem_append_right _ (h))))))))))))), hp⟩
theorem t_1_0 : (Jvm.Cond.initialized "MiterhouseLaw") ∈ TT := ttk_1 (List.mem_of_getElem? (i := 0) rfl) rfl
theorem t_1_1 : (Jvm.Cond.initialized "Miterhouse") ∈ TT := ttk_1 (List.mem_of_getElem? (i := 1) rfl) rfl
theorem t_1_2 : (Jvm.Cond.initialized "Miterhouse$Nets") ∈ TT := ttk_1 (List.mem_of_getElem? (i := 2) rfl) rfl
theorem t_1_3 : (Jvm.Cond.initialized "MiterhouseModel") ∈ TT := ttk_1 (List.mem_of_getElem? (i := 3) rfl) rfl
theorem t_1_4 : (Jvm.Cond.initialized "java/util/AbstractCollection") ∈ TT := ttk_1 (List.mem_of_getElem? (i := 4) rfl) rfl
theorem t_1_5 : (Jvm.Cond.initialized "java/util/AbstractList") ∈ TT := ttk_1 (List.mem_of_getElem? (i := 5) rfl) rfl
theorem t_1_6 : (Jvm.Cond.initialized "java/util/ArrayList") ∈ TT := ttk_1 (List.mem_of_getElem? (i := 6) rfl) rfl
theorem t_1_8 : (Jvm.Cond.initialized "java/lang/Math") ∈ TT := ttk_1 (List.mem_of_getElem? (i := 8) rfl) rfl
theorem t_1_14 : (Jvm.Cond.initialized "java/lang/UnsupportedOperationException") ∈ TT := ttk_1 (List.mem_of_getElem? (i := 14) rfl) rfl
theorem t_1_16 : (Jvm.Cond.initialized "java/util/ArrayList$Itr") ∈ TT := ttk_1 (List.mem_of_getElem? (i := 16) rfl) rfl
theorem t_1_18 : (Jvm.Cond.initialized "MiterhouseModel$Line") ∈ TT := ttk_1 (List.mem_of_getElem? (i := 18) rfl) rfl
theorem t_1_19 : (Jvm.Cond.initialized "java/lang/IllegalArgumentException") ∈ TT := ttk_1 (List.mem_of_getElem? (i := 19) rfl) rfl
theorem t_1_20 : (Jvm.Cond.initialized "java/lang/IndexOutOfBoundsException") ∈ TT := ttk_1 (List.mem_of_getElem? (i := 20) rfl) rfl
theorem t_1_23 : (Jvm.Cond.initialized "java/util/Objects") ∈ TT := ttk_1 (List.mem_of_getElem? (i := 23) rfl) rfl
theorem t_1_24 : (Jvm.Cond.initialized "jdk/internal/util/Preconditions") ∈ TT := ttk_1 (List.mem_of_getElem? (i := 24) rfl) rfl
theorem t_1_31 : (Jvm.Cond.initialized "Miterhouse$Cuts") ∈ TT := ttk_1 (List.mem_of_getElem? (i := 31) rfl) rfl
theorem t_1_42 : (Jvm.Cond.initialized "java/lang/ArithmeticException") ∈ TT := ttk_1 (List.mem_of_getElem? (i := 42) rfl) rfl
theorem t_1_43 : (Jvm.Cond.classLink "MiterhouseLaw" (8 : Nat) "Miterhouse") ∈ TT := ttk_1 (List.mem_of_getElem? (i := 43) rfl) rfl
theorem t_1_44 : (Jvm.Cond.instantiable "Miterhouse" (3 : Nat)) ∈ TT := ttk_1 (List.mem_of_getElem? (i := 44) rfl) rfl
theorem t_1_45 : (Jvm.Cond.methodLink "MiterhouseLaw" (168 : Nat) ({ cls := "Miterhouse", name := "<init>", desc := "()V" } : Jvm.MethodName)) ∈ TT := ttk_1 (List.mem_of_getElem? (i := 45) rfl) rfl
theorem t_1_46 : (Jvm.Cond.instanceMethod ({ cls := "Miterhouse", name := "<init>", desc := "()V" } : Jvm.MethodName)) ∈ TT := ttk_1 (List.mem_of_getElem? (i := 46) rfl) rfl
theorem t_1_47 : (Jvm.Cond.code ({ cls := "Miterhouse", name := "<init>", desc := "()V" } : Jvm.MethodName) prog_1_method_1_code (1 : Nat) (Option.none : Option Jvm.ClassFile.FieldType)) ∈ TT := ttk_1 (List.mem_of_getElem? (i := 47) rfl) rfl
theorem t_1_48 : (Jvm.Cond.methodLink "Miterhouse" (1 : Nat) ({ cls := "java/lang/Object", name := "<init>", desc := "()V" } : Jvm.MethodName)) ∈ TT := ttk_1 (List.mem_of_getElem? (i := 48) rfl) rfl
theorem t_1_49 : (Jvm.Cond.instanceMethod ({ cls := "java/lang/Object", name := "<init>", desc := "()V" } : Jvm.MethodName)) ∈ TT := ttk_1 (List.mem_of_getElem? (i := 49) rfl) rfl
theorem t_1_50 : (Jvm.Cond.code ({ cls := "java/lang/Object", name := "<init>", desc := "()V" } : Jvm.MethodName) object_method_1_code (1 : Nat) (Option.none : Option Jvm.ClassFile.FieldType)) ∈ TT := ttk_1 (List.mem_of_getElem? (i := 50) rfl) rfl
theorem t_1_51 : (Jvm.Cond.classLink "Miterhouse" (7 : Nat) "Miterhouse$Nets") ∈ TT := ttk_1 (List.mem_of_getElem? (i := 51) rfl) rfl
theorem t_1_52 : (Jvm.Cond.instantiable "Miterhouse$Nets" (13 : Nat)) ∈ TT := ttk_1 (List.mem_of_getElem? (i := 52) rfl) rfl
theorem t_1_53 : (Jvm.Cond.methodLink "Miterhouse" (9 : Nat) ({ cls := "Miterhouse$Nets", name := "<init>", desc := "()V" } : Jvm.MethodName)) ∈ TT := ttk_1 (List.mem_of_getElem? (i := 53) rfl) rfl
theorem t_1_54 : (Jvm.Cond.instanceMethod ({ cls := "Miterhouse$Nets", name := "<init>", desc := "()V" } : Jvm.MethodName)) ∈ TT := ttk_1 (List.mem_of_getElem? (i := 54) rfl) rfl
theorem t_1_55 : (Jvm.Cond.code ({ cls := "Miterhouse$Nets", name := "<init>", desc := "()V" } : Jvm.MethodName) prog_8_method_1_code (1 : Nat) (Option.none : Option Jvm.ClassFile.FieldType)) ∈ TT := ttk_1 (List.mem_of_getElem? (i := 55) rfl) rfl
theorem t_1_56 : (Jvm.Cond.methodLink "Miterhouse$Nets" (3 : Nat) ({ cls := "java/lang/Object", name := "<init>", desc := "()V" } : Jvm.MethodName)) ∈ TT := ttk_1 (List.mem_of_getElem? (i := 56) rfl) rfl
theorem t_1_57 : (Jvm.Cond.fieldLink "Miterhouse$Nets" (9 : Nat) "Miterhouse$Nets" "kinds" "[C") ∈ TT := ttk_1 (List.mem_of_getElem? (i := 57) rfl) rfl
theorem t_1_58 : (Jvm.Cond.fieldLink "Miterhouse$Nets" (15 : Nat) "Miterhouse$Nets" "owners" "[I") ∈ TT := ttk_1 (List.mem_of_getElem? (i := 58) rfl) rfl
theorem t_1_59 : (Jvm.Cond.fieldLink "Miterhouse$Nets" (19 : Nat) "Miterhouse$Nets" "ones" "[I") ∈ TT := ttk_1 (List.mem_of_getElem? (i := 59) rfl) rfl
theorem t_1_60 : (Jvm.Cond.fieldLink "Miterhouse$Nets" (22 : Nat) "Miterhouse$Nets" "twos" "[I") ∈ TT := ttk_1 (List.mem_of_getElem? (i := 60) rfl) rfl
theorem t_1_61 : (Jvm.Cond.fieldLink "Miterhouse$Nets" (25 : Nat) "Miterhouse$Nets" "firsts" "[I") ∈ TT := ttk_1 (List.mem_of_getElem? (i := 61) rfl) rfl
theorem t_1_62 : (Jvm.Cond.fieldLink "Miterhouse$Nets" (28 : Nat) "Miterhouse$Nets" "names" "[I") ∈ TT := ttk_1 (List.mem_of_getElem? (i := 62) rfl) rfl
theorem t_1_63 : (Jvm.Cond.fieldLink "Miterhouse$Nets" (31 : Nat) "Miterhouse$Nets" "outputs" "[I") ∈ TT := ttk_1 (List.mem_of_getElem? (i := 63) rfl) rfl
theorem t_1_64 : (Jvm.Cond.fieldLink "Miterhouse$Nets" (34 : Nat) "Miterhouse$Nets" "outputCounts" "[I") ∈ TT := ttk_1 (List.mem_of_getElem? (i := 64) rfl) rfl
theorem t_1_65 : (Jvm.Cond.fieldLink "Miterhouse$Nets" (37 : Nat) "Miterhouse$Nets" "cellCounts" "[I") ∈ TT := ttk_1 (List.mem_of_getElem? (i := 65) rfl) rfl
theorem t_1_66 : (Jvm.Cond.fieldLink "Miterhouse$Nets" (40 : Nat) "Miterhouse$Nets" "sources" "[I") ∈ TT := ttk_1 (List.mem_of_getElem? (i := 66) rfl) rfl
theorem t_1_67 : (Jvm.Cond.fieldLink "Miterhouse$Nets" (43 : Nat) "Miterhouse$Nets" "marks" "[I") ∈ TT := ttk_1 (List.mem_of_getElem? (i := 67) rfl) rfl
theorem t_1_69 : (Jvm.Cond.fieldLink "Miterhouse$Nets" (46 : Nat) "Miterhouse$Nets" "lines" "I") ∈ TT := ttk_1 (List.mem_of_getElem? (i := 69) rfl) rfl
theorem t_1_71 : (Jvm.Cond.fieldLink "Miterhouse" (27 : Nat) "Miterhouse$Nets" "lines" "I") ∈ TT := ttk_1 (List.mem_of_getElem? (i := 71) rfl) rfl
theorem t_1_76 : (Jvm.Cond.fieldLink "Miterhouse$Nets" (50 : Nat) "Miterhouse$Nets" "inputs" "I") ∈ TT := ttk_1 (List.mem_of_getElem? (i := 76) rfl) rfl
theorem t_1_77 : (Jvm.Cond.fieldLink "Miterhouse" (31 : Nat) "Miterhouse$Nets" "inputs" "I") ∈ TT := ttk_1 (List.mem_of_getElem? (i := 77) rfl) rfl
theorem t_1_81 : (Jvm.Cond.laysFinal "Miterhouse$Nets" "Miterhouse$Nets" "kinds" "[C") ∈ TT := ttk_1 (List.mem_of_getElem? (i := 81) rfl) rfl
theorem t_1_83 : (Jvm.Cond.laysFinal "Miterhouse$Nets" "Miterhouse$Nets" "owners" "[I") ∈ TT := ttk_1 (List.mem_of_getElem? (i := 83) rfl) rfl
theorem t_1_85 : (Jvm.Cond.laysFinal "Miterhouse$Nets" "Miterhouse$Nets" "ones" "[I") ∈ TT := ttk_1 (List.mem_of_getElem? (i := 85) rfl) rfl
theorem t_1_87 : (Jvm.Cond.laysFinal "Miterhouse$Nets" "Miterhouse$Nets" "twos" "[I") ∈ TT := ttk_1 (List.mem_of_getElem? (i := 87) rfl) rfl
theorem t_1_89 : (Jvm.Cond.laysFinal "Miterhouse$Nets" "Miterhouse$Nets" "firsts" "[I") ∈ TT := ttk_1 (List.mem_of_getElem? (i := 89) rfl) rfl
theorem t_1_91 : (Jvm.Cond.laysFinal "Miterhouse$Nets" "Miterhouse$Nets" "names" "[I") ∈ TT := ttk_1 (List.mem_of_getElem? (i := 91) rfl) rfl
theorem t_1_93 : (Jvm.Cond.laysFinal "Miterhouse$Nets" "Miterhouse$Nets" "outputs" "[I") ∈ TT := ttk_1 (List.mem_of_getElem? (i := 93) rfl) rfl
theorem t_1_95 : (Jvm.Cond.laysFinal "Miterhouse$Nets" "Miterhouse$Nets" "outputCounts" "[I") ∈ TT := ttk_1 (List.mem_of_getElem? (i := 95) rfl) rfl
theorem t_1_97 : (Jvm.Cond.laysFinal "Miterhouse$Nets" "Miterhouse$Nets" "cellCounts" "[I") ∈ TT := ttk_1 (List.mem_of_getElem? (i := 97) rfl) rfl
theorem t_1_99 : (Jvm.Cond.laysFinal "Miterhouse$Nets" "Miterhouse$Nets" "sources" "[I") ∈ TT := ttk_1 (List.mem_of_getElem? (i := 99) rfl) rfl
theorem t_1_101 : (Jvm.Cond.laysFinal "Miterhouse$Nets" "Miterhouse$Nets" "marks" "[I") ∈ TT := ttk_1 (List.mem_of_getElem? (i := 101) rfl) rfl
theorem t_1_103 : (Jvm.Cond.lays "Miterhouse$Nets" "Miterhouse$Nets" "lines" "I") ∈ TT := ttk_1 (List.mem_of_getElem? (i := 103) rfl) rfl
theorem t_1_105 : (Jvm.Cond.lays "Miterhouse$Nets" "Miterhouse$Nets" "inputs" "I") ∈ TT := ttk_1 (List.mem_of_getElem? (i := 105) rfl) rfl
theorem t_1_108 : (Jvm.Cond.arrayClass Jvm.ClassFile.FieldType.char) ∈ TT := ttk_1 (List.mem_of_getElem? (i := 108) rfl) rfl
theorem t_1_109 : (Jvm.Cond.arrayClass Jvm.ClassFile.FieldType.int) ∈ TT := ttk_1 (List.mem_of_getElem? (i := 109) rfl) rfl
theorem t_1_110 : (Jvm.Cond.fieldLink "Miterhouse" (10 : Nat) "Miterhouse" "nets" "LMiterhouse$Nets;") ∈ TT := ttk_1 (List.mem_of_getElem? (i := 110) rfl) rfl
theorem t_1_111 : (Jvm.Cond.fieldLink "Miterhouse" (16 : Nat) "Miterhouse" "coefficients" "[I") ∈ TT := ttk_1 (List.mem_of_getElem? (i := 111) rfl) rfl
theorem t_1_112 : (Jvm.Cond.fieldLink "Miterhouse" (20 : Nat) "Miterhouse" "house" "LMiterhouse$Closed;") ∈ TT := ttk_1 (List.mem_of_getElem? (i := 112) rfl) rfl
theorem t_1_113 : (Jvm.Cond.laysFinal "Miterhouse" "Miterhouse" "nets" "LMiterhouse$Nets;") ∈ TT := ttk_1 (List.mem_of_getElem? (i := 113) rfl) rfl
theorem t_1_115 : (Jvm.Cond.laysFinal "Miterhouse" "Miterhouse" "coefficients" "[I") ∈ TT := ttk_1 (List.mem_of_getElem? (i := 115) rfl) rfl
theorem t_1_117 : (Jvm.Cond.lays "Miterhouse" "Miterhouse" "house" "LMiterhouse$Closed;") ∈ TT := ttk_1 (List.mem_of_getElem? (i := 117) rfl) rfl
theorem t_1_120 : (Jvm.Cond.methodLink "MiterhouseLaw" (242 : Nat) ({ cls := "Miterhouse", name := "mergeProofs", desc := "()J" } : Jvm.MethodName)) ∈ TT := ttk_1 (List.mem_of_getElem? (i := 120) rfl) rfl
theorem t_1_121 : (Jvm.Cond.instanceMethod ({ cls := "Miterhouse", name := "mergeProofs", desc := "()J" } : Jvm.MethodName)) ∈ TT := ttk_1 (List.mem_of_getElem? (i := 121) rfl) rfl
theorem t_1_122 : (Jvm.Cond.selects "Miterhouse" ({ cls := "Miterhouse", name := "mergeProofs", desc := "()J" } : Jvm.MethodName) ({ cls := "Miterhouse", name := "mergeProofs", desc := "()J" } : Jvm.MethodName)) ∈ TT := ttk_1 (List.mem_of_getElem? (i := 122) rfl) rfl
theorem t_1_123 : (Jvm.Cond.code ({ cls := "Miterhouse", name := "mergeProofs", desc := "()J" } : Jvm.MethodName) prog_1_method_21_code (1 : Nat) (Option.some Jvm.ClassFile.FieldType.long)) ∈ TT := ttk_1 (List.mem_of_getElem? (i := 123) rfl) rfl
theorem t_1_124 : (Jvm.Cond.methodLink "MiterhouseLaw" (247 : Nat) ({ cls := "Miterhouse", name := "patterns", desc := "()I" } : Jvm.MethodName)) ∈ TT := ttk_1 (List.mem_of_getElem? (i := 124) rfl) rfl
theorem t_1_125 : (Jvm.Cond.instanceMethod ({ cls := "Miterhouse", name := "patterns", desc := "()I" } : Jvm.MethodName)) ∈ TT := ttk_1 (List.mem_of_getElem? (i := 125) rfl) rfl
theorem t_1_126 : (Jvm.Cond.selects "Miterhouse" ({ cls := "Miterhouse", name := "patterns", desc := "()I" } : Jvm.MethodName) ({ cls := "Miterhouse", name := "patterns", desc := "()I" } : Jvm.MethodName)) ∈ TT := ttk_1 (List.mem_of_getElem? (i := 126) rfl) rfl
theorem t_1_127 : (Jvm.Cond.code ({ cls := "Miterhouse", name := "patterns", desc := "()I" } : Jvm.MethodName) prog_1_method_22_code (1 : Nat) (Option.some Jvm.ClassFile.FieldType.int)) ∈ TT := ttk_1 (List.mem_of_getElem? (i := 127) rfl) rfl
theorem t_1_128 : (Jvm.Cond.methodLink "MiterhouseLaw" (322 : Nat) ({ cls := "Miterhouse", name := "lines", desc := "()I" } : Jvm.MethodName)) ∈ TT := ttk_1 (List.mem_of_getElem? (i := 128) rfl) rfl
theorem t_1_129 : (Jvm.Cond.instanceMethod ({ cls := "Miterhouse", name := "lines", desc := "()I" } : Jvm.MethodName)) ∈ TT := ttk_1 (List.mem_of_getElem? (i := 129) rfl) rfl
theorem t_1_130 : (Jvm.Cond.selects "Miterhouse" ({ cls := "Miterhouse", name := "lines", desc := "()I" } : Jvm.MethodName) ({ cls := "Miterhouse", name := "lines", desc := "()I" } : Jvm.MethodName)) ∈ TT := ttk_1 (List.mem_of_getElem? (i := 130) rfl) rfl
theorem t_1_131 : (Jvm.Cond.code ({ cls := "Miterhouse", name := "lines", desc := "()I" } : Jvm.MethodName) prog_1_method_46_code (1 : Nat) (Option.some Jvm.ClassFile.FieldType.int)) ∈ TT := ttk_1 (List.mem_of_getElem? (i := 131) rfl) rfl
theorem t_1_132 : (Jvm.Cond.methodLink "MiterhouseLaw" (333 : Nat) ({ cls := "Miterhouse", name := "isSound", desc := "()Z" } : Jvm.MethodName)) ∈ TT := ttk_1 (List.mem_of_getElem? (i := 132) rfl) rfl
theorem t_1_133 : (Jvm.Cond.instanceMethod ({ cls := "Miterhouse", name := "isSound", desc := "()Z" } : Jvm.MethodName)) ∈ TT := ttk_1 (List.mem_of_getElem? (i := 133) rfl) rfl
theorem t_1_134 : (Jvm.Cond.selects "Miterhouse" ({ cls := "Miterhouse", name := "isSound", desc := "()Z" } : Jvm.MethodName) ({ cls := "Miterhouse", name := "isSound", desc := "()Z" } : Jvm.MethodName)) ∈ TT := ttk_1 (List.mem_of_getElem? (i := 134) rfl) rfl
theorem t_1_135 : (Jvm.Cond.code ({ cls := "Miterhouse", name := "isSound", desc := "()Z" } : Jvm.MethodName) prog_1_method_49_code (1 : Nat) (Option.some Jvm.ClassFile.FieldType.boolean)) ∈ TT := ttk_1 (List.mem_of_getElem? (i := 135) rfl) rfl
theorem t_1_154 : (Jvm.Cond.instanceMethod ({ cls := "Miterhouse$Nets", name := "outputsOf", desc := "(I)I" } : Jvm.MethodName)) ∈ TT := ttk_1 (List.mem_of_getElem? (i := 154) rfl) rfl
theorem t_1_155 : (Jvm.Cond.selects "Miterhouse$Nets" ({ cls := "Miterhouse$Nets", name := "outputsOf", desc := "(I)I" } : Jvm.MethodName) ({ cls := "Miterhouse$Nets", name := "outputsOf", desc := "(I)I" } : Jvm.MethodName)) ∈ TT := ttk_1 (List.mem_of_getElem? (i := 155) rfl) rfl
theorem t_1_156 : (Jvm.Cond.code ({ cls := "Miterhouse$Nets", name := "outputsOf", desc := "(I)I" } : Jvm.MethodName) prog_8_method_14_code (2 : Nat) (Option.some Jvm.ClassFile.FieldType.int)) ∈ TT := ttk_1 (List.mem_of_getElem? (i := 156) rfl) rfl
theorem t_1_157 : (Jvm.Cond.methodLinkNest "Miterhouse$Nets" (57 : Nat) ({ cls := "Miterhouse", name := "numberAt", desc := "([II)I" } : Jvm.MethodName) "Miterhouse") ∈ TT := ttk_1 (List.mem_of_getElem? (i := 157) rfl) rfl
theorem t_1_158 : (Jvm.Cond.static ({ cls := "Miterhouse", name := "numberAt", desc := "([II)I" } : Jvm.MethodName)) ∈ TT := ttk_1 (List.mem_of_getElem? (i := 158) rfl) rfl
theorem t_1_159 : (Jvm.Cond.code ({ cls := "Miterhouse", name := "numberAt", desc := "([II)I" } : Jvm.MethodName) prog_1_method_60_code (2 : Nat) (Option.some Jvm.ClassFile.FieldType.int)) ∈ TT := ttk_1 (List.mem_of_getElem? (i := 159) rfl) rfl
theorem t_1_204 : (Jvm.Cond.static ({ cls := "Miterhouse", name := "putNumber", desc := "([III)V" } : Jvm.MethodName)) ∈ TT := ttk_1 (List.mem_of_getElem? (i := 204) rfl) rfl
theorem t_1_205 : (Jvm.Cond.code ({ cls := "Miterhouse", name := "putNumber", desc := "([III)V" } : Jvm.MethodName) prog_1_method_61_code (3 : Nat) (Option.none : Option Jvm.ClassFile.FieldType)) ∈ TT := ttk_1 (List.mem_of_getElem? (i := 205) rfl) rfl
theorem t_2_86 : (Jvm.Cond.methodLink "MiterhouseLaw" (172 : Nat) ({ cls := "MiterhouseLaw", name := "input", desc := "(LMiterhouse;[J)I" } : Jvm.MethodName)) ∈ TT := ttk_2 (List.mem_of_getElem? (i := 86) rfl) rfl
theorem t_2_87 : (Jvm.Cond.static ({ cls := "MiterhouseLaw", name := "input", desc := "(LMiterhouse;[J)I" } : Jvm.MethodName)) ∈ TT := ttk_2 (List.mem_of_getElem? (i := 87) rfl) rfl
theorem t_2_88 : (Jvm.Cond.codeWith ({ cls := "MiterhouseLaw", name := "input", desc := "(LMiterhouse;[J)I" } : Jvm.MethodName) method_3_code (3 : Nat) (Option.some Jvm.ClassFile.FieldType.int) [((0 : Nat), (8 : Nat), (11 : Nat), (13 : Nat)), ((0 : Nat), (8 : Nat), (14 : Nat), (15 : Nat))]) ∈ TT := ttk_2 (List.mem_of_getElem? (i := 88) rfl) rfl
theorem t_2_89 : (Jvm.Cond.classLink "MiterhouseLaw" (13 : Nat) "java/lang/UnsupportedOperationException") ∈ TT := ttk_2 (List.mem_of_getElem? (i := 89) rfl) rfl
theorem t_2_91 : (Jvm.Cond.methodLink "MiterhouseLaw" (7 : Nat) ({ cls := "Miterhouse", name := "input", desc := "()I" } : Jvm.MethodName)) ∈ TT := ttk_2 (List.mem_of_getElem? (i := 91) rfl) rfl
theorem t_2_92 : (Jvm.Cond.instanceMethod ({ cls := "Miterhouse", name := "input", desc := "()I" } : Jvm.MethodName)) ∈ TT := ttk_2 (List.mem_of_getElem? (i := 92) rfl) rfl
theorem t_2_93 : (Jvm.Cond.selects "Miterhouse" ({ cls := "Miterhouse", name := "input", desc := "()I" } : Jvm.MethodName) ({ cls := "Miterhouse", name := "input", desc := "()I" } : Jvm.MethodName)) ∈ TT := ttk_2 (List.mem_of_getElem? (i := 93) rfl) rfl
theorem t_2_94 : (Jvm.Cond.code ({ cls := "Miterhouse", name := "input", desc := "()I" } : Jvm.MethodName) prog_1_method_2_code (1 : Nat) (Option.some Jvm.ClassFile.FieldType.int)) ∈ TT := ttk_2 (List.mem_of_getElem? (i := 94) rfl) rfl
theorem t_2_95 : (Jvm.Cond.methodLink "Miterhouse" (24 : Nat) ({ cls := "Miterhouse", name := "mustBeOpen", desc := "()V" } : Jvm.MethodName)) ∈ TT := ttk_2 (List.mem_of_getElem? (i := 95) rfl) rfl
theorem t_2_97 : (Jvm.Cond.instanceMethod ({ cls := "Miterhouse", name := "mustBeOpen", desc := "()V" } : Jvm.MethodName)) ∈ TT := ttk_2 (List.mem_of_getElem? (i := 97) rfl) rfl
theorem t_2_98 : (Jvm.Cond.code ({ cls := "Miterhouse", name := "mustBeOpen", desc := "()V" } : Jvm.MethodName) prog_1_method_50_code (1 : Nat) (Option.none : Option Jvm.ClassFile.FieldType)) ∈ TT := ttk_2 (List.mem_of_getElem? (i := 98) rfl) rfl
theorem t_2_99 : (Jvm.Cond.classLink "Miterhouse" (53 : Nat) "java/lang/UnsupportedOperationException") ∈ TT := ttk_2 (List.mem_of_getElem? (i := 99) rfl) rfl
theorem t_2_101 : (Jvm.Cond.castable "java/lang/UnsupportedOperationException" "java/lang/UnsupportedOperationException") ∈ TT := ttk_2 (List.mem_of_getElem? (i := 101) rfl) rfl
theorem t_2_187 : (Jvm.Cond.methodLink "Miterhouse" (41 : Nat) ({ cls := "Miterhouse$Nets", name := "addInput", desc := "()I" } : Jvm.MethodName)) ∈ TT := ttk_2 (List.mem_of_getElem? (i := 187) rfl) rfl
theorem t_2_188 : (Jvm.Cond.instanceMethod ({ cls := "Miterhouse$Nets", name := "addInput", desc := "()I" } : Jvm.MethodName)) ∈ TT := ttk_2 (List.mem_of_getElem? (i := 188) rfl) rfl
theorem t_2_189 : (Jvm.Cond.selects "Miterhouse$Nets" ({ cls := "Miterhouse$Nets", name := "addInput", desc := "()I" } : Jvm.MethodName) ({ cls := "Miterhouse$Nets", name := "addInput", desc := "()I" } : Jvm.MethodName)) ∈ TT := ttk_2 (List.mem_of_getElem? (i := 189) rfl) rfl
theorem t_2_190 : (Jvm.Cond.code ({ cls := "Miterhouse$Nets", name := "addInput", desc := "()I" } : Jvm.MethodName) prog_8_method_21_code (1 : Nat) (Option.some Jvm.ClassFile.FieldType.int)) ∈ TT := ttk_2 (List.mem_of_getElem? (i := 190) rfl) rfl
theorem t_2_191 : (Jvm.Cond.methodLink "Miterhouse$Nets" (79 : Nat) ({ cls := "Miterhouse$Nets", name := "addLine", desc := "(ICII)I" } : Jvm.MethodName)) ∈ TT := ttk_2 (List.mem_of_getElem? (i := 191) rfl) rfl
theorem t_2_193 : (Jvm.Cond.instanceMethod ({ cls := "Miterhouse$Nets", name := "addLine", desc := "(ICII)I" } : Jvm.MethodName)) ∈ TT := ttk_2 (List.mem_of_getElem? (i := 193) rfl) rfl
theorem t_2_194 : (Jvm.Cond.code ({ cls := "Miterhouse$Nets", name := "addLine", desc := "(ICII)I" } : Jvm.MethodName) prog_8_method_24_code (6 : Nat) (Option.some Jvm.ClassFile.FieldType.int)) ∈ TT := ttk_2 (List.mem_of_getElem? (i := 194) rfl) rfl
theorem t_2_195 : (Jvm.Cond.methodLinkNest "Miterhouse$Nets" (83 : Nat) ({ cls := "Miterhouse", name := "putNumber", desc := "([III)V" } : Jvm.MethodName) "Miterhouse") ∈ TT := ttk_2 (List.mem_of_getElem? (i := 195) rfl) rfl
theorem t_2_196 : (Jvm.Cond.methodLink "MiterhouseLaw" (181 : Nat) ({ cls := "MiterhouseLaw", name := "cell", desc := "(LMiterhouse;III[J)I" } : Jvm.MethodName)) ∈ TT := ttk_2 (List.mem_of_getElem? (i := 196) rfl) rfl
theorem t_2_197 : (Jvm.Cond.static ({ cls := "MiterhouseLaw", name := "cell", desc := "(LMiterhouse;III[J)I" } : Jvm.MethodName)) ∈ TT := ttk_2 (List.mem_of_getElem? (i := 197) rfl) rfl
theorem t_2_198 : (Jvm.Cond.codeWith ({ cls := "MiterhouseLaw", name := "cell", desc := "(LMiterhouse;III[J)I" } : Jvm.MethodName) method_4_code (6 : Nat) (Option.some Jvm.ClassFile.FieldType.int) [((0 : Nat), (12 : Nat), (15 : Nat), (21 : Nat)), ((0 : Nat), (12 : Nat), (19 : Nat), (13 : Nat)), ((0 : Nat), (12 : Nat), (23 : Nat), (15 : Nat))]) ∈ TT := ttk_2 (List.mem_of_getElem? (i := 198) rfl) rfl
theorem t_2_199 : (Jvm.Cond.classLink "MiterhouseLaw" (21 : Nat) "java/lang/IllegalArgumentException") ∈ TT := ttk_2 (List.mem_of_getElem? (i := 199) rfl) rfl
theorem t_2_200 : (Jvm.Cond.methodLink "MiterhouseLaw" (17 : Nat) ({ cls := "Miterhouse", name := "cell", desc := "(III)I" } : Jvm.MethodName)) ∈ TT := ttk_2 (List.mem_of_getElem? (i := 200) rfl) rfl
theorem t_2_201 : (Jvm.Cond.instanceMethod ({ cls := "Miterhouse", name := "cell", desc := "(III)I" } : Jvm.MethodName)) ∈ TT := ttk_2 (List.mem_of_getElem? (i := 201) rfl) rfl
theorem t_2_202 : (Jvm.Cond.selects "Miterhouse" ({ cls := "Miterhouse", name := "cell", desc := "(III)I" } : Jvm.MethodName) ({ cls := "Miterhouse", name := "cell", desc := "(III)I" } : Jvm.MethodName)) ∈ TT := ttk_2 (List.mem_of_getElem? (i := 202) rfl) rfl
theorem t_2_203 : (Jvm.Cond.code ({ cls := "Miterhouse", name := "cell", desc := "(III)I" } : Jvm.MethodName) prog_1_method_3_code (4 : Nat) (Option.some Jvm.ClassFile.FieldType.int)) ∈ TT := ttk_2 (List.mem_of_getElem? (i := 203) rfl) rfl
theorem t_2_204 : (Jvm.Cond.methodLink "Miterhouse" (45 : Nat) ({ cls := "Miterhouse", name := "mustBeWithin", desc := "(III)V" } : Jvm.MethodName)) ∈ TT := ttk_2 (List.mem_of_getElem? (i := 204) rfl) rfl
theorem t_2_205 : (Jvm.Cond.static ({ cls := "Miterhouse", name := "mustBeWithin", desc := "(III)V" } : Jvm.MethodName)) ∈ TT := ttk_2 (List.mem_of_getElem? (i := 205) rfl) rfl
theorem t_2_206 : (Jvm.Cond.code ({ cls := "Miterhouse", name := "mustBeWithin", desc := "(III)V" } : Jvm.MethodName) prog_1_method_58_code (3 : Nat) (Option.none : Option Jvm.ClassFile.FieldType)) ∈ TT := ttk_2 (List.mem_of_getElem? (i := 206) rfl) rfl
theorem t_2_207 : (Jvm.Cond.classLink "Miterhouse" (72 : Nat) "java/lang/IllegalArgumentException") ∈ TT := ttk_2 (List.mem_of_getElem? (i := 207) rfl) rfl
theorem t_2_209 : (Jvm.Cond.castable "java/lang/IllegalArgumentException" "java/lang/IllegalArgumentException") ∈ TT := ttk_2 (List.mem_of_getElem? (i := 209) rfl) rfl
theorem t_2_223 : (Jvm.Cond.methodLink "Miterhouse" (49 : Nat) ({ cls := "Miterhouse$Nets", name := "cellNamed", desc := "(II)I" } : Jvm.MethodName)) ∈ TT := ttk_2 (List.mem_of_getElem? (i := 223) rfl) rfl
theorem t_2_224 : (Jvm.Cond.instanceMethod ({ cls := "Miterhouse$Nets", name := "cellNamed", desc := "(II)I" } : Jvm.MethodName)) ∈ TT := ttk_2 (List.mem_of_getElem? (i := 224) rfl) rfl
theorem t_2_225 : (Jvm.Cond.selects "Miterhouse$Nets" ({ cls := "Miterhouse$Nets", name := "cellNamed", desc := "(II)I" } : Jvm.MethodName) ({ cls := "Miterhouse$Nets", name := "cellNamed", desc := "(II)I" } : Jvm.MethodName)) ∈ TT := ttk_2 (List.mem_of_getElem? (i := 225) rfl) rfl
theorem t_2_226 : (Jvm.Cond.code ({ cls := "Miterhouse$Nets", name := "cellNamed", desc := "(II)I" } : Jvm.MethodName) prog_8_method_19_code (4 : Nat) (Option.some Jvm.ClassFile.FieldType.int)) ∈ TT := ttk_2 (List.mem_of_getElem? (i := 226) rfl) rfl
theorem t_3_4 : (Jvm.Cond.methodLink "Miterhouse" (58 : Nat) ({ cls := "Miterhouse$Nets", name := "cellsOf", desc := "(I)I" } : Jvm.MethodName)) ∈ TT := ttk_3 (List.mem_of_getElem? (i := 4) rfl) rfl
theorem t_3_5 : (Jvm.Cond.instanceMethod ({ cls := "Miterhouse$Nets", name := "cellsOf", desc := "(I)I" } : Jvm.MethodName)) ∈ TT := ttk_3 (List.mem_of_getElem? (i := 5) rfl) rfl
theorem t_3_6 : (Jvm.Cond.selects "Miterhouse$Nets" ({ cls := "Miterhouse$Nets", name := "cellsOf", desc := "(I)I" } : Jvm.MethodName) ({ cls := "Miterhouse$Nets", name := "cellsOf", desc := "(I)I" } : Jvm.MethodName)) ∈ TT := ttk_3 (List.mem_of_getElem? (i := 6) rfl) rfl
theorem t_3_7 : (Jvm.Cond.code ({ cls := "Miterhouse$Nets", name := "cellsOf", desc := "(I)I" } : Jvm.MethodName) prog_8_method_13_code (2 : Nat) (Option.some Jvm.ClassFile.FieldType.int)) ∈ TT := ttk_3 (List.mem_of_getElem? (i := 7) rfl) rfl
theorem t_3_9 : (Jvm.Cond.methodLink "Miterhouse" (64 : Nat) ({ cls := "Miterhouse$Nets", name := "addCell", desc := "(III)I" } : Jvm.MethodName)) ∈ TT := ttk_3 (List.mem_of_getElem? (i := 9) rfl) rfl
theorem t_3_10 : (Jvm.Cond.instanceMethod ({ cls := "Miterhouse$Nets", name := "addCell", desc := "(III)I" } : Jvm.MethodName)) ∈ TT := ttk_3 (List.mem_of_getElem? (i := 10) rfl) rfl
theorem t_3_11 : (Jvm.Cond.selects "Miterhouse$Nets" ({ cls := "Miterhouse$Nets", name := "addCell", desc := "(III)I" } : Jvm.MethodName) ({ cls := "Miterhouse$Nets", name := "addCell", desc := "(III)I" } : Jvm.MethodName)) ∈ TT := ttk_3 (List.mem_of_getElem? (i := 11) rfl) rfl
theorem t_3_12 : (Jvm.Cond.code ({ cls := "Miterhouse$Nets", name := "addCell", desc := "(III)I" } : Jvm.MethodName) prog_8_method_22_code (4 : Nat) (Option.some Jvm.ClassFile.FieldType.int)) ∈ TT := ttk_3 (List.mem_of_getElem? (i := 12) rfl) rfl
theorem t_3_13 : (Jvm.Cond.methodLink "Miterhouse$Nets" (61 : Nat) ({ cls := "Miterhouse$Nets", name := "cellsOf", desc := "(I)I" } : Jvm.MethodName)) ∈ TT := ttk_3 (List.mem_of_getElem? (i := 13) rfl) rfl
theorem t_3_14 : (Jvm.Cond.methodLink "MiterhouseLaw" (185 : Nat) ({ cls := "MiterhouseLaw", name := "gate", desc := "(LMiterhouse;ICII[J)I" } : Jvm.MethodName)) ∈ TT := ttk_3 (List.mem_of_getElem? (i := 14) rfl) rfl
theorem t_3_15 : (Jvm.Cond.static ({ cls := "MiterhouseLaw", name := "gate", desc := "(LMiterhouse;ICII[J)I" } : Jvm.MethodName)) ∈ TT := ttk_3 (List.mem_of_getElem? (i := 15) rfl) rfl
theorem t_3_16 : (Jvm.Cond.codeWith ({ cls := "MiterhouseLaw", name := "gate", desc := "(LMiterhouse;ICII[J)I" } : Jvm.MethodName) method_5_code (7 : Nat) (Option.some Jvm.ClassFile.FieldType.int) [((0 : Nat), (14 : Nat), (17 : Nat), (21 : Nat)), ((0 : Nat), (14 : Nat), (21 : Nat), (27 : Nat)), ((0 : Nat), (14 : Nat), (25 : Nat), (13 : Nat)), ((0 : Nat), (14 : Nat), (29 : Nat), (15 : Nat))]) ∈ TT := ttk_3 (List.mem_of_getElem? (i := 16) rfl) rfl
theorem t_3_17 : (Jvm.Cond.classLink "MiterhouseLaw" (27 : Nat) "java/lang/IndexOutOfBoundsException") ∈ TT := ttk_3 (List.mem_of_getElem? (i := 17) rfl) rfl
theorem t_3_41 : (Jvm.Cond.methodLink "MiterhouseLaw" (23 : Nat) ({ cls := "Miterhouse", name := "gate", desc := "(ICII)I" } : Jvm.MethodName)) ∈ TT := ttk_3 (List.mem_of_getElem? (i := 41) rfl) rfl
theorem t_3_42 : (Jvm.Cond.instanceMethod ({ cls := "Miterhouse", name := "gate", desc := "(ICII)I" } : Jvm.MethodName)) ∈ TT := ttk_3 (List.mem_of_getElem? (i := 42) rfl) rfl
theorem t_3_43 : (Jvm.Cond.selects "Miterhouse" ({ cls := "Miterhouse", name := "gate", desc := "(ICII)I" } : Jvm.MethodName) ({ cls := "Miterhouse", name := "gate", desc := "(ICII)I" } : Jvm.MethodName)) ∈ TT := ttk_3 (List.mem_of_getElem? (i := 43) rfl) rfl
theorem t_3_44 : (Jvm.Cond.code ({ cls := "Miterhouse", name := "gate", desc := "(ICII)I" } : Jvm.MethodName) prog_1_method_4_code (7 : Nat) (Option.some Jvm.ClassFile.FieldType.int)) ∈ TT := ttk_3 (List.mem_of_getElem? (i := 44) rfl) rfl
theorem t_3_45 : (Jvm.Cond.methodLink "Miterhouse" (68 : Nat) ({ cls := "Miterhouse", name := "isPairKind", desc := "(C)Z" } : Jvm.MethodName)) ∈ TT := ttk_3 (List.mem_of_getElem? (i := 45) rfl) rfl
theorem t_3_46 : (Jvm.Cond.static ({ cls := "Miterhouse", name := "isPairKind", desc := "(C)Z" } : Jvm.MethodName)) ∈ TT := ttk_3 (List.mem_of_getElem? (i := 46) rfl) rfl
theorem t_3_47 : (Jvm.Cond.code ({ cls := "Miterhouse", name := "isPairKind", desc := "(C)Z" } : Jvm.MethodName) prog_1_method_59_code (1 : Nat) (Option.some Jvm.ClassFile.FieldType.boolean)) ∈ TT := ttk_3 (List.mem_of_getElem? (i := 47) rfl) rfl
theorem t_3_49 : (Jvm.Cond.methodLink "Miterhouse" (77 : Nat) ({ cls := "Miterhouse", name := "mustBeLine", desc := "(I)V" } : Jvm.MethodName)) ∈ TT := ttk_3 (List.mem_of_getElem? (i := 49) rfl) rfl
theorem t_3_51 : (Jvm.Cond.instanceMethod ({ cls := "Miterhouse", name := "mustBeLine", desc := "(I)V" } : Jvm.MethodName)) ∈ TT := ttk_3 (List.mem_of_getElem? (i := 51) rfl) rfl
theorem t_3_52 : (Jvm.Cond.code ({ cls := "Miterhouse", name := "mustBeLine", desc := "(I)V" } : Jvm.MethodName) prog_1_method_52_code (2 : Nat) (Option.none : Option Jvm.ClassFile.FieldType)) ∈ TT := ttk_3 (List.mem_of_getElem? (i := 52) rfl) rfl
theorem t_3_53 : (Jvm.Cond.methodLink "Miterhouse" (398 : Nat) ({ cls := "Miterhouse$Nets", name := "hasLine", desc := "(I)Z" } : Jvm.MethodName)) ∈ TT := ttk_3 (List.mem_of_getElem? (i := 53) rfl) rfl
theorem t_3_54 : (Jvm.Cond.instanceMethod ({ cls := "Miterhouse$Nets", name := "hasLine", desc := "(I)Z" } : Jvm.MethodName)) ∈ TT := ttk_3 (List.mem_of_getElem? (i := 54) rfl) rfl
theorem t_3_55 : (Jvm.Cond.selects "Miterhouse$Nets" ({ cls := "Miterhouse$Nets", name := "hasLine", desc := "(I)Z" } : Jvm.MethodName) ({ cls := "Miterhouse$Nets", name := "hasLine", desc := "(I)Z" } : Jvm.MethodName)) ∈ TT := ttk_3 (List.mem_of_getElem? (i := 55) rfl) rfl
theorem t_3_56 : (Jvm.Cond.code ({ cls := "Miterhouse$Nets", name := "hasLine", desc := "(I)Z" } : Jvm.MethodName) prog_8_method_2_code (2 : Nat) (Option.some Jvm.ClassFile.FieldType.boolean)) ∈ TT := ttk_3 (List.mem_of_getElem? (i := 56) rfl) rfl
theorem t_3_57 : (Jvm.Cond.classLink "Miterhouse" (401 : Nat) "java/lang/IndexOutOfBoundsException") ∈ TT := ttk_3 (List.mem_of_getElem? (i := 57) rfl) rfl
theorem t_3_59 : (Jvm.Cond.castable "java/lang/IndexOutOfBoundsException" "java/lang/IndexOutOfBoundsException") ∈ TT := ttk_3 (List.mem_of_getElem? (i := 59) rfl) rfl
theorem t_3_80 : (Jvm.Cond.methodLink "MiterhouseLaw" (189 : Nat) ({ cls := "MiterhouseLaw", name := "data", desc := "(LMiterhouse;II[J)I" } : Jvm.MethodName)) ∈ TT := ttk_3 (List.mem_of_getElem? (i := 80) rfl) rfl
theorem t_3_81 : (Jvm.Cond.static ({ cls := "MiterhouseLaw", name := "data", desc := "(LMiterhouse;II[J)I" } : Jvm.MethodName)) ∈ TT := ttk_3 (List.mem_of_getElem? (i := 81) rfl) rfl
theorem t_3_82 : (Jvm.Cond.codeWith ({ cls := "MiterhouseLaw", name := "data", desc := "(LMiterhouse;II[J)I" } : Jvm.MethodName) method_6_code (5 : Nat) (Option.some Jvm.ClassFile.FieldType.int) [((0 : Nat), (10 : Nat), (13 : Nat), (27 : Nat)), ((0 : Nat), (10 : Nat), (17 : Nat), (13 : Nat))]) ∈ TT := ttk_3 (List.mem_of_getElem? (i := 82) rfl) rfl
theorem t_3_83 : (Jvm.Cond.methodLink "MiterhouseLaw" (29 : Nat) ({ cls := "Miterhouse", name := "data", desc := "(II)I" } : Jvm.MethodName)) ∈ TT := ttk_3 (List.mem_of_getElem? (i := 83) rfl) rfl
theorem t_3_84 : (Jvm.Cond.instanceMethod ({ cls := "Miterhouse", name := "data", desc := "(II)I" } : Jvm.MethodName)) ∈ TT := ttk_3 (List.mem_of_getElem? (i := 84) rfl) rfl
theorem t_3_85 : (Jvm.Cond.selects "Miterhouse" ({ cls := "Miterhouse", name := "data", desc := "(II)I" } : Jvm.MethodName) ({ cls := "Miterhouse", name := "data", desc := "(II)I" } : Jvm.MethodName)) ∈ TT := ttk_3 (List.mem_of_getElem? (i := 85) rfl) rfl
theorem t_3_86 : (Jvm.Cond.code ({ cls := "Miterhouse", name := "data", desc := "(II)I" } : Jvm.MethodName) prog_1_method_5_code (3 : Nat) (Option.some Jvm.ClassFile.FieldType.int)) ∈ TT := ttk_3 (List.mem_of_getElem? (i := 86) rfl) rfl
theorem t_3_99 : (Jvm.Cond.methodLink "MiterhouseLaw" (193 : Nat) ({ cls := "MiterhouseLaw", name := "output", desc := "(LMiterhouse;II[J)I" } : Jvm.MethodName)) ∈ TT := ttk_3 (List.mem_of_getElem? (i := 99) rfl) rfl
theorem t_3_100 : (Jvm.Cond.static ({ cls := "MiterhouseLaw", name := "output", desc := "(LMiterhouse;II[J)I" } : Jvm.MethodName)) ∈ TT := ttk_3 (List.mem_of_getElem? (i := 100) rfl) rfl
theorem t_3_101 : (Jvm.Cond.codeWith ({ cls := "MiterhouseLaw", name := "output", desc := "(LMiterhouse;II[J)I" } : Jvm.MethodName) method_7_code (5 : Nat) (Option.some Jvm.ClassFile.FieldType.int) [((0 : Nat), (10 : Nat), (13 : Nat), (21 : Nat)), ((0 : Nat), (10 : Nat), (17 : Nat), (27 : Nat)), ((0 : Nat), (10 : Nat), (21 : Nat), (13 : Nat)), ((0 : Nat), (10 : Nat), (25 : Nat), (15 : Nat))]) ∈ TT := ttk_3 (List.mem_of_getElem? (i := 101) rfl) rfl
theorem t_3_102 : (Jvm.Cond.methodLink "MiterhouseLaw" (33 : Nat) ({ cls := "Miterhouse", name := "output", desc := "(II)I" } : Jvm.MethodName)) ∈ TT := ttk_3 (List.mem_of_getElem? (i := 102) rfl) rfl
theorem t_3_103 : (Jvm.Cond.instanceMethod ({ cls := "Miterhouse", name := "output", desc := "(II)I" } : Jvm.MethodName)) ∈ TT := ttk_3 (List.mem_of_getElem? (i := 103) rfl) rfl
theorem t_3_104 : (Jvm.Cond.selects "Miterhouse" ({ cls := "Miterhouse", name := "output", desc := "(II)I" } : Jvm.MethodName) ({ cls := "Miterhouse", name := "output", desc := "(II)I" } : Jvm.MethodName)) ∈ TT := ttk_3 (List.mem_of_getElem? (i := 104) rfl) rfl
theorem t_3_105 : (Jvm.Cond.code ({ cls := "Miterhouse", name := "output", desc := "(II)I" } : Jvm.MethodName) prog_1_method_6_code (3 : Nat) (Option.some Jvm.ClassFile.FieldType.int)) ∈ TT := ttk_3 (List.mem_of_getElem? (i := 105) rfl) rfl
theorem t_3_112 : (Jvm.Cond.methodLink "Miterhouse$Nets" (90 : Nat) ({ cls := "Miterhouse$Nets", name := "outputsOf", desc := "(I)I" } : Jvm.MethodName)) ∈ TT := ttk_3 (List.mem_of_getElem? (i := 112) rfl) rfl
theorem t_3_113 : (Jvm.Cond.methodLink "MiterhouseLaw" (196 : Nat) ({ cls := "MiterhouseLaw", name := "close", desc := "(LMiterhouse;[J)I" } : Jvm.MethodName)) ∈ TT := ttk_3 (List.mem_of_getElem? (i := 113) rfl) rfl
theorem t_3_114 : (Jvm.Cond.static ({ cls := "MiterhouseLaw", name := "close", desc := "(LMiterhouse;[J)I" } : Jvm.MethodName)) ∈ TT := ttk_3 (List.mem_of_getElem? (i := 114) rfl) rfl
theorem t_3_115 : (Jvm.Cond.codeWith ({ cls := "MiterhouseLaw", name := "close", desc := "(LMiterhouse;[J)I" } : Jvm.MethodName) method_8_code (3 : Nat) (Option.some Jvm.ClassFile.FieldType.int) [((0 : Nat), (8 : Nat), (11 : Nat), (13 : Nat))]) ∈ TT := ttk_3 (List.mem_of_getElem? (i := 115) rfl) rfl
theorem t_3_116 : (Jvm.Cond.methodLink "MiterhouseLaw" (36 : Nat) ({ cls := "Miterhouse", name := "close", desc := "()I" } : Jvm.MethodName)) ∈ TT := ttk_3 (List.mem_of_getElem? (i := 116) rfl) rfl
theorem t_3_117 : (Jvm.Cond.instanceMethod ({ cls := "Miterhouse", name := "close", desc := "()I" } : Jvm.MethodName)) ∈ TT := ttk_3 (List.mem_of_getElem? (i := 117) rfl) rfl
theorem t_3_118 : (Jvm.Cond.selects "Miterhouse" ({ cls := "Miterhouse", name := "close", desc := "()I" } : Jvm.MethodName) ({ cls := "Miterhouse", name := "close", desc := "()I" } : Jvm.MethodName)) ∈ TT := ttk_3 (List.mem_of_getElem? (i := 118) rfl) rfl
theorem t_3_119 : (Jvm.Cond.code ({ cls := "Miterhouse", name := "close", desc := "()I" } : Jvm.MethodName) prog_1_method_7_code (2 : Nat) (Option.some Jvm.ClassFile.FieldType.int)) ∈ TT := ttk_3 (List.mem_of_getElem? (i := 119) rfl) rfl
theorem t_3_120 : (Jvm.Cond.methodLink "Miterhouse" (110 : Nat) ({ cls := "Miterhouse$Nets", name := "canBeClosed", desc := "()Z" } : Jvm.MethodName)) ∈ TT := ttk_3 (List.mem_of_getElem? (i := 120) rfl) rfl
theorem t_3_121 : (Jvm.Cond.instanceMethod ({ cls := "Miterhouse$Nets", name := "canBeClosed", desc := "()Z" } : Jvm.MethodName)) ∈ TT := ttk_3 (List.mem_of_getElem? (i := 121) rfl) rfl
theorem t_3_122 : (Jvm.Cond.selects "Miterhouse$Nets" ({ cls := "Miterhouse$Nets", name := "canBeClosed", desc := "()Z" } : Jvm.MethodName) ({ cls := "Miterhouse$Nets", name := "canBeClosed", desc := "()Z" } : Jvm.MethodName)) ∈ TT := ttk_3 (List.mem_of_getElem? (i := 122) rfl) rfl
theorem t_3_123 : (Jvm.Cond.code ({ cls := "Miterhouse$Nets", name := "canBeClosed", desc := "()Z" } : Jvm.MethodName) prog_8_method_27_code (2 : Nat) (Option.some Jvm.ClassFile.FieldType.boolean)) ∈ TT := ttk_3 (List.mem_of_getElem? (i := 123) rfl) rfl
theorem t_3_145 : (Jvm.Cond.instanceMethod ({ cls := "Miterhouse$Nets", name := "sourceCount", desc := "()I" } : Jvm.MethodName)) ∈ TT := ttk_3 (List.mem_of_getElem? (i := 145) rfl) rfl
theorem t_3_146 : (Jvm.Cond.selects "Miterhouse$Nets" ({ cls := "Miterhouse$Nets", name := "sourceCount", desc := "()I" } : Jvm.MethodName) ({ cls := "Miterhouse$Nets", name := "sourceCount", desc := "()I" } : Jvm.MethodName)) ∈ TT := ttk_3 (List.mem_of_getElem? (i := 146) rfl) rfl
theorem t_3_147 : (Jvm.Cond.code ({ cls := "Miterhouse$Nets", name := "sourceCount", desc := "()I" } : Jvm.MethodName) prog_8_method_16_code (1 : Nat) (Option.some Jvm.ClassFile.FieldType.int)) ∈ TT := ttk_3 (List.mem_of_getElem? (i := 147) rfl) rfl
theorem t_3_207 : (Jvm.Cond.arrayClass Jvm.ClassFile.FieldType.long) ∈ TT := ttk_3 (List.mem_of_getElem? (i := 207) rfl) rfl
theorem t_5_86 : (Jvm.Cond.static ({ cls := "Miterhouse", name := "highHalf", desc := "(I)J" } : Jvm.MethodName)) ∈ TT := ttk_5 (List.mem_of_getElem? (i := 86) rfl) rfl
theorem t_5_87 : (Jvm.Cond.code ({ cls := "Miterhouse", name := "highHalf", desc := "(I)J" } : Jvm.MethodName) prog_1_method_64_code (1 : Nat) (Option.some Jvm.ClassFile.FieldType.long)) ∈ TT := ttk_5 (List.mem_of_getElem? (i := 87) rfl) rfl
theorem t_5_88 : (Jvm.Cond.fieldLink "Miterhouse" (422 : Nat) "Miterhouse" "HIGH_HALVES" "[J") ∈ TT := ttk_5 (List.mem_of_getElem? (i := 88) rfl) rfl
theorem t_5_121 : (Jvm.Cond.methodLink "Miterhouse" (127 : Nat) ({ cls := "Miterhouse$Nets", name := "sourceCount", desc := "()I" } : Jvm.MethodName)) ∈ TT := ttk_5 (List.mem_of_getElem? (i := 121) rfl) rfl
theorem t_5_122 : (Jvm.Cond.methodLink "MiterhouseLaw" (199 : Nat) ({ cls := "MiterhouseLaw", name := "constrain", desc := "(LMiterhouse;I[J)I" } : Jvm.MethodName)) ∈ TT := ttk_5 (List.mem_of_getElem? (i := 122) rfl) rfl
theorem t_5_123 : (Jvm.Cond.static ({ cls := "MiterhouseLaw", name := "constrain", desc := "(LMiterhouse;I[J)I" } : Jvm.MethodName)) ∈ TT := ttk_5 (List.mem_of_getElem? (i := 123) rfl) rfl
theorem t_5_124 : (Jvm.Cond.codeWith ({ cls := "MiterhouseLaw", name := "constrain", desc := "(LMiterhouse;I[J)I" } : Jvm.MethodName) method_9_code (4 : Nat) (Option.some Jvm.ClassFile.FieldType.int) [((0 : Nat), (9 : Nat), (12 : Nat), (27 : Nat)), ((0 : Nat), (9 : Nat), (15 : Nat), (13 : Nat)), ((0 : Nat), (9 : Nat), (18 : Nat), (15 : Nat))]) ∈ TT := ttk_5 (List.mem_of_getElem? (i := 124) rfl) rfl
theorem t_5_125 : (Jvm.Cond.methodLink "MiterhouseLaw" (39 : Nat) ({ cls := "Miterhouse", name := "constrain", desc := "(I)I" } : Jvm.MethodName)) ∈ TT := ttk_5 (List.mem_of_getElem? (i := 125) rfl) rfl
theorem t_5_126 : (Jvm.Cond.instanceMethod ({ cls := "Miterhouse", name := "constrain", desc := "(I)I" } : Jvm.MethodName)) ∈ TT := ttk_5 (List.mem_of_getElem? (i := 126) rfl) rfl
theorem t_5_127 : (Jvm.Cond.selects "Miterhouse" ({ cls := "Miterhouse", name := "constrain", desc := "(I)I" } : Jvm.MethodName) ({ cls := "Miterhouse", name := "constrain", desc := "(I)I" } : Jvm.MethodName)) ∈ TT := ttk_5 (List.mem_of_getElem? (i := 127) rfl) rfl
theorem t_5_128 : (Jvm.Cond.code ({ cls := "Miterhouse", name := "constrain", desc := "(I)I" } : Jvm.MethodName) prog_1_method_8_code (3 : Nat) (Option.some Jvm.ClassFile.FieldType.int)) ∈ TT := ttk_5 (List.mem_of_getElem? (i := 128) rfl) rfl
theorem t_5_129 : (Jvm.Cond.methodLink "Miterhouse" (130 : Nat) ({ cls := "Miterhouse", name := "mustBeClosed", desc := "()LMiterhouse$Closed;" } : Jvm.MethodName)) ∈ TT := ttk_5 (List.mem_of_getElem? (i := 129) rfl) rfl
theorem t_5_131 : (Jvm.Cond.instanceMethod ({ cls := "Miterhouse", name := "mustBeClosed", desc := "()LMiterhouse$Closed;" } : Jvm.MethodName)) ∈ TT := ttk_5 (List.mem_of_getElem? (i := 131) rfl) rfl
theorem t_5_132 : (Jvm.Cond.code ({ cls := "Miterhouse", name := "mustBeClosed", desc := "()LMiterhouse$Closed;" } : Jvm.MethodName) prog_1_method_51_code (1 : Nat) (Option.some (Jvm.ClassFile.FieldType.object "Miterhouse$Closed"))) ∈ TT := ttk_5 (List.mem_of_getElem? (i := 132) rfl) rfl
theorem t_5_159 : (Jvm.Cond.methodLink "MiterhouseLaw" (203 : Nat) ({ cls := "MiterhouseLaw", name := "value", desc := "(LMiterhouse;II[J)I" } : Jvm.MethodName)) ∈ TT := ttk_5 (List.mem_of_getElem? (i := 159) rfl) rfl
theorem t_5_160 : (Jvm.Cond.static ({ cls := "MiterhouseLaw", name := "value", desc := "(LMiterhouse;II[J)I" } : Jvm.MethodName)) ∈ TT := ttk_5 (List.mem_of_getElem? (i := 160) rfl) rfl
theorem t_5_161 : (Jvm.Cond.codeWith ({ cls := "MiterhouseLaw", name := "value", desc := "(LMiterhouse;II[J)I" } : Jvm.MethodName) method_10_code (5 : Nat) (Option.some Jvm.ClassFile.FieldType.int) [((0 : Nat), (10 : Nat), (13 : Nat), (27 : Nat)), ((0 : Nat), (10 : Nat), (17 : Nat), (21 : Nat)), ((0 : Nat), (10 : Nat), (21 : Nat), (13 : Nat))]) ∈ TT := ttk_5 (List.mem_of_getElem? (i := 161) rfl) rfl
theorem t_5_162 : (Jvm.Cond.methodLink "MiterhouseLaw" (43 : Nat) ({ cls := "Miterhouse", name := "value", desc := "(II)I" } : Jvm.MethodName)) ∈ TT := ttk_5 (List.mem_of_getElem? (i := 162) rfl) rfl
theorem t_5_163 : (Jvm.Cond.instanceMethod ({ cls := "Miterhouse", name := "value", desc := "(II)I" } : Jvm.MethodName)) ∈ TT := ttk_5 (List.mem_of_getElem? (i := 163) rfl) rfl
theorem t_5_164 : (Jvm.Cond.selects "Miterhouse" ({ cls := "Miterhouse", name := "value", desc := "(II)I" } : Jvm.MethodName) ({ cls := "Miterhouse", name := "value", desc := "(II)I" } : Jvm.MethodName)) ∈ TT := ttk_5 (List.mem_of_getElem? (i := 164) rfl) rfl
theorem t_5_165 : (Jvm.Cond.code ({ cls := "Miterhouse", name := "value", desc := "(II)I" } : Jvm.MethodName) prog_1_method_9_code (3 : Nat) (Option.some Jvm.ClassFile.FieldType.int)) ∈ TT := ttk_5 (List.mem_of_getElem? (i := 165) rfl) rfl
theorem t_5_166 : (Jvm.Cond.methodLink "Miterhouse" (160 : Nat) ({ cls := "Miterhouse", name := "mustBeChoice", desc := "(I)V" } : Jvm.MethodName)) ∈ TT := ttk_5 (List.mem_of_getElem? (i := 166) rfl) rfl
theorem t_5_168 : (Jvm.Cond.instanceMethod ({ cls := "Miterhouse", name := "mustBeChoice", desc := "(I)V" } : Jvm.MethodName)) ∈ TT := ttk_5 (List.mem_of_getElem? (i := 168) rfl) rfl
theorem t_5_169 : (Jvm.Cond.code ({ cls := "Miterhouse", name := "mustBeChoice", desc := "(I)V" } : Jvm.MethodName) prog_1_method_54_code (2 : Nat) (Option.none : Option Jvm.ClassFile.FieldType)) ∈ TT := ttk_5 (List.mem_of_getElem? (i := 169) rfl) rfl
theorem t_5_171 : (Jvm.Cond.methodLink "MiterhouseLaw" (206 : Nat) ({ cls := "MiterhouseLaw", name := "literal", desc := "(LMiterhouse;I[J)I" } : Jvm.MethodName)) ∈ TT := ttk_5 (List.mem_of_getElem? (i := 171) rfl) rfl
theorem t_5_172 : (Jvm.Cond.static ({ cls := "MiterhouseLaw", name := "literal", desc := "(LMiterhouse;I[J)I" } : Jvm.MethodName)) ∈ TT := ttk_5 (List.mem_of_getElem? (i := 172) rfl) rfl
theorem t_5_173 : (Jvm.Cond.codeWith ({ cls := "MiterhouseLaw", name := "literal", desc := "(LMiterhouse;I[J)I" } : Jvm.MethodName) method_11_code (4 : Nat) (Option.some Jvm.ClassFile.FieldType.int) [((0 : Nat), (9 : Nat), (12 : Nat), (27 : Nat)), ((0 : Nat), (9 : Nat), (15 : Nat), (13 : Nat))]) ∈ TT := ttk_5 (List.mem_of_getElem? (i := 173) rfl) rfl
theorem t_5_174 : (Jvm.Cond.methodLink "MiterhouseLaw" (46 : Nat) ({ cls := "Miterhouse", name := "literal", desc := "(I)I" } : Jvm.MethodName)) ∈ TT := ttk_5 (List.mem_of_getElem? (i := 174) rfl) rfl
theorem t_5_175 : (Jvm.Cond.instanceMethod ({ cls := "Miterhouse", name := "literal", desc := "(I)I" } : Jvm.MethodName)) ∈ TT := ttk_5 (List.mem_of_getElem? (i := 175) rfl) rfl
theorem t_5_176 : (Jvm.Cond.selects "Miterhouse" ({ cls := "Miterhouse", name := "literal", desc := "(I)I" } : Jvm.MethodName) ({ cls := "Miterhouse", name := "literal", desc := "(I)I" } : Jvm.MethodName)) ∈ TT := ttk_5 (List.mem_of_getElem? (i := 176) rfl) rfl
theorem t_5_177 : (Jvm.Cond.code ({ cls := "Miterhouse", name := "literal", desc := "(I)I" } : Jvm.MethodName) prog_1_method_10_code (2 : Nat) (Option.some Jvm.ClassFile.FieldType.int)) ∈ TT := ttk_5 (List.mem_of_getElem? (i := 177) rfl) rfl
theorem t_5_179 : (Jvm.Cond.methodLink "MiterhouseLaw" (209 : Nat) ({ cls := "MiterhouseLaw", name := "ands", desc := "(LMiterhouse;[J)I" } : Jvm.MethodName)) ∈ TT := ttk_5 (List.mem_of_getElem? (i := 179) rfl) rfl
theorem t_5_180 : (Jvm.Cond.static ({ cls := "MiterhouseLaw", name := "ands", desc := "(LMiterhouse;[J)I" } : Jvm.MethodName)) ∈ TT := ttk_5 (List.mem_of_getElem? (i := 180) rfl) rfl
theorem t_5_181 : (Jvm.Cond.codeWith ({ cls := "MiterhouseLaw", name := "ands", desc := "(LMiterhouse;[J)I" } : Jvm.MethodName) method_12_code (3 : Nat) (Option.some Jvm.ClassFile.FieldType.int) [((0 : Nat), (8 : Nat), (11 : Nat), (13 : Nat))]) ∈ TT := ttk_5 (List.mem_of_getElem? (i := 181) rfl) rfl
theorem t_5_182 : (Jvm.Cond.methodLink "MiterhouseLaw" (49 : Nat) ({ cls := "Miterhouse", name := "ands", desc := "()I" } : Jvm.MethodName)) ∈ TT := ttk_5 (List.mem_of_getElem? (i := 182) rfl) rfl
theorem t_5_183 : (Jvm.Cond.instanceMethod ({ cls := "Miterhouse", name := "ands", desc := "()I" } : Jvm.MethodName)) ∈ TT := ttk_5 (List.mem_of_getElem? (i := 183) rfl) rfl
theorem t_5_184 : (Jvm.Cond.selects "Miterhouse" ({ cls := "Miterhouse", name := "ands", desc := "()I" } : Jvm.MethodName) ({ cls := "Miterhouse", name := "ands", desc := "()I" } : Jvm.MethodName)) ∈ TT := ttk_5 (List.mem_of_getElem? (i := 184) rfl) rfl
theorem t_5_185 : (Jvm.Cond.code ({ cls := "Miterhouse", name := "ands", desc := "()I" } : Jvm.MethodName) prog_1_method_11_code (1 : Nat) (Option.some Jvm.ClassFile.FieldType.int)) ∈ TT := ttk_5 (List.mem_of_getElem? (i := 185) rfl) rfl
theorem t_5_190 : (Jvm.Cond.methodLink "MiterhouseLaw" (212 : Nat) ({ cls := "MiterhouseLaw", name := "pin", desc := "(LMiterhouse;IZ[J)I" } : Jvm.MethodName)) ∈ TT := ttk_5 (List.mem_of_getElem? (i := 190) rfl) rfl
theorem t_5_191 : (Jvm.Cond.static ({ cls := "MiterhouseLaw", name := "pin", desc := "(LMiterhouse;IZ[J)I" } : Jvm.MethodName)) ∈ TT := ttk_5 (List.mem_of_getElem? (i := 191) rfl) rfl
theorem t_5_192 : (Jvm.Cond.codeWith ({ cls := "MiterhouseLaw", name := "pin", desc := "(LMiterhouse;IZ[J)I" } : Jvm.MethodName) method_13_code (5 : Nat) (Option.some Jvm.ClassFile.FieldType.int) [((0 : Nat), (10 : Nat), (13 : Nat), (13 : Nat)), ((0 : Nat), (10 : Nat), (17 : Nat), (56 : Nat))]) ∈ TT := ttk_5 (List.mem_of_getElem? (i := 192) rfl) rfl
theorem t_5_194 : (Jvm.Cond.methodLink "MiterhouseLaw" (52 : Nat) ({ cls := "Miterhouse", name := "pin", desc := "(IZ)I" } : Jvm.MethodName)) ∈ TT := ttk_5 (List.mem_of_getElem? (i := 194) rfl) rfl
theorem t_5_195 : (Jvm.Cond.instanceMethod ({ cls := "Miterhouse", name := "pin", desc := "(IZ)I" } : Jvm.MethodName)) ∈ TT := ttk_5 (List.mem_of_getElem? (i := 195) rfl) rfl
theorem t_5_196 : (Jvm.Cond.selects "Miterhouse" ({ cls := "Miterhouse", name := "pin", desc := "(IZ)I" } : Jvm.MethodName) ({ cls := "Miterhouse", name := "pin", desc := "(IZ)I" } : Jvm.MethodName)) ∈ TT := ttk_5 (List.mem_of_getElem? (i := 196) rfl) rfl
theorem t_5_197 : (Jvm.Cond.code ({ cls := "Miterhouse", name := "pin", desc := "(IZ)I" } : Jvm.MethodName) prog_1_method_12_code (4 : Nat) (Option.some Jvm.ClassFile.FieldType.int)) ∈ TT := ttk_5 (List.mem_of_getElem? (i := 197) rfl) rfl
theorem t_5_217 : (Jvm.Cond.methodLink "MiterhouseLaw" (216 : Nat) ({ cls := "MiterhouseLaw", name := "pattern", desc := "(LMiterhouse;I[J)I" } : Jvm.MethodName)) ∈ TT := ttk_5 (List.mem_of_getElem? (i := 217) rfl) rfl
theorem t_5_218 : (Jvm.Cond.static ({ cls := "MiterhouseLaw", name := "pattern", desc := "(LMiterhouse;I[J)I" } : Jvm.MethodName)) ∈ TT := ttk_5 (List.mem_of_getElem? (i := 218) rfl) rfl
theorem t_5_219 : (Jvm.Cond.codeWith ({ cls := "MiterhouseLaw", name := "pattern", desc := "(LMiterhouse;I[J)I" } : Jvm.MethodName) method_14_code (4 : Nat) (Option.some Jvm.ClassFile.FieldType.int) [((0 : Nat), (9 : Nat), (12 : Nat), (21 : Nat)), ((0 : Nat), (9 : Nat), (15 : Nat), (13 : Nat)), ((0 : Nat), (9 : Nat), (18 : Nat), (15 : Nat))]) ∈ TT := ttk_5 (List.mem_of_getElem? (i := 219) rfl) rfl
theorem t_5_220 : (Jvm.Cond.methodLink "MiterhouseLaw" (58 : Nat) ({ cls := "Miterhouse", name := "pattern", desc := "(I)I" } : Jvm.MethodName)) ∈ TT := ttk_5 (List.mem_of_getElem? (i := 220) rfl) rfl
theorem t_5_221 : (Jvm.Cond.instanceMethod ({ cls := "Miterhouse", name := "pattern", desc := "(I)I" } : Jvm.MethodName)) ∈ TT := ttk_5 (List.mem_of_getElem? (i := 221) rfl) rfl
theorem t_5_222 : (Jvm.Cond.selects "Miterhouse" ({ cls := "Miterhouse", name := "pattern", desc := "(I)I" } : Jvm.MethodName) ({ cls := "Miterhouse", name := "pattern", desc := "(I)I" } : Jvm.MethodName)) ∈ TT := ttk_5 (List.mem_of_getElem? (i := 222) rfl) rfl
theorem t_5_223 : (Jvm.Cond.code ({ cls := "Miterhouse", name := "pattern", desc := "(I)I" } : Jvm.MethodName) prog_1_method_13_code (3 : Nat) (Option.some Jvm.ClassFile.FieldType.int)) ∈ TT := ttk_5 (List.mem_of_getElem? (i := 223) rfl) rfl
theorem t_5_237 : (Jvm.Cond.methodLink "MiterhouseLaw" (219 : Nat) ({ cls := "MiterhouseLaw", name := "signature", desc := "(LMiterhouse;I[J)I" } : Jvm.MethodName)) ∈ TT := ttk_5 (List.mem_of_getElem? (i := 237) rfl) rfl
theorem t_5_238 : (Jvm.Cond.static ({ cls := "MiterhouseLaw", name := "signature", desc := "(LMiterhouse;I[J)I" } : Jvm.MethodName)) ∈ TT := ttk_5 (List.mem_of_getElem? (i := 238) rfl) rfl
theorem t_5_239 : (Jvm.Cond.codeWith ({ cls := "MiterhouseLaw", name := "signature", desc := "(LMiterhouse;I[J)I" } : Jvm.MethodName) method_15_code (4 : Nat) (Option.some Jvm.ClassFile.FieldType.int) [((0 : Nat), (8 : Nat), (11 : Nat), (27 : Nat)), ((0 : Nat), (8 : Nat), (14 : Nat), (13 : Nat))]) ∈ TT := ttk_5 (List.mem_of_getElem? (i := 239) rfl) rfl
theorem t_6_0 : (Jvm.Cond.methodLink "MiterhouseLaw" (61 : Nat) ({ cls := "Miterhouse", name := "signature", desc := "(I)J" } : Jvm.MethodName)) ∈ TT := ttk_6 (List.mem_of_getElem? (i := 0) rfl) rfl
theorem t_6_1 : (Jvm.Cond.instanceMethod ({ cls := "Miterhouse", name := "signature", desc := "(I)J" } : Jvm.MethodName)) ∈ TT := ttk_6 (List.mem_of_getElem? (i := 1) rfl) rfl
theorem t_6_2 : (Jvm.Cond.selects "Miterhouse" ({ cls := "Miterhouse", name := "signature", desc := "(I)J" } : Jvm.MethodName) ({ cls := "Miterhouse", name := "signature", desc := "(I)J" } : Jvm.MethodName)) ∈ TT := ttk_6 (List.mem_of_getElem? (i := 2) rfl) rfl
theorem t_6_3 : (Jvm.Cond.code ({ cls := "Miterhouse", name := "signature", desc := "(I)J" } : Jvm.MethodName) prog_1_method_14_code (2 : Nat) (Option.some Jvm.ClassFile.FieldType.long)) ∈ TT := ttk_6 (List.mem_of_getElem? (i := 3) rfl) rfl
theorem t_6_5 : (Jvm.Cond.methodLink "MiterhouseLaw" (222 : Nat) ({ cls := "MiterhouseLaw", name := "candidates", desc := "(LMiterhouse;I[J)I" } : Jvm.MethodName)) ∈ TT := ttk_6 (List.mem_of_getElem? (i := 5) rfl) rfl
theorem t_6_6 : (Jvm.Cond.static ({ cls := "MiterhouseLaw", name := "candidates", desc := "(LMiterhouse;I[J)I" } : Jvm.MethodName)) ∈ TT := ttk_6 (List.mem_of_getElem? (i := 6) rfl) rfl
theorem t_6_7 : (Jvm.Cond.codeWith ({ cls := "MiterhouseLaw", name := "candidates", desc := "(LMiterhouse;I[J)I" } : Jvm.MethodName) method_16_code (4 : Nat) (Option.some Jvm.ClassFile.FieldType.int) [((0 : Nat), (9 : Nat), (12 : Nat), (27 : Nat)), ((0 : Nat), (9 : Nat), (15 : Nat), (13 : Nat))]) ∈ TT := ttk_6 (List.mem_of_getElem? (i := 7) rfl) rfl
theorem t_6_8 : (Jvm.Cond.methodLink "MiterhouseLaw" (65 : Nat) ({ cls := "Miterhouse", name := "candidates", desc := "(I)I" } : Jvm.MethodName)) ∈ TT := ttk_6 (List.mem_of_getElem? (i := 8) rfl) rfl
theorem t_6_9 : (Jvm.Cond.instanceMethod ({ cls := "Miterhouse", name := "candidates", desc := "(I)I" } : Jvm.MethodName)) ∈ TT := ttk_6 (List.mem_of_getElem? (i := 9) rfl) rfl
theorem t_6_10 : (Jvm.Cond.selects "Miterhouse" ({ cls := "Miterhouse", name := "candidates", desc := "(I)I" } : Jvm.MethodName) ({ cls := "Miterhouse", name := "candidates", desc := "(I)I" } : Jvm.MethodName)) ∈ TT := ttk_6 (List.mem_of_getElem? (i := 10) rfl) rfl
theorem t_6_11 : (Jvm.Cond.code ({ cls := "Miterhouse", name := "candidates", desc := "(I)I" } : Jvm.MethodName) prog_1_method_15_code (2 : Nat) (Option.some Jvm.ClassFile.FieldType.int)) ∈ TT := ttk_6 (List.mem_of_getElem? (i := 11) rfl) rfl
theorem t_6_20 : (Jvm.Cond.methodLink "MiterhouseLaw" (225 : Nat) ({ cls := "MiterhouseLaw", name := "prove", desc := "(LMiterhouse;IIZI[J)I" } : Jvm.MethodName)) ∈ TT := ttk_6 (List.mem_of_getElem? (i := 20) rfl) rfl
theorem t_6_21 : (Jvm.Cond.static ({ cls := "MiterhouseLaw", name := "prove", desc := "(LMiterhouse;IIZI[J)I" } : Jvm.MethodName)) ∈ TT := ttk_6 (List.mem_of_getElem? (i := 21) rfl) rfl
theorem t_6_22 : (Jvm.Cond.codeWith ({ cls := "MiterhouseLaw", name := "prove", desc := "(LMiterhouse;IIZI[J)I" } : Jvm.MethodName) method_17_code (7 : Nat) (Option.some Jvm.ClassFile.FieldType.int) [((0 : Nat), (14 : Nat), (17 : Nat), (27 : Nat)), ((0 : Nat), (14 : Nat), (21 : Nat), (21 : Nat)), ((0 : Nat), (14 : Nat), (25 : Nat), (13 : Nat))]) ∈ TT := ttk_6 (List.mem_of_getElem? (i := 22) rfl) rfl
theorem t_6_23 : (Jvm.Cond.methodLink "MiterhouseLaw" (68 : Nat) ({ cls := "Miterhouse", name := "prove", desc := "(IIZI)C" } : Jvm.MethodName)) ∈ TT := ttk_6 (List.mem_of_getElem? (i := 23) rfl) rfl
theorem t_6_24 : (Jvm.Cond.instanceMethod ({ cls := "Miterhouse", name := "prove", desc := "(IIZI)C" } : Jvm.MethodName)) ∈ TT := ttk_6 (List.mem_of_getElem? (i := 24) rfl) rfl
theorem t_6_25 : (Jvm.Cond.selects "Miterhouse" ({ cls := "Miterhouse", name := "prove", desc := "(IIZI)C" } : Jvm.MethodName) ({ cls := "Miterhouse", name := "prove", desc := "(IIZI)C" } : Jvm.MethodName)) ∈ TT := ttk_6 (List.mem_of_getElem? (i := 25) rfl) rfl
theorem t_6_26 : (Jvm.Cond.code ({ cls := "Miterhouse", name := "prove", desc := "(IIZI)C" } : Jvm.MethodName) prog_1_method_16_code (6 : Nat) (Option.some Jvm.ClassFile.FieldType.char)) ∈ TT := ttk_6 (List.mem_of_getElem? (i := 26) rfl) rfl
theorem t_6_28 : (Jvm.Cond.methodLink "MiterhouseLaw" (229 : Nat) ({ cls := "MiterhouseLaw", name := "proof", desc := "(LMiterhouse;IIZ[J)I" } : Jvm.MethodName)) ∈ TT := ttk_6 (List.mem_of_getElem? (i := 28) rfl) rfl
theorem t_6_29 : (Jvm.Cond.static ({ cls := "MiterhouseLaw", name := "proof", desc := "(LMiterhouse;IIZ[J)I" } : Jvm.MethodName)) ∈ TT := ttk_6 (List.mem_of_getElem? (i := 29) rfl) rfl
theorem t_6_30 : (Jvm.Cond.codeWith ({ cls := "MiterhouseLaw", name := "proof", desc := "(LMiterhouse;IIZ[J)I" } : Jvm.MethodName) method_18_code (6 : Nat) (Option.some Jvm.ClassFile.FieldType.int) [((0 : Nat), (12 : Nat), (15 : Nat), (27 : Nat)), ((0 : Nat), (12 : Nat), (19 : Nat), (13 : Nat)), ((0 : Nat), (12 : Nat), (23 : Nat), (56 : Nat))]) ∈ TT := ttk_6 (List.mem_of_getElem? (i := 30) rfl) rfl
theorem t_6_31 : (Jvm.Cond.methodLink "MiterhouseLaw" (72 : Nat) ({ cls := "Miterhouse", name := "proof", desc := "(IIZ)I" } : Jvm.MethodName)) ∈ TT := ttk_6 (List.mem_of_getElem? (i := 31) rfl) rfl
theorem t_6_32 : (Jvm.Cond.instanceMethod ({ cls := "Miterhouse", name := "proof", desc := "(IIZ)I" } : Jvm.MethodName)) ∈ TT := ttk_6 (List.mem_of_getElem? (i := 32) rfl) rfl
theorem t_6_33 : (Jvm.Cond.selects "Miterhouse" ({ cls := "Miterhouse", name := "proof", desc := "(IIZ)I" } : Jvm.MethodName) ({ cls := "Miterhouse", name := "proof", desc := "(IIZ)I" } : Jvm.MethodName)) ∈ TT := ttk_6 (List.mem_of_getElem? (i := 33) rfl) rfl
theorem t_6_34 : (Jvm.Cond.code ({ cls := "Miterhouse", name := "proof", desc := "(IIZ)I" } : Jvm.MethodName) prog_1_method_17_code (5 : Nat) (Option.some Jvm.ClassFile.FieldType.int)) ∈ TT := ttk_6 (List.mem_of_getElem? (i := 34) rfl) rfl
theorem t_6_36 : (Jvm.Cond.methodLink "MiterhouseLaw" (233 : Nat) ({ cls := "MiterhouseLaw", name := "witness", desc := "(LMiterhouse;IIZ[J)I" } : Jvm.MethodName)) ∈ TT := ttk_6 (List.mem_of_getElem? (i := 36) rfl) rfl
theorem t_6_37 : (Jvm.Cond.static ({ cls := "MiterhouseLaw", name := "witness", desc := "(LMiterhouse;IIZ[J)I" } : Jvm.MethodName)) ∈ TT := ttk_6 (List.mem_of_getElem? (i := 37) rfl) rfl
theorem t_6_38 : (Jvm.Cond.codeWith ({ cls := "MiterhouseLaw", name := "witness", desc := "(LMiterhouse;IIZ[J)I" } : Jvm.MethodName) method_19_code (6 : Nat) (Option.some Jvm.ClassFile.FieldType.int) [((0 : Nat), (12 : Nat), (15 : Nat), (27 : Nat)), ((0 : Nat), (12 : Nat), (19 : Nat), (13 : Nat)), ((0 : Nat), (12 : Nat), (23 : Nat), (56 : Nat))]) ∈ TT := ttk_6 (List.mem_of_getElem? (i := 38) rfl) rfl
theorem t_6_39 : (Jvm.Cond.methodLink "MiterhouseLaw" (76 : Nat) ({ cls := "Miterhouse", name := "witness", desc := "(IIZ)I" } : Jvm.MethodName)) ∈ TT := ttk_6 (List.mem_of_getElem? (i := 39) rfl) rfl
theorem t_6_40 : (Jvm.Cond.instanceMethod ({ cls := "Miterhouse", name := "witness", desc := "(IIZ)I" } : Jvm.MethodName)) ∈ TT := ttk_6 (List.mem_of_getElem? (i := 40) rfl) rfl
theorem t_6_41 : (Jvm.Cond.selects "Miterhouse" ({ cls := "Miterhouse", name := "witness", desc := "(IIZ)I" } : Jvm.MethodName) ({ cls := "Miterhouse", name := "witness", desc := "(IIZ)I" } : Jvm.MethodName)) ∈ TT := ttk_6 (List.mem_of_getElem? (i := 41) rfl) rfl
theorem t_6_42 : (Jvm.Cond.code ({ cls := "Miterhouse", name := "witness", desc := "(IIZ)I" } : Jvm.MethodName) prog_1_method_18_code (5 : Nat) (Option.some Jvm.ClassFile.FieldType.int)) ∈ TT := ttk_6 (List.mem_of_getElem? (i := 42) rfl) rfl
theorem t_6_44 : (Jvm.Cond.methodLink "MiterhouseLaw" (236 : Nat) ({ cls := "MiterhouseLaw", name := "sweep", desc := "(LMiterhouse;I[J)I" } : Jvm.MethodName)) ∈ TT := ttk_6 (List.mem_of_getElem? (i := 44) rfl) rfl
theorem t_6_45 : (Jvm.Cond.static ({ cls := "MiterhouseLaw", name := "sweep", desc := "(LMiterhouse;I[J)I" } : Jvm.MethodName)) ∈ TT := ttk_6 (List.mem_of_getElem? (i := 45) rfl) rfl
theorem t_6_46 : (Jvm.Cond.codeWith ({ cls := "MiterhouseLaw", name := "sweep", desc := "(LMiterhouse;I[J)I" } : Jvm.MethodName) method_20_code (4 : Nat) (Option.some Jvm.ClassFile.FieldType.int) [((0 : Nat), (9 : Nat), (12 : Nat), (21 : Nat)), ((0 : Nat), (9 : Nat), (15 : Nat), (13 : Nat))]) ∈ TT := ttk_6 (List.mem_of_getElem? (i := 46) rfl) rfl
theorem t_6_47 : (Jvm.Cond.methodLink "MiterhouseLaw" (79 : Nat) ({ cls := "Miterhouse", name := "sweep", desc := "(I)I" } : Jvm.MethodName)) ∈ TT := ttk_6 (List.mem_of_getElem? (i := 47) rfl) rfl
theorem t_6_48 : (Jvm.Cond.instanceMethod ({ cls := "Miterhouse", name := "sweep", desc := "(I)I" } : Jvm.MethodName)) ∈ TT := ttk_6 (List.mem_of_getElem? (i := 48) rfl) rfl
theorem t_6_49 : (Jvm.Cond.selects "Miterhouse" ({ cls := "Miterhouse", name := "sweep", desc := "(I)I" } : Jvm.MethodName) ({ cls := "Miterhouse", name := "sweep", desc := "(I)I" } : Jvm.MethodName)) ∈ TT := ttk_6 (List.mem_of_getElem? (i := 49) rfl) rfl
theorem t_6_50 : (Jvm.Cond.code ({ cls := "Miterhouse", name := "sweep", desc := "(I)I" } : Jvm.MethodName) prog_1_method_19_code (3 : Nat) (Option.some Jvm.ClassFile.FieldType.int)) ∈ TT := ttk_6 (List.mem_of_getElem? (i := 50) rfl) rfl
theorem t_6_61 : (Jvm.Cond.methodLink "MiterhouseLaw" (239 : Nat) ({ cls := "MiterhouseLaw", name := "merged", desc := "(LMiterhouse;I[J)I" } : Jvm.MethodName)) ∈ TT := ttk_6 (List.mem_of_getElem? (i := 61) rfl) rfl
theorem t_6_62 : (Jvm.Cond.static ({ cls := "MiterhouseLaw", name := "merged", desc := "(LMiterhouse;I[J)I" } : Jvm.MethodName)) ∈ TT := ttk_6 (List.mem_of_getElem? (i := 62) rfl) rfl
theorem t_6_63 : (Jvm.Cond.codeWith ({ cls := "MiterhouseLaw", name := "merged", desc := "(LMiterhouse;I[J)I" } : Jvm.MethodName) method_21_code (4 : Nat) (Option.some Jvm.ClassFile.FieldType.int) [((0 : Nat), (9 : Nat), (12 : Nat), (27 : Nat))]) ∈ TT := ttk_6 (List.mem_of_getElem? (i := 63) rfl) rfl
theorem t_6_64 : (Jvm.Cond.methodLink "MiterhouseLaw" (82 : Nat) ({ cls := "Miterhouse", name := "merged", desc := "(I)I" } : Jvm.MethodName)) ∈ TT := ttk_6 (List.mem_of_getElem? (i := 64) rfl) rfl
theorem t_6_65 : (Jvm.Cond.instanceMethod ({ cls := "Miterhouse", name := "merged", desc := "(I)I" } : Jvm.MethodName)) ∈ TT := ttk_6 (List.mem_of_getElem? (i := 65) rfl) rfl
theorem t_6_66 : (Jvm.Cond.selects "Miterhouse" ({ cls := "Miterhouse", name := "merged", desc := "(I)I" } : Jvm.MethodName) ({ cls := "Miterhouse", name := "merged", desc := "(I)I" } : Jvm.MethodName)) ∈ TT := ttk_6 (List.mem_of_getElem? (i := 66) rfl) rfl
theorem t_6_67 : (Jvm.Cond.code ({ cls := "Miterhouse", name := "merged", desc := "(I)I" } : Jvm.MethodName) prog_1_method_20_code (2 : Nat) (Option.some Jvm.ClassFile.FieldType.int)) ∈ TT := ttk_6 (List.mem_of_getElem? (i := 67) rfl) rfl
theorem t_6_69 : (Jvm.Cond.methodLink "MiterhouseLaw" (251 : Nat) ({ cls := "MiterhouseLaw", name := "order", desc := "(LMiterhouse;II[J)I" } : Jvm.MethodName)) ∈ TT := ttk_6 (List.mem_of_getElem? (i := 69) rfl) rfl
theorem t_6_70 : (Jvm.Cond.static ({ cls := "MiterhouseLaw", name := "order", desc := "(LMiterhouse;II[J)I" } : Jvm.MethodName)) ∈ TT := ttk_6 (List.mem_of_getElem? (i := 70) rfl) rfl
theorem t_6_71 : (Jvm.Cond.codeWith ({ cls := "MiterhouseLaw", name := "order", desc := "(LMiterhouse;II[J)I" } : Jvm.MethodName) method_22_code (5 : Nat) (Option.some Jvm.ClassFile.FieldType.int) [((0 : Nat), (10 : Nat), (13 : Nat), (13 : Nat)), ((0 : Nat), (10 : Nat), (17 : Nat), (21 : Nat))]) ∈ TT := ttk_6 (List.mem_of_getElem? (i := 71) rfl) rfl
theorem t_6_72 : (Jvm.Cond.methodLink "MiterhouseLaw" (85 : Nat) ({ cls := "Miterhouse", name := "order", desc := "(II)I" } : Jvm.MethodName)) ∈ TT := ttk_6 (List.mem_of_getElem? (i := 72) rfl) rfl
theorem t_6_73 : (Jvm.Cond.instanceMethod ({ cls := "Miterhouse", name := "order", desc := "(II)I" } : Jvm.MethodName)) ∈ TT := ttk_6 (List.mem_of_getElem? (i := 73) rfl) rfl
theorem t_6_74 : (Jvm.Cond.selects "Miterhouse" ({ cls := "Miterhouse", name := "order", desc := "(II)I" } : Jvm.MethodName) ({ cls := "Miterhouse", name := "order", desc := "(II)I" } : Jvm.MethodName)) ∈ TT := ttk_6 (List.mem_of_getElem? (i := 74) rfl) rfl
theorem t_6_75 : (Jvm.Cond.code ({ cls := "Miterhouse", name := "order", desc := "(II)I" } : Jvm.MethodName) prog_1_method_23_code (4 : Nat) (Option.some Jvm.ClassFile.FieldType.int)) ∈ TT := ttk_6 (List.mem_of_getElem? (i := 75) rfl) rfl
theorem t_6_86 : (Jvm.Cond.methodLink "MiterhouseLaw" (254 : Nat) ({ cls := "MiterhouseLaw", name := "placeOf", desc := "(LMiterhouse;I[J)I" } : Jvm.MethodName)) ∈ TT := ttk_6 (List.mem_of_getElem? (i := 86) rfl) rfl
theorem t_6_87 : (Jvm.Cond.static ({ cls := "MiterhouseLaw", name := "placeOf", desc := "(LMiterhouse;I[J)I" } : Jvm.MethodName)) ∈ TT := ttk_6 (List.mem_of_getElem? (i := 87) rfl) rfl
theorem t_6_88 : (Jvm.Cond.codeWith ({ cls := "MiterhouseLaw", name := "placeOf", desc := "(LMiterhouse;I[J)I" } : Jvm.MethodName) method_23_code (4 : Nat) (Option.some Jvm.ClassFile.FieldType.int) [((0 : Nat), (9 : Nat), (12 : Nat), (13 : Nat)), ((0 : Nat), (9 : Nat), (15 : Nat), (21 : Nat))]) ∈ TT := ttk_6 (List.mem_of_getElem? (i := 88) rfl) rfl
theorem t_6_89 : (Jvm.Cond.methodLink "MiterhouseLaw" (88 : Nat) ({ cls := "Miterhouse", name := "placeOf", desc := "(I)I" } : Jvm.MethodName)) ∈ TT := ttk_6 (List.mem_of_getElem? (i := 89) rfl) rfl
theorem t_6_90 : (Jvm.Cond.instanceMethod ({ cls := "Miterhouse", name := "placeOf", desc := "(I)I" } : Jvm.MethodName)) ∈ TT := ttk_6 (List.mem_of_getElem? (i := 90) rfl) rfl
theorem t_6_91 : (Jvm.Cond.selects "Miterhouse" ({ cls := "Miterhouse", name := "placeOf", desc := "(I)I" } : Jvm.MethodName) ({ cls := "Miterhouse", name := "placeOf", desc := "(I)I" } : Jvm.MethodName)) ∈ TT := ttk_6 (List.mem_of_getElem? (i := 91) rfl) rfl
theorem t_6_92 : (Jvm.Cond.code ({ cls := "Miterhouse", name := "placeOf", desc := "(I)I" } : Jvm.MethodName) prog_1_method_24_code (3 : Nat) (Option.some Jvm.ClassFile.FieldType.int)) ∈ TT := ttk_6 (List.mem_of_getElem? (i := 92) rfl) rfl
theorem t_6_94 : (Jvm.Cond.methodLink "MiterhouseLaw" (257 : Nat) ({ cls := "MiterhouseLaw", name := "diagram", desc := "(LMiterhouse;II[J)I" } : Jvm.MethodName)) ∈ TT := ttk_6 (List.mem_of_getElem? (i := 94) rfl) rfl
theorem t_6_95 : (Jvm.Cond.static ({ cls := "MiterhouseLaw", name := "diagram", desc := "(LMiterhouse;II[J)I" } : Jvm.MethodName)) ∈ TT := ttk_6 (List.mem_of_getElem? (i := 95) rfl) rfl
theorem t_6_96 : (Jvm.Cond.codeWith ({ cls := "MiterhouseLaw", name := "diagram", desc := "(LMiterhouse;II[J)I" } : Jvm.MethodName) method_24_code (5 : Nat) (Option.some Jvm.ClassFile.FieldType.int) [((0 : Nat), (10 : Nat), (13 : Nat), (27 : Nat)), ((0 : Nat), (10 : Nat), (17 : Nat), (21 : Nat)), ((0 : Nat), (10 : Nat), (21 : Nat), (13 : Nat))]) ∈ TT := ttk_6 (List.mem_of_getElem? (i := 96) rfl) rfl
theorem t_6_97 : (Jvm.Cond.methodLink "MiterhouseLaw" (91 : Nat) ({ cls := "Miterhouse", name := "diagram", desc := "(II)I" } : Jvm.MethodName)) ∈ TT := ttk_6 (List.mem_of_getElem? (i := 97) rfl) rfl
theorem t_6_98 : (Jvm.Cond.instanceMethod ({ cls := "Miterhouse", name := "diagram", desc := "(II)I" } : Jvm.MethodName)) ∈ TT := ttk_6 (List.mem_of_getElem? (i := 98) rfl) rfl
theorem t_6_99 : (Jvm.Cond.selects "Miterhouse" ({ cls := "Miterhouse", name := "diagram", desc := "(II)I" } : Jvm.MethodName) ({ cls := "Miterhouse", name := "diagram", desc := "(II)I" } : Jvm.MethodName)) ∈ TT := ttk_6 (List.mem_of_getElem? (i := 99) rfl) rfl
theorem t_6_100 : (Jvm.Cond.code ({ cls := "Miterhouse", name := "diagram", desc := "(II)I" } : Jvm.MethodName) prog_1_method_25_code (4 : Nat) (Option.some Jvm.ClassFile.FieldType.int)) ∈ TT := ttk_6 (List.mem_of_getElem? (i := 100) rfl) rfl
theorem t_6_186 : (Jvm.Cond.methodLink "MiterhouseLaw" (260 : Nat) ({ cls := "MiterhouseLaw", name := "allDiagrams", desc := "(LMiterhouse;[J)I" } : Jvm.MethodName)) ∈ TT := ttk_6 (List.mem_of_getElem? (i := 186) rfl) rfl
theorem t_6_187 : (Jvm.Cond.static ({ cls := "MiterhouseLaw", name := "allDiagrams", desc := "(LMiterhouse;[J)I" } : Jvm.MethodName)) ∈ TT := ttk_6 (List.mem_of_getElem? (i := 187) rfl) rfl
theorem t_6_188 : (Jvm.Cond.codeWith ({ cls := "MiterhouseLaw", name := "allDiagrams", desc := "(LMiterhouse;[J)I" } : Jvm.MethodName) method_25_code (3 : Nat) (Option.some Jvm.ClassFile.FieldType.int) [((0 : Nat), (8 : Nat), (11 : Nat), (13 : Nat))]) ∈ TT := ttk_6 (List.mem_of_getElem? (i := 188) rfl) rfl
theorem t_6_189 : (Jvm.Cond.methodLink "MiterhouseLaw" (94 : Nat) ({ cls := "Miterhouse", name := "allDiagrams", desc := "()I" } : Jvm.MethodName)) ∈ TT := ttk_6 (List.mem_of_getElem? (i := 189) rfl) rfl
theorem t_6_190 : (Jvm.Cond.instanceMethod ({ cls := "Miterhouse", name := "allDiagrams", desc := "()I" } : Jvm.MethodName)) ∈ TT := ttk_6 (List.mem_of_getElem? (i := 190) rfl) rfl
theorem t_6_191 : (Jvm.Cond.selects "Miterhouse" ({ cls := "Miterhouse", name := "allDiagrams", desc := "()I" } : Jvm.MethodName) ({ cls := "Miterhouse", name := "allDiagrams", desc := "()I" } : Jvm.MethodName)) ∈ TT := ttk_6 (List.mem_of_getElem? (i := 191) rfl) rfl
theorem t_6_192 : (Jvm.Cond.code ({ cls := "Miterhouse", name := "allDiagrams", desc := "()I" } : Jvm.MethodName) prog_1_method_26_code (1 : Nat) (Option.some Jvm.ClassFile.FieldType.int)) ∈ TT := ttk_6 (List.mem_of_getElem? (i := 192) rfl) rfl
theorem t_6_203 : (Jvm.Cond.methodLink "MiterhouseLaw" (263 : Nat) ({ cls := "MiterhouseLaw", name := "sift", desc := "(LMiterhouse;[J)I" } : Jvm.MethodName)) ∈ TT := ttk_6 (List.mem_of_getElem? (i := 203) rfl) rfl
theorem t_6_204 : (Jvm.Cond.static ({ cls := "MiterhouseLaw", name := "sift", desc := "(LMiterhouse;[J)I" } : Jvm.MethodName)) ∈ TT := ttk_6 (List.mem_of_getElem? (i := 204) rfl) rfl
theorem t_6_205 : (Jvm.Cond.codeWith ({ cls := "MiterhouseLaw", name := "sift", desc := "(LMiterhouse;[J)I" } : Jvm.MethodName) method_26_code (3 : Nat) (Option.some Jvm.ClassFile.FieldType.int) [((0 : Nat), (8 : Nat), (11 : Nat), (13 : Nat))]) ∈ TT := ttk_6 (List.mem_of_getElem? (i := 205) rfl) rfl
theorem t_6_206 : (Jvm.Cond.methodLink "MiterhouseLaw" (97 : Nat) ({ cls := "Miterhouse", name := "sift", desc := "()I" } : Jvm.MethodName)) ∈ TT := ttk_6 (List.mem_of_getElem? (i := 206) rfl) rfl
theorem t_6_207 : (Jvm.Cond.instanceMethod ({ cls := "Miterhouse", name := "sift", desc := "()I" } : Jvm.MethodName)) ∈ TT := ttk_6 (List.mem_of_getElem? (i := 207) rfl) rfl
theorem t_6_208 : (Jvm.Cond.selects "Miterhouse" ({ cls := "Miterhouse", name := "sift", desc := "()I" } : Jvm.MethodName) ({ cls := "Miterhouse", name := "sift", desc := "()I" } : Jvm.MethodName)) ∈ TT := ttk_6 (List.mem_of_getElem? (i := 208) rfl) rfl
theorem t_6_209 : (Jvm.Cond.code ({ cls := "Miterhouse", name := "sift", desc := "()I" } : Jvm.MethodName) prog_1_method_27_code (1 : Nat) (Option.some Jvm.ClassFile.FieldType.int)) ∈ TT := ttk_6 (List.mem_of_getElem? (i := 209) rfl) rfl
theorem t_6_218 : (Jvm.Cond.methodLink "MiterhouseLaw" (266 : Nat) ({ cls := "MiterhouseLaw", name := "cuts", desc := "(LMiterhouse;II[J)I" } : Jvm.MethodName)) ∈ TT := ttk_6 (List.mem_of_getElem? (i := 218) rfl) rfl
theorem t_6_219 : (Jvm.Cond.static ({ cls := "MiterhouseLaw", name := "cuts", desc := "(LMiterhouse;II[J)I" } : Jvm.MethodName)) ∈ TT := ttk_6 (List.mem_of_getElem? (i := 219) rfl) rfl
theorem t_6_220 : (Jvm.Cond.codeWith ({ cls := "MiterhouseLaw", name := "cuts", desc := "(LMiterhouse;II[J)I" } : Jvm.MethodName) method_27_code (5 : Nat) (Option.some Jvm.ClassFile.FieldType.int) [((0 : Nat), (10 : Nat), (13 : Nat), (27 : Nat)), ((0 : Nat), (10 : Nat), (17 : Nat), (21 : Nat)), ((0 : Nat), (10 : Nat), (21 : Nat), (13 : Nat))]) ∈ TT := ttk_6 (List.mem_of_getElem? (i := 220) rfl) rfl
theorem t_6_221 : (Jvm.Cond.methodLink "MiterhouseLaw" (100 : Nat) ({ cls := "Miterhouse", name := "cuts", desc := "(II)I" } : Jvm.MethodName)) ∈ TT := ttk_6 (List.mem_of_getElem? (i := 221) rfl) rfl
theorem t_6_222 : (Jvm.Cond.instanceMethod ({ cls := "Miterhouse", name := "cuts", desc := "(II)I" } : Jvm.MethodName)) ∈ TT := ttk_6 (List.mem_of_getElem? (i := 222) rfl) rfl
theorem t_6_223 : (Jvm.Cond.selects "Miterhouse" ({ cls := "Miterhouse", name := "cuts", desc := "(II)I" } : Jvm.MethodName) ({ cls := "Miterhouse", name := "cuts", desc := "(II)I" } : Jvm.MethodName)) ∈ TT := ttk_6 (List.mem_of_getElem? (i := 223) rfl) rfl
theorem t_6_224 : (Jvm.Cond.code ({ cls := "Miterhouse", name := "cuts", desc := "(II)I" } : Jvm.MethodName) prog_1_method_28_code (3 : Nat) (Option.some Jvm.ClassFile.FieldType.int)) ∈ TT := ttk_6 (List.mem_of_getElem? (i := 224) rfl) rfl
theorem t_6_225 : (Jvm.Cond.methodLink "Miterhouse" (266 : Nat) ({ cls := "Miterhouse", name := "mustHaveCuts", desc := "(II)LMiterhouse$Cuts;" } : Jvm.MethodName)) ∈ TT := ttk_6 (List.mem_of_getElem? (i := 225) rfl) rfl
theorem t_6_227 : (Jvm.Cond.instanceMethod ({ cls := "Miterhouse", name := "mustHaveCuts", desc := "(II)LMiterhouse$Cuts;" } : Jvm.MethodName)) ∈ TT := ttk_6 (List.mem_of_getElem? (i := 227) rfl) rfl
theorem t_6_228 : (Jvm.Cond.code ({ cls := "Miterhouse", name := "mustHaveCuts", desc := "(II)LMiterhouse$Cuts;" } : Jvm.MethodName) prog_1_method_55_code (4 : Nat) (Option.some (Jvm.ClassFile.FieldType.object "Miterhouse$Cuts"))) ∈ TT := ttk_6 (List.mem_of_getElem? (i := 228) rfl) rfl
theorem t_7_58 : (Jvm.Cond.methodLink "MiterhouseLaw" (269 : Nat) ({ cls := "MiterhouseLaw", name := "cutAt", desc := "(LMiterhouse;IIII[J)I" } : Jvm.MethodName)) ∈ TT := ttk_7 (List.mem_of_getElem? (i := 58) rfl) rfl
theorem t_7_59 : (Jvm.Cond.static ({ cls := "MiterhouseLaw", name := "cutAt", desc := "(LMiterhouse;IIII[J)I" } : Jvm.MethodName)) ∈ TT := ttk_7 (List.mem_of_getElem? (i := 59) rfl) rfl
theorem t_7_60 : (Jvm.Cond.codeWith ({ cls := "MiterhouseLaw", name := "cutAt", desc := "(LMiterhouse;IIII[J)I" } : Jvm.MethodName) method_28_code (7 : Nat) (Option.some Jvm.ClassFile.FieldType.int) [((0 : Nat), (14 : Nat), (17 : Nat), (27 : Nat)), ((0 : Nat), (14 : Nat), (21 : Nat), (21 : Nat)), ((0 : Nat), (14 : Nat), (25 : Nat), (13 : Nat)), ((0 : Nat), (14 : Nat), (29 : Nat), (56 : Nat))]) ∈ TT := ttk_7 (List.mem_of_getElem? (i := 60) rfl) rfl
theorem t_7_61 : (Jvm.Cond.methodLink "MiterhouseLaw" (103 : Nat) ({ cls := "Miterhouse", name := "cutAt", desc := "(IIII)I" } : Jvm.MethodName)) ∈ TT := ttk_7 (List.mem_of_getElem? (i := 61) rfl) rfl
theorem t_7_62 : (Jvm.Cond.instanceMethod ({ cls := "Miterhouse", name := "cutAt", desc := "(IIII)I" } : Jvm.MethodName)) ∈ TT := ttk_7 (List.mem_of_getElem? (i := 62) rfl) rfl
theorem t_7_63 : (Jvm.Cond.selects "Miterhouse" ({ cls := "Miterhouse", name := "cutAt", desc := "(IIII)I" } : Jvm.MethodName) ({ cls := "Miterhouse", name := "cutAt", desc := "(IIII)I" } : Jvm.MethodName)) ∈ TT := ttk_7 (List.mem_of_getElem? (i := 63) rfl) rfl
theorem t_7_64 : (Jvm.Cond.code ({ cls := "Miterhouse", name := "cutAt", desc := "(IIII)I" } : Jvm.MethodName) prog_1_method_29_code (9 : Nat) (Option.some Jvm.ClassFile.FieldType.int)) ∈ TT := ttk_7 (List.mem_of_getElem? (i := 64) rfl) rfl
theorem t_7_70 : (Jvm.Cond.methodLink "MiterhouseLaw" (273 : Nat) ({ cls := "MiterhouseLaw", name := "table", desc := "(LMiterhouse;III[J)I" } : Jvm.MethodName)) ∈ TT := ttk_7 (List.mem_of_getElem? (i := 70) rfl) rfl
theorem t_7_71 : (Jvm.Cond.static ({ cls := "MiterhouseLaw", name := "table", desc := "(LMiterhouse;III[J)I" } : Jvm.MethodName)) ∈ TT := ttk_7 (List.mem_of_getElem? (i := 71) rfl) rfl
theorem t_7_72 : (Jvm.Cond.codeWith ({ cls := "MiterhouseLaw", name := "table", desc := "(LMiterhouse;III[J)I" } : Jvm.MethodName) method_29_code (6 : Nat) (Option.some Jvm.ClassFile.FieldType.int) [((0 : Nat), (12 : Nat), (15 : Nat), (27 : Nat)), ((0 : Nat), (12 : Nat), (19 : Nat), (21 : Nat)), ((0 : Nat), (12 : Nat), (23 : Nat), (13 : Nat)), ((0 : Nat), (12 : Nat), (27 : Nat), (56 : Nat))]) ∈ TT := ttk_7 (List.mem_of_getElem? (i := 72) rfl) rfl
theorem t_7_73 : (Jvm.Cond.methodLink "MiterhouseLaw" (107 : Nat) ({ cls := "Miterhouse", name := "table", desc := "(III)I" } : Jvm.MethodName)) ∈ TT := ttk_7 (List.mem_of_getElem? (i := 73) rfl) rfl
theorem t_7_74 : (Jvm.Cond.instanceMethod ({ cls := "Miterhouse", name := "table", desc := "(III)I" } : Jvm.MethodName)) ∈ TT := ttk_7 (List.mem_of_getElem? (i := 74) rfl) rfl
theorem t_7_75 : (Jvm.Cond.selects "Miterhouse" ({ cls := "Miterhouse", name := "table", desc := "(III)I" } : Jvm.MethodName) ({ cls := "Miterhouse", name := "table", desc := "(III)I" } : Jvm.MethodName)) ∈ TT := ttk_7 (List.mem_of_getElem? (i := 75) rfl) rfl
theorem t_7_76 : (Jvm.Cond.code ({ cls := "Miterhouse", name := "table", desc := "(III)I" } : Jvm.MethodName) prog_1_method_30_code (6 : Nat) (Option.some Jvm.ClassFile.FieldType.int)) ∈ TT := ttk_7 (List.mem_of_getElem? (i := 76) rfl) rfl
theorem t_7_85 : (Jvm.Cond.methodLinkNest "Miterhouse$Cuts" (148 : Nat) ({ cls := "Miterhouse", name := "highHalf", desc := "(I)J" } : Jvm.MethodName) "Miterhouse") ∈ TT := ttk_7 (List.mem_of_getElem? (i := 85) rfl) rfl
theorem t_7_86 : (Jvm.Cond.methodLink "Miterhouse$Cuts" (151 : Nat) ({ cls := "Miterhouse$Cuts", name := "fullTable", desc := "(I)I" } : Jvm.MethodName)) ∈ TT := ttk_7 (List.mem_of_getElem? (i := 86) rfl) rfl
theorem t_7_87 : (Jvm.Cond.static ({ cls := "Miterhouse$Cuts", name := "fullTable", desc := "(I)I" } : Jvm.MethodName)) ∈ TT := ttk_7 (List.mem_of_getElem? (i := 87) rfl) rfl
theorem t_7_88 : (Jvm.Cond.code ({ cls := "Miterhouse$Cuts", name := "fullTable", desc := "(I)I" } : Jvm.MethodName) prog_5_method_15_code (1 : Nat) (Option.some Jvm.ClassFile.FieldType.int)) ∈ TT := ttk_7 (List.mem_of_getElem? (i := 88) rfl) rfl
theorem t_7_89 : (Jvm.Cond.methodLink "MiterhouseLaw" (276 : Nat) ({ cls := "MiterhouseLaw", name := "normal", desc := "(LMiterhouse;II[J)I" } : Jvm.MethodName)) ∈ TT := ttk_7 (List.mem_of_getElem? (i := 89) rfl) rfl
theorem t_7_90 : (Jvm.Cond.static ({ cls := "MiterhouseLaw", name := "normal", desc := "(LMiterhouse;II[J)I" } : Jvm.MethodName)) ∈ TT := ttk_7 (List.mem_of_getElem? (i := 90) rfl) rfl
theorem t_7_91 : (Jvm.Cond.codeWith ({ cls := "MiterhouseLaw", name := "normal", desc := "(LMiterhouse;II[J)I" } : Jvm.MethodName) method_30_code (5 : Nat) (Option.some Jvm.ClassFile.FieldType.int) [((0 : Nat), (10 : Nat), (13 : Nat), (21 : Nat))]) ∈ TT := ttk_7 (List.mem_of_getElem? (i := 91) rfl) rfl
theorem t_7_92 : (Jvm.Cond.methodLink "MiterhouseLaw" (110 : Nat) ({ cls := "Miterhouse", name := "normal", desc := "(II)I" } : Jvm.MethodName)) ∈ TT := ttk_7 (List.mem_of_getElem? (i := 92) rfl) rfl
theorem t_7_93 : (Jvm.Cond.instanceMethod ({ cls := "Miterhouse", name := "normal", desc := "(II)I" } : Jvm.MethodName)) ∈ TT := ttk_7 (List.mem_of_getElem? (i := 93) rfl) rfl
theorem t_7_94 : (Jvm.Cond.selects "Miterhouse" ({ cls := "Miterhouse", name := "normal", desc := "(II)I" } : Jvm.MethodName) ({ cls := "Miterhouse", name := "normal", desc := "(II)I" } : Jvm.MethodName)) ∈ TT := ttk_7 (List.mem_of_getElem? (i := 94) rfl) rfl
theorem t_7_95 : (Jvm.Cond.code ({ cls := "Miterhouse", name := "normal", desc := "(II)I" } : Jvm.MethodName) prog_1_method_31_code (3 : Nat) (Option.some Jvm.ClassFile.FieldType.int)) ∈ TT := ttk_7 (List.mem_of_getElem? (i := 95) rfl) rfl
theorem t_7_96 : (Jvm.Cond.methodLink "Miterhouse" (297 : Nat) ({ cls := "Miterhouse$Cuts", name := "fullTable", desc := "(I)I" } : Jvm.MethodName)) ∈ TT := ttk_7 (List.mem_of_getElem? (i := 96) rfl) rfl
theorem t_7_97 : (Jvm.Cond.methodLink "Miterhouse" (300 : Nat) ({ cls := "Miterhouse$Cuts", name := "leastAlike", desc := "(II)I" } : Jvm.MethodName)) ∈ TT := ttk_7 (List.mem_of_getElem? (i := 97) rfl) rfl
theorem t_7_98 : (Jvm.Cond.static ({ cls := "Miterhouse$Cuts", name := "leastAlike", desc := "(II)I" } : Jvm.MethodName)) ∈ TT := ttk_7 (List.mem_of_getElem? (i := 98) rfl) rfl
theorem t_7_99 : (Jvm.Cond.code ({ cls := "Miterhouse$Cuts", name := "leastAlike", desc := "(II)I" } : Jvm.MethodName) prog_5_method_16_code (7 : Nat) (Option.some Jvm.ClassFile.FieldType.int)) ∈ TT := ttk_7 (List.mem_of_getElem? (i := 99) rfl) rfl
theorem t_7_100 : (Jvm.Cond.methodLink "Miterhouse$Cuts" (154 : Nat) ({ cls := "Miterhouse$Cuts", name := "leastTurned", desc := "(II)I" } : Jvm.MethodName)) ∈ TT := ttk_7 (List.mem_of_getElem? (i := 100) rfl) rfl
theorem t_7_101 : (Jvm.Cond.static ({ cls := "Miterhouse$Cuts", name := "leastTurned", desc := "(II)I" } : Jvm.MethodName)) ∈ TT := ttk_7 (List.mem_of_getElem? (i := 101) rfl) rfl
theorem t_7_102 : (Jvm.Cond.code ({ cls := "Miterhouse$Cuts", name := "leastTurned", desc := "(II)I" } : Jvm.MethodName) prog_5_method_17_code (7 : Nat) (Option.some Jvm.ClassFile.FieldType.int)) ∈ TT := ttk_7 (List.mem_of_getElem? (i := 102) rfl) rfl
theorem t_7_103 : (Jvm.Cond.methodLink "Miterhouse$Cuts" (157 : Nat) ({ cls := "Miterhouse$Cuts", name := "exchanged", desc := "(III)I" } : Jvm.MethodName)) ∈ TT := ttk_7 (List.mem_of_getElem? (i := 103) rfl) rfl
theorem t_7_104 : (Jvm.Cond.static ({ cls := "Miterhouse$Cuts", name := "exchanged", desc := "(III)I" } : Jvm.MethodName)) ∈ TT := ttk_7 (List.mem_of_getElem? (i := 104) rfl) rfl
theorem t_7_105 : (Jvm.Cond.code ({ cls := "Miterhouse$Cuts", name := "exchanged", desc := "(III)I" } : Jvm.MethodName) prog_5_method_18_code (5 : Nat) (Option.some Jvm.ClassFile.FieldType.int)) ∈ TT := ttk_7 (List.mem_of_getElem? (i := 105) rfl) rfl
theorem t_7_106 : (Jvm.Cond.methodLink "MiterhouseLaw" (279 : Nat) ({ cls := "MiterhouseLaw", name := "coefficient", desc := "(LMiterhouse;IIII[J)I" } : Jvm.MethodName)) ∈ TT := ttk_7 (List.mem_of_getElem? (i := 106) rfl) rfl
theorem t_7_107 : (Jvm.Cond.static ({ cls := "MiterhouseLaw", name := "coefficient", desc := "(LMiterhouse;IIII[J)I" } : Jvm.MethodName)) ∈ TT := ttk_7 (List.mem_of_getElem? (i := 107) rfl) rfl
theorem t_7_108 : (Jvm.Cond.codeWith ({ cls := "MiterhouseLaw", name := "coefficient", desc := "(LMiterhouse;IIII[J)I" } : Jvm.MethodName) method_31_code (7 : Nat) (Option.some Jvm.ClassFile.FieldType.int) [((0 : Nat), (14 : Nat), (17 : Nat), (21 : Nat))]) ∈ TT := ttk_7 (List.mem_of_getElem? (i := 108) rfl) rfl
theorem t_7_109 : (Jvm.Cond.methodLink "MiterhouseLaw" (113 : Nat) ({ cls := "Miterhouse", name := "coefficient", desc := "(IIII)I" } : Jvm.MethodName)) ∈ TT := ttk_7 (List.mem_of_getElem? (i := 109) rfl) rfl
theorem t_7_110 : (Jvm.Cond.instanceMethod ({ cls := "Miterhouse", name := "coefficient", desc := "(IIII)I" } : Jvm.MethodName)) ∈ TT := ttk_7 (List.mem_of_getElem? (i := 110) rfl) rfl
theorem t_7_111 : (Jvm.Cond.selects "Miterhouse" ({ cls := "Miterhouse", name := "coefficient", desc := "(IIII)I" } : Jvm.MethodName) ({ cls := "Miterhouse", name := "coefficient", desc := "(IIII)I" } : Jvm.MethodName)) ∈ TT := ttk_7 (List.mem_of_getElem? (i := 111) rfl) rfl
theorem t_7_112 : (Jvm.Cond.code ({ cls := "Miterhouse", name := "coefficient", desc := "(IIII)I" } : Jvm.MethodName) prog_1_method_32_code (7 : Nat) (Option.some Jvm.ClassFile.FieldType.int)) ∈ TT := ttk_7 (List.mem_of_getElem? (i := 112) rfl) rfl
theorem t_7_113 : (Jvm.Cond.methodLink "Miterhouse" (303 : Nat) ({ cls := "Miterhouse", name := "numberAt", desc := "([II)I" } : Jvm.MethodName)) ∈ TT := ttk_7 (List.mem_of_getElem? (i := 113) rfl) rfl
theorem t_7_114 : (Jvm.Cond.methodLink "Miterhouse" (307 : Nat) ({ cls := "Miterhouse", name := "putNumber", desc := "([III)V" } : Jvm.MethodName)) ∈ TT := ttk_7 (List.mem_of_getElem? (i := 114) rfl) rfl
theorem t_7_115 : (Jvm.Cond.methodLink "MiterhouseLaw" (282 : Nat) ({ cls := "MiterhouseLaw", name := "areSame", desc := "(LMiterhouse;I[J)I" } : Jvm.MethodName)) ∈ TT := ttk_7 (List.mem_of_getElem? (i := 115) rfl) rfl
theorem t_7_116 : (Jvm.Cond.static ({ cls := "MiterhouseLaw", name := "areSame", desc := "(LMiterhouse;I[J)I" } : Jvm.MethodName)) ∈ TT := ttk_7 (List.mem_of_getElem? (i := 116) rfl) rfl
theorem t_7_117 : (Jvm.Cond.codeWith ({ cls := "MiterhouseLaw", name := "areSame", desc := "(LMiterhouse;I[J)I" } : Jvm.MethodName) method_32_code (4 : Nat) (Option.some Jvm.ClassFile.FieldType.int) [((0 : Nat), (16 : Nat), (19 : Nat), (21 : Nat))]) ∈ TT := ttk_7 (List.mem_of_getElem? (i := 117) rfl) rfl
theorem t_7_118 : (Jvm.Cond.methodLink "MiterhouseLaw" (116 : Nat) ({ cls := "Miterhouse", name := "areSame", desc := "(I)Z" } : Jvm.MethodName)) ∈ TT := ttk_7 (List.mem_of_getElem? (i := 118) rfl) rfl
theorem t_7_119 : (Jvm.Cond.instanceMethod ({ cls := "Miterhouse", name := "areSame", desc := "(I)Z" } : Jvm.MethodName)) ∈ TT := ttk_7 (List.mem_of_getElem? (i := 119) rfl) rfl
theorem t_7_120 : (Jvm.Cond.selects "Miterhouse" ({ cls := "Miterhouse", name := "areSame", desc := "(I)Z" } : Jvm.MethodName) ({ cls := "Miterhouse", name := "areSame", desc := "(I)Z" } : Jvm.MethodName)) ∈ TT := ttk_7 (List.mem_of_getElem? (i := 120) rfl) rfl
theorem t_7_121 : (Jvm.Cond.code ({ cls := "Miterhouse", name := "areSame", desc := "(I)Z" } : Jvm.MethodName) prog_1_method_33_code (5 : Nat) (Option.some Jvm.ClassFile.FieldType.boolean)) ∈ TT := ttk_7 (List.mem_of_getElem? (i := 121) rfl) rfl
theorem t_7_122 : (Jvm.Cond.methodLink "Miterhouse" (311 : Nat) ({ cls := "Miterhouse", name := "polynomial", desc := "(III)I" } : Jvm.MethodName)) ∈ TT := ttk_7 (List.mem_of_getElem? (i := 122) rfl) rfl
theorem t_7_124 : (Jvm.Cond.instanceMethod ({ cls := "Miterhouse", name := "polynomial", desc := "(III)I" } : Jvm.MethodName)) ∈ TT := ttk_7 (List.mem_of_getElem? (i := 124) rfl) rfl
theorem t_7_125 : (Jvm.Cond.code ({ cls := "Miterhouse", name := "polynomial", desc := "(III)I" } : Jvm.MethodName) prog_1_method_57_code (8 : Nat) (Option.some Jvm.ClassFile.FieldType.int)) ∈ TT := ttk_7 (List.mem_of_getElem? (i := 125) rfl) rfl
theorem t_7_126 : (Jvm.Cond.methodLink "MiterhouseLaw" (285 : Nat) ({ cls := "MiterhouseLaw", name := "word", desc := "(LMiterhouse;IIII[J)I" } : Jvm.MethodName)) ∈ TT := ttk_7 (List.mem_of_getElem? (i := 126) rfl) rfl
theorem t_7_127 : (Jvm.Cond.static ({ cls := "MiterhouseLaw", name := "word", desc := "(LMiterhouse;IIII[J)I" } : Jvm.MethodName)) ∈ TT := ttk_7 (List.mem_of_getElem? (i := 127) rfl) rfl
theorem t_7_128 : (Jvm.Cond.codeWith ({ cls := "MiterhouseLaw", name := "word", desc := "(LMiterhouse;IIII[J)I" } : Jvm.MethodName) method_33_code (7 : Nat) (Option.some Jvm.ClassFile.FieldType.int) [((0 : Nat), (14 : Nat), (17 : Nat), (21 : Nat))]) ∈ TT := ttk_7 (List.mem_of_getElem? (i := 128) rfl) rfl
theorem t_7_129 : (Jvm.Cond.methodLink "MiterhouseLaw" (120 : Nat) ({ cls := "Miterhouse", name := "word", desc := "(IIII)I" } : Jvm.MethodName)) ∈ TT := ttk_7 (List.mem_of_getElem? (i := 129) rfl) rfl
theorem t_7_130 : (Jvm.Cond.instanceMethod ({ cls := "Miterhouse", name := "word", desc := "(IIII)I" } : Jvm.MethodName)) ∈ TT := ttk_7 (List.mem_of_getElem? (i := 130) rfl) rfl
theorem t_7_131 : (Jvm.Cond.selects "Miterhouse" ({ cls := "Miterhouse", name := "word", desc := "(IIII)I" } : Jvm.MethodName) ({ cls := "Miterhouse", name := "word", desc := "(IIII)I" } : Jvm.MethodName)) ∈ TT := ttk_7 (List.mem_of_getElem? (i := 131) rfl) rfl
theorem t_7_132 : (Jvm.Cond.code ({ cls := "Miterhouse", name := "word", desc := "(IIII)I" } : Jvm.MethodName) prog_1_method_34_code (5 : Nat) (Option.some Jvm.ClassFile.FieldType.int)) ∈ TT := ttk_7 (List.mem_of_getElem? (i := 132) rfl) rfl
theorem t_7_133 : (Jvm.Cond.methodLink "MiterhouseLaw" (288 : Nat) ({ cls := "MiterhouseLaw", name := "seen", desc := "(LMiterhouse;I[J)I" } : Jvm.MethodName)) ∈ TT := ttk_7 (List.mem_of_getElem? (i := 133) rfl) rfl
theorem t_7_134 : (Jvm.Cond.static ({ cls := "MiterhouseLaw", name := "seen", desc := "(LMiterhouse;I[J)I" } : Jvm.MethodName)) ∈ TT := ttk_7 (List.mem_of_getElem? (i := 134) rfl) rfl
theorem t_7_135 : (Jvm.Cond.codeWith ({ cls := "MiterhouseLaw", name := "seen", desc := "(LMiterhouse;I[J)I" } : Jvm.MethodName) method_34_code (4 : Nat) (Option.some Jvm.ClassFile.FieldType.int) [((0 : Nat), (9 : Nat), (12 : Nat), (27 : Nat)), ((0 : Nat), (9 : Nat), (15 : Nat), (13 : Nat))]) ∈ TT := ttk_7 (List.mem_of_getElem? (i := 135) rfl) rfl
theorem t_7_136 : (Jvm.Cond.methodLink "MiterhouseLaw" (123 : Nat) ({ cls := "Miterhouse", name := "seen", desc := "(I)I" } : Jvm.MethodName)) ∈ TT := ttk_7 (List.mem_of_getElem? (i := 136) rfl) rfl
theorem t_7_137 : (Jvm.Cond.instanceMethod ({ cls := "Miterhouse", name := "seen", desc := "(I)I" } : Jvm.MethodName)) ∈ TT := ttk_7 (List.mem_of_getElem? (i := 137) rfl) rfl
theorem t_7_138 : (Jvm.Cond.selects "Miterhouse" ({ cls := "Miterhouse", name := "seen", desc := "(I)I" } : Jvm.MethodName) ({ cls := "Miterhouse", name := "seen", desc := "(I)I" } : Jvm.MethodName)) ∈ TT := ttk_7 (List.mem_of_getElem? (i := 138) rfl) rfl
theorem t_7_139 : (Jvm.Cond.code ({ cls := "Miterhouse", name := "seen", desc := "(I)I" } : Jvm.MethodName) prog_1_method_35_code (2 : Nat) (Option.some Jvm.ClassFile.FieldType.int)) ∈ TT := ttk_7 (List.mem_of_getElem? (i := 139) rfl) rfl
theorem t_7_177 : (Jvm.Cond.methodLink "MiterhouseLaw" (291 : Nat) ({ cls := "MiterhouseLaw", name := "isIdle", desc := "(LMiterhouse;I[J)I" } : Jvm.MethodName)) ∈ TT := ttk_7 (List.mem_of_getElem? (i := 177) rfl) rfl
theorem t_7_178 : (Jvm.Cond.static ({ cls := "MiterhouseLaw", name := "isIdle", desc := "(LMiterhouse;I[J)I" } : Jvm.MethodName)) ∈ TT := ttk_7 (List.mem_of_getElem? (i := 178) rfl) rfl
theorem t_7_179 : (Jvm.Cond.codeWith ({ cls := "MiterhouseLaw", name := "isIdle", desc := "(LMiterhouse;I[J)I" } : Jvm.MethodName) method_35_code (4 : Nat) (Option.some Jvm.ClassFile.FieldType.int) [((0 : Nat), (16 : Nat), (19 : Nat), (27 : Nat)), ((0 : Nat), (16 : Nat), (22 : Nat), (13 : Nat))]) ∈ TT := ttk_7 (List.mem_of_getElem? (i := 179) rfl) rfl
theorem t_7_180 : (Jvm.Cond.methodLink "MiterhouseLaw" (126 : Nat) ({ cls := "Miterhouse", name := "isIdle", desc := "(I)Z" } : Jvm.MethodName)) ∈ TT := ttk_7 (List.mem_of_getElem? (i := 180) rfl) rfl
theorem t_7_181 : (Jvm.Cond.instanceMethod ({ cls := "Miterhouse", name := "isIdle", desc := "(I)Z" } : Jvm.MethodName)) ∈ TT := ttk_7 (List.mem_of_getElem? (i := 181) rfl) rfl
theorem t_7_182 : (Jvm.Cond.selects "Miterhouse" ({ cls := "Miterhouse", name := "isIdle", desc := "(I)Z" } : Jvm.MethodName) ({ cls := "Miterhouse", name := "isIdle", desc := "(I)Z" } : Jvm.MethodName)) ∈ TT := ttk_7 (List.mem_of_getElem? (i := 182) rfl) rfl
theorem t_7_183 : (Jvm.Cond.code ({ cls := "Miterhouse", name := "isIdle", desc := "(I)Z" } : Jvm.MethodName) prog_1_method_36_code (2 : Nat) (Option.some Jvm.ClassFile.FieldType.boolean)) ∈ TT := ttk_7 (List.mem_of_getElem? (i := 183) rfl) rfl
theorem t_7_184 : (Jvm.Cond.methodLink "MiterhouseLaw" (294 : Nat) ({ cls := "MiterhouseLaw", name := "patch", desc := "(LMiterhouse;IIIII[J)I" } : Jvm.MethodName)) ∈ TT := ttk_7 (List.mem_of_getElem? (i := 184) rfl) rfl
theorem t_7_185 : (Jvm.Cond.static ({ cls := "MiterhouseLaw", name := "patch", desc := "(LMiterhouse;IIIII[J)I" } : Jvm.MethodName)) ∈ TT := ttk_7 (List.mem_of_getElem? (i := 185) rfl) rfl
theorem t_7_186 : (Jvm.Cond.codeWith ({ cls := "MiterhouseLaw", name := "patch", desc := "(LMiterhouse;IIIII[J)I" } : Jvm.MethodName) method_36_code (8 : Nat) (Option.some Jvm.ClassFile.FieldType.int) [((0 : Nat), (16 : Nat), (19 : Nat), (27 : Nat)), ((0 : Nat), (16 : Nat), (23 : Nat), (21 : Nat)), ((0 : Nat), (16 : Nat), (27 : Nat), (13 : Nat)), ((0 : Nat), (16 : Nat), (31 : Nat), (56 : Nat))]) ∈ TT := ttk_7 (List.mem_of_getElem? (i := 186) rfl) rfl
theorem t_7_187 : (Jvm.Cond.methodLink "MiterhouseLaw" (129 : Nat) ({ cls := "Miterhouse", name := "patch", desc := "(IIIII)I" } : Jvm.MethodName)) ∈ TT := ttk_7 (List.mem_of_getElem? (i := 187) rfl) rfl
theorem t_7_188 : (Jvm.Cond.instanceMethod ({ cls := "Miterhouse", name := "patch", desc := "(IIIII)I" } : Jvm.MethodName)) ∈ TT := ttk_7 (List.mem_of_getElem? (i := 188) rfl) rfl
theorem t_7_189 : (Jvm.Cond.selects "Miterhouse" ({ cls := "Miterhouse", name := "patch", desc := "(IIIII)I" } : Jvm.MethodName) ({ cls := "Miterhouse", name := "patch", desc := "(IIIII)I" } : Jvm.MethodName)) ∈ TT := ttk_7 (List.mem_of_getElem? (i := 189) rfl) rfl
theorem t_7_190 : (Jvm.Cond.code ({ cls := "Miterhouse", name := "patch", desc := "(IIIII)I" } : Jvm.MethodName) prog_1_method_37_code (9 : Nat) (Option.some Jvm.ClassFile.FieldType.int)) ∈ TT := ttk_7 (List.mem_of_getElem? (i := 190) rfl) rfl
theorem t_7_222 : (Jvm.Cond.methodLink "MiterhouseLaw" (298 : Nat) ({ cls := "MiterhouseLaw", name := "correspond", desc := "(LMiterhouse;IIZ[J)I" } : Jvm.MethodName)) ∈ TT := ttk_7 (List.mem_of_getElem? (i := 222) rfl) rfl
theorem t_7_223 : (Jvm.Cond.static ({ cls := "MiterhouseLaw", name := "correspond", desc := "(LMiterhouse;IIZ[J)I" } : Jvm.MethodName)) ∈ TT := ttk_7 (List.mem_of_getElem? (i := 223) rfl) rfl
theorem t_7_224 : (Jvm.Cond.codeWith ({ cls := "MiterhouseLaw", name := "correspond", desc := "(LMiterhouse;IIZ[J)I" } : Jvm.MethodName) method_37_code (6 : Nat) (Option.some Jvm.ClassFile.FieldType.int) [((0 : Nat), (19 : Nat), (22 : Nat), (27 : Nat)), ((0 : Nat), (19 : Nat), (26 : Nat), (13 : Nat))]) ∈ TT := ttk_7 (List.mem_of_getElem? (i := 224) rfl) rfl
theorem t_7_225 : (Jvm.Cond.methodLink "MiterhouseLaw" (133 : Nat) ({ cls := "Miterhouse", name := "correspond", desc := "(IIZ)Z" } : Jvm.MethodName)) ∈ TT := ttk_7 (List.mem_of_getElem? (i := 225) rfl) rfl
theorem t_7_226 : (Jvm.Cond.instanceMethod ({ cls := "Miterhouse", name := "correspond", desc := "(IIZ)Z" } : Jvm.MethodName)) ∈ TT := ttk_7 (List.mem_of_getElem? (i := 226) rfl) rfl
theorem t_7_227 : (Jvm.Cond.selects "Miterhouse" ({ cls := "Miterhouse", name := "correspond", desc := "(IIZ)Z" } : Jvm.MethodName) ({ cls := "Miterhouse", name := "correspond", desc := "(IIZ)Z" } : Jvm.MethodName)) ∈ TT := ttk_7 (List.mem_of_getElem? (i := 227) rfl) rfl
theorem t_7_228 : (Jvm.Cond.code ({ cls := "Miterhouse", name := "correspond", desc := "(IIZ)Z" } : Jvm.MethodName) prog_1_method_38_code (5 : Nat) (Option.some Jvm.ClassFile.FieldType.boolean)) ∈ TT := ttk_7 (List.mem_of_getElem? (i := 228) rfl) rfl
theorem t_8_20 : (Jvm.Cond.methodLink "MiterhouseLaw" (301 : Nat) ({ cls := "MiterhouseLaw", name := "cellClasses", desc := "(LMiterhouse;[J)I" } : Jvm.MethodName)) ∈ TT := ttk_8 (List.mem_of_getElem? (i := 20) rfl) rfl
theorem t_8_21 : (Jvm.Cond.static ({ cls := "MiterhouseLaw", name := "cellClasses", desc := "(LMiterhouse;[J)I" } : Jvm.MethodName)) ∈ TT := ttk_8 (List.mem_of_getElem? (i := 21) rfl) rfl
theorem t_8_22 : (Jvm.Cond.codeWith ({ cls := "MiterhouseLaw", name := "cellClasses", desc := "(LMiterhouse;[J)I" } : Jvm.MethodName) method_38_code (3 : Nat) (Option.some Jvm.ClassFile.FieldType.int) [((0 : Nat), (8 : Nat), (11 : Nat), (13 : Nat))]) ∈ TT := ttk_8 (List.mem_of_getElem? (i := 22) rfl) rfl
theorem t_8_23 : (Jvm.Cond.methodLink "MiterhouseLaw" (137 : Nat) ({ cls := "Miterhouse", name := "cellClasses", desc := "()I" } : Jvm.MethodName)) ∈ TT := ttk_8 (List.mem_of_getElem? (i := 23) rfl) rfl
theorem t_8_24 : (Jvm.Cond.instanceMethod ({ cls := "Miterhouse", name := "cellClasses", desc := "()I" } : Jvm.MethodName)) ∈ TT := ttk_8 (List.mem_of_getElem? (i := 24) rfl) rfl
theorem t_8_25 : (Jvm.Cond.selects "Miterhouse" ({ cls := "Miterhouse", name := "cellClasses", desc := "()I" } : Jvm.MethodName) ({ cls := "Miterhouse", name := "cellClasses", desc := "()I" } : Jvm.MethodName)) ∈ TT := ttk_8 (List.mem_of_getElem? (i := 25) rfl) rfl
theorem t_8_26 : (Jvm.Cond.code ({ cls := "Miterhouse", name := "cellClasses", desc := "()I" } : Jvm.MethodName) prog_1_method_39_code (1 : Nat) (Option.some Jvm.ClassFile.FieldType.int)) ∈ TT := ttk_8 (List.mem_of_getElem? (i := 26) rfl) rfl
theorem t_8_31 : (Jvm.Cond.methodLink "MiterhouseLaw" (304 : Nat) ({ cls := "MiterhouseLaw", name := "reached", desc := "(LMiterhouse;[J)I" } : Jvm.MethodName)) ∈ TT := ttk_8 (List.mem_of_getElem? (i := 31) rfl) rfl
theorem t_8_32 : (Jvm.Cond.static ({ cls := "MiterhouseLaw", name := "reached", desc := "(LMiterhouse;[J)I" } : Jvm.MethodName)) ∈ TT := ttk_8 (List.mem_of_getElem? (i := 32) rfl) rfl
theorem t_8_33 : (Jvm.Cond.codeWith ({ cls := "MiterhouseLaw", name := "reached", desc := "(LMiterhouse;[J)I" } : Jvm.MethodName) method_39_code (3 : Nat) (Option.some Jvm.ClassFile.FieldType.int) [((0 : Nat), (8 : Nat), (11 : Nat), (13 : Nat))]) ∈ TT := ttk_8 (List.mem_of_getElem? (i := 33) rfl) rfl
theorem t_8_34 : (Jvm.Cond.methodLink "MiterhouseLaw" (140 : Nat) ({ cls := "Miterhouse", name := "reached", desc := "()I" } : Jvm.MethodName)) ∈ TT := ttk_8 (List.mem_of_getElem? (i := 34) rfl) rfl
theorem t_8_35 : (Jvm.Cond.instanceMethod ({ cls := "Miterhouse", name := "reached", desc := "()I" } : Jvm.MethodName)) ∈ TT := ttk_8 (List.mem_of_getElem? (i := 35) rfl) rfl
theorem t_8_36 : (Jvm.Cond.selects "Miterhouse" ({ cls := "Miterhouse", name := "reached", desc := "()I" } : Jvm.MethodName) ({ cls := "Miterhouse", name := "reached", desc := "()I" } : Jvm.MethodName)) ∈ TT := ttk_8 (List.mem_of_getElem? (i := 36) rfl) rfl
theorem t_8_37 : (Jvm.Cond.code ({ cls := "Miterhouse", name := "reached", desc := "()I" } : Jvm.MethodName) prog_1_method_40_code (2 : Nat) (Option.some Jvm.ClassFile.FieldType.int)) ∈ TT := ttk_8 (List.mem_of_getElem? (i := 37) rfl) rfl
theorem t_8_39 : (Jvm.Cond.methodLink "MiterhouseLaw" (307 : Nat) ({ cls := "MiterhouseLaw", name := "difference", desc := "(LMiterhouse;[J)I" } : Jvm.MethodName)) ∈ TT := ttk_8 (List.mem_of_getElem? (i := 39) rfl) rfl
theorem t_8_40 : (Jvm.Cond.static ({ cls := "MiterhouseLaw", name := "difference", desc := "(LMiterhouse;[J)I" } : Jvm.MethodName)) ∈ TT := ttk_8 (List.mem_of_getElem? (i := 40) rfl) rfl
theorem t_8_41 : (Jvm.Cond.codeWith ({ cls := "MiterhouseLaw", name := "difference", desc := "(LMiterhouse;[J)I" } : Jvm.MethodName) method_40_code (3 : Nat) (Option.some Jvm.ClassFile.FieldType.int) [((0 : Nat), (8 : Nat), (11 : Nat), (13 : Nat))]) ∈ TT := ttk_8 (List.mem_of_getElem? (i := 41) rfl) rfl
theorem t_8_42 : (Jvm.Cond.methodLink "MiterhouseLaw" (143 : Nat) ({ cls := "Miterhouse", name := "difference", desc := "()I" } : Jvm.MethodName)) ∈ TT := ttk_8 (List.mem_of_getElem? (i := 42) rfl) rfl
theorem t_8_43 : (Jvm.Cond.instanceMethod ({ cls := "Miterhouse", name := "difference", desc := "()I" } : Jvm.MethodName)) ∈ TT := ttk_8 (List.mem_of_getElem? (i := 43) rfl) rfl
theorem t_8_44 : (Jvm.Cond.selects "Miterhouse" ({ cls := "Miterhouse", name := "difference", desc := "()I" } : Jvm.MethodName) ({ cls := "Miterhouse", name := "difference", desc := "()I" } : Jvm.MethodName)) ∈ TT := ttk_8 (List.mem_of_getElem? (i := 44) rfl) rfl
theorem t_8_45 : (Jvm.Cond.code ({ cls := "Miterhouse", name := "difference", desc := "()I" } : Jvm.MethodName) prog_1_method_41_code (2 : Nat) (Option.some Jvm.ClassFile.FieldType.int)) ∈ TT := ttk_8 (List.mem_of_getElem? (i := 45) rfl) rfl
theorem t_8_46 : (Jvm.Cond.methodLink "MiterhouseLaw" (310 : Nat) ({ cls := "MiterhouseLaw", name := "trace", desc := "(LMiterhouse;I[J)I" } : Jvm.MethodName)) ∈ TT := ttk_8 (List.mem_of_getElem? (i := 46) rfl) rfl
theorem t_8_47 : (Jvm.Cond.static ({ cls := "MiterhouseLaw", name := "trace", desc := "(LMiterhouse;I[J)I" } : Jvm.MethodName)) ∈ TT := ttk_8 (List.mem_of_getElem? (i := 47) rfl) rfl
theorem t_8_48 : (Jvm.Cond.codeWith ({ cls := "MiterhouseLaw", name := "trace", desc := "(LMiterhouse;I[J)I" } : Jvm.MethodName) method_41_code (4 : Nat) (Option.some Jvm.ClassFile.FieldType.int) [((0 : Nat), (9 : Nat), (12 : Nat), (13 : Nat)), ((0 : Nat), (9 : Nat), (15 : Nat), (56 : Nat))]) ∈ TT := ttk_8 (List.mem_of_getElem? (i := 48) rfl) rfl
theorem t_8_49 : (Jvm.Cond.methodLink "MiterhouseLaw" (146 : Nat) ({ cls := "Miterhouse", name := "trace", desc := "(I)I" } : Jvm.MethodName)) ∈ TT := ttk_8 (List.mem_of_getElem? (i := 49) rfl) rfl
theorem t_8_50 : (Jvm.Cond.instanceMethod ({ cls := "Miterhouse", name := "trace", desc := "(I)I" } : Jvm.MethodName)) ∈ TT := ttk_8 (List.mem_of_getElem? (i := 50) rfl) rfl
theorem t_8_51 : (Jvm.Cond.selects "Miterhouse" ({ cls := "Miterhouse", name := "trace", desc := "(I)I" } : Jvm.MethodName) ({ cls := "Miterhouse", name := "trace", desc := "(I)I" } : Jvm.MethodName)) ∈ TT := ttk_8 (List.mem_of_getElem? (i := 51) rfl) rfl
theorem t_8_52 : (Jvm.Cond.code ({ cls := "Miterhouse", name := "trace", desc := "(I)I" } : Jvm.MethodName) prog_1_method_42_code (3 : Nat) (Option.some Jvm.ClassFile.FieldType.int)) ∈ TT := ttk_8 (List.mem_of_getElem? (i := 52) rfl) rfl
theorem t_8_55 : (Jvm.Cond.methodLink "MiterhouseLaw" (313 : Nat) ({ cls := "MiterhouseLaw", name := "isInductive", desc := "(LMiterhouse;I[J)I" } : Jvm.MethodName)) ∈ TT := ttk_8 (List.mem_of_getElem? (i := 55) rfl) rfl
theorem t_8_56 : (Jvm.Cond.static ({ cls := "MiterhouseLaw", name := "isInductive", desc := "(LMiterhouse;I[J)I" } : Jvm.MethodName)) ∈ TT := ttk_8 (List.mem_of_getElem? (i := 56) rfl) rfl
theorem t_8_57 : (Jvm.Cond.codeWith ({ cls := "MiterhouseLaw", name := "isInductive", desc := "(LMiterhouse;I[J)I" } : Jvm.MethodName) method_42_code (4 : Nat) (Option.some Jvm.ClassFile.FieldType.int) [((0 : Nat), (16 : Nat), (19 : Nat), (21 : Nat)), ((0 : Nat), (16 : Nat), (22 : Nat), (13 : Nat))]) ∈ TT := ttk_8 (List.mem_of_getElem? (i := 57) rfl) rfl
theorem t_8_58 : (Jvm.Cond.methodLink "MiterhouseLaw" (149 : Nat) ({ cls := "Miterhouse", name := "isInductive", desc := "(I)Z" } : Jvm.MethodName)) ∈ TT := ttk_8 (List.mem_of_getElem? (i := 58) rfl) rfl
theorem t_8_59 : (Jvm.Cond.instanceMethod ({ cls := "Miterhouse", name := "isInductive", desc := "(I)Z" } : Jvm.MethodName)) ∈ TT := ttk_8 (List.mem_of_getElem? (i := 59) rfl) rfl
theorem t_8_60 : (Jvm.Cond.selects "Miterhouse" ({ cls := "Miterhouse", name := "isInductive", desc := "(I)Z" } : Jvm.MethodName) ({ cls := "Miterhouse", name := "isInductive", desc := "(I)Z" } : Jvm.MethodName)) ∈ TT := ttk_8 (List.mem_of_getElem? (i := 60) rfl) rfl
theorem t_8_61 : (Jvm.Cond.code ({ cls := "Miterhouse", name := "isInductive", desc := "(I)Z" } : Jvm.MethodName) prog_1_method_43_code (2 : Nat) (Option.some Jvm.ClassFile.FieldType.boolean)) ∈ TT := ttk_8 (List.mem_of_getElem? (i := 61) rfl) rfl
theorem t_8_76 : (Jvm.Cond.methodLink "MiterhouseLaw" (316 : Nat) ({ cls := "MiterhouseLaw", name := "isInvariant", desc := "(LMiterhouse;I[J)I" } : Jvm.MethodName)) ∈ TT := ttk_8 (List.mem_of_getElem? (i := 76) rfl) rfl
theorem t_8_77 : (Jvm.Cond.static ({ cls := "MiterhouseLaw", name := "isInvariant", desc := "(LMiterhouse;I[J)I" } : Jvm.MethodName)) ∈ TT := ttk_8 (List.mem_of_getElem? (i := 77) rfl) rfl
theorem t_8_78 : (Jvm.Cond.codeWith ({ cls := "MiterhouseLaw", name := "isInvariant", desc := "(LMiterhouse;I[J)I" } : Jvm.MethodName) method_43_code (4 : Nat) (Option.some Jvm.ClassFile.FieldType.int) [((0 : Nat), (16 : Nat), (19 : Nat), (27 : Nat)), ((0 : Nat), (16 : Nat), (22 : Nat), (13 : Nat))]) ∈ TT := ttk_8 (List.mem_of_getElem? (i := 78) rfl) rfl
theorem t_8_79 : (Jvm.Cond.methodLink "MiterhouseLaw" (152 : Nat) ({ cls := "Miterhouse", name := "isInvariant", desc := "(I)Z" } : Jvm.MethodName)) ∈ TT := ttk_8 (List.mem_of_getElem? (i := 79) rfl) rfl
theorem t_8_80 : (Jvm.Cond.instanceMethod ({ cls := "Miterhouse", name := "isInvariant", desc := "(I)Z" } : Jvm.MethodName)) ∈ TT := ttk_8 (List.mem_of_getElem? (i := 80) rfl) rfl
theorem t_8_81 : (Jvm.Cond.selects "Miterhouse" ({ cls := "Miterhouse", name := "isInvariant", desc := "(I)Z" } : Jvm.MethodName) ({ cls := "Miterhouse", name := "isInvariant", desc := "(I)Z" } : Jvm.MethodName)) ∈ TT := ttk_8 (List.mem_of_getElem? (i := 81) rfl) rfl
theorem t_8_82 : (Jvm.Cond.code ({ cls := "Miterhouse", name := "isInvariant", desc := "(I)Z" } : Jvm.MethodName) prog_1_method_44_code (2 : Nat) (Option.some Jvm.ClassFile.FieldType.boolean)) ∈ TT := ttk_8 (List.mem_of_getElem? (i := 82) rfl) rfl
theorem t_8_91 : (Jvm.Cond.methodLink "MiterhouseLaw" (319 : Nat) ({ cls := "MiterhouseLaw", name := "run", desc := "(LMiterhouse;III[J)I" } : Jvm.MethodName)) ∈ TT := ttk_8 (List.mem_of_getElem? (i := 91) rfl) rfl
theorem t_8_92 : (Jvm.Cond.static ({ cls := "MiterhouseLaw", name := "run", desc := "(LMiterhouse;III[J)I" } : Jvm.MethodName)) ∈ TT := ttk_8 (List.mem_of_getElem? (i := 92) rfl) rfl
theorem t_8_93 : (Jvm.Cond.codeWith ({ cls := "MiterhouseLaw", name := "run", desc := "(LMiterhouse;III[J)I" } : Jvm.MethodName) method_44_code (6 : Nat) (Option.some Jvm.ClassFile.FieldType.int) [((0 : Nat), (12 : Nat), (15 : Nat), (21 : Nat)), ((0 : Nat), (12 : Nat), (19 : Nat), (13 : Nat))]) ∈ TT := ttk_8 (List.mem_of_getElem? (i := 93) rfl) rfl
theorem t_8_94 : (Jvm.Cond.methodLink "MiterhouseLaw" (155 : Nat) ({ cls := "Miterhouse", name := "run", desc := "(III)I" } : Jvm.MethodName)) ∈ TT := ttk_8 (List.mem_of_getElem? (i := 94) rfl) rfl
theorem t_8_95 : (Jvm.Cond.instanceMethod ({ cls := "Miterhouse", name := "run", desc := "(III)I" } : Jvm.MethodName)) ∈ TT := ttk_8 (List.mem_of_getElem? (i := 95) rfl) rfl
theorem t_8_96 : (Jvm.Cond.selects "Miterhouse" ({ cls := "Miterhouse", name := "run", desc := "(III)I" } : Jvm.MethodName) ({ cls := "Miterhouse", name := "run", desc := "(III)I" } : Jvm.MethodName)) ∈ TT := ttk_8 (List.mem_of_getElem? (i := 96) rfl) rfl
theorem t_8_97 : (Jvm.Cond.code ({ cls := "Miterhouse", name := "run", desc := "(III)I" } : Jvm.MethodName) prog_1_method_45_code (4 : Nat) (Option.some Jvm.ClassFile.FieldType.int)) ∈ TT := ttk_8 (List.mem_of_getElem? (i := 97) rfl) rfl
theorem t_8_103 : (Jvm.Cond.methodLink "MiterhouseLaw" (326 : Nat) ({ cls := "MiterhouseLaw", name := "mergedShare", desc := "(LMiterhouse;[D)I" } : Jvm.MethodName)) ∈ TT := ttk_8 (List.mem_of_getElem? (i := 103) rfl) rfl
theorem t_8_104 : (Jvm.Cond.static ({ cls := "MiterhouseLaw", name := "mergedShare", desc := "(LMiterhouse;[D)I" } : Jvm.MethodName)) ∈ TT := ttk_8 (List.mem_of_getElem? (i := 104) rfl) rfl
theorem t_8_105 : (Jvm.Cond.codeWith ({ cls := "MiterhouseLaw", name := "mergedShare", desc := "(LMiterhouse;[D)I" } : Jvm.MethodName) method_45_code (3 : Nat) (Option.some Jvm.ClassFile.FieldType.int) [((0 : Nat), (8 : Nat), (11 : Nat), (162 : Nat))]) ∈ TT := ttk_8 (List.mem_of_getElem? (i := 105) rfl) rfl
theorem t_8_106 : (Jvm.Cond.classLink "MiterhouseLaw" (162 : Nat) "java/lang/ArithmeticException") ∈ TT := ttk_8 (List.mem_of_getElem? (i := 106) rfl) rfl
theorem t_8_118 : (Jvm.Cond.castable "java/lang/ArithmeticException" "java/lang/ArithmeticException") ∈ TT := ttk_8 (List.mem_of_getElem? (i := 118) rfl) rfl
theorem t_8_120 : (Jvm.Cond.methodLink "MiterhouseLaw" (158 : Nat) ({ cls := "Miterhouse", name := "mergedShare", desc := "()F" } : Jvm.MethodName)) ∈ TT := ttk_8 (List.mem_of_getElem? (i := 120) rfl) rfl
theorem t_8_121 : (Jvm.Cond.instanceMethod ({ cls := "Miterhouse", name := "mergedShare", desc := "()F" } : Jvm.MethodName)) ∈ TT := ttk_8 (List.mem_of_getElem? (i := 121) rfl) rfl
theorem t_8_122 : (Jvm.Cond.selects "Miterhouse" ({ cls := "Miterhouse", name := "mergedShare", desc := "()F" } : Jvm.MethodName) ({ cls := "Miterhouse", name := "mergedShare", desc := "()F" } : Jvm.MethodName)) ∈ TT := ttk_8 (List.mem_of_getElem? (i := 122) rfl) rfl
theorem t_8_123 : (Jvm.Cond.code ({ cls := "Miterhouse", name := "mergedShare", desc := "()F" } : Jvm.MethodName) prog_1_method_47_code (2 : Nat) (Option.some Jvm.ClassFile.FieldType.float)) ∈ TT := ttk_8 (List.mem_of_getElem? (i := 123) rfl) rfl
theorem t_8_124 : (Jvm.Cond.classLink "Miterhouse" (382 : Nat) "java/lang/ArithmeticException") ∈ TT := ttk_8 (List.mem_of_getElem? (i := 124) rfl) rfl
theorem t_8_127 : (Jvm.Cond.methodLink "MiterhouseLaw" (330 : Nat) ({ cls := "MiterhouseLaw", name := "meanSeen", desc := "(LMiterhouse;[D)I" } : Jvm.MethodName)) ∈ TT := ttk_8 (List.mem_of_getElem? (i := 127) rfl) rfl
theorem t_8_128 : (Jvm.Cond.static ({ cls := "MiterhouseLaw", name := "meanSeen", desc := "(LMiterhouse;[D)I" } : Jvm.MethodName)) ∈ TT := ttk_8 (List.mem_of_getElem? (i := 128) rfl) rfl
theorem t_8_129 : (Jvm.Cond.codeWith ({ cls := "MiterhouseLaw", name := "meanSeen", desc := "(LMiterhouse;[D)I" } : Jvm.MethodName) method_46_code (3 : Nat) (Option.some Jvm.ClassFile.FieldType.int) [((0 : Nat), (7 : Nat), (10 : Nat), (13 : Nat)), ((0 : Nat), (7 : Nat), (13 : Nat), (162 : Nat))]) ∈ TT := ttk_8 (List.mem_of_getElem? (i := 129) rfl) rfl
theorem t_8_130 : (Jvm.Cond.methodLink "MiterhouseLaw" (164 : Nat) ({ cls := "Miterhouse", name := "meanSeen", desc := "()D" } : Jvm.MethodName)) ∈ TT := ttk_8 (List.mem_of_getElem? (i := 130) rfl) rfl
theorem t_8_131 : (Jvm.Cond.instanceMethod ({ cls := "Miterhouse", name := "meanSeen", desc := "()D" } : Jvm.MethodName)) ∈ TT := ttk_8 (List.mem_of_getElem? (i := 131) rfl) rfl
theorem t_8_132 : (Jvm.Cond.selects "Miterhouse" ({ cls := "Miterhouse", name := "meanSeen", desc := "()D" } : Jvm.MethodName) ({ cls := "Miterhouse", name := "meanSeen", desc := "()D" } : Jvm.MethodName)) ∈ TT := ttk_8 (List.mem_of_getElem? (i := 132) rfl) rfl
theorem t_8_133 : (Jvm.Cond.code ({ cls := "Miterhouse", name := "meanSeen", desc := "()D" } : Jvm.MethodName) prog_1_method_48_code (2 : Nat) (Option.some Jvm.ClassFile.FieldType.double)) ∈ TT := ttk_8 (List.mem_of_getElem? (i := 133) rfl) rfl
theorem t_8_139 : (Jvm.Cond.classLink "MiterhouseLaw" (169 : Nat) "MiterhouseModel") ∈ TT := ttk_8 (List.mem_of_getElem? (i := 139) rfl) rfl
theorem t_8_140 : (Jvm.Cond.instantiable "MiterhouseModel" (31 : Nat)) ∈ TT := ttk_8 (List.mem_of_getElem? (i := 140) rfl) rfl
theorem t_8_141 : (Jvm.Cond.methodLink "MiterhouseLaw" (171 : Nat) ({ cls := "MiterhouseModel", name := "<init>", desc := "()V" } : Jvm.MethodName)) ∈ TT := ttk_8 (List.mem_of_getElem? (i := 141) rfl) rfl
theorem t_8_142 : (Jvm.Cond.instanceMethod ({ cls := "MiterhouseModel", name := "<init>", desc := "()V" } : Jvm.MethodName)) ∈ TT := ttk_8 (List.mem_of_getElem? (i := 142) rfl) rfl
theorem t_8_143 : (Jvm.Cond.code ({ cls := "MiterhouseModel", name := "<init>", desc := "()V" } : Jvm.MethodName) prog_14_method_1_code (1 : Nat) (Option.none : Option Jvm.ClassFile.FieldType)) ∈ TT := ttk_8 (List.mem_of_getElem? (i := 143) rfl) rfl
theorem t_8_144 : (Jvm.Cond.methodLink "MiterhouseModel" (1 : Nat) ({ cls := "java/lang/Object", name := "<init>", desc := "()V" } : Jvm.MethodName)) ∈ TT := ttk_8 (List.mem_of_getElem? (i := 144) rfl) rfl
theorem t_8_145 : (Jvm.Cond.classLink "MiterhouseModel" (7 : Nat) "java/util/ArrayList") ∈ TT := ttk_8 (List.mem_of_getElem? (i := 145) rfl) rfl
theorem t_8_146 : (Jvm.Cond.instantiable "java/util/ArrayList" (3 : Nat)) ∈ TT := ttk_8 (List.mem_of_getElem? (i := 146) rfl) rfl
theorem t_8_147 : (Jvm.Cond.methodLink "MiterhouseModel" (9 : Nat) ({ cls := "java/util/ArrayList", name := "<init>", desc := "()V" } : Jvm.MethodName)) ∈ TT := ttk_8 (List.mem_of_getElem? (i := 147) rfl) rfl
theorem t_8_148 : (Jvm.Cond.instanceMethod ({ cls := "java/util/ArrayList", name := "<init>", desc := "()V" } : Jvm.MethodName)) ∈ TT := ttk_8 (List.mem_of_getElem? (i := 148) rfl) rfl
theorem t_8_149 : (Jvm.Cond.code ({ cls := "java/util/ArrayList", name := "<init>", desc := "()V" } : Jvm.MethodName) prog_45_method_2_code (1 : Nat) (Option.none : Option Jvm.ClassFile.FieldType)) ∈ TT := ttk_8 (List.mem_of_getElem? (i := 149) rfl) rfl
theorem t_8_150 : (Jvm.Cond.methodLink "java/util/ArrayList" (1 : Nat) ({ cls := "java/util/AbstractList", name := "<init>", desc := "()V" } : Jvm.MethodName)) ∈ TT := ttk_8 (List.mem_of_getElem? (i := 150) rfl) rfl
theorem t_8_151 : (Jvm.Cond.instanceMethod ({ cls := "java/util/AbstractList", name := "<init>", desc := "()V" } : Jvm.MethodName)) ∈ TT := ttk_8 (List.mem_of_getElem? (i := 151) rfl) rfl
theorem t_8_152 : (Jvm.Cond.code ({ cls := "java/util/AbstractList", name := "<init>", desc := "()V" } : Jvm.MethodName) prog_44_method_1_code (1 : Nat) (Option.none : Option Jvm.ClassFile.FieldType)) ∈ TT := ttk_8 (List.mem_of_getElem? (i := 152) rfl) rfl
theorem t_8_153 : (Jvm.Cond.methodLink "java/util/AbstractList" (1 : Nat) ({ cls := "java/util/AbstractCollection", name := "<init>", desc := "()V" } : Jvm.MethodName)) ∈ TT := ttk_8 (List.mem_of_getElem? (i := 153) rfl) rfl
theorem t_8_154 : (Jvm.Cond.instanceMethod ({ cls := "java/util/AbstractCollection", name := "<init>", desc := "()V" } : Jvm.MethodName)) ∈ TT := ttk_8 (List.mem_of_getElem? (i := 154) rfl) rfl
theorem t_8_155 : (Jvm.Cond.code ({ cls := "java/util/AbstractCollection", name := "<init>", desc := "()V" } : Jvm.MethodName) prog_43_method_1_code (1 : Nat) (Option.none : Option Jvm.ClassFile.FieldType)) ∈ TT := ttk_8 (List.mem_of_getElem? (i := 155) rfl) rfl
theorem t_8_156 : (Jvm.Cond.methodLink "java/util/AbstractCollection" (1 : Nat) ({ cls := "java/lang/Object", name := "<init>", desc := "()V" } : Jvm.MethodName)) ∈ TT := ttk_8 (List.mem_of_getElem? (i := 156) rfl) rfl
theorem t_8_157 : (Jvm.Cond.fieldLink "java/util/ArrayList" (39 : Nat) "java/util/ArrayList" "DEFAULTCAPACITY_EMPTY_ELEMENTDATA" "[Ljava/lang/Object;") ∈ TT := ttk_8 (List.mem_of_getElem? (i := 157) rfl) rfl
theorem t_8_159 : (Jvm.Cond.fieldLink "java/util/ArrayList" (9 : Nat) "java/util/ArrayList" "elementData" "[Ljava/lang/Object;") ∈ TT := ttk_8 (List.mem_of_getElem? (i := 159) rfl) rfl
theorem t_8_161 : (Jvm.Cond.fieldLinkNest "java/util/ArrayList$Itr" (28 : Nat) "java/util/ArrayList" "size" "I" "java/util/ArrayList") ∈ TT := ttk_8 (List.mem_of_getElem? (i := 161) rfl) rfl
theorem t_8_162 : (Jvm.Cond.fieldLink "java/util/ArrayList" (48 : Nat) "java/util/ArrayList" "size" "I") ∈ TT := ttk_8 (List.mem_of_getElem? (i := 162) rfl) rfl
theorem t_8_163 : (Jvm.Cond.fieldLink "java/util/AbstractList" (7 : Nat) "java/util/AbstractList" "modCount" "I") ∈ TT := ttk_8 (List.mem_of_getElem? (i := 163) rfl) rfl
theorem t_8_164 : (Jvm.Cond.fieldLink "java/util/ArrayList$Itr" (17 : Nat) "java/util/ArrayList" "modCount" "I") ∈ TT := ttk_8 (List.mem_of_getElem? (i := 164) rfl) rfl
theorem t_8_165 : (Jvm.Cond.sameField "java/util/ArrayList" "java/util/AbstractList" "modCount" "I") ∈ TT := ttk_8 (List.mem_of_getElem? (i := 165) rfl) rfl
theorem t_8_166 : (Jvm.Cond.fieldLink "java/util/ArrayList" (63 : Nat) "java/util/ArrayList" "modCount" "I") ∈ TT := ttk_8 (List.mem_of_getElem? (i := 166) rfl) rfl
theorem t_8_167 : (Jvm.Cond.lays "java/util/ArrayList" "java/util/ArrayList" "elementData" "[Ljava/lang/Object;") ∈ TT := ttk_8 (List.mem_of_getElem? (i := 167) rfl) rfl
theorem t_8_169 : (Jvm.Cond.lays "java/util/ArrayList" "java/util/ArrayList" "size" "I") ∈ TT := ttk_8 (List.mem_of_getElem? (i := 169) rfl) rfl
theorem t_8_171 : (Jvm.Cond.lays "java/util/ArrayList" "java/util/AbstractList" "modCount" "I") ∈ TT := ttk_8 (List.mem_of_getElem? (i := 171) rfl) rfl
theorem t_8_177 : (Jvm.Cond.constant "MiterhouseModel" (47 : Nat) (262144 : Int32)) ∈ TT := ttk_8 (List.mem_of_getElem? (i := 177) rfl) rfl
theorem t_8_178 : (Jvm.Cond.methodLink "MiterhouseModel" (75 : Nat) ({ cls := "java/util/ArrayList", name := "add", desc := "(Ljava/lang/Object;)Z" } : Jvm.MethodName)) ∈ TT := ttk_8 (List.mem_of_getElem? (i := 178) rfl) rfl
theorem t_8_179 : (Jvm.Cond.instanceMethod ({ cls := "java/util/ArrayList", name := "add", desc := "(Ljava/lang/Object;)Z" } : Jvm.MethodName)) ∈ TT := ttk_8 (List.mem_of_getElem? (i := 179) rfl) rfl
theorem t_8_180 : (Jvm.Cond.selects "java/util/ArrayList" ({ cls := "java/util/ArrayList", name := "add", desc := "(Ljava/lang/Object;)Z" } : Jvm.MethodName) ({ cls := "java/util/ArrayList", name := "add", desc := "(Ljava/lang/Object;)Z" } : Jvm.MethodName)) ∈ TT := ttk_8 (List.mem_of_getElem? (i := 180) rfl) rfl
theorem t_8_181 : (Jvm.Cond.code ({ cls := "java/util/ArrayList", name := "add", desc := "(Ljava/lang/Object;)Z" } : Jvm.MethodName) prog_45_method_25_code (2 : Nat) (Option.some Jvm.ClassFile.FieldType.boolean)) ∈ TT := ttk_8 (List.mem_of_getElem? (i := 181) rfl) rfl
theorem t_8_182 : (Jvm.Cond.methodLink "java/util/ArrayList" (131 : Nat) ({ cls := "java/util/ArrayList", name := "add", desc := "(Ljava/lang/Object;[Ljava/lang/Object;I)V" } : Jvm.MethodName)) ∈ TT := ttk_8 (List.mem_of_getElem? (i := 182) rfl) rfl
theorem t_8_184 : (Jvm.Cond.instanceMethod ({ cls := "java/util/ArrayList", name := "add", desc := "(Ljava/lang/Object;[Ljava/lang/Object;I)V" } : Jvm.MethodName)) ∈ TT := ttk_8 (List.mem_of_getElem? (i := 184) rfl) rfl
theorem t_8_185 : (Jvm.Cond.code ({ cls := "java/util/ArrayList", name := "add", desc := "(Ljava/lang/Object;[Ljava/lang/Object;I)V" } : Jvm.MethodName) prog_45_method_24_code (4 : Nat) (Option.none : Option Jvm.ClassFile.FieldType)) ∈ TT := ttk_8 (List.mem_of_getElem? (i := 185) rfl) rfl
theorem t_8_186 : (Jvm.Cond.methodLink "java/util/ArrayList" (129 : Nat) ({ cls := "java/util/ArrayList", name := "grow", desc := "()[Ljava/lang/Object;" } : Jvm.MethodName)) ∈ TT := ttk_8 (List.mem_of_getElem? (i := 186) rfl) rfl
theorem t_8_188 : (Jvm.Cond.instanceMethod ({ cls := "java/util/ArrayList", name := "grow", desc := "()[Ljava/lang/Object;" } : Jvm.MethodName)) ∈ TT := ttk_8 (List.mem_of_getElem? (i := 188) rfl) rfl
theorem t_8_189 : (Jvm.Cond.code ({ cls := "java/util/ArrayList", name := "grow", desc := "()[Ljava/lang/Object;" } : Jvm.MethodName) prog_45_method_7_code (1 : Nat) (Option.some (Jvm.ClassFile.FieldType.array (Jvm.ClassFile.FieldType.object "java/lang/Object")))) ∈ TT := ttk_8 (List.mem_of_getElem? (i := 189) rfl) rfl
theorem t_8_190 : (Jvm.Cond.methodLink "java/util/ArrayList" (69 : Nat) ({ cls := "java/util/ArrayList", name := "grow", desc := "(I)[Ljava/lang/Object;" } : Jvm.MethodName)) ∈ TT := ttk_8 (List.mem_of_getElem? (i := 190) rfl) rfl
theorem t_8_192 : (Jvm.Cond.instanceMethod ({ cls := "java/util/ArrayList", name := "grow", desc := "(I)[Ljava/lang/Object;" } : Jvm.MethodName)) ∈ TT := ttk_8 (List.mem_of_getElem? (i := 192) rfl) rfl
theorem t_8_193 : (Jvm.Cond.code ({ cls := "java/util/ArrayList", name := "grow", desc := "(I)[Ljava/lang/Object;" } : Jvm.MethodName) prog_45_method_6_code (4 : Nat) (Option.some (Jvm.ClassFile.FieldType.array (Jvm.ClassFile.FieldType.object "java/lang/Object")))) ∈ TT := ttk_8 (List.mem_of_getElem? (i := 193) rfl) rfl
theorem t_8_238 : (Jvm.Cond.arrayOver (Jvm.ClassFile.FieldType.object "java/lang/Object")) ∈ TT := ttk_8 (List.mem_of_getElem? (i := 238) rfl) rfl
theorem t_9_1 : (Jvm.Cond.classLink "java/util/ArrayList" (7 : Nat) "java/lang/Object") ∈ TT := ttk_9 (List.mem_of_getElem? (i := 1) rfl) rfl
theorem t_9_2 : (Jvm.Cond.fieldLink "MiterhouseModel" (10 : Nat) "MiterhouseModel" "lines" "Ljava/util/ArrayList;") ∈ TT := ttk_9 (List.mem_of_getElem? (i := 2) rfl) rfl
theorem t_9_3 : (Jvm.Cond.fieldLink "MiterhouseModel" (16 : Nat) "MiterhouseModel" "sources" "Ljava/util/ArrayList;") ∈ TT := ttk_9 (List.mem_of_getElem? (i := 3) rfl) rfl
theorem t_9_4 : (Jvm.Cond.fieldLink "MiterhouseModel" (19 : Nat) "MiterhouseModel" "outputs" "Ljava/util/ArrayList;") ∈ TT := ttk_9 (List.mem_of_getElem? (i := 4) rfl) rfl
theorem t_9_5 : (Jvm.Cond.fieldLink "MiterhouseModel" (22 : Nat) "MiterhouseModel" "constraints" "Ljava/util/ArrayList;") ∈ TT := ttk_9 (List.mem_of_getElem? (i := 5) rfl) rfl
theorem t_9_6 : (Jvm.Cond.fieldLink "MiterhouseModel" (25 : Nat) "MiterhouseModel" "ands" "Ljava/util/ArrayList;") ∈ TT := ttk_9 (List.mem_of_getElem? (i := 6) rfl) rfl
theorem t_9_7 : (Jvm.Cond.fieldLink "MiterhouseModel" (28 : Nat) "MiterhouseModel" "patterns" "[I") ∈ TT := ttk_9 (List.mem_of_getElem? (i := 7) rfl) rfl
theorem t_9_8 : (Jvm.Cond.fieldLink "MiterhouseModel" (32 : Nat) "MiterhouseModel" "values" "[I") ∈ TT := ttk_9 (List.mem_of_getElem? (i := 8) rfl) rfl
theorem t_9_9 : (Jvm.Cond.fieldLink "MiterhouseModel" (37 : Nat) "MiterhouseModel" "polynomials" "[[[I") ∈ TT := ttk_9 (List.mem_of_getElem? (i := 9) rfl) rfl
theorem t_9_10 : (Jvm.Cond.fieldLink "MiterhouseModel" (40 : Nat) "MiterhouseModel" "kept" "[J") ∈ TT := ttk_9 (List.mem_of_getElem? (i := 10) rfl) rfl
theorem t_9_11 : (Jvm.Cond.fieldLink "MiterhouseModel" (44 : Nat) "MiterhouseModel" "order" "[I") ∈ TT := ttk_9 (List.mem_of_getElem? (i := 11) rfl) rfl
theorem t_9_12 : (Jvm.Cond.fieldLink "MiterhouseModel" (239 : Nat) "MiterhouseModel" "patternCount" "I") ∈ TT := ttk_9 (List.mem_of_getElem? (i := 12) rfl) rfl
theorem t_9_17 : (Jvm.Cond.fieldLink "MiterhouseModel" (79 : Nat) "MiterhouseModel" "thrown" "I") ∈ TT := ttk_9 (List.mem_of_getElem? (i := 17) rfl) rfl
theorem t_9_18 : (Jvm.Cond.fieldLink "MiterhouseModel" (128 : Nat) "MiterhouseModel" "isClosed" "Z") ∈ TT := ttk_9 (List.mem_of_getElem? (i := 18) rfl) rfl
theorem t_9_19 : (Jvm.Cond.fieldLink "MiterhouseModel" (48 : Nat) "MiterhouseModel" "keys" "[J") ∈ TT := ttk_9 (List.mem_of_getElem? (i := 19) rfl) rfl
theorem t_9_20 : (Jvm.Cond.fieldLink "MiterhouseModel" (51 : Nat) "MiterhouseModel" "ids" "[I") ∈ TT := ttk_9 (List.mem_of_getElem? (i := 20) rfl) rfl
theorem t_9_21 : (Jvm.Cond.fieldLink "MiterhouseModel" (54 : Nat) "MiterhouseModel" "spots" "[I") ∈ TT := ttk_9 (List.mem_of_getElem? (i := 21) rfl) rfl
theorem t_9_22 : (Jvm.Cond.fieldLink "MiterhouseModel" (57 : Nat) "MiterhouseModel" "row" "[I") ∈ TT := ttk_9 (List.mem_of_getElem? (i := 22) rfl) rfl
theorem t_9_25 : (Jvm.Cond.fieldLink "MiterhouseModel" (60 : Nat) "MiterhouseModel" "classes" "[I") ∈ TT := ttk_9 (List.mem_of_getElem? (i := 25) rfl) rfl
theorem t_9_26 : (Jvm.Cond.fieldLink "MiterhouseModel" (63 : Nat) "MiterhouseModel" "states" "[I") ∈ TT := ttk_9 (List.mem_of_getElem? (i := 26) rfl) rfl
theorem t_9_27 : (Jvm.Cond.fieldLink "MiterhouseModel" (66 : Nat) "MiterhouseModel" "parents" "[I") ∈ TT := ttk_9 (List.mem_of_getElem? (i := 27) rfl) rfl
theorem t_9_28 : (Jvm.Cond.fieldLink "MiterhouseModel" (69 : Nat) "MiterhouseModel" "by" "[I") ∈ TT := ttk_9 (List.mem_of_getElem? (i := 28) rfl) rfl
theorem t_9_29 : (Jvm.Cond.fieldLink "MiterhouseModel" (72 : Nat) "MiterhouseModel" "steps" "[I") ∈ TT := ttk_9 (List.mem_of_getElem? (i := 29) rfl) rfl
theorem t_9_33 : (Jvm.Cond.laysFinal "MiterhouseModel" "MiterhouseModel" "lines" "Ljava/util/ArrayList;") ∈ TT := ttk_9 (List.mem_of_getElem? (i := 33) rfl) rfl
theorem t_9_35 : (Jvm.Cond.laysFinal "MiterhouseModel" "MiterhouseModel" "sources" "Ljava/util/ArrayList;") ∈ TT := ttk_9 (List.mem_of_getElem? (i := 35) rfl) rfl
theorem t_9_37 : (Jvm.Cond.laysFinal "MiterhouseModel" "MiterhouseModel" "outputs" "Ljava/util/ArrayList;") ∈ TT := ttk_9 (List.mem_of_getElem? (i := 37) rfl) rfl
theorem t_9_39 : (Jvm.Cond.laysFinal "MiterhouseModel" "MiterhouseModel" "constraints" "Ljava/util/ArrayList;") ∈ TT := ttk_9 (List.mem_of_getElem? (i := 39) rfl) rfl
theorem t_9_41 : (Jvm.Cond.laysFinal "MiterhouseModel" "MiterhouseModel" "ands" "Ljava/util/ArrayList;") ∈ TT := ttk_9 (List.mem_of_getElem? (i := 41) rfl) rfl
theorem t_9_43 : (Jvm.Cond.laysFinal "MiterhouseModel" "MiterhouseModel" "patterns" "[I") ∈ TT := ttk_9 (List.mem_of_getElem? (i := 43) rfl) rfl
theorem t_9_45 : (Jvm.Cond.laysFinal "MiterhouseModel" "MiterhouseModel" "values" "[I") ∈ TT := ttk_9 (List.mem_of_getElem? (i := 45) rfl) rfl
theorem t_9_47 : (Jvm.Cond.laysFinal "MiterhouseModel" "MiterhouseModel" "polynomials" "[[[I") ∈ TT := ttk_9 (List.mem_of_getElem? (i := 47) rfl) rfl
theorem t_9_49 : (Jvm.Cond.lays "MiterhouseModel" "MiterhouseModel" "kept" "[J") ∈ TT := ttk_9 (List.mem_of_getElem? (i := 49) rfl) rfl
theorem t_9_51 : (Jvm.Cond.lays "MiterhouseModel" "MiterhouseModel" "order" "[I") ∈ TT := ttk_9 (List.mem_of_getElem? (i := 51) rfl) rfl
theorem t_9_53 : (Jvm.Cond.lays "MiterhouseModel" "MiterhouseModel" "patternCount" "I") ∈ TT := ttk_9 (List.mem_of_getElem? (i := 53) rfl) rfl
theorem t_9_55 : (Jvm.Cond.lays "MiterhouseModel" "MiterhouseModel" "words" "I") ∈ TT := ttk_9 (List.mem_of_getElem? (i := 55) rfl) rfl
theorem t_9_57 : (Jvm.Cond.lays "MiterhouseModel" "MiterhouseModel" "leaves" "I") ∈ TT := ttk_9 (List.mem_of_getElem? (i := 57) rfl) rfl
theorem t_9_59 : (Jvm.Cond.lays "MiterhouseModel" "MiterhouseModel" "budget" "I") ∈ TT := ttk_9 (List.mem_of_getElem? (i := 59) rfl) rfl
theorem t_9_61 : (Jvm.Cond.lays "MiterhouseModel" "MiterhouseModel" "witness" "I") ∈ TT := ttk_9 (List.mem_of_getElem? (i := 61) rfl) rfl
theorem t_9_63 : (Jvm.Cond.lays "MiterhouseModel" "MiterhouseModel" "thrown" "I") ∈ TT := ttk_9 (List.mem_of_getElem? (i := 63) rfl) rfl
theorem t_9_65 : (Jvm.Cond.lays "MiterhouseModel" "MiterhouseModel" "isClosed" "Z") ∈ TT := ttk_9 (List.mem_of_getElem? (i := 65) rfl) rfl
theorem t_9_67 : (Jvm.Cond.laysFinal "MiterhouseModel" "MiterhouseModel" "keys" "[J") ∈ TT := ttk_9 (List.mem_of_getElem? (i := 67) rfl) rfl
theorem t_9_69 : (Jvm.Cond.laysFinal "MiterhouseModel" "MiterhouseModel" "ids" "[I") ∈ TT := ttk_9 (List.mem_of_getElem? (i := 69) rfl) rfl
theorem t_9_71 : (Jvm.Cond.laysFinal "MiterhouseModel" "MiterhouseModel" "spots" "[I") ∈ TT := ttk_9 (List.mem_of_getElem? (i := 71) rfl) rfl
theorem t_9_73 : (Jvm.Cond.lays "MiterhouseModel" "MiterhouseModel" "row" "[I") ∈ TT := ttk_9 (List.mem_of_getElem? (i := 73) rfl) rfl
theorem t_9_75 : (Jvm.Cond.lays "MiterhouseModel" "MiterhouseModel" "nodes" "I") ∈ TT := ttk_9 (List.mem_of_getElem? (i := 75) rfl) rfl
theorem t_9_77 : (Jvm.Cond.lays "MiterhouseModel" "MiterhouseModel" "used" "I") ∈ TT := ttk_9 (List.mem_of_getElem? (i := 77) rfl) rfl
theorem t_9_79 : (Jvm.Cond.laysFinal "MiterhouseModel" "MiterhouseModel" "classes" "[I") ∈ TT := ttk_9 (List.mem_of_getElem? (i := 79) rfl) rfl
theorem t_9_81 : (Jvm.Cond.laysFinal "MiterhouseModel" "MiterhouseModel" "states" "[I") ∈ TT := ttk_9 (List.mem_of_getElem? (i := 81) rfl) rfl
theorem t_9_83 : (Jvm.Cond.laysFinal "MiterhouseModel" "MiterhouseModel" "parents" "[I") ∈ TT := ttk_9 (List.mem_of_getElem? (i := 83) rfl) rfl
theorem t_9_85 : (Jvm.Cond.laysFinal "MiterhouseModel" "MiterhouseModel" "by" "[I") ∈ TT := ttk_9 (List.mem_of_getElem? (i := 85) rfl) rfl
theorem t_9_87 : (Jvm.Cond.laysFinal "MiterhouseModel" "MiterhouseModel" "steps" "[I") ∈ TT := ttk_9 (List.mem_of_getElem? (i := 87) rfl) rfl
theorem t_9_89 : (Jvm.Cond.lays "MiterhouseModel" "MiterhouseModel" "stateCount" "I") ∈ TT := ttk_9 (List.mem_of_getElem? (i := 89) rfl) rfl
theorem t_9_91 : (Jvm.Cond.lays "MiterhouseModel" "MiterhouseModel" "lastState" "I") ∈ TT := ttk_9 (List.mem_of_getElem? (i := 91) rfl) rfl
theorem t_9_93 : (Jvm.Cond.lays "MiterhouseModel" "MiterhouseModel" "lastInputs" "I") ∈ TT := ttk_9 (List.mem_of_getElem? (i := 93) rfl) rfl
theorem t_9_96 : (Jvm.Cond.methodLink "MiterhouseLaw" (178 : Nat) ({ cls := "MiterhouseModel", name := "thrown", desc := "()I" } : Jvm.MethodName)) ∈ TT := ttk_9 (List.mem_of_getElem? (i := 96) rfl) rfl
theorem t_9_97 : (Jvm.Cond.instanceMethod ({ cls := "MiterhouseModel", name := "thrown", desc := "()I" } : Jvm.MethodName)) ∈ TT := ttk_9 (List.mem_of_getElem? (i := 97) rfl) rfl
theorem t_9_98 : (Jvm.Cond.selects "MiterhouseModel" ({ cls := "MiterhouseModel", name := "thrown", desc := "()I" } : Jvm.MethodName) ({ cls := "MiterhouseModel", name := "thrown", desc := "()I" } : Jvm.MethodName)) ∈ TT := ttk_9 (List.mem_of_getElem? (i := 98) rfl) rfl
theorem t_9_99 : (Jvm.Cond.code ({ cls := "MiterhouseModel", name := "thrown", desc := "()I" } : Jvm.MethodName) prog_14_method_2_code (1 : Nat) (Option.some Jvm.ClassFile.FieldType.int)) ∈ TT := ttk_9 (List.mem_of_getElem? (i := 99) rfl) rfl
theorem t_9_100 : (Jvm.Cond.methodLink "MiterhouseLaw" (177 : Nat) ({ cls := "MiterhouseModel", name := "input", desc := "()I" } : Jvm.MethodName)) ∈ TT := ttk_9 (List.mem_of_getElem? (i := 100) rfl) rfl
theorem t_9_101 : (Jvm.Cond.instanceMethod ({ cls := "MiterhouseModel", name := "input", desc := "()I" } : Jvm.MethodName)) ∈ TT := ttk_9 (List.mem_of_getElem? (i := 101) rfl) rfl
theorem t_9_102 : (Jvm.Cond.selects "MiterhouseModel" ({ cls := "MiterhouseModel", name := "input", desc := "()I" } : Jvm.MethodName) ({ cls := "MiterhouseModel", name := "input", desc := "()I" } : Jvm.MethodName)) ∈ TT := ttk_9 (List.mem_of_getElem? (i := 102) rfl) rfl
theorem t_9_103 : (Jvm.Cond.code ({ cls := "MiterhouseModel", name := "input", desc := "()I" } : Jvm.MethodName) prog_14_method_11_code (1 : Nat) (Option.some Jvm.ClassFile.FieldType.int)) ∈ TT := ttk_9 (List.mem_of_getElem? (i := 103) rfl) rfl
theorem t_9_104 : (Jvm.Cond.methodLink "MiterhouseModel" (132 : Nat) ({ cls := "MiterhouseModel", name := "isThrown", desc := "(ZI)Z" } : Jvm.MethodName)) ∈ TT := ttk_9 (List.mem_of_getElem? (i := 104) rfl) rfl
theorem t_9_106 : (Jvm.Cond.instanceMethod ({ cls := "MiterhouseModel", name := "isThrown", desc := "(ZI)Z" } : Jvm.MethodName)) ∈ TT := ttk_9 (List.mem_of_getElem? (i := 106) rfl) rfl
theorem t_9_107 : (Jvm.Cond.code ({ cls := "MiterhouseModel", name := "isThrown", desc := "(ZI)Z" } : Jvm.MethodName) prog_14_method_4_code (3 : Nat) (Option.some Jvm.ClassFile.FieldType.boolean)) ∈ TT := ttk_9 (List.mem_of_getElem? (i := 107) rfl) rfl
theorem t_9_108 : (Jvm.Cond.methodLink "MiterhouseModel" (83 : Nat) ({ cls := "java/util/ArrayList", name := "size", desc := "()I" } : Jvm.MethodName)) ∈ TT := ttk_9 (List.mem_of_getElem? (i := 108) rfl) rfl
theorem t_9_109 : (Jvm.Cond.instanceMethod ({ cls := "java/util/ArrayList", name := "size", desc := "()I" } : Jvm.MethodName)) ∈ TT := ttk_9 (List.mem_of_getElem? (i := 109) rfl) rfl
theorem t_9_110 : (Jvm.Cond.selects "java/util/ArrayList" ({ cls := "java/util/ArrayList", name := "size", desc := "()I" } : Jvm.MethodName) ({ cls := "java/util/ArrayList", name := "size", desc := "()I" } : Jvm.MethodName)) ∈ TT := ttk_9 (List.mem_of_getElem? (i := 110) rfl) rfl
theorem t_9_111 : (Jvm.Cond.code ({ cls := "java/util/ArrayList", name := "size", desc := "()I" } : Jvm.MethodName) prog_45_method_8_code (1 : Nat) (Option.some Jvm.ClassFile.FieldType.int)) ∈ TT := ttk_9 (List.mem_of_getElem? (i := 111) rfl) rfl
theorem t_9_112 : (Jvm.Cond.methodLink "MiterhouseModel" (136 : Nat) ({ cls := "MiterhouseModel", name := "inputs", desc := "()I" } : Jvm.MethodName)) ∈ TT := ttk_9 (List.mem_of_getElem? (i := 112) rfl) rfl
theorem t_9_114 : (Jvm.Cond.instanceMethod ({ cls := "MiterhouseModel", name := "inputs", desc := "()I" } : Jvm.MethodName)) ∈ TT := ttk_9 (List.mem_of_getElem? (i := 114) rfl) rfl
theorem t_9_115 : (Jvm.Cond.code ({ cls := "MiterhouseModel", name := "inputs", desc := "()I" } : Jvm.MethodName) prog_14_method_10_code (4 : Nat) (Option.some Jvm.ClassFile.FieldType.int)) ∈ TT := ttk_9 (List.mem_of_getElem? (i := 115) rfl) rfl
theorem t_9_116 : (Jvm.Cond.methodLink "MiterhouseModel" (107 : Nat) ({ cls := "java/util/ArrayList", name := "iterator", desc := "()Ljava/util/Iterator;" } : Jvm.MethodName)) ∈ TT := ttk_9 (List.mem_of_getElem? (i := 116) rfl) rfl
theorem t_9_117 : (Jvm.Cond.instanceMethod ({ cls := "java/util/ArrayList", name := "iterator", desc := "()Ljava/util/Iterator;" } : Jvm.MethodName)) ∈ TT := ttk_9 (List.mem_of_getElem? (i := 117) rfl) rfl
theorem t_9_118 : (Jvm.Cond.selects "java/util/ArrayList" ({ cls := "java/util/ArrayList", name := "iterator", desc := "()Ljava/util/Iterator;" } : Jvm.MethodName) ({ cls := "java/util/ArrayList", name := "iterator", desc := "()Ljava/util/Iterator;" } : Jvm.MethodName)) ∈ TT := ttk_9 (List.mem_of_getElem? (i := 118) rfl) rfl
theorem t_9_119 : (Jvm.Cond.code ({ cls := "java/util/ArrayList", name := "iterator", desc := "()Ljava/util/Iterator;" } : Jvm.MethodName) prog_45_method_55_code (1 : Nat) (Option.some (Jvm.ClassFile.FieldType.object "java/util/Iterator"))) ∈ TT := ttk_9 (List.mem_of_getElem? (i := 119) rfl) rfl
theorem t_9_120 : (Jvm.Cond.classLink "java/util/ArrayList" (267 : Nat) "java/util/ArrayList$Itr") ∈ TT := ttk_9 (List.mem_of_getElem? (i := 120) rfl) rfl
theorem t_9_121 : (Jvm.Cond.instantiable "java/util/ArrayList$Itr" (4 : Nat)) ∈ TT := ttk_9 (List.mem_of_getElem? (i := 121) rfl) rfl
theorem t_9_122 : (Jvm.Cond.methodLink "java/util/ArrayList" (269 : Nat) ({ cls := "java/util/ArrayList$Itr", name := "<init>", desc := "(Ljava/util/ArrayList;)V" } : Jvm.MethodName)) ∈ TT := ttk_9 (List.mem_of_getElem? (i := 122) rfl) rfl
theorem t_9_123 : (Jvm.Cond.instanceMethod ({ cls := "java/util/ArrayList$Itr", name := "<init>", desc := "(Ljava/util/ArrayList;)V" } : Jvm.MethodName)) ∈ TT := ttk_9 (List.mem_of_getElem? (i := 123) rfl) rfl
theorem t_9_124 : (Jvm.Cond.code ({ cls := "java/util/ArrayList$Itr", name := "<init>", desc := "(Ljava/util/ArrayList;)V" } : Jvm.MethodName) prog_46_method_1_code (2 : Nat) (Option.none : Option Jvm.ClassFile.FieldType)) ∈ TT := ttk_9 (List.mem_of_getElem? (i := 124) rfl) rfl
theorem t_9_125 : (Jvm.Cond.methodLink "java/util/ArrayList$Itr" (7 : Nat) ({ cls := "java/lang/Object", name := "<init>", desc := "()V" } : Jvm.MethodName)) ∈ TT := ttk_9 (List.mem_of_getElem? (i := 125) rfl) rfl
theorem t_9_126 : (Jvm.Cond.fieldLink "java/util/ArrayList$Itr" (25 : Nat) "java/util/ArrayList$Itr" "cursor" "I") ∈ TT := ttk_9 (List.mem_of_getElem? (i := 126) rfl) rfl
theorem t_9_127 : (Jvm.Cond.fieldLink "java/util/ArrayList$Itr" (13 : Nat) "java/util/ArrayList$Itr" "lastRet" "I") ∈ TT := ttk_9 (List.mem_of_getElem? (i := 127) rfl) rfl
theorem t_9_128 : (Jvm.Cond.fieldLink "java/util/ArrayList$Itr" (22 : Nat) "java/util/ArrayList$Itr" "expectedModCount" "I") ∈ TT := ttk_9 (List.mem_of_getElem? (i := 128) rfl) rfl
theorem t_9_129 : (Jvm.Cond.fieldLink "java/util/ArrayList$Itr" (1 : Nat) "java/util/ArrayList$Itr" "this$0" "Ljava/util/ArrayList;") ∈ TT := ttk_9 (List.mem_of_getElem? (i := 129) rfl) rfl
theorem t_9_130 : (Jvm.Cond.lays "java/util/ArrayList$Itr" "java/util/ArrayList$Itr" "cursor" "I") ∈ TT := ttk_9 (List.mem_of_getElem? (i := 130) rfl) rfl
theorem t_9_132 : (Jvm.Cond.lays "java/util/ArrayList$Itr" "java/util/ArrayList$Itr" "lastRet" "I") ∈ TT := ttk_9 (List.mem_of_getElem? (i := 132) rfl) rfl
theorem t_9_134 : (Jvm.Cond.lays "java/util/ArrayList$Itr" "java/util/ArrayList$Itr" "expectedModCount" "I") ∈ TT := ttk_9 (List.mem_of_getElem? (i := 134) rfl) rfl
theorem t_9_136 : (Jvm.Cond.laysFinal "java/util/ArrayList$Itr" "java/util/ArrayList$Itr" "this$0" "Ljava/util/ArrayList;") ∈ TT := ttk_9 (List.mem_of_getElem? (i := 136) rfl) rfl
theorem t_9_140 : (Jvm.Cond.methodLink "MiterhouseModel" (111 : Nat) ({ cls := "java/util/Iterator", name := "hasNext", desc := "()Z" } : Jvm.MethodName)) ∈ TT := ttk_9 (List.mem_of_getElem? (i := 140) rfl) rfl
theorem t_9_144 : (Jvm.Cond.selects "java/util/ArrayList$Itr" ({ cls := "java/util/Iterator", name := "hasNext", desc := "()Z" } : Jvm.MethodName) ({ cls := "java/util/ArrayList$Itr", name := "hasNext", desc := "()Z" } : Jvm.MethodName)) ∈ TT := ttk_9 (List.mem_of_getElem? (i := 144) rfl) rfl
theorem t_9_146 : (Jvm.Cond.instanceMethod ({ cls := "java/util/ArrayList$Itr", name := "hasNext", desc := "()Z" } : Jvm.MethodName)) ∈ TT := ttk_9 (List.mem_of_getElem? (i := 146) rfl) rfl
theorem t_9_148 : (Jvm.Cond.code ({ cls := "java/util/ArrayList$Itr", name := "hasNext", desc := "()Z" } : Jvm.MethodName) prog_46_method_2_code (1 : Nat) (Option.some Jvm.ClassFile.FieldType.boolean)) ∈ TT := ttk_9 (List.mem_of_getElem? (i := 148) rfl) rfl
theorem t_9_173 : (Jvm.Cond.classLink "MiterhouseModel" (88 : Nat) "MiterhouseModel$Line") ∈ TT := ttk_9 (List.mem_of_getElem? (i := 173) rfl) rfl
theorem t_9_174 : (Jvm.Cond.instantiable "MiterhouseModel$Line" (14 : Nat)) ∈ TT := ttk_9 (List.mem_of_getElem? (i := 174) rfl) rfl
theorem t_9_175 : (Jvm.Cond.methodLink "MiterhouseModel" (139 : Nat) ({ cls := "MiterhouseModel$Line", name := "<init>", desc := "(IICLMiterhouseModel$Line;LMiterhouseModel$Line;II)V" } : Jvm.MethodName)) ∈ TT := ttk_9 (List.mem_of_getElem? (i := 175) rfl) rfl
theorem t_9_176 : (Jvm.Cond.instanceMethod ({ cls := "MiterhouseModel$Line", name := "<init>", desc := "(IICLMiterhouseModel$Line;LMiterhouseModel$Line;II)V" } : Jvm.MethodName)) ∈ TT := ttk_9 (List.mem_of_getElem? (i := 176) rfl) rfl
theorem t_9_177 : (Jvm.Cond.code ({ cls := "MiterhouseModel$Line", name := "<init>", desc := "(IICLMiterhouseModel$Line;LMiterhouseModel$Line;II)V" } : Jvm.MethodName) prog_15_method_1_code (8 : Nat) (Option.none : Option Jvm.ClassFile.FieldType)) ∈ TT := ttk_9 (List.mem_of_getElem? (i := 177) rfl) rfl
theorem t_9_178 : (Jvm.Cond.methodLink "MiterhouseModel$Line" (3 : Nat) ({ cls := "java/lang/Object", name := "<init>", desc := "()V" } : Jvm.MethodName)) ∈ TT := ttk_9 (List.mem_of_getElem? (i := 178) rfl) rfl
theorem t_9_179 : (Jvm.Cond.fieldLink "MiterhouseModel$Line" (22 : Nat) "MiterhouseModel$Line" "number" "I") ∈ TT := ttk_9 (List.mem_of_getElem? (i := 179) rfl) rfl
theorem t_9_180 : (Jvm.Cond.fieldLinkNest "MiterhouseModel" (87 : Nat) "MiterhouseModel$Line" "number" "I" "MiterhouseModel") ∈ TT := ttk_9 (List.mem_of_getElem? (i := 180) rfl) rfl
theorem t_9_181 : (Jvm.Cond.fieldLink "MiterhouseModel$Line" (25 : Nat) "MiterhouseModel$Line" "net" "I") ∈ TT := ttk_9 (List.mem_of_getElem? (i := 181) rfl) rfl
theorem t_9_183 : (Jvm.Cond.fieldLink "MiterhouseModel$Line" (39 : Nat) "MiterhouseModel$Line" "first" "I") ∈ TT := ttk_9 (List.mem_of_getElem? (i := 183) rfl) rfl
theorem t_9_185 : (Jvm.Cond.fieldLink "MiterhouseModel$Line" (42 : Nat) "MiterhouseModel$Line" "name" "I") ∈ TT := ttk_9 (List.mem_of_getElem? (i := 185) rfl) rfl
theorem t_9_187 : (Jvm.Cond.fieldLink "MiterhouseModel$Line" (28 : Nat) "MiterhouseModel$Line" "kind" "C") ∈ TT := ttk_9 (List.mem_of_getElem? (i := 187) rfl) rfl
theorem t_9_189 : (Jvm.Cond.fieldLink "MiterhouseModel$Line" (32 : Nat) "MiterhouseModel$Line" "one" "LMiterhouseModel$Line;") ∈ TT := ttk_9 (List.mem_of_getElem? (i := 189) rfl) rfl
theorem t_9_191 : (Jvm.Cond.fieldLink "MiterhouseModel$Line" (36 : Nat) "MiterhouseModel$Line" "two" "LMiterhouseModel$Line;") ∈ TT := ttk_9 (List.mem_of_getElem? (i := 191) rfl) rfl
theorem t_9_193 : (Jvm.Cond.fieldLink "MiterhouseModel$Line" (45 : Nat) "MiterhouseModel$Line" "hasCell" "Z") ∈ TT := ttk_9 (List.mem_of_getElem? (i := 193) rfl) rfl
theorem t_9_194 : (Jvm.Cond.fieldLink "MiterhouseModel$Line" (9 : Nat) "MiterhouseModel$Line" "bits" "[J") ∈ TT := ttk_9 (List.mem_of_getElem? (i := 194) rfl) rfl
theorem t_9_197 : (Jvm.Cond.fieldLink "MiterhouseModel$Line" (15 : Nat) "MiterhouseModel$Line" "source" "I") ∈ TT := ttk_9 (List.mem_of_getElem? (i := 197) rfl) rfl
theorem t_9_200 : (Jvm.Cond.fieldLink "MiterhouseModel$Line" (19 : Nat) "MiterhouseModel$Line" "mergedInto" "I") ∈ TT := ttk_9 (List.mem_of_getElem? (i := 200) rfl) rfl
theorem t_9_203 : (Jvm.Cond.laysFinal "MiterhouseModel$Line" "MiterhouseModel$Line" "number" "I") ∈ TT := ttk_9 (List.mem_of_getElem? (i := 203) rfl) rfl
theorem t_9_205 : (Jvm.Cond.laysFinal "MiterhouseModel$Line" "MiterhouseModel$Line" "net" "I") ∈ TT := ttk_9 (List.mem_of_getElem? (i := 205) rfl) rfl
theorem t_9_207 : (Jvm.Cond.laysFinal "MiterhouseModel$Line" "MiterhouseModel$Line" "first" "I") ∈ TT := ttk_9 (List.mem_of_getElem? (i := 207) rfl) rfl
theorem t_9_209 : (Jvm.Cond.laysFinal "MiterhouseModel$Line" "MiterhouseModel$Line" "name" "I") ∈ TT := ttk_9 (List.mem_of_getElem? (i := 209) rfl) rfl
theorem t_9_211 : (Jvm.Cond.laysFinal "MiterhouseModel$Line" "MiterhouseModel$Line" "kind" "C") ∈ TT := ttk_9 (List.mem_of_getElem? (i := 211) rfl) rfl
theorem t_9_213 : (Jvm.Cond.laysFinal "MiterhouseModel$Line" "MiterhouseModel$Line" "one" "LMiterhouseModel$Line;") ∈ TT := ttk_9 (List.mem_of_getElem? (i := 213) rfl) rfl
theorem t_9_215 : (Jvm.Cond.laysFinal "MiterhouseModel$Line" "MiterhouseModel$Line" "two" "LMiterhouseModel$Line;") ∈ TT := ttk_9 (List.mem_of_getElem? (i := 215) rfl) rfl
theorem t_9_217 : (Jvm.Cond.laysFinal "MiterhouseModel$Line" "MiterhouseModel$Line" "hasCell" "Z") ∈ TT := ttk_9 (List.mem_of_getElem? (i := 217) rfl) rfl
theorem t_9_219 : (Jvm.Cond.lays "MiterhouseModel$Line" "MiterhouseModel$Line" "bits" "[J") ∈ TT := ttk_9 (List.mem_of_getElem? (i := 219) rfl) rfl
theorem t_9_221 : (Jvm.Cond.lays "MiterhouseModel$Line" "MiterhouseModel$Line" "data" "LMiterhouseModel$Line;") ∈ TT := ttk_9 (List.mem_of_getElem? (i := 221) rfl) rfl
theorem t_9_223 : (Jvm.Cond.lays "MiterhouseModel$Line" "MiterhouseModel$Line" "source" "I") ∈ TT := ttk_9 (List.mem_of_getElem? (i := 223) rfl) rfl
theorem t_9_225 : (Jvm.Cond.lays "MiterhouseModel$Line" "MiterhouseModel$Line" "literal" "I") ∈ TT := ttk_9 (List.mem_of_getElem? (i := 225) rfl) rfl
theorem t_9_227 : (Jvm.Cond.lays "MiterhouseModel$Line" "MiterhouseModel$Line" "mergedInto" "I") ∈ TT := ttk_9 (List.mem_of_getElem? (i := 227) rfl) rfl
theorem t_9_229 : (Jvm.Cond.lays "MiterhouseModel$Line" "MiterhouseModel$Line" "proof" "J") ∈ TT := ttk_9 (List.mem_of_getElem? (i := 229) rfl) rfl
theorem t_9_232 : (Jvm.Cond.methodLink "MiterhouseModel" (142 : Nat) ({ cls := "MiterhouseModel", name := "add", desc := "(LMiterhouseModel$Line;)LMiterhouseModel$Line;" } : Jvm.MethodName)) ∈ TT := ttk_9 (List.mem_of_getElem? (i := 232) rfl) rfl
theorem t_9_234 : (Jvm.Cond.instanceMethod ({ cls := "MiterhouseModel", name := "add", desc := "(LMiterhouseModel$Line;)LMiterhouseModel$Line;" } : Jvm.MethodName)) ∈ TT := ttk_9 (List.mem_of_getElem? (i := 234) rfl) rfl
theorem t_9_235 : (Jvm.Cond.code ({ cls := "MiterhouseModel", name := "add", desc := "(LMiterhouseModel$Line;)LMiterhouseModel$Line;" } : Jvm.MethodName) prog_14_method_9_code (2 : Nat) (Option.some (Jvm.ClassFile.FieldType.object "MiterhouseModel$Line"))) ∈ TT := ttk_9 (List.mem_of_getElem? (i := 235) rfl) rfl
theorem t_9_236 : (Jvm.Cond.methodLink "MiterhouseLaw" (184 : Nat) ({ cls := "MiterhouseModel", name := "cell", desc := "(III)I" } : Jvm.MethodName)) ∈ TT := ttk_9 (List.mem_of_getElem? (i := 236) rfl) rfl
theorem t_9_237 : (Jvm.Cond.instanceMethod ({ cls := "MiterhouseModel", name := "cell", desc := "(III)I" } : Jvm.MethodName)) ∈ TT := ttk_9 (List.mem_of_getElem? (i := 237) rfl) rfl
theorem t_9_238 : (Jvm.Cond.selects "MiterhouseModel" ({ cls := "MiterhouseModel", name := "cell", desc := "(III)I" } : Jvm.MethodName) ({ cls := "MiterhouseModel", name := "cell", desc := "(III)I" } : Jvm.MethodName)) ∈ TT := ttk_9 (List.mem_of_getElem? (i := 238) rfl) rfl
theorem t_9_239 : (Jvm.Cond.code ({ cls := "MiterhouseModel", name := "cell", desc := "(III)I" } : Jvm.MethodName) prog_14_method_14_code (4 : Nat) (Option.some Jvm.ClassFile.FieldType.int)) ∈ TT := ttk_9 (List.mem_of_getElem? (i := 239) rfl) rfl
theorem t_10_0 : (Jvm.Cond.methodLink "MiterhouseModel" (103 : Nat) ({ cls := "MiterhouseModel", name := "isIn", desc := "(III)Z" } : Jvm.MethodName)) ∈ TT := ttk_10 (List.mem_of_getElem? (i := 0) rfl) rfl
theorem t_10_1 : (Jvm.Cond.static ({ cls := "MiterhouseModel", name := "isIn", desc := "(III)Z" } : Jvm.MethodName)) ∈ TT := ttk_10 (List.mem_of_getElem? (i := 1) rfl) rfl
theorem t_10_2 : (Jvm.Cond.code ({ cls := "MiterhouseModel", name := "isIn", desc := "(III)Z" } : Jvm.MethodName) prog_14_method_3_code (3 : Nat) (Option.some Jvm.ClassFile.FieldType.boolean)) ∈ TT := ttk_10 (List.mem_of_getElem? (i := 2) rfl) rfl
theorem t_10_3 : (Jvm.Cond.methodLink "MiterhouseModel" (151 : Nat) ({ cls := "MiterhouseModel", name := "named", desc := "(II)LMiterhouseModel$Line;" } : Jvm.MethodName)) ∈ TT := ttk_10 (List.mem_of_getElem? (i := 3) rfl) rfl
theorem t_10_5 : (Jvm.Cond.instanceMethod ({ cls := "MiterhouseModel", name := "named", desc := "(II)LMiterhouseModel$Line;" } : Jvm.MethodName)) ∈ TT := ttk_10 (List.mem_of_getElem? (i := 5) rfl) rfl
theorem t_10_6 : (Jvm.Cond.code ({ cls := "MiterhouseModel", name := "named", desc := "(II)LMiterhouseModel$Line;" } : Jvm.MethodName) prog_14_method_12_code (6 : Nat) (Option.some (Jvm.ClassFile.FieldType.object "MiterhouseModel$Line"))) ∈ TT := ttk_10 (List.mem_of_getElem? (i := 6) rfl) rfl
theorem t_10_7 : (Jvm.Cond.methodLink "MiterhouseModel" (155 : Nat) ({ cls := "MiterhouseModel", name := "cellsOf", desc := "(I)I" } : Jvm.MethodName)) ∈ TT := ttk_10 (List.mem_of_getElem? (i := 7) rfl) rfl
theorem t_10_9 : (Jvm.Cond.instanceMethod ({ cls := "MiterhouseModel", name := "cellsOf", desc := "(I)I" } : Jvm.MethodName)) ∈ TT := ttk_10 (List.mem_of_getElem? (i := 9) rfl) rfl
theorem t_10_10 : (Jvm.Cond.code ({ cls := "MiterhouseModel", name := "cellsOf", desc := "(I)I" } : Jvm.MethodName) prog_14_method_13_code (5 : Nat) (Option.some Jvm.ClassFile.FieldType.int)) ∈ TT := ttk_10 (List.mem_of_getElem? (i := 10) rfl) rfl
theorem t_10_11 : (Jvm.Cond.methodLink "MiterhouseLaw" (188 : Nat) ({ cls := "MiterhouseModel", name := "gate", desc := "(ICII)I" } : Jvm.MethodName)) ∈ TT := ttk_10 (List.mem_of_getElem? (i := 11) rfl) rfl
theorem t_10_12 : (Jvm.Cond.instanceMethod ({ cls := "MiterhouseModel", name := "gate", desc := "(ICII)I" } : Jvm.MethodName)) ∈ TT := ttk_10 (List.mem_of_getElem? (i := 12) rfl) rfl
theorem t_10_13 : (Jvm.Cond.selects "MiterhouseModel" ({ cls := "MiterhouseModel", name := "gate", desc := "(ICII)I" } : Jvm.MethodName) ({ cls := "MiterhouseModel", name := "gate", desc := "(ICII)I" } : Jvm.MethodName)) ∈ TT := ttk_10 (List.mem_of_getElem? (i := 13) rfl) rfl
theorem t_10_14 : (Jvm.Cond.code ({ cls := "MiterhouseModel", name := "gate", desc := "(ICII)I" } : Jvm.MethodName) prog_14_method_15_code (9 : Nat) (Option.some Jvm.ClassFile.FieldType.int)) ∈ TT := ttk_10 (List.mem_of_getElem? (i := 14) rfl) rfl
theorem t_10_15 : (Jvm.Cond.methodLink "MiterhouseModel" (159 : Nat) ({ cls := "MiterhouseModel", name := "isLine", desc := "(I)Z" } : Jvm.MethodName)) ∈ TT := ttk_10 (List.mem_of_getElem? (i := 15) rfl) rfl
theorem t_10_17 : (Jvm.Cond.instanceMethod ({ cls := "MiterhouseModel", name := "isLine", desc := "(I)Z" } : Jvm.MethodName)) ∈ TT := ttk_10 (List.mem_of_getElem? (i := 17) rfl) rfl
theorem t_10_18 : (Jvm.Cond.code ({ cls := "MiterhouseModel", name := "isLine", desc := "(I)Z" } : Jvm.MethodName) prog_14_method_6_code (2 : Nat) (Option.some Jvm.ClassFile.FieldType.boolean)) ∈ TT := ttk_10 (List.mem_of_getElem? (i := 18) rfl) rfl
theorem t_10_19 : (Jvm.Cond.methodLink "MiterhouseModel" (92 : Nat) ({ cls := "java/util/ArrayList", name := "get", desc := "(I)Ljava/lang/Object;" } : Jvm.MethodName)) ∈ TT := ttk_10 (List.mem_of_getElem? (i := 19) rfl) rfl
theorem t_10_20 : (Jvm.Cond.instanceMethod ({ cls := "java/util/ArrayList", name := "get", desc := "(I)Ljava/lang/Object;" } : Jvm.MethodName)) ∈ TT := ttk_10 (List.mem_of_getElem? (i := 20) rfl) rfl
theorem t_10_21 : (Jvm.Cond.selects "java/util/ArrayList" ({ cls := "java/util/ArrayList", name := "get", desc := "(I)Ljava/lang/Object;" } : Jvm.MethodName) ({ cls := "java/util/ArrayList", name := "get", desc := "(I)Ljava/lang/Object;" } : Jvm.MethodName)) ∈ TT := ttk_10 (List.mem_of_getElem? (i := 21) rfl) rfl
theorem t_10_22 : (Jvm.Cond.code ({ cls := "java/util/ArrayList", name := "get", desc := "(I)Ljava/lang/Object;" } : Jvm.MethodName) prog_45_method_20_code (2 : Nat) (Option.some (Jvm.ClassFile.FieldType.object "java/lang/Object"))) ∈ TT := ttk_10 (List.mem_of_getElem? (i := 22) rfl) rfl
theorem t_10_23 : (Jvm.Cond.methodLink "java/util/ArrayList" (118 : Nat) ({ cls := "java/util/Objects", name := "checkIndex", desc := "(II)I" } : Jvm.MethodName)) ∈ TT := ttk_10 (List.mem_of_getElem? (i := 23) rfl) rfl
theorem t_10_24 : (Jvm.Cond.static ({ cls := "java/util/Objects", name := "checkIndex", desc := "(II)I" } : Jvm.MethodName)) ∈ TT := ttk_10 (List.mem_of_getElem? (i := 24) rfl) rfl
theorem t_10_25 : (Jvm.Cond.code ({ cls := "java/util/Objects", name := "checkIndex", desc := "(II)I" } : Jvm.MethodName) prog_52_method_17_code (2 : Nat) (Option.some Jvm.ClassFile.FieldType.int)) ∈ TT := ttk_10 (List.mem_of_getElem? (i := 25) rfl) rfl
theorem t_10_26 : (Jvm.Cond.methodLink "java/util/Objects" (105 : Nat) ({ cls := "jdk/internal/util/Preconditions", name := "checkIndex", desc := "(IILjava/util/function/BiFunction;)I" } : Jvm.MethodName)) ∈ TT := ttk_10 (List.mem_of_getElem? (i := 26) rfl) rfl
theorem t_10_27 : (Jvm.Cond.static ({ cls := "jdk/internal/util/Preconditions", name := "checkIndex", desc := "(IILjava/util/function/BiFunction;)I" } : Jvm.MethodName)) ∈ TT := ttk_10 (List.mem_of_getElem? (i := 27) rfl) rfl
theorem t_10_28 : (Jvm.Cond.code ({ cls := "jdk/internal/util/Preconditions", name := "checkIndex", desc := "(IILjava/util/function/BiFunction;)I" } : Jvm.MethodName) prog_56_method_11_code (3 : Nat) (Option.some Jvm.ClassFile.FieldType.int)) ∈ TT := ttk_10 (List.mem_of_getElem? (i := 28) rfl) rfl
theorem t_10_29 : (Jvm.Cond.methodLink "java/util/ArrayList" (123 : Nat) ({ cls := "java/util/ArrayList", name := "elementData", desc := "(I)Ljava/lang/Object;" } : Jvm.MethodName)) ∈ TT := ttk_10 (List.mem_of_getElem? (i := 29) rfl) rfl
theorem t_10_30 : (Jvm.Cond.instanceMethod ({ cls := "java/util/ArrayList", name := "elementData", desc := "(I)Ljava/lang/Object;" } : Jvm.MethodName)) ∈ TT := ttk_10 (List.mem_of_getElem? (i := 30) rfl) rfl
theorem t_10_31 : (Jvm.Cond.selects "java/util/ArrayList" ({ cls := "java/util/ArrayList", name := "elementData", desc := "(I)Ljava/lang/Object;" } : Jvm.MethodName) ({ cls := "java/util/ArrayList", name := "elementData", desc := "(I)Ljava/lang/Object;" } : Jvm.MethodName)) ∈ TT := ttk_10 (List.mem_of_getElem? (i := 31) rfl) rfl
theorem t_10_32 : (Jvm.Cond.code ({ cls := "java/util/ArrayList", name := "elementData", desc := "(I)Ljava/lang/Object;" } : Jvm.MethodName) prog_45_method_18_code (2 : Nat) (Option.some (Jvm.ClassFile.FieldType.object "java/lang/Object"))) ∈ TT := ttk_10 (List.mem_of_getElem? (i := 32) rfl) rfl
theorem t_10_37 : (Jvm.Cond.methodLink "MiterhouseLaw" (192 : Nat) ({ cls := "MiterhouseModel", name := "data", desc := "(II)I" } : Jvm.MethodName)) ∈ TT := ttk_10 (List.mem_of_getElem? (i := 37) rfl) rfl
theorem t_10_38 : (Jvm.Cond.instanceMethod ({ cls := "MiterhouseModel", name := "data", desc := "(II)I" } : Jvm.MethodName)) ∈ TT := ttk_10 (List.mem_of_getElem? (i := 38) rfl) rfl
theorem t_10_39 : (Jvm.Cond.selects "MiterhouseModel" ({ cls := "MiterhouseModel", name := "data", desc := "(II)I" } : Jvm.MethodName) ({ cls := "MiterhouseModel", name := "data", desc := "(II)I" } : Jvm.MethodName)) ∈ TT := ttk_10 (List.mem_of_getElem? (i := 39) rfl) rfl
theorem t_10_40 : (Jvm.Cond.code ({ cls := "MiterhouseModel", name := "data", desc := "(II)I" } : Jvm.MethodName) prog_14_method_16_code (5 : Nat) (Option.some Jvm.ClassFile.FieldType.int)) ∈ TT := ttk_10 (List.mem_of_getElem? (i := 40) rfl) rfl
theorem t_10_41 : (Jvm.Cond.methodLink "MiterhouseLaw" (195 : Nat) ({ cls := "MiterhouseModel", name := "output", desc := "(II)I" } : Jvm.MethodName)) ∈ TT := ttk_10 (List.mem_of_getElem? (i := 41) rfl) rfl
theorem t_10_42 : (Jvm.Cond.instanceMethod ({ cls := "MiterhouseModel", name := "output", desc := "(II)I" } : Jvm.MethodName)) ∈ TT := ttk_10 (List.mem_of_getElem? (i := 42) rfl) rfl
theorem t_10_43 : (Jvm.Cond.selects "MiterhouseModel" ({ cls := "MiterhouseModel", name := "output", desc := "(II)I" } : Jvm.MethodName) ({ cls := "MiterhouseModel", name := "output", desc := "(II)I" } : Jvm.MethodName)) ∈ TT := ttk_10 (List.mem_of_getElem? (i := 43) rfl) rfl
theorem t_10_44 : (Jvm.Cond.code ({ cls := "MiterhouseModel", name := "output", desc := "(II)I" } : Jvm.MethodName) prog_14_method_17_code (3 : Nat) (Option.some Jvm.ClassFile.FieldType.int)) ∈ TT := ttk_10 (List.mem_of_getElem? (i := 44) rfl) rfl
theorem t_10_45 : (Jvm.Cond.methodLink "MiterhouseLaw" (198 : Nat) ({ cls := "MiterhouseModel", name := "close", desc := "()I" } : Jvm.MethodName)) ∈ TT := ttk_10 (List.mem_of_getElem? (i := 45) rfl) rfl
theorem t_10_46 : (Jvm.Cond.instanceMethod ({ cls := "MiterhouseModel", name := "close", desc := "()I" } : Jvm.MethodName)) ∈ TT := ttk_10 (List.mem_of_getElem? (i := 46) rfl) rfl
theorem t_10_47 : (Jvm.Cond.selects "MiterhouseModel" ({ cls := "MiterhouseModel", name := "close", desc := "()I" } : Jvm.MethodName) ({ cls := "MiterhouseModel", name := "close", desc := "()I" } : Jvm.MethodName)) ∈ TT := ttk_10 (List.mem_of_getElem? (i := 47) rfl) rfl
theorem t_10_48 : (Jvm.Cond.code ({ cls := "MiterhouseModel", name := "close", desc := "()I" } : Jvm.MethodName) prog_14_method_18_code (8 : Nat) (Option.some Jvm.ClassFile.FieldType.int)) ∈ TT := ttk_10 (List.mem_of_getElem? (i := 48) rfl) rfl
theorem t_10_49 : (Jvm.Cond.methodLink "MiterhouseModel" (169 : Nat) ({ cls := "java/util/ArrayList", name := "isEmpty", desc := "()Z" } : Jvm.MethodName)) ∈ TT := ttk_10 (List.mem_of_getElem? (i := 49) rfl) rfl
theorem t_10_50 : (Jvm.Cond.instanceMethod ({ cls := "java/util/ArrayList", name := "isEmpty", desc := "()Z" } : Jvm.MethodName)) ∈ TT := ttk_10 (List.mem_of_getElem? (i := 50) rfl) rfl
theorem t_10_51 : (Jvm.Cond.selects "java/util/ArrayList" ({ cls := "java/util/ArrayList", name := "isEmpty", desc := "()Z" } : Jvm.MethodName) ({ cls := "java/util/ArrayList", name := "isEmpty", desc := "()Z" } : Jvm.MethodName)) ∈ TT := ttk_10 (List.mem_of_getElem? (i := 51) rfl) rfl
theorem t_10_52 : (Jvm.Cond.code ({ cls := "java/util/ArrayList", name := "isEmpty", desc := "()Z" } : Jvm.MethodName) prog_45_method_9_code (1 : Nat) (Option.some Jvm.ClassFile.FieldType.boolean)) ∈ TT := ttk_10 (List.mem_of_getElem? (i := 52) rfl) rfl
theorem t_10_84 : (Jvm.Cond.methodLink "MiterhouseLaw" (202 : Nat) ({ cls := "MiterhouseModel", name := "constrain", desc := "(I)I" } : Jvm.MethodName)) ∈ TT := ttk_10 (List.mem_of_getElem? (i := 84) rfl) rfl
theorem t_10_85 : (Jvm.Cond.instanceMethod ({ cls := "MiterhouseModel", name := "constrain", desc := "(I)I" } : Jvm.MethodName)) ∈ TT := ttk_10 (List.mem_of_getElem? (i := 85) rfl) rfl
theorem t_10_86 : (Jvm.Cond.selects "MiterhouseModel" ({ cls := "MiterhouseModel", name := "constrain", desc := "(I)I" } : Jvm.MethodName) ({ cls := "MiterhouseModel", name := "constrain", desc := "(I)I" } : Jvm.MethodName)) ∈ TT := ttk_10 (List.mem_of_getElem? (i := 86) rfl) rfl
theorem t_10_87 : (Jvm.Cond.code ({ cls := "MiterhouseModel", name := "constrain", desc := "(I)I" } : Jvm.MethodName) prog_14_method_21_code (5 : Nat) (Option.some Jvm.ClassFile.FieldType.int)) ∈ TT := ttk_10 (List.mem_of_getElem? (i := 87) rfl) rfl
theorem t_10_93 : (Jvm.Cond.methodLink "MiterhouseLaw" (205 : Nat) ({ cls := "MiterhouseModel", name := "value", desc := "(II)I" } : Jvm.MethodName)) ∈ TT := ttk_10 (List.mem_of_getElem? (i := 93) rfl) rfl
theorem t_10_94 : (Jvm.Cond.instanceMethod ({ cls := "MiterhouseModel", name := "value", desc := "(II)I" } : Jvm.MethodName)) ∈ TT := ttk_10 (List.mem_of_getElem? (i := 94) rfl) rfl
theorem t_10_95 : (Jvm.Cond.selects "MiterhouseModel" ({ cls := "MiterhouseModel", name := "value", desc := "(II)I" } : Jvm.MethodName) ({ cls := "MiterhouseModel", name := "value", desc := "(II)I" } : Jvm.MethodName)) ∈ TT := ttk_10 (List.mem_of_getElem? (i := 95) rfl) rfl
theorem t_10_96 : (Jvm.Cond.code ({ cls := "MiterhouseModel", name := "value", desc := "(II)I" } : Jvm.MethodName) prog_14_method_24_code (3 : Nat) (Option.some Jvm.ClassFile.FieldType.int)) ∈ TT := ttk_10 (List.mem_of_getElem? (i := 96) rfl) rfl
theorem t_10_97 : (Jvm.Cond.methodLink "MiterhouseModel" (216 : Nat) ({ cls := "MiterhouseModel", name := "isChoice", desc := "(I)Z" } : Jvm.MethodName)) ∈ TT := ttk_10 (List.mem_of_getElem? (i := 97) rfl) rfl
theorem t_10_99 : (Jvm.Cond.instanceMethod ({ cls := "MiterhouseModel", name := "isChoice", desc := "(I)Z" } : Jvm.MethodName)) ∈ TT := ttk_10 (List.mem_of_getElem? (i := 99) rfl) rfl
theorem t_10_100 : (Jvm.Cond.code ({ cls := "MiterhouseModel", name := "isChoice", desc := "(I)Z" } : Jvm.MethodName) prog_14_method_8_code (5 : Nat) (Option.some Jvm.ClassFile.FieldType.boolean)) ∈ TT := ttk_10 (List.mem_of_getElem? (i := 100) rfl) rfl
theorem t_10_105 : (Jvm.Cond.methodLink "MiterhouseLaw" (208 : Nat) ({ cls := "MiterhouseModel", name := "literal", desc := "(I)I" } : Jvm.MethodName)) ∈ TT := ttk_10 (List.mem_of_getElem? (i := 105) rfl) rfl
theorem t_10_106 : (Jvm.Cond.instanceMethod ({ cls := "MiterhouseModel", name := "literal", desc := "(I)I" } : Jvm.MethodName)) ∈ TT := ttk_10 (List.mem_of_getElem? (i := 106) rfl) rfl
theorem t_10_107 : (Jvm.Cond.selects "MiterhouseModel" ({ cls := "MiterhouseModel", name := "literal", desc := "(I)I" } : Jvm.MethodName) ({ cls := "MiterhouseModel", name := "literal", desc := "(I)I" } : Jvm.MethodName)) ∈ TT := ttk_10 (List.mem_of_getElem? (i := 107) rfl) rfl
theorem t_10_108 : (Jvm.Cond.code ({ cls := "MiterhouseModel", name := "literal", desc := "(I)I" } : Jvm.MethodName) prog_14_method_28_code (2 : Nat) (Option.some Jvm.ClassFile.FieldType.int)) ∈ TT := ttk_10 (List.mem_of_getElem? (i := 108) rfl) rfl
theorem t_10_109 : (Jvm.Cond.methodLink "MiterhouseModel" (233 : Nat) ({ cls := "MiterhouseModel", name := "isNoLine", desc := "(I)Z" } : Jvm.MethodName)) ∈ TT := ttk_10 (List.mem_of_getElem? (i := 109) rfl) rfl
theorem t_10_111 : (Jvm.Cond.instanceMethod ({ cls := "MiterhouseModel", name := "isNoLine", desc := "(I)Z" } : Jvm.MethodName)) ∈ TT := ttk_10 (List.mem_of_getElem? (i := 111) rfl) rfl
theorem t_10_112 : (Jvm.Cond.code ({ cls := "MiterhouseModel", name := "isNoLine", desc := "(I)Z" } : Jvm.MethodName) prog_14_method_23_code (2 : Nat) (Option.some Jvm.ClassFile.FieldType.boolean)) ∈ TT := ttk_10 (List.mem_of_getElem? (i := 112) rfl) rfl
theorem t_10_113 : (Jvm.Cond.methodLink "MiterhouseLaw" (211 : Nat) ({ cls := "MiterhouseModel", name := "ands", desc := "()I" } : Jvm.MethodName)) ∈ TT := ttk_10 (List.mem_of_getElem? (i := 113) rfl) rfl
theorem t_10_114 : (Jvm.Cond.instanceMethod ({ cls := "MiterhouseModel", name := "ands", desc := "()I" } : Jvm.MethodName)) ∈ TT := ttk_10 (List.mem_of_getElem? (i := 114) rfl) rfl
theorem t_10_115 : (Jvm.Cond.selects "MiterhouseModel" ({ cls := "MiterhouseModel", name := "ands", desc := "()I" } : Jvm.MethodName) ({ cls := "MiterhouseModel", name := "ands", desc := "()I" } : Jvm.MethodName)) ∈ TT := ttk_10 (List.mem_of_getElem? (i := 115) rfl) rfl
theorem t_10_116 : (Jvm.Cond.code ({ cls := "MiterhouseModel", name := "ands", desc := "()I" } : Jvm.MethodName) prog_14_method_29_code (1 : Nat) (Option.some Jvm.ClassFile.FieldType.int)) ∈ TT := ttk_10 (List.mem_of_getElem? (i := 116) rfl) rfl
theorem t_10_117 : (Jvm.Cond.methodLink "MiterhouseLaw" (215 : Nat) ({ cls := "MiterhouseModel", name := "pin", desc := "(IZ)I" } : Jvm.MethodName)) ∈ TT := ttk_10 (List.mem_of_getElem? (i := 117) rfl) rfl
theorem t_10_118 : (Jvm.Cond.instanceMethod ({ cls := "MiterhouseModel", name := "pin", desc := "(IZ)I" } : Jvm.MethodName)) ∈ TT := ttk_10 (List.mem_of_getElem? (i := 118) rfl) rfl
theorem t_10_119 : (Jvm.Cond.selects "MiterhouseModel" ({ cls := "MiterhouseModel", name := "pin", desc := "(IZ)I" } : Jvm.MethodName) ({ cls := "MiterhouseModel", name := "pin", desc := "(IZ)I" } : Jvm.MethodName)) ∈ TT := ttk_10 (List.mem_of_getElem? (i := 119) rfl) rfl
theorem t_10_120 : (Jvm.Cond.code ({ cls := "MiterhouseModel", name := "pin", desc := "(IZ)I" } : Jvm.MethodName) prog_14_method_30_code (4 : Nat) (Option.some Jvm.ClassFile.FieldType.int)) ∈ TT := ttk_10 (List.mem_of_getElem? (i := 120) rfl) rfl
theorem t_10_121 : (Jvm.Cond.methodLink "MiterhouseLaw" (218 : Nat) ({ cls := "MiterhouseModel", name := "pattern", desc := "(I)I" } : Jvm.MethodName)) ∈ TT := ttk_10 (List.mem_of_getElem? (i := 121) rfl) rfl
theorem t_10_122 : (Jvm.Cond.instanceMethod ({ cls := "MiterhouseModel", name := "pattern", desc := "(I)I" } : Jvm.MethodName)) ∈ TT := ttk_10 (List.mem_of_getElem? (i := 122) rfl) rfl
theorem t_10_123 : (Jvm.Cond.selects "MiterhouseModel" ({ cls := "MiterhouseModel", name := "pattern", desc := "(I)I" } : Jvm.MethodName) ({ cls := "MiterhouseModel", name := "pattern", desc := "(I)I" } : Jvm.MethodName)) ∈ TT := ttk_10 (List.mem_of_getElem? (i := 123) rfl) rfl
theorem t_10_124 : (Jvm.Cond.code ({ cls := "MiterhouseModel", name := "pattern", desc := "(I)I" } : Jvm.MethodName) prog_14_method_31_code (2 : Nat) (Option.some Jvm.ClassFile.FieldType.int)) ∈ TT := ttk_10 (List.mem_of_getElem? (i := 124) rfl) rfl
theorem t_10_129 : (Jvm.Cond.methodLink "MiterhouseLaw" (221 : Nat) ({ cls := "MiterhouseModel", name := "signature", desc := "(I)J" } : Jvm.MethodName)) ∈ TT := ttk_10 (List.mem_of_getElem? (i := 129) rfl) rfl
theorem t_10_130 : (Jvm.Cond.instanceMethod ({ cls := "MiterhouseModel", name := "signature", desc := "(I)J" } : Jvm.MethodName)) ∈ TT := ttk_10 (List.mem_of_getElem? (i := 130) rfl) rfl
theorem t_10_131 : (Jvm.Cond.selects "MiterhouseModel" ({ cls := "MiterhouseModel", name := "signature", desc := "(I)J" } : Jvm.MethodName) ({ cls := "MiterhouseModel", name := "signature", desc := "(I)J" } : Jvm.MethodName)) ∈ TT := ttk_10 (List.mem_of_getElem? (i := 131) rfl) rfl
theorem t_10_132 : (Jvm.Cond.code ({ cls := "MiterhouseModel", name := "signature", desc := "(I)J" } : Jvm.MethodName) prog_14_method_34_code (2 : Nat) (Option.some Jvm.ClassFile.FieldType.long)) ∈ TT := ttk_10 (List.mem_of_getElem? (i := 132) rfl) rfl
theorem t_10_137 : (Jvm.Cond.methodLink "MiterhouseLaw" (224 : Nat) ({ cls := "MiterhouseModel", name := "candidates", desc := "(I)I" } : Jvm.MethodName)) ∈ TT := ttk_10 (List.mem_of_getElem? (i := 137) rfl) rfl
theorem t_10_138 : (Jvm.Cond.instanceMethod ({ cls := "MiterhouseModel", name := "candidates", desc := "(I)I" } : Jvm.MethodName)) ∈ TT := ttk_10 (List.mem_of_getElem? (i := 138) rfl) rfl
theorem t_10_139 : (Jvm.Cond.selects "MiterhouseModel" ({ cls := "MiterhouseModel", name := "candidates", desc := "(I)I" } : Jvm.MethodName) ({ cls := "MiterhouseModel", name := "candidates", desc := "(I)I" } : Jvm.MethodName)) ∈ TT := ttk_10 (List.mem_of_getElem? (i := 139) rfl) rfl
theorem t_10_140 : (Jvm.Cond.code ({ cls := "MiterhouseModel", name := "candidates", desc := "(I)I" } : Jvm.MethodName) prog_14_method_36_code (6 : Nat) (Option.some Jvm.ClassFile.FieldType.int)) ∈ TT := ttk_10 (List.mem_of_getElem? (i := 140) rfl) rfl
theorem t_10_149 : (Jvm.Cond.methodLink "MiterhouseLaw" (228 : Nat) ({ cls := "MiterhouseModel", name := "prove", desc := "(IIZI)C" } : Jvm.MethodName)) ∈ TT := ttk_10 (List.mem_of_getElem? (i := 149) rfl) rfl
theorem t_10_150 : (Jvm.Cond.instanceMethod ({ cls := "MiterhouseModel", name := "prove", desc := "(IIZI)C" } : Jvm.MethodName)) ∈ TT := ttk_10 (List.mem_of_getElem? (i := 150) rfl) rfl
theorem t_10_151 : (Jvm.Cond.selects "MiterhouseModel" ({ cls := "MiterhouseModel", name := "prove", desc := "(IIZI)C" } : Jvm.MethodName) ({ cls := "MiterhouseModel", name := "prove", desc := "(IIZI)C" } : Jvm.MethodName)) ∈ TT := ttk_10 (List.mem_of_getElem? (i := 151) rfl) rfl
theorem t_10_152 : (Jvm.Cond.code ({ cls := "MiterhouseModel", name := "prove", desc := "(IIZI)C" } : Jvm.MethodName) prog_14_method_43_code (5 : Nat) (Option.some Jvm.ClassFile.FieldType.char)) ∈ TT := ttk_10 (List.mem_of_getElem? (i := 152) rfl) rfl
theorem t_10_171 : (Jvm.Cond.methodLink "MiterhouseLaw" (232 : Nat) ({ cls := "MiterhouseModel", name := "proof", desc := "(IIZ)I" } : Jvm.MethodName)) ∈ TT := ttk_10 (List.mem_of_getElem? (i := 171) rfl) rfl
theorem t_10_172 : (Jvm.Cond.instanceMethod ({ cls := "MiterhouseModel", name := "proof", desc := "(IIZ)I" } : Jvm.MethodName)) ∈ TT := ttk_10 (List.mem_of_getElem? (i := 172) rfl) rfl
theorem t_10_173 : (Jvm.Cond.selects "MiterhouseModel" ({ cls := "MiterhouseModel", name := "proof", desc := "(IIZ)I" } : Jvm.MethodName) ({ cls := "MiterhouseModel", name := "proof", desc := "(IIZ)I" } : Jvm.MethodName)) ∈ TT := ttk_10 (List.mem_of_getElem? (i := 173) rfl) rfl
theorem t_10_174 : (Jvm.Cond.code ({ cls := "MiterhouseModel", name := "proof", desc := "(IIZ)I" } : Jvm.MethodName) prog_14_method_44_code (5 : Nat) (Option.some Jvm.ClassFile.FieldType.int)) ∈ TT := ttk_10 (List.mem_of_getElem? (i := 174) rfl) rfl
theorem t_10_175 : (Jvm.Cond.methodLink "MiterhouseModel" (282 : Nat) ({ cls := "MiterhouseModel", name := "areNoLines", desc := "(II)Z" } : Jvm.MethodName)) ∈ TT := ttk_10 (List.mem_of_getElem? (i := 175) rfl) rfl
theorem t_10_177 : (Jvm.Cond.instanceMethod ({ cls := "MiterhouseModel", name := "areNoLines", desc := "(II)Z" } : Jvm.MethodName)) ∈ TT := ttk_10 (List.mem_of_getElem? (i := 177) rfl) rfl
theorem t_10_178 : (Jvm.Cond.code ({ cls := "MiterhouseModel", name := "areNoLines", desc := "(II)Z" } : Jvm.MethodName) prog_14_method_42_code (3 : Nat) (Option.some Jvm.ClassFile.FieldType.boolean)) ∈ TT := ttk_10 (List.mem_of_getElem? (i := 178) rfl) rfl
theorem t_10_179 : (Jvm.Cond.constant "MiterhouseModel" (288 : Nat) (2147483647 : Int32)) ∈ TT := ttk_10 (List.mem_of_getElem? (i := 179) rfl) rfl
theorem t_10_180 : (Jvm.Cond.methodLink "MiterhouseLaw" (235 : Nat) ({ cls := "MiterhouseModel", name := "witness", desc := "(IIZ)I" } : Jvm.MethodName)) ∈ TT := ttk_10 (List.mem_of_getElem? (i := 180) rfl) rfl
theorem t_10_181 : (Jvm.Cond.instanceMethod ({ cls := "MiterhouseModel", name := "witness", desc := "(IIZ)I" } : Jvm.MethodName)) ∈ TT := ttk_10 (List.mem_of_getElem? (i := 181) rfl) rfl
theorem t_10_182 : (Jvm.Cond.selects "MiterhouseModel" ({ cls := "MiterhouseModel", name := "witness", desc := "(IIZ)I" } : Jvm.MethodName) ({ cls := "MiterhouseModel", name := "witness", desc := "(IIZ)I" } : Jvm.MethodName)) ∈ TT := ttk_10 (List.mem_of_getElem? (i := 182) rfl) rfl
theorem t_10_183 : (Jvm.Cond.code ({ cls := "MiterhouseModel", name := "witness", desc := "(IIZ)I" } : Jvm.MethodName) prog_14_method_45_code (5 : Nat) (Option.some Jvm.ClassFile.FieldType.int)) ∈ TT := ttk_10 (List.mem_of_getElem? (i := 183) rfl) rfl
theorem t_10_184 : (Jvm.Cond.methodLink "MiterhouseLaw" (238 : Nat) ({ cls := "MiterhouseModel", name := "sweep", desc := "(I)I" } : Jvm.MethodName)) ∈ TT := ttk_10 (List.mem_of_getElem? (i := 184) rfl) rfl
theorem t_10_185 : (Jvm.Cond.instanceMethod ({ cls := "MiterhouseModel", name := "sweep", desc := "(I)I" } : Jvm.MethodName)) ∈ TT := ttk_10 (List.mem_of_getElem? (i := 185) rfl) rfl
theorem t_10_186 : (Jvm.Cond.selects "MiterhouseModel" ({ cls := "MiterhouseModel", name := "sweep", desc := "(I)I" } : Jvm.MethodName) ({ cls := "MiterhouseModel", name := "sweep", desc := "(I)I" } : Jvm.MethodName)) ∈ TT := ttk_10 (List.mem_of_getElem? (i := 186) rfl) rfl
theorem t_10_187 : (Jvm.Cond.code ({ cls := "MiterhouseModel", name := "sweep", desc := "(I)I" } : Jvm.MethodName) prog_14_method_47_code (4 : Nat) (Option.some Jvm.ClassFile.FieldType.int)) ∈ TT := ttk_10 (List.mem_of_getElem? (i := 187) rfl) rfl
theorem t_10_196 : (Jvm.Cond.methodLink "MiterhouseLaw" (241 : Nat) ({ cls := "MiterhouseModel", name := "merged", desc := "(I)I" } : Jvm.MethodName)) ∈ TT := ttk_10 (List.mem_of_getElem? (i := 196) rfl) rfl
theorem t_10_197 : (Jvm.Cond.instanceMethod ({ cls := "MiterhouseModel", name := "merged", desc := "(I)I" } : Jvm.MethodName)) ∈ TT := ttk_10 (List.mem_of_getElem? (i := 197) rfl) rfl
theorem t_10_198 : (Jvm.Cond.selects "MiterhouseModel" ({ cls := "MiterhouseModel", name := "merged", desc := "(I)I" } : Jvm.MethodName) ({ cls := "MiterhouseModel", name := "merged", desc := "(I)I" } : Jvm.MethodName)) ∈ TT := ttk_10 (List.mem_of_getElem? (i := 198) rfl) rfl
theorem t_10_199 : (Jvm.Cond.code ({ cls := "MiterhouseModel", name := "merged", desc := "(I)I" } : Jvm.MethodName) prog_14_method_49_code (3 : Nat) (Option.some Jvm.ClassFile.FieldType.int)) ∈ TT := ttk_10 (List.mem_of_getElem? (i := 199) rfl) rfl
theorem t_10_200 : (Jvm.Cond.methodLink "MiterhouseLaw" (246 : Nat) ({ cls := "MiterhouseModel", name := "mergeProofs", desc := "()J" } : Jvm.MethodName)) ∈ TT := ttk_10 (List.mem_of_getElem? (i := 200) rfl) rfl
theorem t_10_201 : (Jvm.Cond.instanceMethod ({ cls := "MiterhouseModel", name := "mergeProofs", desc := "()J" } : Jvm.MethodName)) ∈ TT := ttk_10 (List.mem_of_getElem? (i := 201) rfl) rfl
theorem t_10_202 : (Jvm.Cond.selects "MiterhouseModel" ({ cls := "MiterhouseModel", name := "mergeProofs", desc := "()J" } : Jvm.MethodName) ({ cls := "MiterhouseModel", name := "mergeProofs", desc := "()J" } : Jvm.MethodName)) ∈ TT := ttk_10 (List.mem_of_getElem? (i := 202) rfl) rfl
theorem t_10_203 : (Jvm.Cond.code ({ cls := "MiterhouseModel", name := "mergeProofs", desc := "()J" } : Jvm.MethodName) prog_14_method_50_code (5 : Nat) (Option.some Jvm.ClassFile.FieldType.long)) ∈ TT := ttk_10 (List.mem_of_getElem? (i := 203) rfl) rfl
theorem t_10_204 : (Jvm.Cond.methodLink "MiterhouseLaw" (250 : Nat) ({ cls := "MiterhouseModel", name := "patterns", desc := "()I" } : Jvm.MethodName)) ∈ TT := ttk_10 (List.mem_of_getElem? (i := 204) rfl) rfl
theorem t_10_205 : (Jvm.Cond.instanceMethod ({ cls := "MiterhouseModel", name := "patterns", desc := "()I" } : Jvm.MethodName)) ∈ TT := ttk_10 (List.mem_of_getElem? (i := 205) rfl) rfl
theorem t_10_206 : (Jvm.Cond.selects "MiterhouseModel" ({ cls := "MiterhouseModel", name := "patterns", desc := "()I" } : Jvm.MethodName) ({ cls := "MiterhouseModel", name := "patterns", desc := "()I" } : Jvm.MethodName)) ∈ TT := ttk_10 (List.mem_of_getElem? (i := 206) rfl) rfl
theorem t_10_207 : (Jvm.Cond.code ({ cls := "MiterhouseModel", name := "patterns", desc := "()I" } : Jvm.MethodName) prog_14_method_51_code (1 : Nat) (Option.some Jvm.ClassFile.FieldType.int)) ∈ TT := ttk_10 (List.mem_of_getElem? (i := 207) rfl) rfl
theorem t_10_208 : (Jvm.Cond.methodLink "MiterhouseLaw" (253 : Nat) ({ cls := "MiterhouseModel", name := "order", desc := "(II)I" } : Jvm.MethodName)) ∈ TT := ttk_10 (List.mem_of_getElem? (i := 208) rfl) rfl
theorem t_10_209 : (Jvm.Cond.instanceMethod ({ cls := "MiterhouseModel", name := "order", desc := "(II)I" } : Jvm.MethodName)) ∈ TT := ttk_10 (List.mem_of_getElem? (i := 209) rfl) rfl
theorem t_10_210 : (Jvm.Cond.selects "MiterhouseModel" ({ cls := "MiterhouseModel", name := "order", desc := "(II)I" } : Jvm.MethodName) ({ cls := "MiterhouseModel", name := "order", desc := "(II)I" } : Jvm.MethodName)) ∈ TT := ttk_10 (List.mem_of_getElem? (i := 210) rfl) rfl
theorem t_10_211 : (Jvm.Cond.code ({ cls := "MiterhouseModel", name := "order", desc := "(II)I" } : Jvm.MethodName) prog_14_method_58_code (4 : Nat) (Option.some Jvm.ClassFile.FieldType.int)) ∈ TT := ttk_10 (List.mem_of_getElem? (i := 211) rfl) rfl
theorem t_10_219 : (Jvm.Cond.methodLink "MiterhouseLaw" (256 : Nat) ({ cls := "MiterhouseModel", name := "placeOf", desc := "(I)I" } : Jvm.MethodName)) ∈ TT := ttk_10 (List.mem_of_getElem? (i := 219) rfl) rfl
theorem t_10_220 : (Jvm.Cond.instanceMethod ({ cls := "MiterhouseModel", name := "placeOf", desc := "(I)I" } : Jvm.MethodName)) ∈ TT := ttk_10 (List.mem_of_getElem? (i := 220) rfl) rfl
theorem t_10_221 : (Jvm.Cond.selects "MiterhouseModel" ({ cls := "MiterhouseModel", name := "placeOf", desc := "(I)I" } : Jvm.MethodName) ({ cls := "MiterhouseModel", name := "placeOf", desc := "(I)I" } : Jvm.MethodName)) ∈ TT := ttk_10 (List.mem_of_getElem? (i := 221) rfl) rfl
theorem t_10_222 : (Jvm.Cond.code ({ cls := "MiterhouseModel", name := "placeOf", desc := "(I)I" } : Jvm.MethodName) prog_14_method_59_code (2 : Nat) (Option.some Jvm.ClassFile.FieldType.int)) ∈ TT := ttk_10 (List.mem_of_getElem? (i := 222) rfl) rfl
theorem t_10_223 : (Jvm.Cond.methodLink "MiterhouseLaw" (259 : Nat) ({ cls := "MiterhouseModel", name := "diagram", desc := "(II)I" } : Jvm.MethodName)) ∈ TT := ttk_10 (List.mem_of_getElem? (i := 223) rfl) rfl
theorem t_10_224 : (Jvm.Cond.instanceMethod ({ cls := "MiterhouseModel", name := "diagram", desc := "(II)I" } : Jvm.MethodName)) ∈ TT := ttk_10 (List.mem_of_getElem? (i := 224) rfl) rfl
theorem t_10_225 : (Jvm.Cond.selects "MiterhouseModel" ({ cls := "MiterhouseModel", name := "diagram", desc := "(II)I" } : Jvm.MethodName) ({ cls := "MiterhouseModel", name := "diagram", desc := "(II)I" } : Jvm.MethodName)) ∈ TT := ttk_10 (List.mem_of_getElem? (i := 225) rfl) rfl
theorem t_10_226 : (Jvm.Cond.code ({ cls := "MiterhouseModel", name := "diagram", desc := "(II)I" } : Jvm.MethodName) prog_14_method_60_code (3 : Nat) (Option.some Jvm.ClassFile.FieldType.int)) ∈ TT := ttk_10 (List.mem_of_getElem? (i := 226) rfl) rfl
theorem t_11_0 : (Jvm.Cond.methodLink "MiterhouseLaw" (262 : Nat) ({ cls := "MiterhouseModel", name := "allDiagrams", desc := "()I" } : Jvm.MethodName)) ∈ TT := ttk_11 (List.mem_of_getElem? (i := 0) rfl) rfl
theorem t_11_1 : (Jvm.Cond.instanceMethod ({ cls := "MiterhouseModel", name := "allDiagrams", desc := "()I" } : Jvm.MethodName)) ∈ TT := ttk_11 (List.mem_of_getElem? (i := 1) rfl) rfl
theorem t_11_2 : (Jvm.Cond.selects "MiterhouseModel" ({ cls := "MiterhouseModel", name := "allDiagrams", desc := "()I" } : Jvm.MethodName) ({ cls := "MiterhouseModel", name := "allDiagrams", desc := "()I" } : Jvm.MethodName)) ∈ TT := ttk_11 (List.mem_of_getElem? (i := 2) rfl) rfl
theorem t_11_3 : (Jvm.Cond.code ({ cls := "MiterhouseModel", name := "allDiagrams", desc := "()I" } : Jvm.MethodName) prog_14_method_61_code (1 : Nat) (Option.some Jvm.ClassFile.FieldType.int)) ∈ TT := ttk_11 (List.mem_of_getElem? (i := 3) rfl) rfl
theorem t_11_8 : (Jvm.Cond.methodLink "MiterhouseLaw" (265 : Nat) ({ cls := "MiterhouseModel", name := "sift", desc := "()I" } : Jvm.MethodName)) ∈ TT := ttk_11 (List.mem_of_getElem? (i := 8) rfl) rfl
theorem t_11_9 : (Jvm.Cond.instanceMethod ({ cls := "MiterhouseModel", name := "sift", desc := "()I" } : Jvm.MethodName)) ∈ TT := ttk_11 (List.mem_of_getElem? (i := 9) rfl) rfl
theorem t_11_10 : (Jvm.Cond.selects "MiterhouseModel" ({ cls := "MiterhouseModel", name := "sift", desc := "()I" } : Jvm.MethodName) ({ cls := "MiterhouseModel", name := "sift", desc := "()I" } : Jvm.MethodName)) ∈ TT := ttk_11 (List.mem_of_getElem? (i := 10) rfl) rfl
theorem t_11_11 : (Jvm.Cond.code ({ cls := "MiterhouseModel", name := "sift", desc := "()I" } : Jvm.MethodName) prog_14_method_62_code (7 : Nat) (Option.some Jvm.ClassFile.FieldType.int)) ∈ TT := ttk_11 (List.mem_of_getElem? (i := 11) rfl) rfl
theorem t_11_12 : (Jvm.Cond.methodLink "MiterhouseLaw" (268 : Nat) ({ cls := "MiterhouseModel", name := "cuts", desc := "(II)I" } : Jvm.MethodName)) ∈ TT := ttk_11 (List.mem_of_getElem? (i := 12) rfl) rfl
theorem t_11_13 : (Jvm.Cond.instanceMethod ({ cls := "MiterhouseModel", name := "cuts", desc := "(II)I" } : Jvm.MethodName)) ∈ TT := ttk_11 (List.mem_of_getElem? (i := 13) rfl) rfl
theorem t_11_14 : (Jvm.Cond.selects "MiterhouseModel" ({ cls := "MiterhouseModel", name := "cuts", desc := "(II)I" } : Jvm.MethodName) ({ cls := "MiterhouseModel", name := "cuts", desc := "(II)I" } : Jvm.MethodName)) ∈ TT := ttk_11 (List.mem_of_getElem? (i := 14) rfl) rfl
theorem t_11_15 : (Jvm.Cond.code ({ cls := "MiterhouseModel", name := "cuts", desc := "(II)I" } : Jvm.MethodName) prog_14_method_69_code (3 : Nat) (Option.some Jvm.ClassFile.FieldType.int)) ∈ TT := ttk_11 (List.mem_of_getElem? (i := 15) rfl) rfl
theorem t_11_16 : (Jvm.Cond.methodLink "MiterhouseModel" (358 : Nat) ({ cls := "MiterhouseModel", name := "isNoNode", desc := "(II)Z" } : Jvm.MethodName)) ∈ TT := ttk_11 (List.mem_of_getElem? (i := 16) rfl) rfl
theorem t_11_18 : (Jvm.Cond.instanceMethod ({ cls := "MiterhouseModel", name := "isNoNode", desc := "(II)Z" } : Jvm.MethodName)) ∈ TT := ttk_11 (List.mem_of_getElem? (i := 18) rfl) rfl
theorem t_11_19 : (Jvm.Cond.code ({ cls := "MiterhouseModel", name := "isNoNode", desc := "(II)Z" } : Jvm.MethodName) prog_14_method_68_code (3 : Nat) (Option.some Jvm.ClassFile.FieldType.boolean)) ∈ TT := ttk_11 (List.mem_of_getElem? (i := 19) rfl) rfl
theorem t_12_43 : (Jvm.Cond.methodLink "MiterhouseLaw" (272 : Nat) ({ cls := "MiterhouseModel", name := "cutAt", desc := "(IIII)I" } : Jvm.MethodName)) ∈ TT := ttk_12 (List.mem_of_getElem? (i := 43) rfl) rfl
theorem t_12_44 : (Jvm.Cond.instanceMethod ({ cls := "MiterhouseModel", name := "cutAt", desc := "(IIII)I" } : Jvm.MethodName)) ∈ TT := ttk_12 (List.mem_of_getElem? (i := 44) rfl) rfl
theorem t_12_45 : (Jvm.Cond.selects "MiterhouseModel" ({ cls := "MiterhouseModel", name := "cutAt", desc := "(IIII)I" } : Jvm.MethodName) ({ cls := "MiterhouseModel", name := "cutAt", desc := "(IIII)I" } : Jvm.MethodName)) ∈ TT := ttk_12 (List.mem_of_getElem? (i := 45) rfl) rfl
theorem t_12_46 : (Jvm.Cond.code ({ cls := "MiterhouseModel", name := "cutAt", desc := "(IIII)I" } : Jvm.MethodName) prog_14_method_70_code (7 : Nat) (Option.some Jvm.ClassFile.FieldType.int)) ∈ TT := ttk_12 (List.mem_of_getElem? (i := 46) rfl) rfl
theorem t_12_47 : (Jvm.Cond.methodLink "MiterhouseLaw" (275 : Nat) ({ cls := "MiterhouseModel", name := "table", desc := "(III)I" } : Jvm.MethodName)) ∈ TT := ttk_12 (List.mem_of_getElem? (i := 47) rfl) rfl
theorem t_12_48 : (Jvm.Cond.instanceMethod ({ cls := "MiterhouseModel", name := "table", desc := "(III)I" } : Jvm.MethodName)) ∈ TT := ttk_12 (List.mem_of_getElem? (i := 48) rfl) rfl
theorem t_12_49 : (Jvm.Cond.selects "MiterhouseModel" ({ cls := "MiterhouseModel", name := "table", desc := "(III)I" } : Jvm.MethodName) ({ cls := "MiterhouseModel", name := "table", desc := "(III)I" } : Jvm.MethodName)) ∈ TT := ttk_12 (List.mem_of_getElem? (i := 49) rfl) rfl
theorem t_12_50 : (Jvm.Cond.code ({ cls := "MiterhouseModel", name := "table", desc := "(III)I" } : Jvm.MethodName) prog_14_method_72_code (7 : Nat) (Option.some Jvm.ClassFile.FieldType.int)) ∈ TT := ttk_12 (List.mem_of_getElem? (i := 50) rfl) rfl
theorem t_12_55 : (Jvm.Cond.methodLink "MiterhouseLaw" (278 : Nat) ({ cls := "MiterhouseModel", name := "normal", desc := "(II)I" } : Jvm.MethodName)) ∈ TT := ttk_12 (List.mem_of_getElem? (i := 55) rfl) rfl
theorem t_12_56 : (Jvm.Cond.instanceMethod ({ cls := "MiterhouseModel", name := "normal", desc := "(II)I" } : Jvm.MethodName)) ∈ TT := ttk_12 (List.mem_of_getElem? (i := 56) rfl) rfl
theorem t_12_57 : (Jvm.Cond.selects "MiterhouseModel" ({ cls := "MiterhouseModel", name := "normal", desc := "(II)I" } : Jvm.MethodName) ({ cls := "MiterhouseModel", name := "normal", desc := "(II)I" } : Jvm.MethodName)) ∈ TT := ttk_12 (List.mem_of_getElem? (i := 57) rfl) rfl
theorem t_12_58 : (Jvm.Cond.code ({ cls := "MiterhouseModel", name := "normal", desc := "(II)I" } : Jvm.MethodName) prog_14_method_73_code (4 : Nat) (Option.some Jvm.ClassFile.FieldType.int)) ∈ TT := ttk_12 (List.mem_of_getElem? (i := 58) rfl) rfl
theorem t_12_59 : (Jvm.Cond.methodLink "MiterhouseModel" (368 : Nat) ({ cls := "MiterhouseModel", name := "normal", desc := "(IIIII)I" } : Jvm.MethodName)) ∈ TT := ttk_12 (List.mem_of_getElem? (i := 59) rfl) rfl
theorem t_12_60 : (Jvm.Cond.static ({ cls := "MiterhouseModel", name := "normal", desc := "(IIIII)I" } : Jvm.MethodName)) ∈ TT := ttk_12 (List.mem_of_getElem? (i := 60) rfl) rfl
theorem t_12_61 : (Jvm.Cond.code ({ cls := "MiterhouseModel", name := "normal", desc := "(IIIII)I" } : Jvm.MethodName) prog_14_method_74_code (11 : Nat) (Option.some Jvm.ClassFile.FieldType.int)) ∈ TT := ttk_12 (List.mem_of_getElem? (i := 61) rfl) rfl
theorem t_12_62 : (Jvm.Cond.methodLink "MiterhouseLaw" (281 : Nat) ({ cls := "MiterhouseModel", name := "coefficient", desc := "(IIII)I" } : Jvm.MethodName)) ∈ TT := ttk_12 (List.mem_of_getElem? (i := 62) rfl) rfl
theorem t_12_63 : (Jvm.Cond.instanceMethod ({ cls := "MiterhouseModel", name := "coefficient", desc := "(IIII)I" } : Jvm.MethodName)) ∈ TT := ttk_12 (List.mem_of_getElem? (i := 63) rfl) rfl
theorem t_12_64 : (Jvm.Cond.selects "MiterhouseModel" ({ cls := "MiterhouseModel", name := "coefficient", desc := "(IIII)I" } : Jvm.MethodName) ({ cls := "MiterhouseModel", name := "coefficient", desc := "(IIII)I" } : Jvm.MethodName)) ∈ TT := ttk_12 (List.mem_of_getElem? (i := 64) rfl) rfl
theorem t_12_65 : (Jvm.Cond.code ({ cls := "MiterhouseModel", name := "coefficient", desc := "(IIII)I" } : Jvm.MethodName) prog_14_method_75_code (6 : Nat) (Option.some Jvm.ClassFile.FieldType.int)) ∈ TT := ttk_12 (List.mem_of_getElem? (i := 65) rfl) rfl
theorem t_12_66 : (Jvm.Cond.methodLink "MiterhouseLaw" (284 : Nat) ({ cls := "MiterhouseModel", name := "areSame", desc := "(I)Z" } : Jvm.MethodName)) ∈ TT := ttk_12 (List.mem_of_getElem? (i := 66) rfl) rfl
theorem t_12_67 : (Jvm.Cond.instanceMethod ({ cls := "MiterhouseModel", name := "areSame", desc := "(I)Z" } : Jvm.MethodName)) ∈ TT := ttk_12 (List.mem_of_getElem? (i := 67) rfl) rfl
theorem t_12_68 : (Jvm.Cond.selects "MiterhouseModel" ({ cls := "MiterhouseModel", name := "areSame", desc := "(I)Z" } : Jvm.MethodName) ({ cls := "MiterhouseModel", name := "areSame", desc := "(I)Z" } : Jvm.MethodName)) ∈ TT := ttk_12 (List.mem_of_getElem? (i := 68) rfl) rfl
theorem t_12_69 : (Jvm.Cond.code ({ cls := "MiterhouseModel", name := "areSame", desc := "(I)Z" } : Jvm.MethodName) prog_14_method_77_code (5 : Nat) (Option.some Jvm.ClassFile.FieldType.boolean)) ∈ TT := ttk_12 (List.mem_of_getElem? (i := 69) rfl) rfl
theorem t_12_70 : (Jvm.Cond.methodLink "MiterhouseModel" (372 : Nat) ({ cls := "MiterhouseModel", name := "wordOf", desc := "(IIII)I" } : Jvm.MethodName)) ∈ TT := ttk_12 (List.mem_of_getElem? (i := 70) rfl) rfl
theorem t_12_72 : (Jvm.Cond.instanceMethod ({ cls := "MiterhouseModel", name := "wordOf", desc := "(IIII)I" } : Jvm.MethodName)) ∈ TT := ttk_12 (List.mem_of_getElem? (i := 72) rfl) rfl
theorem t_12_73 : (Jvm.Cond.code ({ cls := "MiterhouseModel", name := "wordOf", desc := "(IIII)I" } : Jvm.MethodName) prog_14_method_76_code (10 : Nat) (Option.some Jvm.ClassFile.FieldType.int)) ∈ TT := ttk_12 (List.mem_of_getElem? (i := 73) rfl) rfl
theorem t_12_74 : (Jvm.Cond.methodLink "MiterhouseLaw" (287 : Nat) ({ cls := "MiterhouseModel", name := "word", desc := "(IIII)I" } : Jvm.MethodName)) ∈ TT := ttk_12 (List.mem_of_getElem? (i := 74) rfl) rfl
theorem t_12_75 : (Jvm.Cond.instanceMethod ({ cls := "MiterhouseModel", name := "word", desc := "(IIII)I" } : Jvm.MethodName)) ∈ TT := ttk_12 (List.mem_of_getElem? (i := 75) rfl) rfl
theorem t_12_76 : (Jvm.Cond.selects "MiterhouseModel" ({ cls := "MiterhouseModel", name := "word", desc := "(IIII)I" } : Jvm.MethodName) ({ cls := "MiterhouseModel", name := "word", desc := "(IIII)I" } : Jvm.MethodName)) ∈ TT := ttk_12 (List.mem_of_getElem? (i := 76) rfl) rfl
theorem t_12_77 : (Jvm.Cond.code ({ cls := "MiterhouseModel", name := "word", desc := "(IIII)I" } : Jvm.MethodName) prog_14_method_78_code (5 : Nat) (Option.some Jvm.ClassFile.FieldType.int)) ∈ TT := ttk_12 (List.mem_of_getElem? (i := 77) rfl) rfl
theorem t_12_78 : (Jvm.Cond.methodLink "MiterhouseLaw" (290 : Nat) ({ cls := "MiterhouseModel", name := "seen", desc := "(I)I" } : Jvm.MethodName)) ∈ TT := ttk_12 (List.mem_of_getElem? (i := 78) rfl) rfl
theorem t_12_79 : (Jvm.Cond.instanceMethod ({ cls := "MiterhouseModel", name := "seen", desc := "(I)I" } : Jvm.MethodName)) ∈ TT := ttk_12 (List.mem_of_getElem? (i := 79) rfl) rfl
theorem t_12_80 : (Jvm.Cond.selects "MiterhouseModel" ({ cls := "MiterhouseModel", name := "seen", desc := "(I)I" } : Jvm.MethodName) ({ cls := "MiterhouseModel", name := "seen", desc := "(I)I" } : Jvm.MethodName)) ∈ TT := ttk_12 (List.mem_of_getElem? (i := 80) rfl) rfl
theorem t_12_81 : (Jvm.Cond.code ({ cls := "MiterhouseModel", name := "seen", desc := "(I)I" } : Jvm.MethodName) prog_14_method_82_code (2 : Nat) (Option.some Jvm.ClassFile.FieldType.int)) ∈ TT := ttk_12 (List.mem_of_getElem? (i := 81) rfl) rfl
theorem t_12_96 : (Jvm.Cond.methodLink "MiterhouseLaw" (293 : Nat) ({ cls := "MiterhouseModel", name := "isIdle", desc := "(I)Z" } : Jvm.MethodName)) ∈ TT := ttk_12 (List.mem_of_getElem? (i := 96) rfl) rfl
theorem t_12_97 : (Jvm.Cond.instanceMethod ({ cls := "MiterhouseModel", name := "isIdle", desc := "(I)Z" } : Jvm.MethodName)) ∈ TT := ttk_12 (List.mem_of_getElem? (i := 97) rfl) rfl
theorem t_12_98 : (Jvm.Cond.selects "MiterhouseModel" ({ cls := "MiterhouseModel", name := "isIdle", desc := "(I)Z" } : Jvm.MethodName) ({ cls := "MiterhouseModel", name := "isIdle", desc := "(I)Z" } : Jvm.MethodName)) ∈ TT := ttk_12 (List.mem_of_getElem? (i := 98) rfl) rfl
theorem t_12_99 : (Jvm.Cond.code ({ cls := "MiterhouseModel", name := "isIdle", desc := "(I)Z" } : Jvm.MethodName) prog_14_method_83_code (2 : Nat) (Option.some Jvm.ClassFile.FieldType.boolean)) ∈ TT := ttk_12 (List.mem_of_getElem? (i := 99) rfl) rfl
theorem t_12_100 : (Jvm.Cond.methodLink "MiterhouseLaw" (297 : Nat) ({ cls := "MiterhouseModel", name := "patch", desc := "(IIIII)I" } : Jvm.MethodName)) ∈ TT := ttk_12 (List.mem_of_getElem? (i := 100) rfl) rfl
theorem t_12_101 : (Jvm.Cond.instanceMethod ({ cls := "MiterhouseModel", name := "patch", desc := "(IIIII)I" } : Jvm.MethodName)) ∈ TT := ttk_12 (List.mem_of_getElem? (i := 101) rfl) rfl
theorem t_12_102 : (Jvm.Cond.selects "MiterhouseModel" ({ cls := "MiterhouseModel", name := "patch", desc := "(IIIII)I" } : Jvm.MethodName) ({ cls := "MiterhouseModel", name := "patch", desc := "(IIIII)I" } : Jvm.MethodName)) ∈ TT := ttk_12 (List.mem_of_getElem? (i := 102) rfl) rfl
theorem t_12_103 : (Jvm.Cond.code ({ cls := "MiterhouseModel", name := "patch", desc := "(IIIII)I" } : Jvm.MethodName) prog_14_method_86_code (13 : Nat) (Option.some Jvm.ClassFile.FieldType.int)) ∈ TT := ttk_12 (List.mem_of_getElem? (i := 103) rfl) rfl
theorem t_12_121 : (Jvm.Cond.arrayClass Jvm.ClassFile.FieldType.boolean) ∈ TT := ttk_12 (List.mem_of_getElem? (i := 121) rfl) rfl
theorem t_12_122 : (Jvm.Cond.methodLink "MiterhouseLaw" (300 : Nat) ({ cls := "MiterhouseModel", name := "correspond", desc := "(IIZ)Z" } : Jvm.MethodName)) ∈ TT := ttk_12 (List.mem_of_getElem? (i := 122) rfl) rfl
theorem t_12_123 : (Jvm.Cond.instanceMethod ({ cls := "MiterhouseModel", name := "correspond", desc := "(IIZ)Z" } : Jvm.MethodName)) ∈ TT := ttk_12 (List.mem_of_getElem? (i := 123) rfl) rfl
theorem t_12_124 : (Jvm.Cond.selects "MiterhouseModel" ({ cls := "MiterhouseModel", name := "correspond", desc := "(IIZ)Z" } : Jvm.MethodName) ({ cls := "MiterhouseModel", name := "correspond", desc := "(IIZ)Z" } : Jvm.MethodName)) ∈ TT := ttk_12 (List.mem_of_getElem? (i := 124) rfl) rfl
theorem t_12_125 : (Jvm.Cond.code ({ cls := "MiterhouseModel", name := "correspond", desc := "(IIZ)Z" } : Jvm.MethodName) prog_14_method_90_code (4 : Nat) (Option.some Jvm.ClassFile.FieldType.boolean)) ∈ TT := ttk_12 (List.mem_of_getElem? (i := 125) rfl) rfl
theorem t_12_136 : (Jvm.Cond.methodLink "MiterhouseLaw" (303 : Nat) ({ cls := "MiterhouseModel", name := "cellClasses", desc := "()I" } : Jvm.MethodName)) ∈ TT := ttk_12 (List.mem_of_getElem? (i := 136) rfl) rfl
theorem t_12_137 : (Jvm.Cond.instanceMethod ({ cls := "MiterhouseModel", name := "cellClasses", desc := "()I" } : Jvm.MethodName)) ∈ TT := ttk_12 (List.mem_of_getElem? (i := 137) rfl) rfl
theorem t_12_138 : (Jvm.Cond.selects "MiterhouseModel" ({ cls := "MiterhouseModel", name := "cellClasses", desc := "()I" } : Jvm.MethodName) ({ cls := "MiterhouseModel", name := "cellClasses", desc := "()I" } : Jvm.MethodName)) ∈ TT := ttk_12 (List.mem_of_getElem? (i := 138) rfl) rfl
theorem t_12_139 : (Jvm.Cond.code ({ cls := "MiterhouseModel", name := "cellClasses", desc := "()I" } : Jvm.MethodName) prog_14_method_91_code (4 : Nat) (Option.some Jvm.ClassFile.FieldType.int)) ∈ TT := ttk_12 (List.mem_of_getElem? (i := 139) rfl) rfl
theorem t_12_140 : (Jvm.Cond.methodLink "MiterhouseLaw" (306 : Nat) ({ cls := "MiterhouseModel", name := "reached", desc := "()I" } : Jvm.MethodName)) ∈ TT := ttk_12 (List.mem_of_getElem? (i := 140) rfl) rfl
theorem t_12_141 : (Jvm.Cond.instanceMethod ({ cls := "MiterhouseModel", name := "reached", desc := "()I" } : Jvm.MethodName)) ∈ TT := ttk_12 (List.mem_of_getElem? (i := 141) rfl) rfl
theorem t_12_142 : (Jvm.Cond.selects "MiterhouseModel" ({ cls := "MiterhouseModel", name := "reached", desc := "()I" } : Jvm.MethodName) ({ cls := "MiterhouseModel", name := "reached", desc := "()I" } : Jvm.MethodName)) ∈ TT := ttk_12 (List.mem_of_getElem? (i := 142) rfl) rfl
theorem t_12_143 : (Jvm.Cond.code ({ cls := "MiterhouseModel", name := "reached", desc := "()I" } : Jvm.MethodName) prog_14_method_98_code (2 : Nat) (Option.some Jvm.ClassFile.FieldType.int)) ∈ TT := ttk_12 (List.mem_of_getElem? (i := 143) rfl) rfl
theorem t_12_168 : (Jvm.Cond.methodLink "MiterhouseLaw" (309 : Nat) ({ cls := "MiterhouseModel", name := "difference", desc := "()I" } : Jvm.MethodName)) ∈ TT := ttk_12 (List.mem_of_getElem? (i := 168) rfl) rfl
theorem t_12_169 : (Jvm.Cond.instanceMethod ({ cls := "MiterhouseModel", name := "difference", desc := "()I" } : Jvm.MethodName)) ∈ TT := ttk_12 (List.mem_of_getElem? (i := 169) rfl) rfl
theorem t_12_170 : (Jvm.Cond.selects "MiterhouseModel" ({ cls := "MiterhouseModel", name := "difference", desc := "()I" } : Jvm.MethodName) ({ cls := "MiterhouseModel", name := "difference", desc := "()I" } : Jvm.MethodName)) ∈ TT := ttk_12 (List.mem_of_getElem? (i := 170) rfl) rfl
theorem t_12_171 : (Jvm.Cond.code ({ cls := "MiterhouseModel", name := "difference", desc := "()I" } : Jvm.MethodName) prog_14_method_99_code (1 : Nat) (Option.some Jvm.ClassFile.FieldType.int)) ∈ TT := ttk_12 (List.mem_of_getElem? (i := 171) rfl) rfl
theorem t_12_172 : (Jvm.Cond.methodLink "MiterhouseLaw" (312 : Nat) ({ cls := "MiterhouseModel", name := "trace", desc := "(I)I" } : Jvm.MethodName)) ∈ TT := ttk_12 (List.mem_of_getElem? (i := 172) rfl) rfl
theorem t_12_173 : (Jvm.Cond.instanceMethod ({ cls := "MiterhouseModel", name := "trace", desc := "(I)I" } : Jvm.MethodName)) ∈ TT := ttk_12 (List.mem_of_getElem? (i := 173) rfl) rfl
theorem t_12_174 : (Jvm.Cond.selects "MiterhouseModel" ({ cls := "MiterhouseModel", name := "trace", desc := "(I)I" } : Jvm.MethodName) ({ cls := "MiterhouseModel", name := "trace", desc := "(I)I" } : Jvm.MethodName)) ∈ TT := ttk_12 (List.mem_of_getElem? (i := 174) rfl) rfl
theorem t_12_175 : (Jvm.Cond.code ({ cls := "MiterhouseModel", name := "trace", desc := "(I)I" } : Jvm.MethodName) prog_14_method_100_code (6 : Nat) (Option.some Jvm.ClassFile.FieldType.int)) ∈ TT := ttk_12 (List.mem_of_getElem? (i := 175) rfl) rfl
theorem t_12_176 : (Jvm.Cond.methodLink "MiterhouseLaw" (315 : Nat) ({ cls := "MiterhouseModel", name := "isInductive", desc := "(I)Z" } : Jvm.MethodName)) ∈ TT := ttk_12 (List.mem_of_getElem? (i := 176) rfl) rfl
theorem t_12_177 : (Jvm.Cond.instanceMethod ({ cls := "MiterhouseModel", name := "isInductive", desc := "(I)Z" } : Jvm.MethodName)) ∈ TT := ttk_12 (List.mem_of_getElem? (i := 177) rfl) rfl
theorem t_12_178 : (Jvm.Cond.selects "MiterhouseModel" ({ cls := "MiterhouseModel", name := "isInductive", desc := "(I)Z" } : Jvm.MethodName) ({ cls := "MiterhouseModel", name := "isInductive", desc := "(I)Z" } : Jvm.MethodName)) ∈ TT := ttk_12 (List.mem_of_getElem? (i := 178) rfl) rfl
theorem t_12_179 : (Jvm.Cond.code ({ cls := "MiterhouseModel", name := "isInductive", desc := "(I)Z" } : Jvm.MethodName) prog_14_method_101_code (7 : Nat) (Option.some Jvm.ClassFile.FieldType.boolean)) ∈ TT := ttk_12 (List.mem_of_getElem? (i := 179) rfl) rfl
theorem t_12_183 : (Jvm.Cond.methodLink "MiterhouseLaw" (318 : Nat) ({ cls := "MiterhouseModel", name := "isInvariant", desc := "(I)Z" } : Jvm.MethodName)) ∈ TT := ttk_12 (List.mem_of_getElem? (i := 183) rfl) rfl
theorem t_12_184 : (Jvm.Cond.instanceMethod ({ cls := "MiterhouseModel", name := "isInvariant", desc := "(I)Z" } : Jvm.MethodName)) ∈ TT := ttk_12 (List.mem_of_getElem? (i := 184) rfl) rfl
theorem t_12_185 : (Jvm.Cond.selects "MiterhouseModel" ({ cls := "MiterhouseModel", name := "isInvariant", desc := "(I)Z" } : Jvm.MethodName) ({ cls := "MiterhouseModel", name := "isInvariant", desc := "(I)Z" } : Jvm.MethodName)) ∈ TT := ttk_12 (List.mem_of_getElem? (i := 185) rfl) rfl
theorem t_12_186 : (Jvm.Cond.code ({ cls := "MiterhouseModel", name := "isInvariant", desc := "(I)Z" } : Jvm.MethodName) prog_14_method_102_code (6 : Nat) (Option.some Jvm.ClassFile.FieldType.boolean)) ∈ TT := ttk_12 (List.mem_of_getElem? (i := 186) rfl) rfl
theorem t_12_187 : (Jvm.Cond.methodLink "MiterhouseLaw" (321 : Nat) ({ cls := "MiterhouseModel", name := "run", desc := "(III)I" } : Jvm.MethodName)) ∈ TT := ttk_12 (List.mem_of_getElem? (i := 187) rfl) rfl
theorem t_12_188 : (Jvm.Cond.instanceMethod ({ cls := "MiterhouseModel", name := "run", desc := "(III)I" } : Jvm.MethodName)) ∈ TT := ttk_12 (List.mem_of_getElem? (i := 188) rfl) rfl
theorem t_12_189 : (Jvm.Cond.selects "MiterhouseModel" ({ cls := "MiterhouseModel", name := "run", desc := "(III)I" } : Jvm.MethodName) ({ cls := "MiterhouseModel", name := "run", desc := "(III)I" } : Jvm.MethodName)) ∈ TT := ttk_12 (List.mem_of_getElem? (i := 189) rfl) rfl
theorem t_12_190 : (Jvm.Cond.code ({ cls := "MiterhouseModel", name := "run", desc := "(III)I" } : Jvm.MethodName) prog_14_method_103_code (8 : Nat) (Option.some Jvm.ClassFile.FieldType.int)) ∈ TT := ttk_12 (List.mem_of_getElem? (i := 190) rfl) rfl
theorem t_12_191 : (Jvm.Cond.methodLink "MiterhouseLaw" (325 : Nat) ({ cls := "MiterhouseModel", name := "lines", desc := "()I" } : Jvm.MethodName)) ∈ TT := ttk_12 (List.mem_of_getElem? (i := 191) rfl) rfl
theorem t_12_192 : (Jvm.Cond.instanceMethod ({ cls := "MiterhouseModel", name := "lines", desc := "()I" } : Jvm.MethodName)) ∈ TT := ttk_12 (List.mem_of_getElem? (i := 192) rfl) rfl
theorem t_12_193 : (Jvm.Cond.selects "MiterhouseModel" ({ cls := "MiterhouseModel", name := "lines", desc := "()I" } : Jvm.MethodName) ({ cls := "MiterhouseModel", name := "lines", desc := "()I" } : Jvm.MethodName)) ∈ TT := ttk_12 (List.mem_of_getElem? (i := 193) rfl) rfl
theorem t_12_194 : (Jvm.Cond.code ({ cls := "MiterhouseModel", name := "lines", desc := "()I" } : Jvm.MethodName) prog_14_method_104_code (1 : Nat) (Option.some Jvm.ClassFile.FieldType.int)) ∈ TT := ttk_12 (List.mem_of_getElem? (i := 194) rfl) rfl
theorem t_12_195 : (Jvm.Cond.methodLink "MiterhouseLaw" (329 : Nat) ({ cls := "MiterhouseModel", name := "mergedShare", desc := "()F" } : Jvm.MethodName)) ∈ TT := ttk_12 (List.mem_of_getElem? (i := 195) rfl) rfl
theorem t_12_196 : (Jvm.Cond.instanceMethod ({ cls := "MiterhouseModel", name := "mergedShare", desc := "()F" } : Jvm.MethodName)) ∈ TT := ttk_12 (List.mem_of_getElem? (i := 196) rfl) rfl
theorem t_12_197 : (Jvm.Cond.selects "MiterhouseModel" ({ cls := "MiterhouseModel", name := "mergedShare", desc := "()F" } : Jvm.MethodName) ({ cls := "MiterhouseModel", name := "mergedShare", desc := "()F" } : Jvm.MethodName)) ∈ TT := ttk_12 (List.mem_of_getElem? (i := 197) rfl) rfl
theorem t_12_198 : (Jvm.Cond.code ({ cls := "MiterhouseModel", name := "mergedShare", desc := "()F" } : Jvm.MethodName) prog_14_method_105_code (1 : Nat) (Option.some Jvm.ClassFile.FieldType.float)) ∈ TT := ttk_12 (List.mem_of_getElem? (i := 198) rfl) rfl
theorem t_12_199 : (Jvm.Cond.methodLink "MiterhouseLaw" (332 : Nat) ({ cls := "MiterhouseModel", name := "meanSeen", desc := "()D" } : Jvm.MethodName)) ∈ TT := ttk_12 (List.mem_of_getElem? (i := 199) rfl) rfl
theorem t_12_200 : (Jvm.Cond.instanceMethod ({ cls := "MiterhouseModel", name := "meanSeen", desc := "()D" } : Jvm.MethodName)) ∈ TT := ttk_12 (List.mem_of_getElem? (i := 200) rfl) rfl
theorem t_12_201 : (Jvm.Cond.selects "MiterhouseModel" ({ cls := "MiterhouseModel", name := "meanSeen", desc := "()D" } : Jvm.MethodName) ({ cls := "MiterhouseModel", name := "meanSeen", desc := "()D" } : Jvm.MethodName)) ∈ TT := ttk_12 (List.mem_of_getElem? (i := 201) rfl) rfl
theorem t_12_202 : (Jvm.Cond.code ({ cls := "MiterhouseModel", name := "meanSeen", desc := "()D" } : Jvm.MethodName) prog_14_method_106_code (5 : Nat) (Option.some Jvm.ClassFile.FieldType.double)) ∈ TT := ttk_12 (List.mem_of_getElem? (i := 202) rfl) rfl
theorem t_12_203 : (Jvm.Cond.methodLink "MiterhouseLaw" (337 : Nat) ({ cls := "MiterhouseModel", name := "isSound", desc := "()Z" } : Jvm.MethodName)) ∈ TT := ttk_12 (List.mem_of_getElem? (i := 203) rfl) rfl
theorem t_12_204 : (Jvm.Cond.instanceMethod ({ cls := "MiterhouseModel", name := "isSound", desc := "()Z" } : Jvm.MethodName)) ∈ TT := ttk_12 (List.mem_of_getElem? (i := 204) rfl) rfl
theorem t_12_205 : (Jvm.Cond.selects "MiterhouseModel" ({ cls := "MiterhouseModel", name := "isSound", desc := "()Z" } : Jvm.MethodName) ({ cls := "MiterhouseModel", name := "isSound", desc := "()Z" } : Jvm.MethodName)) ∈ TT := ttk_12 (List.mem_of_getElem? (i := 205) rfl) rfl
theorem t_12_206 : (Jvm.Cond.code ({ cls := "MiterhouseModel", name := "isSound", desc := "()Z" } : Jvm.MethodName) prog_14_method_107_code (1 : Nat) (Option.some Jvm.ClassFile.FieldType.boolean)) ∈ TT := ttk_12 (List.mem_of_getElem? (i := 206) rfl) rfl
theorem t_12_207 : (Jvm.Cond.arrayClass Jvm.ClassFile.FieldType.double) ∈ TT := ttk_12 (List.mem_of_getElem? (i := 207) rfl) rfl
theorem t_12_221 : (Jvm.Cond.castable "java/util/ArrayList" "java/lang/Object") ∈ TT := ttk_12 (List.mem_of_getElem? (i := 221) rfl) rfl
theorem t_12_226 : (Jvm.Cond.castable "MiterhouseModel$Line" "java/lang/Object") ∈ TT := ttk_12 (List.mem_of_getElem? (i := 226) rfl) rfl
theorem tts {q : MethodName × Nat} (h : q ∈ lw_privs) : Cond.selects q.1.cls q.1 q.1 ∈ TT := List.mem_filter.mpr ⟨List.mem_append_left _ (List.mem_map.mpr ⟨q, h, rfl⟩), rfl⟩
theorem ts_14 : Cond.selects "Miterhouse" ⟨"Miterhouse", "mustBeOpen", "()V"⟩ ⟨"Miterhouse", "mustBeOpen", "()V"⟩ ∈ TT := tts (q := (⟨"Miterhouse", "mustBeOpen", "()V"⟩, 3)) (List.mem_of_getElem? (i := 14) (by decide +kernel))
theorem ts_16 : Cond.selects "Miterhouse$Nets" ⟨"Miterhouse$Nets", "addLine", "(ICII)I"⟩ ⟨"Miterhouse$Nets", "addLine", "(ICII)I"⟩ ∈ TT := tts (q := (⟨"Miterhouse$Nets", "addLine", "(ICII)I"⟩, 13)) (List.mem_of_getElem? (i := 16) (by decide +kernel))
theorem ts_17 : Cond.selects "Miterhouse" ⟨"Miterhouse", "mustBeLine", "(I)V"⟩ ⟨"Miterhouse", "mustBeLine", "(I)V"⟩ ∈ TT := tts (q := (⟨"Miterhouse", "mustBeLine", "(I)V"⟩, 3)) (List.mem_of_getElem? (i := 17) (by decide +kernel))
theorem ts_24 : Cond.selects "Miterhouse" ⟨"Miterhouse", "mustBeClosed", "()LMiterhouse$Closed;"⟩ ⟨"Miterhouse", "mustBeClosed", "()LMiterhouse$Closed;"⟩ ∈ TT := tts (q := (⟨"Miterhouse", "mustBeClosed", "()LMiterhouse$Closed;"⟩, 3)) (List.mem_of_getElem? (i := 24) (by decide +kernel))
theorem ts_26 : Cond.selects "Miterhouse" ⟨"Miterhouse", "mustBeChoice", "(I)V"⟩ ⟨"Miterhouse", "mustBeChoice", "(I)V"⟩ ∈ TT := tts (q := (⟨"Miterhouse", "mustBeChoice", "(I)V"⟩, 3)) (List.mem_of_getElem? (i := 26) (by decide +kernel))
theorem ts_42 : Cond.selects "Miterhouse" ⟨"Miterhouse", "mustHaveCuts", "(II)LMiterhouse$Cuts;"⟩ ⟨"Miterhouse", "mustHaveCuts", "(II)LMiterhouse$Cuts;"⟩ ∈ TT := tts (q := (⟨"Miterhouse", "mustHaveCuts", "(II)LMiterhouse$Cuts;"⟩, 3)) (List.mem_of_getElem? (i := 42) (by decide +kernel))
theorem ts_50 : Cond.selects "Miterhouse" ⟨"Miterhouse", "polynomial", "(III)I"⟩ ⟨"Miterhouse", "polynomial", "(III)I"⟩ ∈ TT := tts (q := (⟨"Miterhouse", "polynomial", "(III)I"⟩, 3)) (List.mem_of_getElem? (i := 50) (by decide +kernel))
theorem ts_64 : Cond.selects "java/util/ArrayList" ⟨"java/util/ArrayList", "add", "(Ljava/lang/Object;[Ljava/lang/Object;I)V"⟩ ⟨"java/util/ArrayList", "add", "(Ljava/lang/Object;[Ljava/lang/Object;I)V"⟩ ∈ TT := tts (q := (⟨"java/util/ArrayList", "add", "(Ljava/lang/Object;[Ljava/lang/Object;I)V"⟩, 3)) (List.mem_of_getElem? (i := 64) (by decide +kernel))
theorem ts_65 : Cond.selects "java/util/ArrayList" ⟨"java/util/ArrayList", "grow", "()[Ljava/lang/Object;"⟩ ⟨"java/util/ArrayList", "grow", "()[Ljava/lang/Object;"⟩ ∈ TT := tts (q := (⟨"java/util/ArrayList", "grow", "()[Ljava/lang/Object;"⟩, 3)) (List.mem_of_getElem? (i := 65) (by decide +kernel))
theorem ts_66 : Cond.selects "java/util/ArrayList" ⟨"java/util/ArrayList", "grow", "(I)[Ljava/lang/Object;"⟩ ⟨"java/util/ArrayList", "grow", "(I)[Ljava/lang/Object;"⟩ ∈ TT := tts (q := (⟨"java/util/ArrayList", "grow", "(I)[Ljava/lang/Object;"⟩, 3)) (List.mem_of_getElem? (i := 66) (by decide +kernel))
theorem ts_67 : Cond.selects "MiterhouseModel" ⟨"MiterhouseModel", "isThrown", "(ZI)Z"⟩ ⟨"MiterhouseModel", "isThrown", "(ZI)Z"⟩ ∈ TT := tts (q := (⟨"MiterhouseModel", "isThrown", "(ZI)Z"⟩, 31)) (List.mem_of_getElem? (i := 67) (by decide +kernel))
theorem ts_68 : Cond.selects "MiterhouseModel" ⟨"MiterhouseModel", "inputs", "()I"⟩ ⟨"MiterhouseModel", "inputs", "()I"⟩ ∈ TT := tts (q := (⟨"MiterhouseModel", "inputs", "()I"⟩, 31)) (List.mem_of_getElem? (i := 68) (by decide +kernel))
theorem ts_69 : Cond.selects "MiterhouseModel" ⟨"MiterhouseModel", "add", "(LMiterhouseModel$Line;)LMiterhouseModel$Line;"⟩ ⟨"MiterhouseModel", "add", "(LMiterhouseModel$Line;)LMiterhouseModel$Line;"⟩ ∈ TT := tts (q := (⟨"MiterhouseModel", "add", "(LMiterhouseModel$Line;)LMiterhouseModel$Line;"⟩, 31)) (List.mem_of_getElem? (i := 69) (by decide +kernel))
theorem ts_70 : Cond.selects "MiterhouseModel" ⟨"MiterhouseModel", "named", "(II)LMiterhouseModel$Line;"⟩ ⟨"MiterhouseModel", "named", "(II)LMiterhouseModel$Line;"⟩ ∈ TT := tts (q := (⟨"MiterhouseModel", "named", "(II)LMiterhouseModel$Line;"⟩, 31)) (List.mem_of_getElem? (i := 70) (by decide +kernel))
theorem ts_71 : Cond.selects "MiterhouseModel" ⟨"MiterhouseModel", "cellsOf", "(I)I"⟩ ⟨"MiterhouseModel", "cellsOf", "(I)I"⟩ ∈ TT := tts (q := (⟨"MiterhouseModel", "cellsOf", "(I)I"⟩, 31)) (List.mem_of_getElem? (i := 71) (by decide +kernel))
theorem ts_72 : Cond.selects "MiterhouseModel" ⟨"MiterhouseModel", "isLine", "(I)Z"⟩ ⟨"MiterhouseModel", "isLine", "(I)Z"⟩ ∈ TT := tts (q := (⟨"MiterhouseModel", "isLine", "(I)Z"⟩, 31)) (List.mem_of_getElem? (i := 72) (by decide +kernel))
theorem ts_78 : Cond.selects "MiterhouseModel" ⟨"MiterhouseModel", "isChoice", "(I)Z"⟩ ⟨"MiterhouseModel", "isChoice", "(I)Z"⟩ ∈ TT := tts (q := (⟨"MiterhouseModel", "isChoice", "(I)Z"⟩, 31)) (List.mem_of_getElem? (i := 78) (by decide +kernel))
theorem ts_79 : Cond.selects "MiterhouseModel" ⟨"MiterhouseModel", "isNoLine", "(I)Z"⟩ ⟨"MiterhouseModel", "isNoLine", "(I)Z"⟩ ∈ TT := tts (q := (⟨"MiterhouseModel", "isNoLine", "(I)Z"⟩, 31)) (List.mem_of_getElem? (i := 79) (by decide +kernel))
theorem ts_87 : Cond.selects "MiterhouseModel" ⟨"MiterhouseModel", "areNoLines", "(II)Z"⟩ ⟨"MiterhouseModel", "areNoLines", "(II)Z"⟩ ∈ TT := tts (q := (⟨"MiterhouseModel", "areNoLines", "(II)Z"⟩, 31)) (List.mem_of_getElem? (i := 87) (by decide +kernel))
theorem ts_95 : Cond.selects "MiterhouseModel" ⟨"MiterhouseModel", "isNoNode", "(II)Z"⟩ ⟨"MiterhouseModel", "isNoNode", "(II)Z"⟩ ∈ TT := tts (q := (⟨"MiterhouseModel", "isNoNode", "(II)Z"⟩, 31)) (List.mem_of_getElem? (i := 95) (by decide +kernel))
theorem ts_100 : Cond.selects "MiterhouseModel" ⟨"MiterhouseModel", "wordOf", "(IIII)I"⟩ ⟨"MiterhouseModel", "wordOf", "(IIII)I"⟩ ∈ TT := tts (q := (⟨"MiterhouseModel", "wordOf", "(IIII)I"⟩, 31)) (List.mem_of_getElem? (i := 100) (by decide +kernel))
def cT_0 : u_T := fun k => match k with
  | 0 => ("Miterhouse", "nets", "LMiterhouse$Nets;", true)
  | 1 => ("Miterhouse", "coefficients", "[I", true)
  | _ => ("Miterhouse", "house", "LMiterhouse$Closed;", false)
def cY_0 : Nat → FieldType := fun k => match k with
  | 0 => (.object "Miterhouse$Nets")
  | 1 => (.array .int)
  | _ => (.object "Miterhouse$Closed")
def cT_1 : u_T := fun k => match k with
  | 0 => ("Miterhouse$Nets", "kinds", "[C", true)
  | 1 => ("Miterhouse$Nets", "owners", "[I", true)
  | 2 => ("Miterhouse$Nets", "ones", "[I", true)
  | 3 => ("Miterhouse$Nets", "twos", "[I", true)
  | 4 => ("Miterhouse$Nets", "firsts", "[I", true)
  | 5 => ("Miterhouse$Nets", "names", "[I", true)
  | 6 => ("Miterhouse$Nets", "outputs", "[I", true)
  | 7 => ("Miterhouse$Nets", "outputCounts", "[I", true)
  | 8 => ("Miterhouse$Nets", "cellCounts", "[I", true)
  | 9 => ("Miterhouse$Nets", "sources", "[I", true)
  | 10 => ("Miterhouse$Nets", "marks", "[I", true)
  | 11 => ("Miterhouse$Nets", "lines", "I", false)
  | _ => ("Miterhouse$Nets", "inputs", "I", false)
def cY_1 : Nat → FieldType := fun k => match k with
  | 0 => (.array .char)
  | 1 => (.array .int)
  | 2 => (.array .int)
  | 3 => (.array .int)
  | 4 => (.array .int)
  | 5 => (.array .int)
  | 6 => (.array .int)
  | 7 => (.array .int)
  | 8 => (.array .int)
  | 9 => (.array .int)
  | 10 => (.array .int)
  | 11 => .int
  | _ => .int
def cT_2 : u_T := fun k => match k with
  | 0 => ("MiterhouseModel", "lines", "Ljava/util/ArrayList;", true)
  | 1 => ("MiterhouseModel", "sources", "Ljava/util/ArrayList;", true)
  | 2 => ("MiterhouseModel", "outputs", "Ljava/util/ArrayList;", true)
  | 3 => ("MiterhouseModel", "constraints", "Ljava/util/ArrayList;", true)
  | 4 => ("MiterhouseModel", "ands", "Ljava/util/ArrayList;", true)
  | 5 => ("MiterhouseModel", "patterns", "[I", true)
  | 6 => ("MiterhouseModel", "values", "[I", true)
  | 7 => ("MiterhouseModel", "polynomials", "[[[I", true)
  | 8 => ("MiterhouseModel", "kept", "[J", false)
  | 9 => ("MiterhouseModel", "order", "[I", false)
  | 10 => ("MiterhouseModel", "patternCount", "I", false)
  | 11 => ("MiterhouseModel", "words", "I", false)
  | 12 => ("MiterhouseModel", "leaves", "I", false)
  | 13 => ("MiterhouseModel", "budget", "I", false)
  | 14 => ("MiterhouseModel", "witness", "I", false)
  | 15 => ("MiterhouseModel", "thrown", "I", false)
  | 16 => ("MiterhouseModel", "isClosed", "Z", false)
  | 17 => ("MiterhouseModel", "keys", "[J", true)
  | 18 => ("MiterhouseModel", "ids", "[I", true)
  | 19 => ("MiterhouseModel", "spots", "[I", true)
  | 20 => ("MiterhouseModel", "row", "[I", false)
  | 21 => ("MiterhouseModel", "nodes", "I", false)
  | 22 => ("MiterhouseModel", "used", "I", false)
  | 23 => ("MiterhouseModel", "classes", "[I", true)
  | 24 => ("MiterhouseModel", "states", "[I", true)
  | 25 => ("MiterhouseModel", "parents", "[I", true)
  | 26 => ("MiterhouseModel", "by", "[I", true)
  | 27 => ("MiterhouseModel", "steps", "[I", true)
  | 28 => ("MiterhouseModel", "stateCount", "I", false)
  | 29 => ("MiterhouseModel", "lastState", "I", false)
  | _ => ("MiterhouseModel", "lastInputs", "I", false)
def cY_2 : Nat → FieldType := fun k => match k with
  | 0 => (.object "java/util/ArrayList")
  | 1 => (.object "java/util/ArrayList")
  | 2 => (.object "java/util/ArrayList")
  | 3 => (.object "java/util/ArrayList")
  | 4 => (.object "java/util/ArrayList")
  | 5 => (.array .int)
  | 6 => (.array .int)
  | 7 => (.array (.array (.array .int)))
  | 8 => (.array .long)
  | 9 => (.array .int)
  | 10 => .int
  | 11 => .int
  | 12 => .int
  | 13 => .int
  | 14 => .int
  | 15 => .int
  | 16 => .boolean
  | 17 => (.array .long)
  | 18 => (.array .int)
  | 19 => (.array .int)
  | 20 => (.array .int)
  | 21 => .int
  | 22 => .int
  | 23 => (.array .int)
  | 24 => (.array .int)
  | 25 => (.array .int)
  | 26 => (.array .int)
  | 27 => (.array .int)
  | 28 => .int
  | 29 => .int
  | _ => .int
def cT_3 : u_T := fun k => match k with
  | 0 => ("MiterhouseModel$Line", "number", "I", true)
  | 1 => ("MiterhouseModel$Line", "net", "I", true)
  | 2 => ("MiterhouseModel$Line", "first", "I", true)
  | 3 => ("MiterhouseModel$Line", "name", "I", true)
  | 4 => ("MiterhouseModel$Line", "kind", "C", true)
  | 5 => ("MiterhouseModel$Line", "one", "LMiterhouseModel$Line;", true)
  | 6 => ("MiterhouseModel$Line", "two", "LMiterhouseModel$Line;", true)
  | 7 => ("MiterhouseModel$Line", "hasCell", "Z", true)
  | 8 => ("MiterhouseModel$Line", "bits", "[J", false)
  | 9 => ("MiterhouseModel$Line", "data", "LMiterhouseModel$Line;", false)
  | 10 => ("MiterhouseModel$Line", "source", "I", false)
  | 11 => ("MiterhouseModel$Line", "literal", "I", false)
  | 12 => ("MiterhouseModel$Line", "mergedInto", "I", false)
  | _ => ("MiterhouseModel$Line", "proof", "J", false)
def cY_3 : Nat → FieldType := fun k => match k with
  | 0 => .int
  | 1 => .int
  | 2 => .int
  | 3 => .int
  | 4 => .char
  | 5 => (.object "MiterhouseModel$Line")
  | 6 => (.object "MiterhouseModel$Line")
  | 7 => .boolean
  | 8 => (.array .long)
  | 9 => (.object "MiterhouseModel$Line")
  | 10 => .int
  | 11 => .int
  | 12 => .int
  | _ => .long
def cT_4 : u_T := fun k => match k with
  | 0 => ("java/util/ArrayList", "elementData", "[Ljava/lang/Object;", false)
  | 1 => ("java/util/ArrayList", "size", "I", false)
  | _ => ("java/util/AbstractList", "modCount", "I", false)
def cY_4 : Nat → FieldType := fun k => match k with
  | 0 => (.array (.object "java/lang/Object"))
  | 1 => .int
  | _ => .int
def cT_5 : u_T := fun k => match k with
  | 0 => ("java/util/ArrayList$Itr", "cursor", "I", false)
  | 1 => ("java/util/ArrayList$Itr", "lastRet", "I", false)
  | 2 => ("java/util/ArrayList$Itr", "expectedModCount", "I", false)
  | _ => ("java/util/ArrayList$Itr", "this$0", "Ljava/util/ArrayList;", true)
def cY_5 : Nat → FieldType := fun k => match k with
  | 0 => .int
  | 1 => .int
  | 2 => .int
  | _ => (.object "java/util/ArrayList")
def cl6 : List vw_C := [("Miterhouse", cT_0, 3), ("Miterhouse$Nets", cT_1, 13), ("MiterhouseModel", cT_2, 31), ("MiterhouseModel$Line", cT_3, 14), ("java/util/ArrayList", cT_4, 3), ("java/util/ArrayList$Itr", cT_5, 4)]
theorem cU_0 : u_ws "Miterhouse" cT_0 3 = [(Jvm.Cond.laysFinal "Miterhouse" "Miterhouse" "nets" "LMiterhouse$Nets;"), (Jvm.Cond.laysFinal "Miterhouse" "Miterhouse" "coefficients" "[I"), (Jvm.Cond.lays "Miterhouse" "Miterhouse" "house" "LMiterhouse$Closed;")] := by decide +kernel
theorem cK_0 : cOK TT cl6 0 "Miterhouse" cT_0 3 cY_0 := ⟨rfl, by rw [cU_0]; exact (List.forall_mem_cons.mpr ⟨t_1_113, (List.forall_mem_cons.mpr ⟨t_1_115, (List.forall_mem_cons.mpr ⟨t_1_117, (fun _ h => absurd h List.not_mem_nil)⟩)⟩)⟩), by decide +kernel, by decide +kernel⟩
theorem cU_1 : u_ws "Miterhouse$Nets" cT_1 13 = [(Jvm.Cond.laysFinal "Miterhouse$Nets" "Miterhouse$Nets" "kinds" "[C"), (Jvm.Cond.laysFinal "Miterhouse$Nets" "Miterhouse$Nets" "owners" "[I"), (Jvm.Cond.laysFinal "Miterhouse$Nets" "Miterhouse$Nets" "ones" "[I"), (Jvm.Cond.laysFinal "Miterhouse$Nets" "Miterhouse$Nets" "twos" "[I"), (Jvm.Cond.laysFinal "Miterhouse$Nets" "Miterhouse$Nets" "firsts" "[I"), (Jvm.Cond.laysFinal "Miterhouse$Nets" "Miterhouse$Nets" "names" "[I"), (Jvm.Cond.laysFinal "Miterhouse$Nets" "Miterhouse$Nets" "outputs" "[I"), (Jvm.Cond.laysFinal "Miterhouse$Nets" "Miterhouse$Nets" "outputCounts" "[I"), (Jvm.Cond.laysFinal "Miterhouse$Nets" "Miterhouse$Nets" "cellCounts" "[I"), (Jvm.Cond.laysFinal "Miterhouse$Nets" "Miterhouse$Nets" "sources" "[I"), (Jvm.Cond.laysFinal "Miterhouse$Nets" "Miterhouse$Nets" "marks" "[I"), (Jvm.Cond.lays "Miterhouse$Nets" "Miterhouse$Nets" "lines" "I"), (Jvm.Cond.lays "Miterhouse$Nets" "Miterhouse$Nets" "inputs" "I")] := by decide +kernel
theorem cK_1 : cOK TT cl6 1 "Miterhouse$Nets" cT_1 13 cY_1 := ⟨rfl, by rw [cU_1]; exact (List.forall_mem_cons.mpr ⟨t_1_81, (List.forall_mem_cons.mpr ⟨t_1_83, (List.forall_mem_cons.mpr ⟨t_1_85, (List.forall_mem_cons.mpr ⟨t_1_87, (List.forall_mem_cons.mpr ⟨t_1_89, (List.forall_mem_cons.mpr ⟨t_1_91, (List.forall_mem_cons.mpr ⟨t_1_93, (List.forall_mem_cons.mpr ⟨t_1_95, (List.forall_mem_cons.mpr ⟨t_1_97, (List.forall_mem_cons.mpr ⟨t_1_99, (List.forall_mem_cons.mpr ⟨t_1_101, (List.forall_mem_cons.mpr ⟨t_1_103, (List.forall_mem_cons.mpr ⟨t_1_105, (fun _ h => absurd h List.not_mem_nil)⟩)⟩)⟩)⟩)⟩)⟩)⟩)⟩)⟩)⟩)⟩)⟩)⟩), by decide +kernel, by decide +kernel⟩
theorem cU_2 : u_ws "MiterhouseModel" cT_2 31 = [(Jvm.Cond.laysFinal "MiterhouseModel" "MiterhouseModel" "lines" "Ljava/util/ArrayList;"), (Jvm.Cond.laysFinal "MiterhouseModel" "MiterhouseModel" "sources" "Ljava/util/ArrayList;"), (Jvm.Cond.laysFinal "MiterhouseModel" "MiterhouseModel" "outputs" "Ljava/util/ArrayList;"), (Jvm.Cond.laysFinal "MiterhouseModel" "MiterhouseModel" "constraints" "Ljava/util/ArrayList;"), (Jvm.Cond.laysFinal "MiterhouseModel" "MiterhouseModel" "ands" "Ljava/util/ArrayList;"), (Jvm.Cond.laysFinal "MiterhouseModel" "MiterhouseModel" "patterns" "[I"), (Jvm.Cond.laysFinal "MiterhouseModel" "MiterhouseModel" "values" "[I"), (Jvm.Cond.laysFinal "MiterhouseModel" "MiterhouseModel" "polynomials" "[[[I"), (Jvm.Cond.lays "MiterhouseModel" "MiterhouseModel" "kept" "[J"), (Jvm.Cond.lays "MiterhouseModel" "MiterhouseModel" "order" "[I"), (Jvm.Cond.lays "MiterhouseModel" "MiterhouseModel" "patternCount" "I"), (Jvm.Cond.lays "MiterhouseModel" "MiterhouseModel" "words" "I"), (Jvm.Cond.lays "MiterhouseModel" "MiterhouseModel" "leaves" "I"), (Jvm.Cond.lays "MiterhouseModel" "MiterhouseModel" "budget" "I"), (Jvm.Cond.lays "MiterhouseModel" "MiterhouseModel" "witness" "I"), (Jvm.Cond.lays "MiterhouseModel" "MiterhouseModel" "thrown" "I"), (Jvm.Cond.lays "MiterhouseModel" "MiterhouseModel" "isClosed" "Z"), (Jvm.Cond.laysFinal "MiterhouseModel" "MiterhouseModel" "keys" "[J"), (Jvm.Cond.laysFinal "MiterhouseModel" "MiterhouseModel" "ids" "[I"), (Jvm.Cond.laysFinal "MiterhouseModel" "MiterhouseModel" "spots" "[I"), (Jvm.Cond.lays "MiterhouseModel" "MiterhouseModel" "row" "[I"), (Jvm.Cond.lays "MiterhouseModel" "MiterhouseModel" "nodes" "I"), (Jvm.Cond.lays "MiterhouseModel" "MiterhouseModel" "used" "I"), (Jvm.Cond.laysFinal "MiterhouseModel" "MiterhouseModel" "classes" "[I"), (Jvm.Cond.laysFinal "MiterhouseModel" "MiterhouseModel" "states" "[I"), (Jvm.Cond.laysFinal "MiterhouseModel" "MiterhouseModel" "parents" "[I"), (Jvm.Cond.laysFinal "MiterhouseModel" "MiterhouseModel" "by" "[I"), (Jvm.Cond.laysFinal "MiterhouseModel" "MiterhouseModel" "steps" "[I"), (Jvm.Cond.lays "MiterhouseModel" "MiterhouseModel" "stateCount" "I"), (Jvm.Cond.lays "MiterhouseModel" "MiterhouseModel" "lastState" "I"), (Jvm.Cond.lays "MiterhouseModel" "MiterhouseModel" "lastInputs" "I")] := by decide +kernel
theorem cK_2 : cOK TT cl6 2 "MiterhouseModel" cT_2 31 cY_2 := ⟨rfl, by rw [cU_2]; exact (List.forall_mem_cons.mpr ⟨t_9_33, (List.forall_mem_cons.mpr ⟨t_9_35, (List.forall_mem_cons.mpr ⟨t_9_37, (List.forall_mem_cons.mpr ⟨t_9_39, (List.forall_mem_cons.mpr ⟨t_9_41, (List.forall_mem_cons.mpr ⟨t_9_43, (List.forall_mem_cons.mpr ⟨t_9_45, (List.forall_mem_cons.mpr ⟨t_9_47, (List.forall_mem_cons.mpr ⟨t_9_49, (List.forall_mem_cons.mpr ⟨t_9_51, (List.forall_mem_cons.mpr ⟨t_9_53, (List.forall_mem_cons.mpr ⟨t_9_55, (List.forall_mem_cons.mpr ⟨t_9_57, (List.forall_mem_cons.mpr ⟨t_9_59, (List.forall_mem_cons.mpr ⟨t_9_61, (List.forall_mem_cons.mpr ⟨t_9_63, (List.forall_mem_cons.mpr ⟨t_9_65, (List.forall_mem_cons.mpr ⟨t_9_67, (List.forall_mem_cons.mpr ⟨t_9_69, (List.forall_mem_cons.mpr ⟨t_9_71, (List.forall_mem_cons.mpr ⟨t_9_73, (List.forall_mem_cons.mpr ⟨t_9_75, (List.forall_mem_cons.mpr ⟨t_9_77, (List.forall_mem_cons.mpr ⟨t_9_79, (List.forall_mem_cons.mpr ⟨t_9_81, (List.forall_mem_cons.mpr ⟨t_9_83, (List.forall_mem_cons.mpr ⟨t_9_85, (List.forall_mem_cons.mpr ⟨t_9_87, (List.forall_mem_cons.mpr ⟨t_9_89, (List.forall_mem_cons.mpr ⟨t_9_91, (List.forall_mem_cons.mpr ⟨t_9_93, (fun _ h => absurd h List.not_mem_nil)⟩)⟩)⟩)⟩)⟩)⟩)⟩)⟩)⟩)⟩)⟩)⟩)⟩)⟩)⟩)⟩)⟩)⟩)⟩)⟩)⟩)⟩)⟩)⟩)⟩)⟩)⟩)⟩)⟩)⟩)⟩), by decide +kernel, by decide +kernel⟩
theorem cU_3 : u_ws "MiterhouseModel$Line" cT_3 14 = [(Jvm.Cond.laysFinal "MiterhouseModel$Line" "MiterhouseModel$Line" "number" "I"), (Jvm.Cond.laysFinal "MiterhouseModel$Line" "MiterhouseModel$Line" "net" "I"), (Jvm.Cond.laysFinal "MiterhouseModel$Line" "MiterhouseModel$Line" "first" "I"), (Jvm.Cond.laysFinal "MiterhouseModel$Line" "MiterhouseModel$Line" "name" "I"), (Jvm.Cond.laysFinal "MiterhouseModel$Line" "MiterhouseModel$Line" "kind" "C"), (Jvm.Cond.laysFinal "MiterhouseModel$Line" "MiterhouseModel$Line" "one" "LMiterhouseModel$Line;"), (Jvm.Cond.laysFinal "MiterhouseModel$Line" "MiterhouseModel$Line" "two" "LMiterhouseModel$Line;"), (Jvm.Cond.laysFinal "MiterhouseModel$Line" "MiterhouseModel$Line" "hasCell" "Z"), (Jvm.Cond.lays "MiterhouseModel$Line" "MiterhouseModel$Line" "bits" "[J"), (Jvm.Cond.lays "MiterhouseModel$Line" "MiterhouseModel$Line" "data" "LMiterhouseModel$Line;"), (Jvm.Cond.lays "MiterhouseModel$Line" "MiterhouseModel$Line" "source" "I"), (Jvm.Cond.lays "MiterhouseModel$Line" "MiterhouseModel$Line" "literal" "I"), (Jvm.Cond.lays "MiterhouseModel$Line" "MiterhouseModel$Line" "mergedInto" "I"), (Jvm.Cond.lays "MiterhouseModel$Line" "MiterhouseModel$Line" "proof" "J")] := by decide +kernel
theorem cK_3 : cOK TT cl6 3 "MiterhouseModel$Line" cT_3 14 cY_3 := ⟨rfl, by rw [cU_3]; exact (List.forall_mem_cons.mpr ⟨t_9_203, (List.forall_mem_cons.mpr ⟨t_9_205, (List.forall_mem_cons.mpr ⟨t_9_207, (List.forall_mem_cons.mpr ⟨t_9_209, (List.forall_mem_cons.mpr ⟨t_9_211, (List.forall_mem_cons.mpr ⟨t_9_213, (List.forall_mem_cons.mpr ⟨t_9_215, (List.forall_mem_cons.mpr ⟨t_9_217, (List.forall_mem_cons.mpr ⟨t_9_219, (List.forall_mem_cons.mpr ⟨t_9_221, (List.forall_mem_cons.mpr ⟨t_9_223, (List.forall_mem_cons.mpr ⟨t_9_225, (List.forall_mem_cons.mpr ⟨t_9_227, (List.forall_mem_cons.mpr ⟨t_9_229, (fun _ h => absurd h List.not_mem_nil)⟩)⟩)⟩)⟩)⟩)⟩)⟩)⟩)⟩)⟩)⟩)⟩)⟩)⟩), by decide +kernel, by decide +kernel⟩
theorem cU_4 : u_ws "java/util/ArrayList" cT_4 3 = [(Jvm.Cond.lays "java/util/ArrayList" "java/util/ArrayList" "elementData" "[Ljava/lang/Object;"), (Jvm.Cond.lays "java/util/ArrayList" "java/util/ArrayList" "size" "I"), (Jvm.Cond.lays "java/util/ArrayList" "java/util/AbstractList" "modCount" "I")] := by decide +kernel
theorem cK_4 : cOK TT cl6 4 "java/util/ArrayList" cT_4 3 cY_4 := ⟨rfl, by rw [cU_4]; exact (List.forall_mem_cons.mpr ⟨t_8_167, (List.forall_mem_cons.mpr ⟨t_8_169, (List.forall_mem_cons.mpr ⟨t_8_171, (fun _ h => absurd h List.not_mem_nil)⟩)⟩)⟩), by decide +kernel, by decide +kernel⟩
theorem cU_5 : u_ws "java/util/ArrayList$Itr" cT_5 4 = [(Jvm.Cond.lays "java/util/ArrayList$Itr" "java/util/ArrayList$Itr" "cursor" "I"), (Jvm.Cond.lays "java/util/ArrayList$Itr" "java/util/ArrayList$Itr" "lastRet" "I"), (Jvm.Cond.lays "java/util/ArrayList$Itr" "java/util/ArrayList$Itr" "expectedModCount" "I"), (Jvm.Cond.laysFinal "java/util/ArrayList$Itr" "java/util/ArrayList$Itr" "this$0" "Ljava/util/ArrayList;")] := by decide +kernel
theorem cK_5 : cOK TT cl6 5 "java/util/ArrayList$Itr" cT_5 4 cY_5 := ⟨rfl, by rw [cU_5]; exact (List.forall_mem_cons.mpr ⟨t_9_130, (List.forall_mem_cons.mpr ⟨t_9_132, (List.forall_mem_cons.mpr ⟨t_9_134, (List.forall_mem_cons.mpr ⟨t_9_136, (fun _ h => absurd h List.not_mem_nil)⟩)⟩)⟩)⟩), by decide +kernel, by decide +kernel⟩
theorem tmaxC : Cond.code Lib.Math.max.name Lib.Math.max.code 2 (some .int) ∈ TT := ttk_3 (List.mem_of_getElem? (i := 153) (by decide +kernel)) (by decide +kernel)
theorem tmaxS : Cond.static Lib.Math.max.name ∈ TT := ttk_3 (List.mem_of_getElem? (i := 152) (by decide +kernel)) (by decide +kernel)
theorem tminC : Cond.code Lib.Math.min.name Lib.Math.min.code 2 (some .int) ∈ TT := ttk_3 (List.mem_of_getElem? (i := 150) (by decide +kernel)) (by decide +kernel)
theorem tminS : Cond.static Lib.Math.min.name ∈ TT := ttk_3 (List.mem_of_getElem? (i := 149) (by decide +kernel)) (by decide +kernel)
theorem tminL_0 : Cond.methodLink "Miterhouse$Cuts" 125 Lib.Math.min.name ∈ TT := ttk_7 (List.mem_of_getElem? (i := 31) (by decide +kernel)) (by decide +kernel)
theorem tminL_1 : Cond.methodLink "MiterhouseModel" 226 Lib.Math.min.name ∈ TT := ttk_10 (List.mem_of_getElem? (i := 78) (by decide +kernel)) (by decide +kernel)
theorem tmaxL_2 : Cond.methodLink "java/util/ArrayList" 79 Lib.Math.max.name ∈ TT := ttk_9 (List.mem_of_getElem? (i := 0) (by decide +kernel)) (by decide +kernel)
theorem tin_0 : Cond.instantiable "Miterhouse" 3 ∈ TT := t_1_44
theorem tin_1 : Cond.instantiable "Miterhouse$Nets" 13 ∈ TT := t_1_52
theorem tin_2 : Cond.instantiable "MiterhouseModel" 31 ∈ TT := t_8_140
theorem tin_3 : Cond.instantiable "MiterhouseModel$Line" 14 ∈ TT := t_9_174
theorem tin_4 : Cond.instantiable "java/util/ArrayList" 3 ∈ TT := t_8_146
theorem tin_5 : Cond.instantiable "java/util/ArrayList$Itr" 4 ∈ TT := t_9_121
theorem nwTT : kNw TT := ⟨(t_1_109), (t_12_121), (t_1_108), (t_3_207), (t_12_207)⟩
def exn : List String := ["java/lang/RuntimeException", "java/lang/Exception"]
theorem thr_in {ws : List Cond} (h : ws.all (fun w => mj_pw w && lw_tbl.contains w) = true) : ∀ w ∈ ws, w ∈ TT := fun w hw => by
  have h1 := List.all_eq_true.mp h w hw
  rw [Bool.and_eq_true] at h1
  exact List.mem_filter.mpr ⟨List.contains_iff_mem.mp h1.2, h1.1⟩
end TT1
