section TT1
noncomputable def TT : List Cond := lw_tbl.filter mj_pw
theorem pwTT : ∀ w ∈ TT, mj_pw w = true := fun w h => (List.mem_filter.mp h).2
theorem ttk_1 {w : Cond} (h : w ∈ tables_1_1) (hp : mj_pw w = true) : w ∈ TT := List.mem_filter.mpr ⟨List.mem_append_right _ (List.mem_append_left _ h), hp⟩
theorem ttk_2 {w : Cond} (h : w ∈ tables_1_2) (hp : mj_pw w = true) : w ∈ TT := List.mem_filter.mpr ⟨List.mem_append_right _ (List.mem_append_right _ (List.mem_append_left _ h)), hp⟩
theorem ttk_3 {w : Cond} (h : w ∈ tables_1_3) (hp : mj_pw w = true) : w ∈ TT := List.mem_filter.mpr ⟨List.mem_append_right _ (List.mem_append_right _ (List.mem_append_right _ (List.mem_append_left _ h))), hp⟩
theorem ttk_4 {w : Cond} (h : w ∈ tables_1_4) (hp : mj_pw w = true) : w ∈ TT := List.mem_filter.mpr ⟨List.mem_append_right _ (List.mem_append_right _ (List.mem_append_right _ (List.mem_append_right _ (List.mem_append_left _ h)))), hp⟩
theorem ttk_5 {w : Cond} (h : w ∈ tables_1_5) (hp : mj_pw w = true) : w ∈ TT := List.mem_filter.mpr ⟨List.mem_append_right _ (List.mem_append_right _ (List.mem_append_right _ (List.mem_append_right _ (List.mem_append_right _ (List.mem_append_left _ h))))), hp⟩
theorem ttk_6 {w : Cond} (h : w ∈ tables_1_6) (hp : mj_pw w = true) : w ∈ TT := List.mem_filter.mpr ⟨List.mem_append_right _ (List.mem_append_right _ (List.mem_append_right _ (List.mem_append_right _ (List.mem_append_right _ (List.mem_append_right _ (h)))))), hp⟩
theorem t_1_0 : (Jvm.Cond.initialized "MiterhouseLaw") ∈ TT := ttk_1 (List.mem_of_getElem? (i := 0) rfl) rfl
theorem t_1_1 : (Jvm.Cond.initialized "Miterhouse") ∈ TT := ttk_1 (List.mem_of_getElem? (i := 1) rfl) rfl
theorem t_1_2 : (Jvm.Cond.initialized "Miterhouse$Nets") ∈ TT := ttk_1 (List.mem_of_getElem? (i := 2) rfl) rfl
theorem t_1_6 : (Jvm.Cond.initialized "java/lang/UnsupportedOperationException") ∈ TT := ttk_1 (List.mem_of_getElem? (i := 6) rfl) rfl
theorem t_1_7 : (Jvm.Cond.initialized "Miterhouse$Closed") ∈ TT := ttk_1 (List.mem_of_getElem? (i := 7) rfl) rfl
theorem t_1_8 : (Jvm.Cond.initialized "Miterhouse$Values") ∈ TT := ttk_1 (List.mem_of_getElem? (i := 8) rfl) rfl
theorem t_1_9 : (Jvm.Cond.initialized "java/lang/Math") ∈ TT := ttk_1 (List.mem_of_getElem? (i := 9) rfl) rfl
theorem t_1_10 : (Jvm.Cond.initialized "Miterhouse$Ands") ∈ TT := ttk_1 (List.mem_of_getElem? (i := 10) rfl) rfl
theorem t_1_11 : (Jvm.Cond.initialized "Miterhouse$Sweeping") ∈ TT := ttk_1 (List.mem_of_getElem? (i := 11) rfl) rfl
theorem t_1_12 : (Jvm.Cond.initialized "Miterhouse$Diagrams") ∈ TT := ttk_1 (List.mem_of_getElem? (i := 12) rfl) rfl
theorem t_1_13 : (Jvm.Cond.initialized "Miterhouse$Keys") ∈ TT := ttk_1 (List.mem_of_getElem? (i := 13) rfl) rfl
theorem t_1_14 : (Jvm.Cond.initialized "Miterhouse$Cuts") ∈ TT := ttk_1 (List.mem_of_getElem? (i := 14) rfl) rfl
theorem t_1_15 : (Jvm.Cond.initialized "Miterhouse$Care") ∈ TT := ttk_1 (List.mem_of_getElem? (i := 15) rfl) rfl
theorem t_1_16 : (Jvm.Cond.initialized "Miterhouse$Registers") ∈ TT := ttk_1 (List.mem_of_getElem? (i := 16) rfl) rfl
theorem t_1_17 : (Jvm.Cond.initialized "Miterhouse$States") ∈ TT := ttk_1 (List.mem_of_getElem? (i := 17) rfl) rfl
theorem t_1_18 : (Jvm.Cond.initialized "java/util/Arrays") ∈ TT := ttk_1 (List.mem_of_getElem? (i := 18) rfl) rfl
theorem t_1_19 : (Jvm.Cond.initialized "java/lang/IllegalArgumentException") ∈ TT := ttk_1 (List.mem_of_getElem? (i := 19) rfl) rfl
theorem t_1_20 : (Jvm.Cond.initialized "java/lang/IllegalStateException") ∈ TT := ttk_1 (List.mem_of_getElem? (i := 20) rfl) rfl
theorem t_1_21 : (Jvm.Cond.initialized "java/lang/IndexOutOfBoundsException") ∈ TT := ttk_1 (List.mem_of_getElem? (i := 21) rfl) rfl
theorem t_1_24 : (Jvm.Cond.initialized "java/lang/Long") ∈ TT := ttk_1 (List.mem_of_getElem? (i := 24) rfl) rfl
theorem t_1_30 : (Jvm.Cond.classLink "MiterhouseLaw" (10 : Nat) "Miterhouse") ∈ TT := ttk_1 (List.mem_of_getElem? (i := 30) rfl) rfl
theorem t_1_31 : (Jvm.Cond.instantiable "Miterhouse" (3 : Nat)) ∈ TT := ttk_1 (List.mem_of_getElem? (i := 31) rfl) rfl
theorem t_1_32 : (Jvm.Cond.methodLink "MiterhouseLaw" (144 : Nat) ({ cls := "Miterhouse", name := "<init>", desc := "()V" } : Jvm.MethodName)) ∈ TT := ttk_1 (List.mem_of_getElem? (i := 32) rfl) rfl
theorem t_1_33 : (Jvm.Cond.instanceMethod ({ cls := "Miterhouse", name := "<init>", desc := "()V" } : Jvm.MethodName)) ∈ TT := ttk_1 (List.mem_of_getElem? (i := 33) rfl) rfl
theorem t_1_34 : (Jvm.Cond.code ({ cls := "Miterhouse", name := "<init>", desc := "()V" } : Jvm.MethodName) prog_1_method_1_code (1 : Nat) (Option.none : Option Jvm.ClassFile.FieldType)) ∈ TT := ttk_1 (List.mem_of_getElem? (i := 34) rfl) rfl
theorem t_1_35 : (Jvm.Cond.methodLink "Miterhouse" (1 : Nat) ({ cls := "java/lang/Object", name := "<init>", desc := "()V" } : Jvm.MethodName)) ∈ TT := ttk_1 (List.mem_of_getElem? (i := 35) rfl) rfl
theorem t_1_36 : (Jvm.Cond.instanceMethod ({ cls := "java/lang/Object", name := "<init>", desc := "()V" } : Jvm.MethodName)) ∈ TT := ttk_1 (List.mem_of_getElem? (i := 36) rfl) rfl
theorem t_1_37 : (Jvm.Cond.code ({ cls := "java/lang/Object", name := "<init>", desc := "()V" } : Jvm.MethodName) object_method_1_code (1 : Nat) (Option.none : Option Jvm.ClassFile.FieldType)) ∈ TT := ttk_1 (List.mem_of_getElem? (i := 37) rfl) rfl
theorem t_1_38 : (Jvm.Cond.classLink "Miterhouse" (7 : Nat) "Miterhouse$Nets") ∈ TT := ttk_1 (List.mem_of_getElem? (i := 38) rfl) rfl
theorem t_1_39 : (Jvm.Cond.instantiable "Miterhouse$Nets" (13 : Nat)) ∈ TT := ttk_1 (List.mem_of_getElem? (i := 39) rfl) rfl
theorem t_1_40 : (Jvm.Cond.methodLink "Miterhouse" (9 : Nat) ({ cls := "Miterhouse$Nets", name := "<init>", desc := "()V" } : Jvm.MethodName)) ∈ TT := ttk_1 (List.mem_of_getElem? (i := 40) rfl) rfl
theorem t_1_41 : (Jvm.Cond.instanceMethod ({ cls := "Miterhouse$Nets", name := "<init>", desc := "()V" } : Jvm.MethodName)) ∈ TT := ttk_1 (List.mem_of_getElem? (i := 41) rfl) rfl
theorem t_1_42 : (Jvm.Cond.code ({ cls := "Miterhouse$Nets", name := "<init>", desc := "()V" } : Jvm.MethodName) prog_8_method_1_code (1 : Nat) (Option.none : Option Jvm.ClassFile.FieldType)) ∈ TT := ttk_1 (List.mem_of_getElem? (i := 42) rfl) rfl
theorem t_1_43 : (Jvm.Cond.methodLink "Miterhouse$Nets" (3 : Nat) ({ cls := "java/lang/Object", name := "<init>", desc := "()V" } : Jvm.MethodName)) ∈ TT := ttk_1 (List.mem_of_getElem? (i := 43) rfl) rfl
theorem t_1_44 : (Jvm.Cond.fieldLink "Miterhouse$Nets" (9 : Nat) "Miterhouse$Nets" "kinds" "[C") ∈ TT := ttk_1 (List.mem_of_getElem? (i := 44) rfl) rfl
theorem t_1_45 : (Jvm.Cond.fieldLink "Miterhouse$Nets" (15 : Nat) "Miterhouse$Nets" "owners" "[I") ∈ TT := ttk_1 (List.mem_of_getElem? (i := 45) rfl) rfl
theorem t_1_46 : (Jvm.Cond.fieldLink "Miterhouse$Nets" (19 : Nat) "Miterhouse$Nets" "ones" "[I") ∈ TT := ttk_1 (List.mem_of_getElem? (i := 46) rfl) rfl
theorem t_1_47 : (Jvm.Cond.fieldLink "Miterhouse$Nets" (22 : Nat) "Miterhouse$Nets" "twos" "[I") ∈ TT := ttk_1 (List.mem_of_getElem? (i := 47) rfl) rfl
theorem t_1_48 : (Jvm.Cond.fieldLink "Miterhouse$Nets" (25 : Nat) "Miterhouse$Nets" "firsts" "[I") ∈ TT := ttk_1 (List.mem_of_getElem? (i := 48) rfl) rfl
theorem t_1_49 : (Jvm.Cond.fieldLink "Miterhouse$Nets" (28 : Nat) "Miterhouse$Nets" "names" "[I") ∈ TT := ttk_1 (List.mem_of_getElem? (i := 49) rfl) rfl
theorem t_1_50 : (Jvm.Cond.fieldLink "Miterhouse$Nets" (31 : Nat) "Miterhouse$Nets" "outputs" "[I") ∈ TT := ttk_1 (List.mem_of_getElem? (i := 50) rfl) rfl
theorem t_1_51 : (Jvm.Cond.fieldLink "Miterhouse$Nets" (34 : Nat) "Miterhouse$Nets" "outputCounts" "[I") ∈ TT := ttk_1 (List.mem_of_getElem? (i := 51) rfl) rfl
theorem t_1_52 : (Jvm.Cond.fieldLink "Miterhouse$Nets" (37 : Nat) "Miterhouse$Nets" "cellCounts" "[I") ∈ TT := ttk_1 (List.mem_of_getElem? (i := 52) rfl) rfl
theorem t_1_53 : (Jvm.Cond.fieldLink "Miterhouse$Nets" (40 : Nat) "Miterhouse$Nets" "sources" "[I") ∈ TT := ttk_1 (List.mem_of_getElem? (i := 53) rfl) rfl
theorem t_1_54 : (Jvm.Cond.fieldLink "Miterhouse$Nets" (43 : Nat) "Miterhouse$Nets" "marks" "[I") ∈ TT := ttk_1 (List.mem_of_getElem? (i := 54) rfl) rfl
theorem t_1_55 : (Jvm.Cond.fieldLink "Miterhouse$Values" (43 : Nat) "Miterhouse$Nets" "lines" "I") ∈ TT := ttk_1 (List.mem_of_getElem? (i := 55) rfl) rfl
theorem t_1_56 : (Jvm.Cond.fieldLink "Miterhouse$Nets" (46 : Nat) "Miterhouse$Nets" "lines" "I") ∈ TT := ttk_1 (List.mem_of_getElem? (i := 56) rfl) rfl
theorem t_1_57 : (Jvm.Cond.fieldLink "Miterhouse$Ands" (38 : Nat) "Miterhouse$Nets" "lines" "I") ∈ TT := ttk_1 (List.mem_of_getElem? (i := 57) rfl) rfl
theorem t_1_58 : (Jvm.Cond.fieldLink "Miterhouse" (27 : Nat) "Miterhouse$Nets" "lines" "I") ∈ TT := ttk_1 (List.mem_of_getElem? (i := 58) rfl) rfl
theorem t_1_59 : (Jvm.Cond.fieldLink "Miterhouse$Sweeping" (56 : Nat) "Miterhouse$Nets" "lines" "I") ∈ TT := ttk_1 (List.mem_of_getElem? (i := 59) rfl) rfl
theorem t_1_60 : (Jvm.Cond.fieldLink "Miterhouse$Closed" (139 : Nat) "Miterhouse$Nets" "lines" "I") ∈ TT := ttk_1 (List.mem_of_getElem? (i := 60) rfl) rfl
theorem t_1_61 : (Jvm.Cond.fieldLink "Miterhouse$States" (17 : Nat) "Miterhouse$Nets" "inputs" "I") ∈ TT := ttk_1 (List.mem_of_getElem? (i := 61) rfl) rfl
theorem t_1_62 : (Jvm.Cond.fieldLink "Miterhouse$Nets" (50 : Nat) "Miterhouse$Nets" "inputs" "I") ∈ TT := ttk_1 (List.mem_of_getElem? (i := 62) rfl) rfl
theorem t_1_63 : (Jvm.Cond.fieldLink "Miterhouse" (31 : Nat) "Miterhouse$Nets" "inputs" "I") ∈ TT := ttk_1 (List.mem_of_getElem? (i := 63) rfl) rfl
theorem t_1_64 : (Jvm.Cond.fieldLink "Miterhouse$Values" (149 : Nat) "Miterhouse$Nets" "inputs" "I") ∈ TT := ttk_1 (List.mem_of_getElem? (i := 64) rfl) rfl
theorem t_1_65 : (Jvm.Cond.laysFinal "Miterhouse$Nets" "Miterhouse$Nets" "kinds" "[C") ∈ TT := ttk_1 (List.mem_of_getElem? (i := 65) rfl) rfl
theorem t_1_67 : (Jvm.Cond.laysFinal "Miterhouse$Nets" "Miterhouse$Nets" "owners" "[I") ∈ TT := ttk_1 (List.mem_of_getElem? (i := 67) rfl) rfl
theorem t_1_69 : (Jvm.Cond.laysFinal "Miterhouse$Nets" "Miterhouse$Nets" "ones" "[I") ∈ TT := ttk_1 (List.mem_of_getElem? (i := 69) rfl) rfl
theorem t_1_71 : (Jvm.Cond.laysFinal "Miterhouse$Nets" "Miterhouse$Nets" "twos" "[I") ∈ TT := ttk_1 (List.mem_of_getElem? (i := 71) rfl) rfl
theorem t_1_73 : (Jvm.Cond.laysFinal "Miterhouse$Nets" "Miterhouse$Nets" "firsts" "[I") ∈ TT := ttk_1 (List.mem_of_getElem? (i := 73) rfl) rfl
theorem t_1_75 : (Jvm.Cond.laysFinal "Miterhouse$Nets" "Miterhouse$Nets" "names" "[I") ∈ TT := ttk_1 (List.mem_of_getElem? (i := 75) rfl) rfl
theorem t_1_77 : (Jvm.Cond.laysFinal "Miterhouse$Nets" "Miterhouse$Nets" "outputs" "[I") ∈ TT := ttk_1 (List.mem_of_getElem? (i := 77) rfl) rfl
theorem t_1_79 : (Jvm.Cond.laysFinal "Miterhouse$Nets" "Miterhouse$Nets" "outputCounts" "[I") ∈ TT := ttk_1 (List.mem_of_getElem? (i := 79) rfl) rfl
theorem t_1_81 : (Jvm.Cond.laysFinal "Miterhouse$Nets" "Miterhouse$Nets" "cellCounts" "[I") ∈ TT := ttk_1 (List.mem_of_getElem? (i := 81) rfl) rfl
theorem t_1_83 : (Jvm.Cond.laysFinal "Miterhouse$Nets" "Miterhouse$Nets" "sources" "[I") ∈ TT := ttk_1 (List.mem_of_getElem? (i := 83) rfl) rfl
theorem t_1_85 : (Jvm.Cond.laysFinal "Miterhouse$Nets" "Miterhouse$Nets" "marks" "[I") ∈ TT := ttk_1 (List.mem_of_getElem? (i := 85) rfl) rfl
theorem t_1_87 : (Jvm.Cond.lays "Miterhouse$Nets" "Miterhouse$Nets" "lines" "I") ∈ TT := ttk_1 (List.mem_of_getElem? (i := 87) rfl) rfl
theorem t_1_89 : (Jvm.Cond.lays "Miterhouse$Nets" "Miterhouse$Nets" "inputs" "I") ∈ TT := ttk_1 (List.mem_of_getElem? (i := 89) rfl) rfl
theorem t_1_92 : (Jvm.Cond.arrayClass Jvm.ClassFile.FieldType.char) ∈ TT := ttk_1 (List.mem_of_getElem? (i := 92) rfl) rfl
theorem t_1_93 : (Jvm.Cond.arrayClass Jvm.ClassFile.FieldType.int) ∈ TT := ttk_1 (List.mem_of_getElem? (i := 93) rfl) rfl
theorem t_1_94 : (Jvm.Cond.fieldLink "Miterhouse" (10 : Nat) "Miterhouse" "nets" "LMiterhouse$Nets;") ∈ TT := ttk_1 (List.mem_of_getElem? (i := 94) rfl) rfl
theorem t_1_95 : (Jvm.Cond.fieldLink "Miterhouse" (16 : Nat) "Miterhouse" "coefficients" "[I") ∈ TT := ttk_1 (List.mem_of_getElem? (i := 95) rfl) rfl
theorem t_1_96 : (Jvm.Cond.fieldLink "Miterhouse" (20 : Nat) "Miterhouse" "house" "LMiterhouse$Closed;") ∈ TT := ttk_1 (List.mem_of_getElem? (i := 96) rfl) rfl
theorem t_1_97 : (Jvm.Cond.laysFinal "Miterhouse" "Miterhouse" "nets" "LMiterhouse$Nets;") ∈ TT := ttk_1 (List.mem_of_getElem? (i := 97) rfl) rfl
theorem t_1_99 : (Jvm.Cond.laysFinal "Miterhouse" "Miterhouse" "coefficients" "[I") ∈ TT := ttk_1 (List.mem_of_getElem? (i := 99) rfl) rfl
theorem t_1_101 : (Jvm.Cond.lays "Miterhouse" "Miterhouse" "house" "LMiterhouse$Closed;") ∈ TT := ttk_1 (List.mem_of_getElem? (i := 101) rfl) rfl
theorem t_1_104 : (Jvm.Cond.methodLink "MiterhouseLaw" (177 : Nat) ({ cls := "Miterhouse", name := "patterns", desc := "()I" } : Jvm.MethodName)) ∈ TT := ttk_1 (List.mem_of_getElem? (i := 104) rfl) rfl
theorem t_1_105 : (Jvm.Cond.instanceMethod ({ cls := "Miterhouse", name := "patterns", desc := "()I" } : Jvm.MethodName)) ∈ TT := ttk_1 (List.mem_of_getElem? (i := 105) rfl) rfl
theorem t_1_106 : (Jvm.Cond.selects "Miterhouse" ({ cls := "Miterhouse", name := "patterns", desc := "()I" } : Jvm.MethodName) ({ cls := "Miterhouse", name := "patterns", desc := "()I" } : Jvm.MethodName)) ∈ TT := ttk_1 (List.mem_of_getElem? (i := 106) rfl) rfl
theorem t_1_107 : (Jvm.Cond.code ({ cls := "Miterhouse", name := "patterns", desc := "()I" } : Jvm.MethodName) prog_1_method_22_code (1 : Nat) (Option.some Jvm.ClassFile.FieldType.int)) ∈ TT := ttk_1 (List.mem_of_getElem? (i := 107) rfl) rfl
theorem t_1_108 : (Jvm.Cond.methodLink "MiterhouseLaw" (154 : Nat) ({ cls := "Miterhouse", name := "lines", desc := "()I" } : Jvm.MethodName)) ∈ TT := ttk_1 (List.mem_of_getElem? (i := 108) rfl) rfl
theorem t_1_109 : (Jvm.Cond.instanceMethod ({ cls := "Miterhouse", name := "lines", desc := "()I" } : Jvm.MethodName)) ∈ TT := ttk_1 (List.mem_of_getElem? (i := 109) rfl) rfl
theorem t_1_110 : (Jvm.Cond.selects "Miterhouse" ({ cls := "Miterhouse", name := "lines", desc := "()I" } : Jvm.MethodName) ({ cls := "Miterhouse", name := "lines", desc := "()I" } : Jvm.MethodName)) ∈ TT := ttk_1 (List.mem_of_getElem? (i := 110) rfl) rfl
theorem t_1_111 : (Jvm.Cond.code ({ cls := "Miterhouse", name := "lines", desc := "()I" } : Jvm.MethodName) prog_1_method_46_code (1 : Nat) (Option.some Jvm.ClassFile.FieldType.int)) ∈ TT := ttk_1 (List.mem_of_getElem? (i := 111) rfl) rfl
theorem t_1_112 : (Jvm.Cond.methodLink "MiterhouseLaw" (198 : Nat) ({ cls := "Miterhouse", name := "isSound", desc := "()Z" } : Jvm.MethodName)) ∈ TT := ttk_1 (List.mem_of_getElem? (i := 112) rfl) rfl
theorem t_1_113 : (Jvm.Cond.instanceMethod ({ cls := "Miterhouse", name := "isSound", desc := "()Z" } : Jvm.MethodName)) ∈ TT := ttk_1 (List.mem_of_getElem? (i := 113) rfl) rfl
theorem t_1_114 : (Jvm.Cond.selects "Miterhouse" ({ cls := "Miterhouse", name := "isSound", desc := "()Z" } : Jvm.MethodName) ({ cls := "Miterhouse", name := "isSound", desc := "()Z" } : Jvm.MethodName)) ∈ TT := ttk_1 (List.mem_of_getElem? (i := 114) rfl) rfl
theorem t_1_115 : (Jvm.Cond.code ({ cls := "Miterhouse", name := "isSound", desc := "()Z" } : Jvm.MethodName) prog_1_method_49_code (1 : Nat) (Option.some Jvm.ClassFile.FieldType.boolean)) ∈ TT := ttk_1 (List.mem_of_getElem? (i := 115) rfl) rfl
theorem t_1_116 : (Jvm.Cond.methodLink "Miterhouse" (391 : Nat) ({ cls := "Miterhouse$Closed", name := "holdsTogether", desc := "()Z" } : Jvm.MethodName)) ∈ TT := ttk_1 (List.mem_of_getElem? (i := 116) rfl) rfl
theorem t_1_117 : (Jvm.Cond.instanceMethod ({ cls := "Miterhouse$Closed", name := "holdsTogether", desc := "()Z" } : Jvm.MethodName)) ∈ TT := ttk_1 (List.mem_of_getElem? (i := 117) rfl) rfl
theorem t_1_118 : (Jvm.Cond.selects "Miterhouse$Closed" ({ cls := "Miterhouse$Closed", name := "holdsTogether", desc := "()Z" } : Jvm.MethodName) ({ cls := "Miterhouse$Closed", name := "holdsTogether", desc := "()Z" } : Jvm.MethodName)) ∈ TT := ttk_1 (List.mem_of_getElem? (i := 118) rfl) rfl
theorem t_1_119 : (Jvm.Cond.code ({ cls := "Miterhouse$Closed", name := "holdsTogether", desc := "()Z" } : Jvm.MethodName) prog_4_method_4_code (1 : Nat) (Option.some Jvm.ClassFile.FieldType.boolean)) ∈ TT := ttk_1 (List.mem_of_getElem? (i := 119) rfl) rfl
theorem t_1_120 : (Jvm.Cond.methodLink "Miterhouse$Closed" (91 : Nat) ({ cls := "Miterhouse$States", name := "search", desc := "()V" } : Jvm.MethodName)) ∈ TT := ttk_1 (List.mem_of_getElem? (i := 120) rfl) rfl
theorem t_1_121 : (Jvm.Cond.instanceMethod ({ cls := "Miterhouse$States", name := "search", desc := "()V" } : Jvm.MethodName)) ∈ TT := ttk_1 (List.mem_of_getElem? (i := 121) rfl) rfl
theorem t_1_122 : (Jvm.Cond.selects "Miterhouse$States" ({ cls := "Miterhouse$States", name := "search", desc := "()V" } : Jvm.MethodName) ({ cls := "Miterhouse$States", name := "search", desc := "()V" } : Jvm.MethodName)) ∈ TT := ttk_1 (List.mem_of_getElem? (i := 122) rfl) rfl
theorem t_1_123 : (Jvm.Cond.code ({ cls := "Miterhouse$States", name := "search", desc := "()V" } : Jvm.MethodName) prog_10_method_7_code (2 : Nat) (Option.none : Option Jvm.ClassFile.FieldType)) ∈ TT := ttk_1 (List.mem_of_getElem? (i := 123) rfl) rfl
theorem t_1_124 : (Jvm.Cond.methodLink "Miterhouse$States" (113 : Nat) ({ cls := "Miterhouse$States", name := "fillFollow", desc := "()V" } : Jvm.MethodName)) ∈ TT := ttk_1 (List.mem_of_getElem? (i := 124) rfl) rfl
theorem t_1_126 : (Jvm.Cond.instanceMethod ({ cls := "Miterhouse$States", name := "fillFollow", desc := "()V" } : Jvm.MethodName)) ∈ TT := ttk_1 (List.mem_of_getElem? (i := 126) rfl) rfl
theorem t_1_127 : (Jvm.Cond.instantiable "Miterhouse$States" (16 : Nat)) ∈ TT := ttk_1 (List.mem_of_getElem? (i := 127) rfl) rfl
theorem t_1_128 : (Jvm.Cond.code ({ cls := "Miterhouse$States", name := "fillFollow", desc := "()V" } : Jvm.MethodName) prog_10_method_5_code (3 : Nat) (Option.none : Option Jvm.ClassFile.FieldType)) ∈ TT := ttk_1 (List.mem_of_getElem? (i := 128) rfl) rfl
theorem t_1_129 : (Jvm.Cond.methodLink "Miterhouse$States" (98 : Nat) ({ cls := "Miterhouse$States", name := "outputsAt", desc := "(II)I" } : Jvm.MethodName)) ∈ TT := ttk_1 (List.mem_of_getElem? (i := 129) rfl) rfl
theorem t_1_131 : (Jvm.Cond.instanceMethod ({ cls := "Miterhouse$States", name := "outputsAt", desc := "(II)I" } : Jvm.MethodName)) ∈ TT := ttk_1 (List.mem_of_getElem? (i := 131) rfl) rfl
theorem t_1_132 : (Jvm.Cond.code ({ cls := "Miterhouse$States", name := "outputsAt", desc := "(II)I" } : Jvm.MethodName) prog_10_method_4_code (5 : Nat) (Option.some Jvm.ClassFile.FieldType.int)) ∈ TT := ttk_1 (List.mem_of_getElem? (i := 132) rfl) rfl
theorem t_1_133 : (Jvm.Cond.methodLink "Miterhouse$States" (92 : Nat) ({ cls := "Miterhouse$Nets", name := "outputsOf", desc := "(I)I" } : Jvm.MethodName)) ∈ TT := ttk_1 (List.mem_of_getElem? (i := 133) rfl) rfl
theorem t_1_134 : (Jvm.Cond.instanceMethod ({ cls := "Miterhouse$Nets", name := "outputsOf", desc := "(I)I" } : Jvm.MethodName)) ∈ TT := ttk_1 (List.mem_of_getElem? (i := 134) rfl) rfl
theorem t_1_135 : (Jvm.Cond.selects "Miterhouse$Nets" ({ cls := "Miterhouse$Nets", name := "outputsOf", desc := "(I)I" } : Jvm.MethodName) ({ cls := "Miterhouse$Nets", name := "outputsOf", desc := "(I)I" } : Jvm.MethodName)) ∈ TT := ttk_1 (List.mem_of_getElem? (i := 135) rfl) rfl
theorem t_1_136 : (Jvm.Cond.code ({ cls := "Miterhouse$Nets", name := "outputsOf", desc := "(I)I" } : Jvm.MethodName) prog_8_method_14_code (2 : Nat) (Option.some Jvm.ClassFile.FieldType.int)) ∈ TT := ttk_1 (List.mem_of_getElem? (i := 136) rfl) rfl
theorem t_1_137 : (Jvm.Cond.methodLinkNest "Miterhouse$Nets" (57 : Nat) ({ cls := "Miterhouse", name := "numberAt", desc := "([II)I" } : Jvm.MethodName) "Miterhouse") ∈ TT := ttk_1 (List.mem_of_getElem? (i := 137) rfl) rfl
theorem t_1_138 : (Jvm.Cond.static ({ cls := "Miterhouse", name := "numberAt", desc := "([II)I" } : Jvm.MethodName)) ∈ TT := ttk_1 (List.mem_of_getElem? (i := 138) rfl) rfl
theorem t_1_139 : (Jvm.Cond.code ({ cls := "Miterhouse", name := "numberAt", desc := "([II)I" } : Jvm.MethodName) prog_1_method_60_code (2 : Nat) (Option.some Jvm.ClassFile.FieldType.int)) ∈ TT := ttk_1 (List.mem_of_getElem? (i := 139) rfl) rfl
theorem t_1_140 : (Jvm.Cond.methodLink "Miterhouse$States" (95 : Nat) ({ cls := "Miterhouse$Nets", name := "outputAt", desc := "(II)I" } : Jvm.MethodName)) ∈ TT := ttk_1 (List.mem_of_getElem? (i := 140) rfl) rfl
theorem t_1_141 : (Jvm.Cond.instanceMethod ({ cls := "Miterhouse$Nets", name := "outputAt", desc := "(II)I" } : Jvm.MethodName)) ∈ TT := ttk_1 (List.mem_of_getElem? (i := 141) rfl) rfl
theorem t_1_142 : (Jvm.Cond.selects "Miterhouse$Nets" ({ cls := "Miterhouse$Nets", name := "outputAt", desc := "(II)I" } : Jvm.MethodName) ({ cls := "Miterhouse$Nets", name := "outputAt", desc := "(II)I" } : Jvm.MethodName)) ∈ TT := ttk_1 (List.mem_of_getElem? (i := 142) rfl) rfl
theorem t_1_143 : (Jvm.Cond.code ({ cls := "Miterhouse$Nets", name := "outputAt", desc := "(II)I" } : Jvm.MethodName) prog_8_method_15_code (3 : Nat) (Option.some Jvm.ClassFile.FieldType.int)) ∈ TT := ttk_1 (List.mem_of_getElem? (i := 143) rfl) rfl
theorem t_1_144 : (Jvm.Cond.methodLink "Miterhouse$States" (89 : Nat) ({ cls := "Miterhouse$Values", name := "bitAtChoice", desc := "(II)I" } : Jvm.MethodName)) ∈ TT := ttk_1 (List.mem_of_getElem? (i := 144) rfl) rfl
theorem t_1_145 : (Jvm.Cond.instanceMethod ({ cls := "Miterhouse$Values", name := "bitAtChoice", desc := "(II)I" } : Jvm.MethodName)) ∈ TT := ttk_1 (List.mem_of_getElem? (i := 145) rfl) rfl
theorem t_1_146 : (Jvm.Cond.selects "Miterhouse$Values" ({ cls := "Miterhouse$Values", name := "bitAtChoice", desc := "(II)I" } : Jvm.MethodName) ({ cls := "Miterhouse$Values", name := "bitAtChoice", desc := "(II)I" } : Jvm.MethodName)) ∈ TT := ttk_1 (List.mem_of_getElem? (i := 146) rfl) rfl
theorem t_1_147 : (Jvm.Cond.code ({ cls := "Miterhouse$Values", name := "bitAtChoice", desc := "(II)I" } : Jvm.MethodName) prog_12_method_11_code (4 : Nat) (Option.some Jvm.ClassFile.FieldType.int)) ∈ TT := ttk_1 (List.mem_of_getElem? (i := 147) rfl) rfl
theorem t_1_148 : (Jvm.Cond.methodLink "Miterhouse$Values" (131 : Nat) ({ cls := "Miterhouse$Values", name := "mirrored", desc := "(I)I" } : Jvm.MethodName)) ∈ TT := ttk_1 (List.mem_of_getElem? (i := 148) rfl) rfl
theorem t_1_149 : (Jvm.Cond.instanceMethod ({ cls := "Miterhouse$Values", name := "mirrored", desc := "(I)I" } : Jvm.MethodName)) ∈ TT := ttk_1 (List.mem_of_getElem? (i := 149) rfl) rfl
theorem t_1_150 : (Jvm.Cond.selects "Miterhouse$Values" ({ cls := "Miterhouse$Values", name := "mirrored", desc := "(I)I" } : Jvm.MethodName) ({ cls := "Miterhouse$Values", name := "mirrored", desc := "(I)I" } : Jvm.MethodName)) ∈ TT := ttk_1 (List.mem_of_getElem? (i := 150) rfl) rfl
theorem t_1_151 : (Jvm.Cond.code ({ cls := "Miterhouse$Values", name := "mirrored", desc := "(I)I" } : Jvm.MethodName) prog_12_method_10_code (3 : Nat) (Option.some Jvm.ClassFile.FieldType.int)) ∈ TT := ttk_1 (List.mem_of_getElem? (i := 151) rfl) rfl
theorem t_1_152 : (Jvm.Cond.constant "Miterhouse$Values" (130 : Nat) (65535 : Int32)) ∈ TT := ttk_1 (List.mem_of_getElem? (i := 152) rfl) rfl
theorem t_1_153 : (Jvm.Cond.methodLinkNest "Miterhouse$Values" (119 : Nat) ({ cls := "Miterhouse", name := "wordAt", desc := "([JI)J" } : Jvm.MethodName) "Miterhouse") ∈ TT := ttk_1 (List.mem_of_getElem? (i := 153) rfl) rfl
theorem t_1_154 : (Jvm.Cond.static ({ cls := "Miterhouse", name := "wordAt", desc := "([JI)J" } : Jvm.MethodName)) ∈ TT := ttk_1 (List.mem_of_getElem? (i := 154) rfl) rfl
theorem t_1_155 : (Jvm.Cond.code ({ cls := "Miterhouse", name := "wordAt", desc := "([JI)J" } : Jvm.MethodName) prog_1_method_62_code (2 : Nat) (Option.some Jvm.ClassFile.FieldType.long)) ∈ TT := ttk_1 (List.mem_of_getElem? (i := 155) rfl) rfl
theorem t_1_156 : (Jvm.Cond.methodLink "Miterhouse$States" (101 : Nat) ({ cls := "Miterhouse$States", name := "stateBehind", desc := "(I)I" } : Jvm.MethodName)) ∈ TT := ttk_1 (List.mem_of_getElem? (i := 156) rfl) rfl
theorem t_1_158 : (Jvm.Cond.instanceMethod ({ cls := "Miterhouse$States", name := "stateBehind", desc := "(I)I" } : Jvm.MethodName)) ∈ TT := ttk_1 (List.mem_of_getElem? (i := 158) rfl) rfl
theorem t_1_159 : (Jvm.Cond.code ({ cls := "Miterhouse$States", name := "stateBehind", desc := "(I)I" } : Jvm.MethodName) prog_10_method_3_code (5 : Nat) (Option.some Jvm.ClassFile.FieldType.int)) ∈ TT := ttk_1 (List.mem_of_getElem? (i := 159) rfl) rfl
theorem t_1_160 : (Jvm.Cond.methodLink "Miterhouse$States" (79 : Nat) ({ cls := "Miterhouse$Nets", name := "sourceLine", desc := "(I)I" } : Jvm.MethodName)) ∈ TT := ttk_1 (List.mem_of_getElem? (i := 160) rfl) rfl
theorem t_1_161 : (Jvm.Cond.instanceMethod ({ cls := "Miterhouse$Nets", name := "sourceLine", desc := "(I)I" } : Jvm.MethodName)) ∈ TT := ttk_1 (List.mem_of_getElem? (i := 161) rfl) rfl
theorem t_1_162 : (Jvm.Cond.selects "Miterhouse$Nets" ({ cls := "Miterhouse$Nets", name := "sourceLine", desc := "(I)I" } : Jvm.MethodName) ({ cls := "Miterhouse$Nets", name := "sourceLine", desc := "(I)I" } : Jvm.MethodName)) ∈ TT := ttk_1 (List.mem_of_getElem? (i := 162) rfl) rfl
theorem t_1_163 : (Jvm.Cond.code ({ cls := "Miterhouse$Nets", name := "sourceLine", desc := "(I)I" } : Jvm.MethodName) prog_8_method_17_code (2 : Nat) (Option.some Jvm.ClassFile.FieldType.int)) ∈ TT := ttk_1 (List.mem_of_getElem? (i := 163) rfl) rfl
theorem t_1_164 : (Jvm.Cond.methodLink "Miterhouse$States" (86 : Nat) ({ cls := "Miterhouse$Nets", name := "dataOf", desc := "(I)I" } : Jvm.MethodName)) ∈ TT := ttk_1 (List.mem_of_getElem? (i := 164) rfl) rfl
theorem t_1_165 : (Jvm.Cond.instanceMethod ({ cls := "Miterhouse$Nets", name := "dataOf", desc := "(I)I" } : Jvm.MethodName)) ∈ TT := ttk_1 (List.mem_of_getElem? (i := 165) rfl) rfl
theorem t_1_166 : (Jvm.Cond.selects "Miterhouse$Nets" ({ cls := "Miterhouse$Nets", name := "dataOf", desc := "(I)I" } : Jvm.MethodName) ({ cls := "Miterhouse$Nets", name := "dataOf", desc := "(I)I" } : Jvm.MethodName)) ∈ TT := ttk_1 (List.mem_of_getElem? (i := 166) rfl) rfl
theorem t_1_167 : (Jvm.Cond.code ({ cls := "Miterhouse$Nets", name := "dataOf", desc := "(I)I" } : Jvm.MethodName) prog_8_method_10_code (2 : Nat) (Option.some Jvm.ClassFile.FieldType.int)) ∈ TT := ttk_1 (List.mem_of_getElem? (i := 167) rfl) rfl
theorem t_1_168 : (Jvm.Cond.methodLink "Miterhouse$States" (116 : Nat) ({ cls := "java/util/Arrays", name := "fill", desc := "([II)V" } : Jvm.MethodName)) ∈ TT := ttk_1 (List.mem_of_getElem? (i := 168) rfl) rfl
theorem t_1_169 : (Jvm.Cond.static ({ cls := "java/util/Arrays", name := "fill", desc := "([II)V" } : Jvm.MethodName)) ∈ TT := ttk_1 (List.mem_of_getElem? (i := 169) rfl) rfl
theorem t_1_170 : (Jvm.Cond.code ({ cls := "java/util/Arrays", name := "fill", desc := "([II)V" } : Jvm.MethodName) prog_35_method_103_code (4 : Nat) (Option.none : Option Jvm.ClassFile.FieldType)) ∈ TT := ttk_1 (List.mem_of_getElem? (i := 170) rfl) rfl
theorem t_1_171 : (Jvm.Cond.methodLink "Miterhouse$States" (122 : Nat) ({ cls := "Miterhouse$States", name := "firstState", desc := "()I" } : Jvm.MethodName)) ∈ TT := ttk_1 (List.mem_of_getElem? (i := 171) rfl) rfl
theorem t_1_173 : (Jvm.Cond.instanceMethod ({ cls := "Miterhouse$States", name := "firstState", desc := "()I" } : Jvm.MethodName)) ∈ TT := ttk_1 (List.mem_of_getElem? (i := 173) rfl) rfl
theorem t_1_174 : (Jvm.Cond.code ({ cls := "Miterhouse$States", name := "firstState", desc := "()I" } : Jvm.MethodName) prog_10_method_2_code (3 : Nat) (Option.some Jvm.ClassFile.FieldType.int)) ∈ TT := ttk_1 (List.mem_of_getElem? (i := 174) rfl) rfl
theorem t_1_175 : (Jvm.Cond.methodLink "Miterhouse$States" (83 : Nat) ({ cls := "Miterhouse$Nets", name := "firstOf", desc := "(I)I" } : Jvm.MethodName)) ∈ TT := ttk_1 (List.mem_of_getElem? (i := 175) rfl) rfl
theorem t_1_176 : (Jvm.Cond.instanceMethod ({ cls := "Miterhouse$Nets", name := "firstOf", desc := "(I)I" } : Jvm.MethodName)) ∈ TT := ttk_1 (List.mem_of_getElem? (i := 176) rfl) rfl
theorem t_1_177 : (Jvm.Cond.selects "Miterhouse$Nets" ({ cls := "Miterhouse$Nets", name := "firstOf", desc := "(I)I" } : Jvm.MethodName) ({ cls := "Miterhouse$Nets", name := "firstOf", desc := "(I)I" } : Jvm.MethodName)) ∈ TT := ttk_1 (List.mem_of_getElem? (i := 177) rfl) rfl
theorem t_1_178 : (Jvm.Cond.code ({ cls := "Miterhouse$Nets", name := "firstOf", desc := "(I)I" } : Jvm.MethodName) prog_8_method_11_code (2 : Nat) (Option.some Jvm.ClassFile.FieldType.int)) ∈ TT := ttk_1 (List.mem_of_getElem? (i := 178) rfl) rfl
theorem t_1_179 : (Jvm.Cond.methodLink "Miterhouse$States" (126 : Nat) ({ cls := "Miterhouse$States", name := "meet", desc := "(IIII)V" } : Jvm.MethodName)) ∈ TT := ttk_1 (List.mem_of_getElem? (i := 179) rfl) rfl
theorem t_1_181 : (Jvm.Cond.instanceMethod ({ cls := "Miterhouse$States", name := "meet", desc := "(IIII)V" } : Jvm.MethodName)) ∈ TT := ttk_1 (List.mem_of_getElem? (i := 181) rfl) rfl
theorem t_1_182 : (Jvm.Cond.code ({ cls := "Miterhouse$States", name := "meet", desc := "(IIII)V" } : Jvm.MethodName) prog_10_method_8_code (5 : Nat) (Option.none : Option Jvm.ClassFile.FieldType)) ∈ TT := ttk_1 (List.mem_of_getElem? (i := 182) rfl) rfl
theorem t_1_183 : (Jvm.Cond.methodLinkNest "Miterhouse$States" (134 : Nat) ({ cls := "Miterhouse", name := "putNumber", desc := "([III)V" } : Jvm.MethodName) "Miterhouse") ∈ TT := ttk_1 (List.mem_of_getElem? (i := 183) rfl) rfl
theorem t_1_184 : (Jvm.Cond.static ({ cls := "Miterhouse", name := "putNumber", desc := "([III)V" } : Jvm.MethodName)) ∈ TT := ttk_1 (List.mem_of_getElem? (i := 184) rfl) rfl
theorem t_1_185 : (Jvm.Cond.code ({ cls := "Miterhouse", name := "putNumber", desc := "([III)V" } : Jvm.MethodName) prog_1_method_61_code (3 : Nat) (Option.none : Option Jvm.ClassFile.FieldType)) ∈ TT := ttk_1 (List.mem_of_getElem? (i := 185) rfl) rfl
theorem t_1_186 : (Jvm.Cond.methodLinkNest "Miterhouse$States" (104 : Nat) ({ cls := "Miterhouse", name := "numberAt", desc := "([II)I" } : Jvm.MethodName) "Miterhouse") ∈ TT := ttk_1 (List.mem_of_getElem? (i := 186) rfl) rfl
theorem t_1_187 : (Jvm.Cond.methodLink "Miterhouse$States" (130 : Nat) ({ cls := "Miterhouse$States", name := "expand", desc := "(I)V" } : Jvm.MethodName)) ∈ TT := ttk_1 (List.mem_of_getElem? (i := 187) rfl) rfl
theorem t_1_189 : (Jvm.Cond.instanceMethod ({ cls := "Miterhouse$States", name := "expand", desc := "(I)V" } : Jvm.MethodName)) ∈ TT := ttk_1 (List.mem_of_getElem? (i := 189) rfl) rfl
theorem t_1_190 : (Jvm.Cond.code ({ cls := "Miterhouse$States", name := "expand", desc := "(I)V" } : Jvm.MethodName) prog_10_method_9_code (6 : Nat) (Option.none : Option Jvm.ClassFile.FieldType)) ∈ TT := ttk_1 (List.mem_of_getElem? (i := 190) rfl) rfl
theorem t_1_191 : (Jvm.Cond.methodLink "Miterhouse$States" (138 : Nat) ({ cls := "Miterhouse$Values", name := "areKeptInputs", desc := "(I)Z" } : Jvm.MethodName)) ∈ TT := ttk_1 (List.mem_of_getElem? (i := 191) rfl) rfl
theorem t_1_192 : (Jvm.Cond.instanceMethod ({ cls := "Miterhouse$Values", name := "areKeptInputs", desc := "(I)Z" } : Jvm.MethodName)) ∈ TT := ttk_1 (List.mem_of_getElem? (i := 192) rfl) rfl
theorem t_1_193 : (Jvm.Cond.selects "Miterhouse$Values" ({ cls := "Miterhouse$Values", name := "areKeptInputs", desc := "(I)Z" } : Jvm.MethodName) ({ cls := "Miterhouse$Values", name := "areKeptInputs", desc := "(I)Z" } : Jvm.MethodName)) ∈ TT := ttk_1 (List.mem_of_getElem? (i := 193) rfl) rfl
theorem t_1_194 : (Jvm.Cond.code ({ cls := "Miterhouse$Values", name := "areKeptInputs", desc := "(I)Z" } : Jvm.MethodName) prog_12_method_13_code (2 : Nat) (Option.some Jvm.ClassFile.FieldType.boolean)) ∈ TT := ttk_1 (List.mem_of_getElem? (i := 194) rfl) rfl
theorem t_1_195 : (Jvm.Cond.methodLink "Miterhouse$States" (142 : Nat) ({ cls := "Miterhouse$States", name := "stepFrom", desc := "(II)I" } : Jvm.MethodName)) ∈ TT := ttk_1 (List.mem_of_getElem? (i := 195) rfl) rfl
theorem t_1_197 : (Jvm.Cond.instanceMethod ({ cls := "Miterhouse$States", name := "stepFrom", desc := "(II)I" } : Jvm.MethodName)) ∈ TT := ttk_1 (List.mem_of_getElem? (i := 197) rfl) rfl
theorem t_1_198 : (Jvm.Cond.code ({ cls := "Miterhouse$States", name := "stepFrom", desc := "(II)I" } : Jvm.MethodName) prog_10_method_6_code (3 : Nat) (Option.some Jvm.ClassFile.FieldType.int)) ∈ TT := ttk_1 (List.mem_of_getElem? (i := 198) rfl) rfl
theorem t_1_199 : (Jvm.Cond.methodLink "Miterhouse$States" (145 : Nat) ({ cls := "Miterhouse$States", name := "writeTrace", desc := "(II)V" } : Jvm.MethodName)) ∈ TT := ttk_1 (List.mem_of_getElem? (i := 199) rfl) rfl
theorem t_1_201 : (Jvm.Cond.instanceMethod ({ cls := "Miterhouse$States", name := "writeTrace", desc := "(II)V" } : Jvm.MethodName)) ∈ TT := ttk_1 (List.mem_of_getElem? (i := 201) rfl) rfl
theorem t_1_202 : (Jvm.Cond.code ({ cls := "Miterhouse$States", name := "writeTrace", desc := "(II)V" } : Jvm.MethodName) prog_10_method_10_code (5 : Nat) (Option.none : Option Jvm.ClassFile.FieldType)) ∈ TT := ttk_1 (List.mem_of_getElem? (i := 202) rfl) rfl
theorem t_1_203 : (Jvm.Cond.methodLink "Miterhouse$Closed" (94 : Nat) ({ cls := "Miterhouse$Closed", name := "areLinesLiterals", desc := "(I)Z" } : Jvm.MethodName)) ∈ TT := ttk_1 (List.mem_of_getElem? (i := 203) rfl) rfl
theorem t_1_205 : (Jvm.Cond.instanceMethod ({ cls := "Miterhouse$Closed", name := "areLinesLiterals", desc := "(I)Z" } : Jvm.MethodName)) ∈ TT := ttk_1 (List.mem_of_getElem? (i := 205) rfl) rfl
theorem t_1_206 : (Jvm.Cond.instantiable "Miterhouse$Closed" (12 : Nat)) ∈ TT := ttk_1 (List.mem_of_getElem? (i := 206) rfl) rfl
theorem t_1_207 : (Jvm.Cond.code ({ cls := "Miterhouse$Closed", name := "areLinesLiterals", desc := "(I)Z" } : Jvm.MethodName) prog_4_method_5_code (5 : Nat) (Option.some Jvm.ClassFile.FieldType.boolean)) ∈ TT := ttk_1 (List.mem_of_getElem? (i := 207) rfl) rfl
theorem t_1_208 : (Jvm.Cond.methodLink "Miterhouse$Closed" (112 : Nat) ({ cls := "Miterhouse$Ands", name := "isAnd", desc := "(I)Z" } : Jvm.MethodName)) ∈ TT := ttk_1 (List.mem_of_getElem? (i := 208) rfl) rfl
theorem t_1_209 : (Jvm.Cond.instanceMethod ({ cls := "Miterhouse$Ands", name := "isAnd", desc := "(I)Z" } : Jvm.MethodName)) ∈ TT := ttk_1 (List.mem_of_getElem? (i := 209) rfl) rfl
theorem t_1_210 : (Jvm.Cond.selects "Miterhouse$Ands" ({ cls := "Miterhouse$Ands", name := "isAnd", desc := "(I)Z" } : Jvm.MethodName) ({ cls := "Miterhouse$Ands", name := "isAnd", desc := "(I)Z" } : Jvm.MethodName)) ∈ TT := ttk_1 (List.mem_of_getElem? (i := 210) rfl) rfl
theorem t_1_211 : (Jvm.Cond.code ({ cls := "Miterhouse$Ands", name := "isAnd", desc := "(I)Z" } : Jvm.MethodName) prog_2_method_9_code (2 : Nat) (Option.some Jvm.ClassFile.FieldType.boolean)) ∈ TT := ttk_1 (List.mem_of_getElem? (i := 211) rfl) rfl
theorem t_1_212 : (Jvm.Cond.methodLink "Miterhouse$Closed" (115 : Nat) ({ cls := "Miterhouse$Ands", name := "lesserPin", desc := "(I)I" } : Jvm.MethodName)) ∈ TT := ttk_1 (List.mem_of_getElem? (i := 212) rfl) rfl
theorem t_1_213 : (Jvm.Cond.instanceMethod ({ cls := "Miterhouse$Ands", name := "lesserPin", desc := "(I)I" } : Jvm.MethodName)) ∈ TT := ttk_1 (List.mem_of_getElem? (i := 213) rfl) rfl
theorem t_1_214 : (Jvm.Cond.selects "Miterhouse$Ands" ({ cls := "Miterhouse$Ands", name := "lesserPin", desc := "(I)I" } : Jvm.MethodName) ({ cls := "Miterhouse$Ands", name := "lesserPin", desc := "(I)I" } : Jvm.MethodName)) ∈ TT := ttk_1 (List.mem_of_getElem? (i := 214) rfl) rfl
theorem t_1_215 : (Jvm.Cond.code ({ cls := "Miterhouse$Ands", name := "lesserPin", desc := "(I)I" } : Jvm.MethodName) prog_2_method_7_code (2 : Nat) (Option.some Jvm.ClassFile.FieldType.int)) ∈ TT := ttk_1 (List.mem_of_getElem? (i := 215) rfl) rfl
theorem t_1_216 : (Jvm.Cond.methodLinkNest "Miterhouse$Ands" (93 : Nat) ({ cls := "Miterhouse", name := "numberAt", desc := "([II)I" } : Jvm.MethodName) "Miterhouse") ∈ TT := ttk_1 (List.mem_of_getElem? (i := 216) rfl) rfl
theorem t_1_217 : (Jvm.Cond.methodLink "Miterhouse$Closed" (119 : Nat) ({ cls := "Miterhouse$Closed", name := "literalWord", desc := "(I)J" } : Jvm.MethodName)) ∈ TT := ttk_1 (List.mem_of_getElem? (i := 217) rfl) rfl
theorem t_1_219 : (Jvm.Cond.instanceMethod ({ cls := "Miterhouse$Closed", name := "literalWord", desc := "(I)J" } : Jvm.MethodName)) ∈ TT := ttk_1 (List.mem_of_getElem? (i := 219) rfl) rfl
theorem t_1_220 : (Jvm.Cond.code ({ cls := "Miterhouse$Closed", name := "literalWord", desc := "(I)J" } : Jvm.MethodName) prog_4_method_6_code (4 : Nat) (Option.some Jvm.ClassFile.FieldType.long)) ∈ TT := ttk_1 (List.mem_of_getElem? (i := 220) rfl) rfl
theorem t_1_221 : (Jvm.Cond.methodLinkNest "Miterhouse$Closed" (149 : Nat) ({ cls := "Miterhouse", name := "wordAt", desc := "([JI)J" } : Jvm.MethodName) "Miterhouse") ∈ TT := ttk_1 (List.mem_of_getElem? (i := 221) rfl) rfl
theorem t_1_222 : (Jvm.Cond.constantLong "Miterhouse$Closed" (153 : Nat) (-1 : Int64)) ∈ TT := ttk_1 (List.mem_of_getElem? (i := 222) rfl) rfl
theorem t_1_223 : (Jvm.Cond.methodLink "Miterhouse$Closed" (123 : Nat) ({ cls := "Miterhouse$Ands", name := "greaterPin", desc := "(I)I" } : Jvm.MethodName)) ∈ TT := ttk_1 (List.mem_of_getElem? (i := 223) rfl) rfl
theorem t_1_224 : (Jvm.Cond.instanceMethod ({ cls := "Miterhouse$Ands", name := "greaterPin", desc := "(I)I" } : Jvm.MethodName)) ∈ TT := ttk_1 (List.mem_of_getElem? (i := 224) rfl) rfl
theorem t_1_225 : (Jvm.Cond.selects "Miterhouse$Ands" ({ cls := "Miterhouse$Ands", name := "greaterPin", desc := "(I)I" } : Jvm.MethodName) ({ cls := "Miterhouse$Ands", name := "greaterPin", desc := "(I)I" } : Jvm.MethodName)) ∈ TT := ttk_1 (List.mem_of_getElem? (i := 225) rfl) rfl
theorem t_1_226 : (Jvm.Cond.code ({ cls := "Miterhouse$Ands", name := "greaterPin", desc := "(I)I" } : Jvm.MethodName) prog_2_method_8_code (2 : Nat) (Option.some Jvm.ClassFile.FieldType.int)) ∈ TT := ttk_1 (List.mem_of_getElem? (i := 226) rfl) rfl
theorem t_1_227 : (Jvm.Cond.methodLink "Miterhouse$Closed" (126 : Nat) ({ cls := "Miterhouse$Nets", name := "sourceLine", desc := "(I)I" } : Jvm.MethodName)) ∈ TT := ttk_1 (List.mem_of_getElem? (i := 227) rfl) rfl
theorem t_1_228 : (Jvm.Cond.methodLink "Miterhouse$Closed" (131 : Nat) ({ cls := "Miterhouse$Values", name := "heldWord", desc := "(II)J" } : Jvm.MethodName)) ∈ TT := ttk_1 (List.mem_of_getElem? (i := 228) rfl) rfl
theorem t_1_229 : (Jvm.Cond.instanceMethod ({ cls := "Miterhouse$Values", name := "heldWord", desc := "(II)J" } : Jvm.MethodName)) ∈ TT := ttk_1 (List.mem_of_getElem? (i := 229) rfl) rfl
theorem t_1_230 : (Jvm.Cond.selects "Miterhouse$Values" ({ cls := "Miterhouse$Values", name := "heldWord", desc := "(II)J" } : Jvm.MethodName) ({ cls := "Miterhouse$Values", name := "heldWord", desc := "(II)J" } : Jvm.MethodName)) ∈ TT := ttk_1 (List.mem_of_getElem? (i := 230) rfl) rfl
theorem t_1_231 : (Jvm.Cond.code ({ cls := "Miterhouse$Values", name := "heldWord", desc := "(II)J" } : Jvm.MethodName) prog_12_method_7_code (3 : Nat) (Option.some Jvm.ClassFile.FieldType.long)) ∈ TT := ttk_1 (List.mem_of_getElem? (i := 231) rfl) rfl
theorem t_1_232 : (Jvm.Cond.methodLinkNest "Miterhouse$Closed" (135 : Nat) ({ cls := "Miterhouse", name := "putWord", desc := "([JIJ)V" } : Jvm.MethodName) "Miterhouse") ∈ TT := ttk_1 (List.mem_of_getElem? (i := 232) rfl) rfl
theorem t_1_233 : (Jvm.Cond.static ({ cls := "Miterhouse", name := "putWord", desc := "([JIJ)V" } : Jvm.MethodName)) ∈ TT := ttk_1 (List.mem_of_getElem? (i := 233) rfl) rfl
theorem t_1_234 : (Jvm.Cond.code ({ cls := "Miterhouse", name := "putWord", desc := "([JIJ)V" } : Jvm.MethodName) prog_1_method_63_code (4 : Nat) (Option.none : Option Jvm.ClassFile.FieldType)) ∈ TT := ttk_1 (List.mem_of_getElem? (i := 234) rfl) rfl
theorem t_1_235 : (Jvm.Cond.methodLink "Miterhouse$Closed" (142 : Nat) ({ cls := "Miterhouse$Ands", name := "literalOf", desc := "(I)I" } : Jvm.MethodName)) ∈ TT := ttk_1 (List.mem_of_getElem? (i := 235) rfl) rfl
theorem t_1_236 : (Jvm.Cond.instanceMethod ({ cls := "Miterhouse$Ands", name := "literalOf", desc := "(I)I" } : Jvm.MethodName)) ∈ TT := ttk_1 (List.mem_of_getElem? (i := 236) rfl) rfl
theorem t_1_237 : (Jvm.Cond.selects "Miterhouse$Ands" ({ cls := "Miterhouse$Ands", name := "literalOf", desc := "(I)I" } : Jvm.MethodName) ({ cls := "Miterhouse$Ands", name := "literalOf", desc := "(I)I" } : Jvm.MethodName)) ∈ TT := ttk_1 (List.mem_of_getElem? (i := 237) rfl) rfl
theorem t_1_238 : (Jvm.Cond.code ({ cls := "Miterhouse$Ands", name := "literalOf", desc := "(I)I" } : Jvm.MethodName) prog_2_method_6_code (2 : Nat) (Option.some Jvm.ClassFile.FieldType.int)) ∈ TT := ttk_1 (List.mem_of_getElem? (i := 238) rfl) rfl
theorem t_1_239 : (Jvm.Cond.methodLink "Miterhouse$Closed" (102 : Nat) ({ cls := "Miterhouse$Sweeping", name := "isRight", desc := "()Z" } : Jvm.MethodName)) ∈ TT := ttk_1 (List.mem_of_getElem? (i := 239) rfl) rfl
theorem t_2_0 : (Jvm.Cond.instanceMethod ({ cls := "Miterhouse$Sweeping", name := "isRight", desc := "()Z" } : Jvm.MethodName)) ∈ TT := ttk_2 (List.mem_of_getElem? (i := 0) rfl) rfl
theorem t_2_1 : (Jvm.Cond.selects "Miterhouse$Sweeping" ({ cls := "Miterhouse$Sweeping", name := "isRight", desc := "()Z" } : Jvm.MethodName) ({ cls := "Miterhouse$Sweeping", name := "isRight", desc := "()Z" } : Jvm.MethodName)) ∈ TT := ttk_2 (List.mem_of_getElem? (i := 1) rfl) rfl
theorem t_2_2 : (Jvm.Cond.code ({ cls := "Miterhouse$Sweeping", name := "isRight", desc := "()Z" } : Jvm.MethodName) prog_11_method_13_code (4 : Nat) (Option.some Jvm.ClassFile.FieldType.boolean)) ∈ TT := ttk_2 (List.mem_of_getElem? (i := 2) rfl) rfl
theorem t_2_3 : (Jvm.Cond.methodLink "Miterhouse$Sweeping" (52 : Nat) ({ cls := "Miterhouse$Sweeping", name := "targetOf", desc := "(I)I" } : Jvm.MethodName)) ∈ TT := ttk_2 (List.mem_of_getElem? (i := 3) rfl) rfl
theorem t_2_4 : (Jvm.Cond.instanceMethod ({ cls := "Miterhouse$Sweeping", name := "targetOf", desc := "(I)I" } : Jvm.MethodName)) ∈ TT := ttk_2 (List.mem_of_getElem? (i := 4) rfl) rfl
theorem t_2_5 : (Jvm.Cond.selects "Miterhouse$Sweeping" ({ cls := "Miterhouse$Sweeping", name := "targetOf", desc := "(I)I" } : Jvm.MethodName) ({ cls := "Miterhouse$Sweeping", name := "targetOf", desc := "(I)I" } : Jvm.MethodName)) ∈ TT := ttk_2 (List.mem_of_getElem? (i := 5) rfl) rfl
theorem t_2_6 : (Jvm.Cond.code ({ cls := "Miterhouse$Sweeping", name := "targetOf", desc := "(I)I" } : Jvm.MethodName) prog_11_method_3_code (2 : Nat) (Option.some Jvm.ClassFile.FieldType.int)) ∈ TT := ttk_2 (List.mem_of_getElem? (i := 6) rfl) rfl
theorem t_2_7 : (Jvm.Cond.methodLinkNest "Miterhouse$Sweeping" (48 : Nat) ({ cls := "Miterhouse", name := "numberAt", desc := "([II)I" } : Jvm.MethodName) "Miterhouse") ∈ TT := ttk_2 (List.mem_of_getElem? (i := 7) rfl) rfl
theorem t_2_8 : (Jvm.Cond.methodLink "Miterhouse$Sweeping" (118 : Nat) ({ cls := "Miterhouse$Sweeping", name := "isMerged", desc := "(I)Z" } : Jvm.MethodName)) ∈ TT := ttk_2 (List.mem_of_getElem? (i := 8) rfl) rfl
theorem t_2_10 : (Jvm.Cond.instanceMethod ({ cls := "Miterhouse$Sweeping", name := "isMerged", desc := "(I)Z" } : Jvm.MethodName)) ∈ TT := ttk_2 (List.mem_of_getElem? (i := 10) rfl) rfl
theorem t_2_11 : (Jvm.Cond.instantiable "Miterhouse$Sweeping" (9 : Nat)) ∈ TT := ttk_2 (List.mem_of_getElem? (i := 11) rfl) rfl
theorem t_2_12 : (Jvm.Cond.code ({ cls := "Miterhouse$Sweeping", name := "isMerged", desc := "(I)Z" } : Jvm.MethodName) prog_11_method_4_code (2 : Nat) (Option.some Jvm.ClassFile.FieldType.boolean)) ∈ TT := ttk_2 (List.mem_of_getElem? (i := 12) rfl) rfl
theorem t_2_13 : (Jvm.Cond.methodLink "Miterhouse$Sweeping" (81 : Nat) ({ cls := "Miterhouse$Sweeping", name := "firstDifference", desc := "(IIZ)I" } : Jvm.MethodName)) ∈ TT := ttk_2 (List.mem_of_getElem? (i := 13) rfl) rfl
theorem t_2_15 : (Jvm.Cond.instanceMethod ({ cls := "Miterhouse$Sweeping", name := "firstDifference", desc := "(IIZ)I" } : Jvm.MethodName)) ∈ TT := ttk_2 (List.mem_of_getElem? (i := 15) rfl) rfl
theorem t_2_16 : (Jvm.Cond.code ({ cls := "Miterhouse$Sweeping", name := "firstDifference", desc := "(IIZ)I" } : Jvm.MethodName) prog_11_method_9_code (9 : Nat) (Option.some Jvm.ClassFile.FieldType.int)) ∈ TT := ttk_2 (List.mem_of_getElem? (i := 16) rfl) rfl
theorem t_2_17 : (Jvm.Cond.constantLong "Miterhouse$Sweeping" (75 : Nat) (-1 : Int64)) ∈ TT := ttk_2 (List.mem_of_getElem? (i := 17) rfl) rfl
theorem t_2_18 : (Jvm.Cond.methodLink "Miterhouse$Sweeping" (104 : Nat) ({ cls := "Miterhouse$Values", name := "heldWord", desc := "(II)J" } : Jvm.MethodName)) ∈ TT := ttk_2 (List.mem_of_getElem? (i := 18) rfl) rfl
theorem t_2_19 : (Jvm.Cond.methodLink "Miterhouse$Sweeping" (108 : Nat) ({ cls := "Miterhouse$Values", name := "keptWord", desc := "(I)J" } : Jvm.MethodName)) ∈ TT := ttk_2 (List.mem_of_getElem? (i := 19) rfl) rfl
theorem t_2_20 : (Jvm.Cond.instanceMethod ({ cls := "Miterhouse$Values", name := "keptWord", desc := "(I)J" } : Jvm.MethodName)) ∈ TT := ttk_2 (List.mem_of_getElem? (i := 20) rfl) rfl
theorem t_2_21 : (Jvm.Cond.selects "Miterhouse$Values" ({ cls := "Miterhouse$Values", name := "keptWord", desc := "(I)J" } : Jvm.MethodName) ({ cls := "Miterhouse$Values", name := "keptWord", desc := "(I)J" } : Jvm.MethodName)) ∈ TT := ttk_2 (List.mem_of_getElem? (i := 21) rfl) rfl
theorem t_2_22 : (Jvm.Cond.code ({ cls := "Miterhouse$Values", name := "keptWord", desc := "(I)J" } : Jvm.MethodName) prog_12_method_8_code (2 : Nat) (Option.some Jvm.ClassFile.FieldType.long)) ∈ TT := ttk_2 (List.mem_of_getElem? (i := 22) rfl) rfl
theorem t_2_23 : (Jvm.Cond.methodLinkNest "Miterhouse$Sweeping" (111 : Nat) ({ cls := "Miterhouse", name := "lowestBit", desc := "(J)I" } : Jvm.MethodName) "Miterhouse") ∈ TT := ttk_2 (List.mem_of_getElem? (i := 23) rfl) rfl
theorem t_2_24 : (Jvm.Cond.static ({ cls := "Miterhouse", name := "lowestBit", desc := "(J)I" } : Jvm.MethodName)) ∈ TT := ttk_2 (List.mem_of_getElem? (i := 24) rfl) rfl
theorem t_2_25 : (Jvm.Cond.code ({ cls := "Miterhouse", name := "lowestBit", desc := "(J)I" } : Jvm.MethodName) prog_1_method_65_code (2 : Nat) (Option.some Jvm.ClassFile.FieldType.int)) ∈ TT := ttk_2 (List.mem_of_getElem? (i := 25) rfl) rfl
theorem t_2_26 : (Jvm.Cond.methodLink "Miterhouse" (426 : Nat) ({ cls := "java/lang/Long", name := "bitCount", desc := "(J)I" } : Jvm.MethodName)) ∈ TT := ttk_2 (List.mem_of_getElem? (i := 26) rfl) rfl
theorem t_2_27 : (Jvm.Cond.static ({ cls := "java/lang/Long", name := "bitCount", desc := "(J)I" } : Jvm.MethodName)) ∈ TT := ttk_2 (List.mem_of_getElem? (i := 27) rfl) rfl
theorem t_2_28 : (Jvm.Cond.code ({ cls := "java/lang/Long", name := "bitCount", desc := "(J)I" } : Jvm.MethodName) prog_24_method_50_code (2 : Nat) (Option.some Jvm.ClassFile.FieldType.int)) ∈ TT := ttk_2 (List.mem_of_getElem? (i := 28) rfl) rfl
theorem t_2_29 : (Jvm.Cond.constantLong "java/lang/Long" (314 : Nat) (6148914691236517205 : Int64)) ∈ TT := ttk_2 (List.mem_of_getElem? (i := 29) rfl) rfl
theorem t_2_30 : (Jvm.Cond.constantLong "java/lang/Long" (316 : Nat) (3689348814741910323 : Int64)) ∈ TT := ttk_2 (List.mem_of_getElem? (i := 30) rfl) rfl
theorem t_2_31 : (Jvm.Cond.constantLong "java/lang/Long" (318 : Nat) (1085102592571150095 : Int64)) ∈ TT := ttk_2 (List.mem_of_getElem? (i := 31) rfl) rfl
theorem t_2_32 : (Jvm.Cond.methodLink "Miterhouse$Sweeping" (137 : Nat) ({ cls := "Miterhouse$Nets", name := "outputsOf", desc := "(I)I" } : Jvm.MethodName)) ∈ TT := ttk_2 (List.mem_of_getElem? (i := 32) rfl) rfl
theorem t_2_33 : (Jvm.Cond.methodLink "Miterhouse$Sweeping" (140 : Nat) ({ cls := "Miterhouse$Nets", name := "outputAt", desc := "(II)I" } : Jvm.MethodName)) ∈ TT := ttk_2 (List.mem_of_getElem? (i := 33) rfl) rfl
theorem t_2_34 : (Jvm.Cond.methodLink "Miterhouse$Sweeping" (126 : Nat) ({ cls := "Miterhouse$Sweeping", name := "compare", desc := "(IIZ)V" } : Jvm.MethodName)) ∈ TT := ttk_2 (List.mem_of_getElem? (i := 34) rfl) rfl
theorem t_2_35 : (Jvm.Cond.instanceMethod ({ cls := "Miterhouse$Sweeping", name := "compare", desc := "(IIZ)V" } : Jvm.MethodName)) ∈ TT := ttk_2 (List.mem_of_getElem? (i := 35) rfl) rfl
theorem t_2_36 : (Jvm.Cond.selects "Miterhouse$Sweeping" ({ cls := "Miterhouse$Sweeping", name := "compare", desc := "(IIZ)V" } : Jvm.MethodName) ({ cls := "Miterhouse$Sweeping", name := "compare", desc := "(IIZ)V" } : Jvm.MethodName)) ∈ TT := ttk_2 (List.mem_of_getElem? (i := 36) rfl) rfl
theorem t_2_37 : (Jvm.Cond.code ({ cls := "Miterhouse$Sweeping", name := "compare", desc := "(IIZ)V" } : Jvm.MethodName) prog_11_method_8_code (8 : Nat) (Option.none : Option Jvm.ClassFile.FieldType)) ∈ TT := ttk_2 (List.mem_of_getElem? (i := 37) rfl) rfl
theorem t_2_38 : (Jvm.Cond.methodLink "Miterhouse$Sweeping" (88 : Nat) ({ cls := "Miterhouse$Sweeping", name := "openBetween", desc := "(IIZII)I" } : Jvm.MethodName)) ∈ TT := ttk_2 (List.mem_of_getElem? (i := 38) rfl) rfl
theorem t_2_40 : (Jvm.Cond.instanceMethod ({ cls := "Miterhouse$Sweeping", name := "openBetween", desc := "(IIZII)I" } : Jvm.MethodName)) ∈ TT := ttk_2 (List.mem_of_getElem? (i := 40) rfl) rfl
theorem t_2_41 : (Jvm.Cond.code ({ cls := "Miterhouse$Sweeping", name := "openBetween", desc := "(IIZII)I" } : Jvm.MethodName) prog_11_method_10_code (10 : Nat) (Option.some Jvm.ClassFile.FieldType.int)) ∈ TT := ttk_2 (List.mem_of_getElem? (i := 41) rfl) rfl
theorem t_2_42 : (Jvm.Cond.methodLink "Miterhouse$Sweeping" (114 : Nat) ({ cls := "Miterhouse$Values", name := "leafWord", desc := "(IIZI)J" } : Jvm.MethodName)) ∈ TT := ttk_2 (List.mem_of_getElem? (i := 42) rfl) rfl
theorem t_2_43 : (Jvm.Cond.instanceMethod ({ cls := "Miterhouse$Values", name := "leafWord", desc := "(IIZI)J" } : Jvm.MethodName)) ∈ TT := ttk_2 (List.mem_of_getElem? (i := 43) rfl) rfl
theorem t_2_44 : (Jvm.Cond.selects "Miterhouse$Values" ({ cls := "Miterhouse$Values", name := "leafWord", desc := "(IIZI)J" } : Jvm.MethodName) ({ cls := "Miterhouse$Values", name := "leafWord", desc := "(IIZI)J" } : Jvm.MethodName)) ∈ TT := ttk_2 (List.mem_of_getElem? (i := 44) rfl) rfl
theorem t_2_45 : (Jvm.Cond.code ({ cls := "Miterhouse$Values", name := "leafWord", desc := "(IIZI)J" } : Jvm.MethodName) prog_12_method_9_code (11 : Nat) (Option.some Jvm.ClassFile.FieldType.long)) ∈ TT := ttk_2 (List.mem_of_getElem? (i := 45) rfl) rfl
theorem t_2_46 : (Jvm.Cond.methodLink "Miterhouse$Sweeping" (95 : Nat) ({ cls := "java/lang/Long", name := "bitCount", desc := "(J)I" } : Jvm.MethodName)) ∈ TT := ttk_2 (List.mem_of_getElem? (i := 46) rfl) rfl
theorem t_2_47 : (Jvm.Cond.methodLink "Miterhouse$Sweeping" (92 : Nat) ({ cls := "Miterhouse$Values", name := "mirrored", desc := "(I)I" } : Jvm.MethodName)) ∈ TT := ttk_2 (List.mem_of_getElem? (i := 47) rfl) rfl
theorem t_2_48 : (Jvm.Cond.methodLink "Miterhouse$Sweeping" (143 : Nat) ({ cls := "Miterhouse$Sweeping", name := "areSameEverywhere", desc := "(II)Z" } : Jvm.MethodName)) ∈ TT := ttk_2 (List.mem_of_getElem? (i := 48) rfl) rfl
theorem t_2_50 : (Jvm.Cond.instanceMethod ({ cls := "Miterhouse$Sweeping", name := "areSameEverywhere", desc := "(II)Z" } : Jvm.MethodName)) ∈ TT := ttk_2 (List.mem_of_getElem? (i := 50) rfl) rfl
theorem t_2_51 : (Jvm.Cond.code ({ cls := "Miterhouse$Sweeping", name := "areSameEverywhere", desc := "(II)Z" } : Jvm.MethodName) prog_11_method_14_code (4 : Nat) (Option.some Jvm.ClassFile.FieldType.boolean)) ∈ TT := ttk_2 (List.mem_of_getElem? (i := 51) rfl) rfl
theorem t_2_52 : (Jvm.Cond.methodLink "Miterhouse$Sweeping" (147 : Nat) ({ cls := "Miterhouse$Values", name := "isKept", desc := "(I)Z" } : Jvm.MethodName)) ∈ TT := ttk_2 (List.mem_of_getElem? (i := 52) rfl) rfl
theorem t_2_53 : (Jvm.Cond.instanceMethod ({ cls := "Miterhouse$Values", name := "isKept", desc := "(I)Z" } : Jvm.MethodName)) ∈ TT := ttk_2 (List.mem_of_getElem? (i := 53) rfl) rfl
theorem t_2_54 : (Jvm.Cond.selects "Miterhouse$Values" ({ cls := "Miterhouse$Values", name := "isKept", desc := "(I)Z" } : Jvm.MethodName) ({ cls := "Miterhouse$Values", name := "isKept", desc := "(I)Z" } : Jvm.MethodName)) ∈ TT := ttk_2 (List.mem_of_getElem? (i := 54) rfl) rfl
theorem t_2_55 : (Jvm.Cond.code ({ cls := "Miterhouse$Values", name := "isKept", desc := "(I)Z" } : Jvm.MethodName) prog_12_method_12_code (3 : Nat) (Option.some Jvm.ClassFile.FieldType.boolean)) ∈ TT := ttk_2 (List.mem_of_getElem? (i := 55) rfl) rfl
theorem t_2_56 : (Jvm.Cond.methodLink "Miterhouse$Values" (134 : Nat) ({ cls := "Miterhouse$Values", name := "keptWord", desc := "(I)J" } : Jvm.MethodName)) ∈ TT := ttk_2 (List.mem_of_getElem? (i := 56) rfl) rfl
theorem t_2_57 : (Jvm.Cond.methodLink "Miterhouse$Sweeping" (61 : Nat) ({ cls := "Miterhouse$Values", name := "bitAtChoice", desc := "(II)I" } : Jvm.MethodName)) ∈ TT := ttk_2 (List.mem_of_getElem? (i := 57) rfl) rfl
theorem t_2_58 : (Jvm.Cond.methodLink "Miterhouse$Closed" (106 : Nat) ({ cls := "Miterhouse$States", name := "isTraceRight", desc := "()Z" } : Jvm.MethodName)) ∈ TT := ttk_2 (List.mem_of_getElem? (i := 58) rfl) rfl
theorem t_2_59 : (Jvm.Cond.instanceMethod ({ cls := "Miterhouse$States", name := "isTraceRight", desc := "()Z" } : Jvm.MethodName)) ∈ TT := ttk_2 (List.mem_of_getElem? (i := 59) rfl) rfl
theorem t_2_60 : (Jvm.Cond.selects "Miterhouse$States" ({ cls := "Miterhouse$States", name := "isTraceRight", desc := "()Z" } : Jvm.MethodName) ({ cls := "Miterhouse$States", name := "isTraceRight", desc := "()Z" } : Jvm.MethodName)) ∈ TT := ttk_2 (List.mem_of_getElem? (i := 60) rfl) rfl
theorem t_2_61 : (Jvm.Cond.code ({ cls := "Miterhouse$States", name := "isTraceRight", desc := "()Z" } : Jvm.MethodName) prog_10_method_18_code (3 : Nat) (Option.some Jvm.ClassFile.FieldType.boolean)) ∈ TT := ttk_2 (List.mem_of_getElem? (i := 61) rfl) rfl
theorem t_2_62 : (Jvm.Cond.methodLink "Miterhouse$States" (168 : Nat) ({ cls := "Miterhouse$States", name := "traceAt", desc := "(I)I" } : Jvm.MethodName)) ∈ TT := ttk_2 (List.mem_of_getElem? (i := 62) rfl) rfl
theorem t_2_63 : (Jvm.Cond.instanceMethod ({ cls := "Miterhouse$States", name := "traceAt", desc := "(I)I" } : Jvm.MethodName)) ∈ TT := ttk_2 (List.mem_of_getElem? (i := 63) rfl) rfl
theorem t_2_64 : (Jvm.Cond.selects "Miterhouse$States" ({ cls := "Miterhouse$States", name := "traceAt", desc := "(I)I" } : Jvm.MethodName) ({ cls := "Miterhouse$States", name := "traceAt", desc := "(I)I" } : Jvm.MethodName)) ∈ TT := ttk_2 (List.mem_of_getElem? (i := 64) rfl) rfl
theorem t_2_65 : (Jvm.Cond.code ({ cls := "Miterhouse$States", name := "traceAt", desc := "(I)I" } : Jvm.MethodName) prog_10_method_11_code (2 : Nat) (Option.some Jvm.ClassFile.FieldType.int)) ∈ TT := ttk_2 (List.mem_of_getElem? (i := 65) rfl) rfl
theorem t_2_66 : (Jvm.Cond.methodLink "MiterhouseLaw" (123 : Nat) ({ cls := "MiterhouseLaw", name := "cell", desc := "(LMiterhouse;III)I" } : Jvm.MethodName)) ∈ TT := ttk_2 (List.mem_of_getElem? (i := 66) rfl) rfl
theorem t_2_67 : (Jvm.Cond.static ({ cls := "MiterhouseLaw", name := "cell", desc := "(LMiterhouse;III)I" } : Jvm.MethodName)) ∈ TT := ttk_2 (List.mem_of_getElem? (i := 67) rfl) rfl
theorem t_2_68 : (Jvm.Cond.codeWith ({ cls := "MiterhouseLaw", name := "cell", desc := "(LMiterhouse;III)I" } : Jvm.MethodName) method_4_code (5 : Nat) (Option.some Jvm.ClassFile.FieldType.int) [((0 : Nat), (7 : Nat), (8 : Nat), (25 : Nat)), ((0 : Nat), (7 : Nat), (13 : Nat), (15 : Nat)), ((0 : Nat), (7 : Nat), (18 : Nat), (18 : Nat))]) ∈ TT := ttk_2 (List.mem_of_getElem? (i := 68) rfl) rfl
theorem t_2_69 : (Jvm.Cond.classLink "MiterhouseLaw" (25 : Nat) "java/lang/IllegalArgumentException") ∈ TT := ttk_2 (List.mem_of_getElem? (i := 69) rfl) rfl
theorem t_2_70 : (Jvm.Cond.classLink "MiterhouseLaw" (15 : Nat) "java/lang/UnsupportedOperationException") ∈ TT := ttk_2 (List.mem_of_getElem? (i := 70) rfl) rfl
theorem t_2_71 : (Jvm.Cond.classLink "MiterhouseLaw" (18 : Nat) "java/lang/IllegalStateException") ∈ TT := ttk_2 (List.mem_of_getElem? (i := 71) rfl) rfl
theorem t_2_72 : (Jvm.Cond.methodLink "MiterhouseLaw" (21 : Nat) ({ cls := "Miterhouse", name := "cell", desc := "(III)I" } : Jvm.MethodName)) ∈ TT := ttk_2 (List.mem_of_getElem? (i := 72) rfl) rfl
theorem t_2_73 : (Jvm.Cond.instanceMethod ({ cls := "Miterhouse", name := "cell", desc := "(III)I" } : Jvm.MethodName)) ∈ TT := ttk_2 (List.mem_of_getElem? (i := 73) rfl) rfl
theorem t_2_74 : (Jvm.Cond.selects "Miterhouse" ({ cls := "Miterhouse", name := "cell", desc := "(III)I" } : Jvm.MethodName) ({ cls := "Miterhouse", name := "cell", desc := "(III)I" } : Jvm.MethodName)) ∈ TT := ttk_2 (List.mem_of_getElem? (i := 74) rfl) rfl
theorem t_2_75 : (Jvm.Cond.code ({ cls := "Miterhouse", name := "cell", desc := "(III)I" } : Jvm.MethodName) prog_1_method_3_code (4 : Nat) (Option.some Jvm.ClassFile.FieldType.int)) ∈ TT := ttk_2 (List.mem_of_getElem? (i := 75) rfl) rfl
theorem t_2_76 : (Jvm.Cond.methodLink "Miterhouse" (45 : Nat) ({ cls := "Miterhouse", name := "mustBeWithin", desc := "(III)V" } : Jvm.MethodName)) ∈ TT := ttk_2 (List.mem_of_getElem? (i := 76) rfl) rfl
theorem t_2_77 : (Jvm.Cond.static ({ cls := "Miterhouse", name := "mustBeWithin", desc := "(III)V" } : Jvm.MethodName)) ∈ TT := ttk_2 (List.mem_of_getElem? (i := 77) rfl) rfl
theorem t_2_78 : (Jvm.Cond.code ({ cls := "Miterhouse", name := "mustBeWithin", desc := "(III)V" } : Jvm.MethodName) prog_1_method_58_code (3 : Nat) (Option.none : Option Jvm.ClassFile.FieldType)) ∈ TT := ttk_2 (List.mem_of_getElem? (i := 78) rfl) rfl
theorem t_2_79 : (Jvm.Cond.classLink "Miterhouse" (72 : Nat) "java/lang/IllegalArgumentException") ∈ TT := ttk_2 (List.mem_of_getElem? (i := 79) rfl) rfl
theorem t_2_81 : (Jvm.Cond.castable "java/lang/IllegalArgumentException" "java/lang/IllegalArgumentException") ∈ TT := ttk_2 (List.mem_of_getElem? (i := 81) rfl) rfl
theorem t_2_150 : (Jvm.Cond.methodLink "Miterhouse" (24 : Nat) ({ cls := "Miterhouse", name := "mustBeOpen", desc := "()V" } : Jvm.MethodName)) ∈ TT := ttk_2 (List.mem_of_getElem? (i := 150) rfl) rfl
theorem t_2_152 : (Jvm.Cond.instanceMethod ({ cls := "Miterhouse", name := "mustBeOpen", desc := "()V" } : Jvm.MethodName)) ∈ TT := ttk_2 (List.mem_of_getElem? (i := 152) rfl) rfl
theorem t_2_153 : (Jvm.Cond.code ({ cls := "Miterhouse", name := "mustBeOpen", desc := "()V" } : Jvm.MethodName) prog_1_method_50_code (1 : Nat) (Option.none : Option Jvm.ClassFile.FieldType)) ∈ TT := ttk_2 (List.mem_of_getElem? (i := 153) rfl) rfl
theorem t_2_154 : (Jvm.Cond.classLink "Miterhouse" (53 : Nat) "java/lang/UnsupportedOperationException") ∈ TT := ttk_2 (List.mem_of_getElem? (i := 154) rfl) rfl
theorem t_2_156 : (Jvm.Cond.castable "java/lang/UnsupportedOperationException" "java/lang/UnsupportedOperationException") ∈ TT := ttk_2 (List.mem_of_getElem? (i := 156) rfl) rfl
theorem t_2_170 : (Jvm.Cond.methodLink "Miterhouse" (49 : Nat) ({ cls := "Miterhouse$Nets", name := "cellNamed", desc := "(II)I" } : Jvm.MethodName)) ∈ TT := ttk_2 (List.mem_of_getElem? (i := 170) rfl) rfl
theorem t_2_171 : (Jvm.Cond.instanceMethod ({ cls := "Miterhouse$Nets", name := "cellNamed", desc := "(II)I" } : Jvm.MethodName)) ∈ TT := ttk_2 (List.mem_of_getElem? (i := 171) rfl) rfl
theorem t_2_172 : (Jvm.Cond.selects "Miterhouse$Nets" ({ cls := "Miterhouse$Nets", name := "cellNamed", desc := "(II)I" } : Jvm.MethodName) ({ cls := "Miterhouse$Nets", name := "cellNamed", desc := "(II)I" } : Jvm.MethodName)) ∈ TT := ttk_2 (List.mem_of_getElem? (i := 172) rfl) rfl
theorem t_2_173 : (Jvm.Cond.code ({ cls := "Miterhouse$Nets", name := "cellNamed", desc := "(II)I" } : Jvm.MethodName) prog_8_method_19_code (4 : Nat) (Option.some Jvm.ClassFile.FieldType.int)) ∈ TT := ttk_2 (List.mem_of_getElem? (i := 173) rfl) rfl
theorem t_2_174 : (Jvm.Cond.methodLink "Miterhouse$Nets" (68 : Nat) ({ cls := "Miterhouse$Nets", name := "isCell", desc := "(I)Z" } : Jvm.MethodName)) ∈ TT := ttk_2 (List.mem_of_getElem? (i := 174) rfl) rfl
theorem t_2_175 : (Jvm.Cond.instanceMethod ({ cls := "Miterhouse$Nets", name := "isCell", desc := "(I)Z" } : Jvm.MethodName)) ∈ TT := ttk_2 (List.mem_of_getElem? (i := 175) rfl) rfl
theorem t_2_176 : (Jvm.Cond.selects "Miterhouse$Nets" ({ cls := "Miterhouse$Nets", name := "isCell", desc := "(I)Z" } : Jvm.MethodName) ({ cls := "Miterhouse$Nets", name := "isCell", desc := "(I)Z" } : Jvm.MethodName)) ∈ TT := ttk_2 (List.mem_of_getElem? (i := 176) rfl) rfl
theorem t_2_177 : (Jvm.Cond.code ({ cls := "Miterhouse$Nets", name := "isCell", desc := "(I)Z" } : Jvm.MethodName) prog_8_method_5_code (2 : Nat) (Option.some Jvm.ClassFile.FieldType.boolean)) ∈ TT := ttk_2 (List.mem_of_getElem? (i := 177) rfl) rfl
theorem t_2_178 : (Jvm.Cond.methodLink "Miterhouse$Nets" (53 : Nat) ({ cls := "Miterhouse$Nets", name := "kindOf", desc := "(I)C" } : Jvm.MethodName)) ∈ TT := ttk_2 (List.mem_of_getElem? (i := 178) rfl) rfl
theorem t_2_179 : (Jvm.Cond.instanceMethod ({ cls := "Miterhouse$Nets", name := "kindOf", desc := "(I)C" } : Jvm.MethodName)) ∈ TT := ttk_2 (List.mem_of_getElem? (i := 179) rfl) rfl
theorem t_2_180 : (Jvm.Cond.selects "Miterhouse$Nets" ({ cls := "Miterhouse$Nets", name := "kindOf", desc := "(I)C" } : Jvm.MethodName) ({ cls := "Miterhouse$Nets", name := "kindOf", desc := "(I)C" } : Jvm.MethodName)) ∈ TT := ttk_2 (List.mem_of_getElem? (i := 180) rfl) rfl
theorem t_2_181 : (Jvm.Cond.code ({ cls := "Miterhouse$Nets", name := "kindOf", desc := "(I)C" } : Jvm.MethodName) prog_8_method_3_code (2 : Nat) (Option.some Jvm.ClassFile.FieldType.char)) ∈ TT := ttk_2 (List.mem_of_getElem? (i := 181) rfl) rfl
theorem t_2_182 : (Jvm.Cond.methodLink "Miterhouse$Nets" (65 : Nat) ({ cls := "Miterhouse$Nets", name := "ownerOf", desc := "(I)I" } : Jvm.MethodName)) ∈ TT := ttk_2 (List.mem_of_getElem? (i := 182) rfl) rfl
theorem t_2_183 : (Jvm.Cond.instanceMethod ({ cls := "Miterhouse$Nets", name := "ownerOf", desc := "(I)I" } : Jvm.MethodName)) ∈ TT := ttk_2 (List.mem_of_getElem? (i := 183) rfl) rfl
theorem t_2_184 : (Jvm.Cond.selects "Miterhouse$Nets" ({ cls := "Miterhouse$Nets", name := "ownerOf", desc := "(I)I" } : Jvm.MethodName) ({ cls := "Miterhouse$Nets", name := "ownerOf", desc := "(I)I" } : Jvm.MethodName)) ∈ TT := ttk_2 (List.mem_of_getElem? (i := 184) rfl) rfl
theorem t_2_185 : (Jvm.Cond.code ({ cls := "Miterhouse$Nets", name := "ownerOf", desc := "(I)I" } : Jvm.MethodName) prog_8_method_7_code (2 : Nat) (Option.some Jvm.ClassFile.FieldType.int)) ∈ TT := ttk_2 (List.mem_of_getElem? (i := 185) rfl) rfl
theorem t_2_186 : (Jvm.Cond.methodLink "Miterhouse$Nets" (72 : Nat) ({ cls := "Miterhouse$Nets", name := "nameOf", desc := "(I)I" } : Jvm.MethodName)) ∈ TT := ttk_2 (List.mem_of_getElem? (i := 186) rfl) rfl
theorem t_2_187 : (Jvm.Cond.instanceMethod ({ cls := "Miterhouse$Nets", name := "nameOf", desc := "(I)I" } : Jvm.MethodName)) ∈ TT := ttk_2 (List.mem_of_getElem? (i := 187) rfl) rfl
theorem t_2_188 : (Jvm.Cond.selects "Miterhouse$Nets" ({ cls := "Miterhouse$Nets", name := "nameOf", desc := "(I)I" } : Jvm.MethodName) ({ cls := "Miterhouse$Nets", name := "nameOf", desc := "(I)I" } : Jvm.MethodName)) ∈ TT := ttk_2 (List.mem_of_getElem? (i := 188) rfl) rfl
theorem t_2_189 : (Jvm.Cond.code ({ cls := "Miterhouse$Nets", name := "nameOf", desc := "(I)I" } : Jvm.MethodName) prog_8_method_12_code (2 : Nat) (Option.some Jvm.ClassFile.FieldType.int)) ∈ TT := ttk_2 (List.mem_of_getElem? (i := 189) rfl) rfl
theorem t_2_191 : (Jvm.Cond.methodLink "Miterhouse" (58 : Nat) ({ cls := "Miterhouse$Nets", name := "cellsOf", desc := "(I)I" } : Jvm.MethodName)) ∈ TT := ttk_2 (List.mem_of_getElem? (i := 191) rfl) rfl
theorem t_2_192 : (Jvm.Cond.instanceMethod ({ cls := "Miterhouse$Nets", name := "cellsOf", desc := "(I)I" } : Jvm.MethodName)) ∈ TT := ttk_2 (List.mem_of_getElem? (i := 192) rfl) rfl
theorem t_2_193 : (Jvm.Cond.selects "Miterhouse$Nets" ({ cls := "Miterhouse$Nets", name := "cellsOf", desc := "(I)I" } : Jvm.MethodName) ({ cls := "Miterhouse$Nets", name := "cellsOf", desc := "(I)I" } : Jvm.MethodName)) ∈ TT := ttk_2 (List.mem_of_getElem? (i := 193) rfl) rfl
theorem t_2_194 : (Jvm.Cond.code ({ cls := "Miterhouse$Nets", name := "cellsOf", desc := "(I)I" } : Jvm.MethodName) prog_8_method_13_code (2 : Nat) (Option.some Jvm.ClassFile.FieldType.int)) ∈ TT := ttk_2 (List.mem_of_getElem? (i := 194) rfl) rfl
theorem t_2_195 : (Jvm.Cond.classLink "Miterhouse" (34 : Nat) "java/lang/IllegalStateException") ∈ TT := ttk_2 (List.mem_of_getElem? (i := 195) rfl) rfl
theorem t_2_197 : (Jvm.Cond.castable "java/lang/IllegalStateException" "java/lang/IllegalStateException") ∈ TT := ttk_2 (List.mem_of_getElem? (i := 197) rfl) rfl
theorem t_2_211 : (Jvm.Cond.methodLink "Miterhouse" (64 : Nat) ({ cls := "Miterhouse$Nets", name := "addCell", desc := "(III)I" } : Jvm.MethodName)) ∈ TT := ttk_2 (List.mem_of_getElem? (i := 211) rfl) rfl
theorem t_2_212 : (Jvm.Cond.instanceMethod ({ cls := "Miterhouse$Nets", name := "addCell", desc := "(III)I" } : Jvm.MethodName)) ∈ TT := ttk_2 (List.mem_of_getElem? (i := 212) rfl) rfl
theorem t_2_213 : (Jvm.Cond.selects "Miterhouse$Nets" ({ cls := "Miterhouse$Nets", name := "addCell", desc := "(III)I" } : Jvm.MethodName) ({ cls := "Miterhouse$Nets", name := "addCell", desc := "(III)I" } : Jvm.MethodName)) ∈ TT := ttk_2 (List.mem_of_getElem? (i := 213) rfl) rfl
theorem t_2_214 : (Jvm.Cond.code ({ cls := "Miterhouse$Nets", name := "addCell", desc := "(III)I" } : Jvm.MethodName) prog_8_method_22_code (4 : Nat) (Option.some Jvm.ClassFile.FieldType.int)) ∈ TT := ttk_2 (List.mem_of_getElem? (i := 214) rfl) rfl
theorem t_2_215 : (Jvm.Cond.methodLinkNest "Miterhouse$Nets" (83 : Nat) ({ cls := "Miterhouse", name := "putNumber", desc := "([III)V" } : Jvm.MethodName) "Miterhouse") ∈ TT := ttk_2 (List.mem_of_getElem? (i := 215) rfl) rfl
theorem t_2_216 : (Jvm.Cond.methodLink "Miterhouse$Nets" (61 : Nat) ({ cls := "Miterhouse$Nets", name := "cellsOf", desc := "(I)I" } : Jvm.MethodName)) ∈ TT := ttk_2 (List.mem_of_getElem? (i := 216) rfl) rfl
theorem t_2_217 : (Jvm.Cond.methodLink "Miterhouse$Nets" (79 : Nat) ({ cls := "Miterhouse$Nets", name := "addLine", desc := "(ICII)I" } : Jvm.MethodName)) ∈ TT := ttk_2 (List.mem_of_getElem? (i := 217) rfl) rfl
theorem t_2_219 : (Jvm.Cond.instanceMethod ({ cls := "Miterhouse$Nets", name := "addLine", desc := "(ICII)I" } : Jvm.MethodName)) ∈ TT := ttk_2 (List.mem_of_getElem? (i := 219) rfl) rfl
theorem t_2_220 : (Jvm.Cond.code ({ cls := "Miterhouse$Nets", name := "addLine", desc := "(ICII)I" } : Jvm.MethodName) prog_8_method_24_code (6 : Nat) (Option.some Jvm.ClassFile.FieldType.int)) ∈ TT := ttk_2 (List.mem_of_getElem? (i := 220) rfl) rfl
theorem t_2_221 : (Jvm.Cond.constant "MiterhouseLaw" (17 : Nat) (-900001 : Int32)) ∈ TT := ttk_2 (List.mem_of_getElem? (i := 221) rfl) rfl
theorem t_2_222 : (Jvm.Cond.constant "MiterhouseLaw" (20 : Nat) (-900002 : Int32)) ∈ TT := ttk_2 (List.mem_of_getElem? (i := 222) rfl) rfl
theorem t_2_223 : (Jvm.Cond.constant "MiterhouseLaw" (27 : Nat) (-900003 : Int32)) ∈ TT := ttk_2 (List.mem_of_getElem? (i := 223) rfl) rfl
theorem t_2_224 : (Jvm.Cond.methodLink "MiterhouseLaw" (126 : Nat) ({ cls := "MiterhouseLaw", name := "gate", desc := "(LMiterhouse;ICII)I" } : Jvm.MethodName)) ∈ TT := ttk_2 (List.mem_of_getElem? (i := 224) rfl) rfl
theorem t_2_225 : (Jvm.Cond.static ({ cls := "MiterhouseLaw", name := "gate", desc := "(LMiterhouse;ICII)I" } : Jvm.MethodName)) ∈ TT := ttk_2 (List.mem_of_getElem? (i := 225) rfl) rfl
theorem t_2_226 : (Jvm.Cond.codeWith ({ cls := "MiterhouseLaw", name := "gate", desc := "(LMiterhouse;ICII)I" } : Jvm.MethodName) method_5_code (6 : Nat) (Option.some Jvm.ClassFile.FieldType.int) [((0 : Nat), (9 : Nat), (10 : Nat), (25 : Nat)), ((0 : Nat), (9 : Nat), (15 : Nat), (32 : Nat)), ((0 : Nat), (9 : Nat), (20 : Nat), (15 : Nat)), ((0 : Nat), (9 : Nat), (25 : Nat), (18 : Nat))]) ∈ TT := ttk_2 (List.mem_of_getElem? (i := 226) rfl) rfl
theorem t_2_227 : (Jvm.Cond.classLink "MiterhouseLaw" (32 : Nat) "java/lang/IndexOutOfBoundsException") ∈ TT := ttk_2 (List.mem_of_getElem? (i := 227) rfl) rfl
theorem t_3_11 : (Jvm.Cond.methodLink "MiterhouseLaw" (28 : Nat) ({ cls := "Miterhouse", name := "gate", desc := "(ICII)I" } : Jvm.MethodName)) ∈ TT := ttk_3 (List.mem_of_getElem? (i := 11) rfl) rfl
theorem t_3_12 : (Jvm.Cond.instanceMethod ({ cls := "Miterhouse", name := "gate", desc := "(ICII)I" } : Jvm.MethodName)) ∈ TT := ttk_3 (List.mem_of_getElem? (i := 12) rfl) rfl
theorem t_3_13 : (Jvm.Cond.selects "Miterhouse" ({ cls := "Miterhouse", name := "gate", desc := "(ICII)I" } : Jvm.MethodName) ({ cls := "Miterhouse", name := "gate", desc := "(ICII)I" } : Jvm.MethodName)) ∈ TT := ttk_3 (List.mem_of_getElem? (i := 13) rfl) rfl
theorem t_3_14 : (Jvm.Cond.code ({ cls := "Miterhouse", name := "gate", desc := "(ICII)I" } : Jvm.MethodName) prog_1_method_4_code (7 : Nat) (Option.some Jvm.ClassFile.FieldType.int)) ∈ TT := ttk_3 (List.mem_of_getElem? (i := 14) rfl) rfl
theorem t_3_15 : (Jvm.Cond.methodLink "Miterhouse" (68 : Nat) ({ cls := "Miterhouse", name := "isPairKind", desc := "(C)Z" } : Jvm.MethodName)) ∈ TT := ttk_3 (List.mem_of_getElem? (i := 15) rfl) rfl
theorem t_3_16 : (Jvm.Cond.static ({ cls := "Miterhouse", name := "isPairKind", desc := "(C)Z" } : Jvm.MethodName)) ∈ TT := ttk_3 (List.mem_of_getElem? (i := 16) rfl) rfl
theorem t_3_17 : (Jvm.Cond.code ({ cls := "Miterhouse", name := "isPairKind", desc := "(C)Z" } : Jvm.MethodName) prog_1_method_59_code (1 : Nat) (Option.some Jvm.ClassFile.FieldType.boolean)) ∈ TT := ttk_3 (List.mem_of_getElem? (i := 17) rfl) rfl
theorem t_3_19 : (Jvm.Cond.methodLink "Miterhouse" (77 : Nat) ({ cls := "Miterhouse", name := "mustBeLine", desc := "(I)V" } : Jvm.MethodName)) ∈ TT := ttk_3 (List.mem_of_getElem? (i := 19) rfl) rfl
theorem t_3_21 : (Jvm.Cond.instanceMethod ({ cls := "Miterhouse", name := "mustBeLine", desc := "(I)V" } : Jvm.MethodName)) ∈ TT := ttk_3 (List.mem_of_getElem? (i := 21) rfl) rfl
theorem t_3_22 : (Jvm.Cond.code ({ cls := "Miterhouse", name := "mustBeLine", desc := "(I)V" } : Jvm.MethodName) prog_1_method_52_code (2 : Nat) (Option.none : Option Jvm.ClassFile.FieldType)) ∈ TT := ttk_3 (List.mem_of_getElem? (i := 22) rfl) rfl
theorem t_3_23 : (Jvm.Cond.methodLink "Miterhouse" (398 : Nat) ({ cls := "Miterhouse$Nets", name := "hasLine", desc := "(I)Z" } : Jvm.MethodName)) ∈ TT := ttk_3 (List.mem_of_getElem? (i := 23) rfl) rfl
theorem t_3_24 : (Jvm.Cond.instanceMethod ({ cls := "Miterhouse$Nets", name := "hasLine", desc := "(I)Z" } : Jvm.MethodName)) ∈ TT := ttk_3 (List.mem_of_getElem? (i := 24) rfl) rfl
theorem t_3_25 : (Jvm.Cond.selects "Miterhouse$Nets" ({ cls := "Miterhouse$Nets", name := "hasLine", desc := "(I)Z" } : Jvm.MethodName) ({ cls := "Miterhouse$Nets", name := "hasLine", desc := "(I)Z" } : Jvm.MethodName)) ∈ TT := ttk_3 (List.mem_of_getElem? (i := 25) rfl) rfl
theorem t_3_26 : (Jvm.Cond.code ({ cls := "Miterhouse$Nets", name := "hasLine", desc := "(I)Z" } : Jvm.MethodName) prog_8_method_2_code (2 : Nat) (Option.some Jvm.ClassFile.FieldType.boolean)) ∈ TT := ttk_3 (List.mem_of_getElem? (i := 26) rfl) rfl
theorem t_3_27 : (Jvm.Cond.classLink "Miterhouse" (401 : Nat) "java/lang/IndexOutOfBoundsException") ∈ TT := ttk_3 (List.mem_of_getElem? (i := 27) rfl) rfl
theorem t_3_29 : (Jvm.Cond.castable "java/lang/IndexOutOfBoundsException" "java/lang/IndexOutOfBoundsException") ∈ TT := ttk_3 (List.mem_of_getElem? (i := 29) rfl) rfl
theorem t_3_40 : (Jvm.Cond.methodLink "Miterhouse" (81 : Nat) ({ cls := "Miterhouse$Nets", name := "fits", desc := "(II)Z" } : Jvm.MethodName)) ∈ TT := ttk_3 (List.mem_of_getElem? (i := 40) rfl) rfl
theorem t_3_41 : (Jvm.Cond.instanceMethod ({ cls := "Miterhouse$Nets", name := "fits", desc := "(II)Z" } : Jvm.MethodName)) ∈ TT := ttk_3 (List.mem_of_getElem? (i := 41) rfl) rfl
theorem t_3_42 : (Jvm.Cond.selects "Miterhouse$Nets" ({ cls := "Miterhouse$Nets", name := "fits", desc := "(II)Z" } : Jvm.MethodName) ({ cls := "Miterhouse$Nets", name := "fits", desc := "(II)Z" } : Jvm.MethodName)) ∈ TT := ttk_3 (List.mem_of_getElem? (i := 42) rfl) rfl
theorem t_3_43 : (Jvm.Cond.code ({ cls := "Miterhouse$Nets", name := "fits", desc := "(II)Z" } : Jvm.MethodName) prog_8_method_18_code (3 : Nat) (Option.some Jvm.ClassFile.FieldType.boolean)) ∈ TT := ttk_3 (List.mem_of_getElem? (i := 43) rfl) rfl
theorem t_3_46 : (Jvm.Cond.methodLink "Miterhouse" (89 : Nat) ({ cls := "Miterhouse$Nets", name := "addGate", desc := "(ICII)I" } : Jvm.MethodName)) ∈ TT := ttk_3 (List.mem_of_getElem? (i := 46) rfl) rfl
theorem t_3_47 : (Jvm.Cond.instanceMethod ({ cls := "Miterhouse$Nets", name := "addGate", desc := "(ICII)I" } : Jvm.MethodName)) ∈ TT := ttk_3 (List.mem_of_getElem? (i := 47) rfl) rfl
theorem t_3_48 : (Jvm.Cond.selects "Miterhouse$Nets" ({ cls := "Miterhouse$Nets", name := "addGate", desc := "(ICII)I" } : Jvm.MethodName) ({ cls := "Miterhouse$Nets", name := "addGate", desc := "(ICII)I" } : Jvm.MethodName)) ∈ TT := ttk_3 (List.mem_of_getElem? (i := 48) rfl) rfl
theorem t_3_49 : (Jvm.Cond.code ({ cls := "Miterhouse$Nets", name := "addGate", desc := "(ICII)I" } : Jvm.MethodName) prog_8_method_23_code (5 : Nat) (Option.some Jvm.ClassFile.FieldType.int)) ∈ TT := ttk_3 (List.mem_of_getElem? (i := 49) rfl) rfl
theorem t_3_50 : (Jvm.Cond.constant "MiterhouseLaw" (34 : Nat) (-900004 : Int32)) ∈ TT := ttk_3 (List.mem_of_getElem? (i := 50) rfl) rfl
theorem t_3_51 : (Jvm.Cond.methodLink "MiterhouseLaw" (131 : Nat) ({ cls := "MiterhouseLaw", name := "data", desc := "(LMiterhouse;II)I" } : Jvm.MethodName)) ∈ TT := ttk_3 (List.mem_of_getElem? (i := 51) rfl) rfl
theorem t_3_52 : (Jvm.Cond.static ({ cls := "MiterhouseLaw", name := "data", desc := "(LMiterhouse;II)I" } : Jvm.MethodName)) ∈ TT := ttk_3 (List.mem_of_getElem? (i := 52) rfl) rfl
theorem t_3_53 : (Jvm.Cond.codeWith ({ cls := "MiterhouseLaw", name := "data", desc := "(LMiterhouse;II)I" } : Jvm.MethodName) method_6_code (4 : Nat) (Option.some Jvm.ClassFile.FieldType.int) [((0 : Nat), (6 : Nat), (7 : Nat), (32 : Nat)), ((0 : Nat), (6 : Nat), (11 : Nat), (15 : Nat))]) ∈ TT := ttk_3 (List.mem_of_getElem? (i := 53) rfl) rfl
theorem t_3_54 : (Jvm.Cond.methodLink "MiterhouseLaw" (35 : Nat) ({ cls := "Miterhouse", name := "data", desc := "(II)I" } : Jvm.MethodName)) ∈ TT := ttk_3 (List.mem_of_getElem? (i := 54) rfl) rfl
theorem t_3_55 : (Jvm.Cond.instanceMethod ({ cls := "Miterhouse", name := "data", desc := "(II)I" } : Jvm.MethodName)) ∈ TT := ttk_3 (List.mem_of_getElem? (i := 55) rfl) rfl
theorem t_3_56 : (Jvm.Cond.selects "Miterhouse" ({ cls := "Miterhouse", name := "data", desc := "(II)I" } : Jvm.MethodName) ({ cls := "Miterhouse", name := "data", desc := "(II)I" } : Jvm.MethodName)) ∈ TT := ttk_3 (List.mem_of_getElem? (i := 56) rfl) rfl
theorem t_3_57 : (Jvm.Cond.code ({ cls := "Miterhouse", name := "data", desc := "(II)I" } : Jvm.MethodName) prog_1_method_5_code (3 : Nat) (Option.some Jvm.ClassFile.FieldType.int)) ∈ TT := ttk_3 (List.mem_of_getElem? (i := 57) rfl) rfl
theorem t_3_58 : (Jvm.Cond.methodLink "Miterhouse" (93 : Nat) ({ cls := "Miterhouse", name := "mustBeCell", desc := "(I)V" } : Jvm.MethodName)) ∈ TT := ttk_3 (List.mem_of_getElem? (i := 58) rfl) rfl
theorem t_3_60 : (Jvm.Cond.instanceMethod ({ cls := "Miterhouse", name := "mustBeCell", desc := "(I)V" } : Jvm.MethodName)) ∈ TT := ttk_3 (List.mem_of_getElem? (i := 60) rfl) rfl
theorem t_3_61 : (Jvm.Cond.code ({ cls := "Miterhouse", name := "mustBeCell", desc := "(I)V" } : Jvm.MethodName) prog_1_method_53_code (2 : Nat) (Option.none : Option Jvm.ClassFile.FieldType)) ∈ TT := ttk_3 (List.mem_of_getElem? (i := 61) rfl) rfl
theorem t_3_62 : (Jvm.Cond.methodLink "Miterhouse" (406 : Nat) ({ cls := "Miterhouse$Nets", name := "isCell", desc := "(I)Z" } : Jvm.MethodName)) ∈ TT := ttk_3 (List.mem_of_getElem? (i := 62) rfl) rfl
theorem t_3_64 : (Jvm.Cond.methodLink "Miterhouse" (96 : Nat) ({ cls := "Miterhouse$Nets", name := "ownerOf", desc := "(I)I" } : Jvm.MethodName)) ∈ TT := ttk_3 (List.mem_of_getElem? (i := 64) rfl) rfl
theorem t_3_65 : (Jvm.Cond.methodLink "Miterhouse" (99 : Nat) ({ cls := "Miterhouse$Nets", name := "changeData", desc := "(II)I" } : Jvm.MethodName)) ∈ TT := ttk_3 (List.mem_of_getElem? (i := 65) rfl) rfl
theorem t_3_66 : (Jvm.Cond.instanceMethod ({ cls := "Miterhouse$Nets", name := "changeData", desc := "(II)I" } : Jvm.MethodName)) ∈ TT := ttk_3 (List.mem_of_getElem? (i := 66) rfl) rfl
theorem t_3_67 : (Jvm.Cond.selects "Miterhouse$Nets" ({ cls := "Miterhouse$Nets", name := "changeData", desc := "(II)I" } : Jvm.MethodName) ({ cls := "Miterhouse$Nets", name := "changeData", desc := "(II)I" } : Jvm.MethodName)) ∈ TT := ttk_3 (List.mem_of_getElem? (i := 67) rfl) rfl
theorem t_3_68 : (Jvm.Cond.code ({ cls := "Miterhouse$Nets", name := "changeData", desc := "(II)I" } : Jvm.MethodName) prog_8_method_25_code (4 : Nat) (Option.some Jvm.ClassFile.FieldType.int)) ∈ TT := ttk_3 (List.mem_of_getElem? (i := 68) rfl) rfl
theorem t_3_69 : (Jvm.Cond.methodLink "Miterhouse$Nets" (87 : Nat) ({ cls := "Miterhouse$Nets", name := "dataOf", desc := "(I)I" } : Jvm.MethodName)) ∈ TT := ttk_3 (List.mem_of_getElem? (i := 69) rfl) rfl
theorem t_3_70 : (Jvm.Cond.methodLink "MiterhouseLaw" (134 : Nat) ({ cls := "MiterhouseLaw", name := "output", desc := "(LMiterhouse;II)I" } : Jvm.MethodName)) ∈ TT := ttk_3 (List.mem_of_getElem? (i := 70) rfl) rfl
theorem t_3_71 : (Jvm.Cond.static ({ cls := "MiterhouseLaw", name := "output", desc := "(LMiterhouse;II)I" } : Jvm.MethodName)) ∈ TT := ttk_3 (List.mem_of_getElem? (i := 71) rfl) rfl
theorem t_3_72 : (Jvm.Cond.codeWith ({ cls := "MiterhouseLaw", name := "output", desc := "(LMiterhouse;II)I" } : Jvm.MethodName) method_7_code (4 : Nat) (Option.some Jvm.ClassFile.FieldType.int) [((0 : Nat), (6 : Nat), (7 : Nat), (25 : Nat)), ((0 : Nat), (6 : Nat), (11 : Nat), (32 : Nat)), ((0 : Nat), (6 : Nat), (15 : Nat), (15 : Nat)), ((0 : Nat), (6 : Nat), (19 : Nat), (18 : Nat))]) ∈ TT := ttk_3 (List.mem_of_getElem? (i := 72) rfl) rfl
theorem t_3_73 : (Jvm.Cond.methodLink "MiterhouseLaw" (39 : Nat) ({ cls := "Miterhouse", name := "output", desc := "(II)I" } : Jvm.MethodName)) ∈ TT := ttk_3 (List.mem_of_getElem? (i := 73) rfl) rfl
theorem t_3_74 : (Jvm.Cond.instanceMethod ({ cls := "Miterhouse", name := "output", desc := "(II)I" } : Jvm.MethodName)) ∈ TT := ttk_3 (List.mem_of_getElem? (i := 74) rfl) rfl
theorem t_3_75 : (Jvm.Cond.selects "Miterhouse" ({ cls := "Miterhouse", name := "output", desc := "(II)I" } : Jvm.MethodName) ({ cls := "Miterhouse", name := "output", desc := "(II)I" } : Jvm.MethodName)) ∈ TT := ttk_3 (List.mem_of_getElem? (i := 75) rfl) rfl
theorem t_3_76 : (Jvm.Cond.code ({ cls := "Miterhouse", name := "output", desc := "(II)I" } : Jvm.MethodName) prog_1_method_6_code (3 : Nat) (Option.some Jvm.ClassFile.FieldType.int)) ∈ TT := ttk_3 (List.mem_of_getElem? (i := 76) rfl) rfl
theorem t_3_77 : (Jvm.Cond.methodLink "Miterhouse" (102 : Nat) ({ cls := "Miterhouse$Nets", name := "outputsOf", desc := "(I)I" } : Jvm.MethodName)) ∈ TT := ttk_3 (List.mem_of_getElem? (i := 77) rfl) rfl
theorem t_3_79 : (Jvm.Cond.methodLink "Miterhouse" (107 : Nat) ({ cls := "Miterhouse$Nets", name := "addOutput", desc := "(II)I" } : Jvm.MethodName)) ∈ TT := ttk_3 (List.mem_of_getElem? (i := 79) rfl) rfl
theorem t_3_80 : (Jvm.Cond.instanceMethod ({ cls := "Miterhouse$Nets", name := "addOutput", desc := "(II)I" } : Jvm.MethodName)) ∈ TT := ttk_3 (List.mem_of_getElem? (i := 80) rfl) rfl
theorem t_3_81 : (Jvm.Cond.selects "Miterhouse$Nets" ({ cls := "Miterhouse$Nets", name := "addOutput", desc := "(II)I" } : Jvm.MethodName) ({ cls := "Miterhouse$Nets", name := "addOutput", desc := "(II)I" } : Jvm.MethodName)) ∈ TT := ttk_3 (List.mem_of_getElem? (i := 81) rfl) rfl
theorem t_3_82 : (Jvm.Cond.code ({ cls := "Miterhouse$Nets", name := "addOutput", desc := "(II)I" } : Jvm.MethodName) prog_8_method_26_code (4 : Nat) (Option.some Jvm.ClassFile.FieldType.int)) ∈ TT := ttk_3 (List.mem_of_getElem? (i := 82) rfl) rfl
theorem t_3_83 : (Jvm.Cond.methodLink "Miterhouse$Nets" (90 : Nat) ({ cls := "Miterhouse$Nets", name := "outputsOf", desc := "(I)I" } : Jvm.MethodName)) ∈ TT := ttk_3 (List.mem_of_getElem? (i := 83) rfl) rfl
theorem t_3_84 : (Jvm.Cond.methodLink "MiterhouseLaw" (129 : Nat) ({ cls := "MiterhouseLaw", name := "close", desc := "(LMiterhouse;)I" } : Jvm.MethodName)) ∈ TT := ttk_3 (List.mem_of_getElem? (i := 84) rfl) rfl
theorem t_3_85 : (Jvm.Cond.static ({ cls := "MiterhouseLaw", name := "close", desc := "(LMiterhouse;)I" } : Jvm.MethodName)) ∈ TT := ttk_3 (List.mem_of_getElem? (i := 85) rfl) rfl
theorem t_3_86 : (Jvm.Cond.codeWith ({ cls := "MiterhouseLaw", name := "close", desc := "(LMiterhouse;)I" } : Jvm.MethodName) method_8_code (2 : Nat) (Option.some Jvm.ClassFile.FieldType.int) [((0 : Nat), (4 : Nat), (5 : Nat), (15 : Nat))]) ∈ TT := ttk_3 (List.mem_of_getElem? (i := 86) rfl) rfl
theorem t_3_87 : (Jvm.Cond.methodLink "MiterhouseLaw" (42 : Nat) ({ cls := "Miterhouse", name := "close", desc := "()I" } : Jvm.MethodName)) ∈ TT := ttk_3 (List.mem_of_getElem? (i := 87) rfl) rfl
theorem t_3_88 : (Jvm.Cond.instanceMethod ({ cls := "Miterhouse", name := "close", desc := "()I" } : Jvm.MethodName)) ∈ TT := ttk_3 (List.mem_of_getElem? (i := 88) rfl) rfl
theorem t_3_89 : (Jvm.Cond.selects "Miterhouse" ({ cls := "Miterhouse", name := "close", desc := "()I" } : Jvm.MethodName) ({ cls := "Miterhouse", name := "close", desc := "()I" } : Jvm.MethodName)) ∈ TT := ttk_3 (List.mem_of_getElem? (i := 89) rfl) rfl
theorem t_3_90 : (Jvm.Cond.code ({ cls := "Miterhouse", name := "close", desc := "()I" } : Jvm.MethodName) prog_1_method_7_code (2 : Nat) (Option.some Jvm.ClassFile.FieldType.int)) ∈ TT := ttk_3 (List.mem_of_getElem? (i := 90) rfl) rfl
theorem t_3_91 : (Jvm.Cond.methodLink "Miterhouse" (110 : Nat) ({ cls := "Miterhouse$Nets", name := "canBeClosed", desc := "()Z" } : Jvm.MethodName)) ∈ TT := ttk_3 (List.mem_of_getElem? (i := 91) rfl) rfl
theorem t_3_92 : (Jvm.Cond.instanceMethod ({ cls := "Miterhouse$Nets", name := "canBeClosed", desc := "()Z" } : Jvm.MethodName)) ∈ TT := ttk_3 (List.mem_of_getElem? (i := 92) rfl) rfl
theorem t_3_93 : (Jvm.Cond.selects "Miterhouse$Nets" ({ cls := "Miterhouse$Nets", name := "canBeClosed", desc := "()Z" } : Jvm.MethodName) ({ cls := "Miterhouse$Nets", name := "canBeClosed", desc := "()Z" } : Jvm.MethodName)) ∈ TT := ttk_3 (List.mem_of_getElem? (i := 93) rfl) rfl
theorem t_3_94 : (Jvm.Cond.code ({ cls := "Miterhouse$Nets", name := "canBeClosed", desc := "()Z" } : Jvm.MethodName) prog_8_method_27_code (2 : Nat) (Option.some Jvm.ClassFile.FieldType.boolean)) ∈ TT := ttk_3 (List.mem_of_getElem? (i := 94) rfl) rfl
theorem t_3_96 : (Jvm.Cond.methodLink "Miterhouse" (116 : Nat) ({ cls := "Miterhouse$Nets", name := "gatherSources", desc := "()V" } : Jvm.MethodName)) ∈ TT := ttk_3 (List.mem_of_getElem? (i := 96) rfl) rfl
theorem t_3_97 : (Jvm.Cond.instanceMethod ({ cls := "Miterhouse$Nets", name := "gatherSources", desc := "()V" } : Jvm.MethodName)) ∈ TT := ttk_3 (List.mem_of_getElem? (i := 97) rfl) rfl
theorem t_3_98 : (Jvm.Cond.selects "Miterhouse$Nets" ({ cls := "Miterhouse$Nets", name := "gatherSources", desc := "()V" } : Jvm.MethodName) ({ cls := "Miterhouse$Nets", name := "gatherSources", desc := "()V" } : Jvm.MethodName)) ∈ TT := ttk_3 (List.mem_of_getElem? (i := 98) rfl) rfl
theorem t_3_99 : (Jvm.Cond.code ({ cls := "Miterhouse$Nets", name := "gatherSources", desc := "()V" } : Jvm.MethodName) prog_8_method_28_code (4 : Nat) (Option.none : Option Jvm.ClassFile.FieldType)) ∈ TT := ttk_3 (List.mem_of_getElem? (i := 99) rfl) rfl
theorem t_3_100 : (Jvm.Cond.methodLink "Miterhouse$Nets" (93 : Nat) ({ cls := "Miterhouse$Nets", name := "isInput", desc := "(I)Z" } : Jvm.MethodName)) ∈ TT := ttk_3 (List.mem_of_getElem? (i := 100) rfl) rfl
theorem t_3_101 : (Jvm.Cond.instanceMethod ({ cls := "Miterhouse$Nets", name := "isInput", desc := "(I)Z" } : Jvm.MethodName)) ∈ TT := ttk_3 (List.mem_of_getElem? (i := 101) rfl) rfl
theorem t_3_102 : (Jvm.Cond.selects "Miterhouse$Nets" ({ cls := "Miterhouse$Nets", name := "isInput", desc := "(I)Z" } : Jvm.MethodName) ({ cls := "Miterhouse$Nets", name := "isInput", desc := "(I)Z" } : Jvm.MethodName)) ∈ TT := ttk_3 (List.mem_of_getElem? (i := 102) rfl) rfl
theorem t_3_103 : (Jvm.Cond.code ({ cls := "Miterhouse$Nets", name := "isInput", desc := "(I)Z" } : Jvm.MethodName) prog_8_method_4_code (2 : Nat) (Option.some Jvm.ClassFile.FieldType.boolean)) ∈ TT := ttk_3 (List.mem_of_getElem? (i := 103) rfl) rfl
theorem t_3_104 : (Jvm.Cond.classLink "Miterhouse" (119 : Nat) "Miterhouse$Closed") ∈ TT := ttk_3 (List.mem_of_getElem? (i := 104) rfl) rfl
theorem t_3_105 : (Jvm.Cond.methodLink "Miterhouse" (121 : Nat) ({ cls := "Miterhouse$Closed", name := "<init>", desc := "(LMiterhouse$Nets;)V" } : Jvm.MethodName)) ∈ TT := ttk_3 (List.mem_of_getElem? (i := 105) rfl) rfl
theorem t_3_106 : (Jvm.Cond.instanceMethod ({ cls := "Miterhouse$Closed", name := "<init>", desc := "(LMiterhouse$Nets;)V" } : Jvm.MethodName)) ∈ TT := ttk_3 (List.mem_of_getElem? (i := 106) rfl) rfl
theorem t_3_107 : (Jvm.Cond.code ({ cls := "Miterhouse$Closed", name := "<init>", desc := "(LMiterhouse$Nets;)V" } : Jvm.MethodName) prog_4_method_1_code (2 : Nat) (Option.none : Option Jvm.ClassFile.FieldType)) ∈ TT := ttk_3 (List.mem_of_getElem? (i := 107) rfl) rfl
theorem t_3_108 : (Jvm.Cond.methodLink "Miterhouse$Closed" (3 : Nat) ({ cls := "java/lang/Object", name := "<init>", desc := "()V" } : Jvm.MethodName)) ∈ TT := ttk_3 (List.mem_of_getElem? (i := 108) rfl) rfl
theorem t_3_109 : (Jvm.Cond.classLink "Miterhouse$Closed" (15 : Nat) "Miterhouse$Values") ∈ TT := ttk_3 (List.mem_of_getElem? (i := 109) rfl) rfl
theorem t_3_110 : (Jvm.Cond.instantiable "Miterhouse$Values" (12 : Nat)) ∈ TT := ttk_3 (List.mem_of_getElem? (i := 110) rfl) rfl
theorem t_3_111 : (Jvm.Cond.methodLink "Miterhouse$Closed" (17 : Nat) ({ cls := "Miterhouse$Values", name := "<init>", desc := "(LMiterhouse$Nets;)V" } : Jvm.MethodName)) ∈ TT := ttk_3 (List.mem_of_getElem? (i := 111) rfl) rfl
theorem t_3_112 : (Jvm.Cond.instanceMethod ({ cls := "Miterhouse$Values", name := "<init>", desc := "(LMiterhouse$Nets;)V" } : Jvm.MethodName)) ∈ TT := ttk_3 (List.mem_of_getElem? (i := 112) rfl) rfl
theorem t_3_113 : (Jvm.Cond.code ({ cls := "Miterhouse$Values", name := "<init>", desc := "(LMiterhouse$Nets;)V" } : Jvm.MethodName) prog_12_method_1_code (3 : Nat) (Option.none : Option Jvm.ClassFile.FieldType)) ∈ TT := ttk_3 (List.mem_of_getElem? (i := 113) rfl) rfl
theorem t_3_114 : (Jvm.Cond.methodLink "Miterhouse$Values" (3 : Nat) ({ cls := "java/lang/Object", name := "<init>", desc := "()V" } : Jvm.MethodName)) ∈ TT := ttk_3 (List.mem_of_getElem? (i := 114) rfl) rfl
theorem t_3_115 : (Jvm.Cond.methodLink "Miterhouse$Values" (15 : Nat) ({ cls := "Miterhouse$Nets", name := "sourceCount", desc := "()I" } : Jvm.MethodName)) ∈ TT := ttk_3 (List.mem_of_getElem? (i := 115) rfl) rfl
theorem t_3_116 : (Jvm.Cond.instanceMethod ({ cls := "Miterhouse$Nets", name := "sourceCount", desc := "()I" } : Jvm.MethodName)) ∈ TT := ttk_3 (List.mem_of_getElem? (i := 116) rfl) rfl
theorem t_3_117 : (Jvm.Cond.selects "Miterhouse$Nets" ({ cls := "Miterhouse$Nets", name := "sourceCount", desc := "()I" } : Jvm.MethodName) ({ cls := "Miterhouse$Nets", name := "sourceCount", desc := "()I" } : Jvm.MethodName)) ∈ TT := ttk_3 (List.mem_of_getElem? (i := 117) rfl) rfl
theorem t_3_118 : (Jvm.Cond.code ({ cls := "Miterhouse$Nets", name := "sourceCount", desc := "()I" } : Jvm.MethodName) prog_8_method_16_code (1 : Nat) (Option.some Jvm.ClassFile.FieldType.int)) ∈ TT := ttk_3 (List.mem_of_getElem? (i := 118) rfl) rfl
theorem t_3_119 : (Jvm.Cond.methodLink "Miterhouse$Values" (21 : Nat) ({ cls := "java/lang/Math", name := "min", desc := "(II)I" } : Jvm.MethodName)) ∈ TT := ttk_3 (List.mem_of_getElem? (i := 119) rfl) rfl
theorem t_3_122 : (Jvm.Cond.methodLink "Miterhouse$Values" (27 : Nat) ({ cls := "java/lang/Math", name := "max", desc := "(II)I" } : Jvm.MethodName)) ∈ TT := ttk_3 (List.mem_of_getElem? (i := 122) rfl) rfl
theorem t_3_125 : (Jvm.Cond.constantLong "Miterhouse$Values" (37 : Nat) (-1 : Int64)) ∈ TT := ttk_3 (List.mem_of_getElem? (i := 125) rfl) rfl
theorem t_3_126 : (Jvm.Cond.fieldLink "Miterhouse$Values" (9 : Nat) "Miterhouse$Values" "nets" "LMiterhouse$Nets;") ∈ TT := ttk_3 (List.mem_of_getElem? (i := 126) rfl) rfl
theorem t_3_127 : (Jvm.Cond.fieldLink "Miterhouse$Diagrams" (19 : Nat) "Miterhouse$Values" "sources" "I") ∈ TT := ttk_3 (List.mem_of_getElem? (i := 127) rfl) rfl
theorem t_3_128 : (Jvm.Cond.fieldLink "Miterhouse$States" (23 : Nat) "Miterhouse$Values" "sources" "I") ∈ TT := ttk_3 (List.mem_of_getElem? (i := 128) rfl) rfl
theorem t_3_129 : (Jvm.Cond.fieldLink "Miterhouse$Values" (30 : Nat) "Miterhouse$Values" "sources" "I") ∈ TT := ttk_3 (List.mem_of_getElem? (i := 129) rfl) rfl
theorem t_3_130 : (Jvm.Cond.fieldLink "Miterhouse$Sweeping" (85 : Nat) "Miterhouse$Values" "sources" "I") ∈ TT := ttk_3 (List.mem_of_getElem? (i := 130) rfl) rfl
theorem t_3_131 : (Jvm.Cond.fieldLink "Miterhouse$Diagrams" (26 : Nat) "Miterhouse$Values" "words" "I") ∈ TT := ttk_3 (List.mem_of_getElem? (i := 131) rfl) rfl
theorem t_3_132 : (Jvm.Cond.fieldLink "Miterhouse$Values" (34 : Nat) "Miterhouse$Values" "words" "I") ∈ TT := ttk_3 (List.mem_of_getElem? (i := 132) rfl) rfl
theorem t_3_133 : (Jvm.Cond.fieldLink "Miterhouse$Closed" (98 : Nat) "Miterhouse$Values" "words" "I") ∈ TT := ttk_3 (List.mem_of_getElem? (i := 133) rfl) rfl
theorem t_3_134 : (Jvm.Cond.fieldLink "Miterhouse$Sweeping" (101 : Nat) "Miterhouse$Values" "words" "I") ∈ TT := ttk_3 (List.mem_of_getElem? (i := 134) rfl) rfl
theorem t_3_135 : (Jvm.Cond.fieldLink "Miterhouse$Values" (39 : Nat) "Miterhouse$Values" "every" "J") ∈ TT := ttk_3 (List.mem_of_getElem? (i := 135) rfl) rfl
theorem t_3_136 : (Jvm.Cond.fieldLink "Miterhouse$Closed" (145 : Nat) "Miterhouse$Values" "every" "J") ∈ TT := ttk_3 (List.mem_of_getElem? (i := 136) rfl) rfl
theorem t_3_137 : (Jvm.Cond.fieldLink "Miterhouse$Values" (46 : Nat) "Miterhouse$Values" "held" "[J") ∈ TT := ttk_3 (List.mem_of_getElem? (i := 137) rfl) rfl
theorem t_3_138 : (Jvm.Cond.fieldLink "Miterhouse$Values" (50 : Nat) "Miterhouse$Values" "knownZeros" "[J") ∈ TT := ttk_3 (List.mem_of_getElem? (i := 138) rfl) rfl
theorem t_3_139 : (Jvm.Cond.fieldLink "Miterhouse$Values" (53 : Nat) "Miterhouse$Values" "knownOnes" "[J") ∈ TT := ttk_3 (List.mem_of_getElem? (i := 139) rfl) rfl
theorem t_3_140 : (Jvm.Cond.fieldLink "Miterhouse$Values" (56 : Nat) "Miterhouse$Values" "kept" "[J") ∈ TT := ttk_3 (List.mem_of_getElem? (i := 140) rfl) rfl
theorem t_3_141 : (Jvm.Cond.fieldLink "Miterhouse$Values" (59 : Nat) "Miterhouse$Values" "refuted" "[J") ∈ TT := ttk_3 (List.mem_of_getElem? (i := 141) rfl) rfl
theorem t_3_142 : (Jvm.Cond.fieldLink "Miterhouse$Values" (62 : Nat) "Miterhouse$Values" "constraints" "I") ∈ TT := ttk_3 (List.mem_of_getElem? (i := 142) rfl) rfl
theorem t_3_143 : (Jvm.Cond.fieldLink "Miterhouse$States" (110 : Nat) "Miterhouse$Values" "constraints" "I") ∈ TT := ttk_3 (List.mem_of_getElem? (i := 143) rfl) rfl
theorem t_3_144 : (Jvm.Cond.fieldLink "Miterhouse" (149 : Nat) "Miterhouse$Values" "constraints" "I") ∈ TT := ttk_3 (List.mem_of_getElem? (i := 144) rfl) rfl
theorem t_3_145 : (Jvm.Cond.fieldLink "Miterhouse$Values" (65 : Nat) "Miterhouse$Values" "keptChoices" "I") ∈ TT := ttk_3 (List.mem_of_getElem? (i := 145) rfl) rfl
theorem t_3_146 : (Jvm.Cond.fieldLink "Miterhouse" (157 : Nat) "Miterhouse$Values" "keptChoices" "I") ∈ TT := ttk_3 (List.mem_of_getElem? (i := 146) rfl) rfl
theorem t_3_147 : (Jvm.Cond.fieldLink "Miterhouse$Values" (68 : Nat) "Miterhouse$Values" "keptInputs" "J") ∈ TT := ttk_3 (List.mem_of_getElem? (i := 147) rfl) rfl
theorem t_3_148 : (Jvm.Cond.laysFinal "Miterhouse$Values" "Miterhouse$Values" "nets" "LMiterhouse$Nets;") ∈ TT := ttk_3 (List.mem_of_getElem? (i := 148) rfl) rfl
theorem t_3_150 : (Jvm.Cond.laysFinal "Miterhouse$Values" "Miterhouse$Values" "sources" "I") ∈ TT := ttk_3 (List.mem_of_getElem? (i := 150) rfl) rfl
theorem t_3_152 : (Jvm.Cond.laysFinal "Miterhouse$Values" "Miterhouse$Values" "words" "I") ∈ TT := ttk_3 (List.mem_of_getElem? (i := 152) rfl) rfl
theorem t_3_154 : (Jvm.Cond.laysFinal "Miterhouse$Values" "Miterhouse$Values" "every" "J") ∈ TT := ttk_3 (List.mem_of_getElem? (i := 154) rfl) rfl
theorem t_3_156 : (Jvm.Cond.laysFinal "Miterhouse$Values" "Miterhouse$Values" "held" "[J") ∈ TT := ttk_3 (List.mem_of_getElem? (i := 156) rfl) rfl
theorem t_3_158 : (Jvm.Cond.laysFinal "Miterhouse$Values" "Miterhouse$Values" "knownZeros" "[J") ∈ TT := ttk_3 (List.mem_of_getElem? (i := 158) rfl) rfl
theorem t_3_160 : (Jvm.Cond.laysFinal "Miterhouse$Values" "Miterhouse$Values" "knownOnes" "[J") ∈ TT := ttk_3 (List.mem_of_getElem? (i := 160) rfl) rfl
theorem t_3_162 : (Jvm.Cond.laysFinal "Miterhouse$Values" "Miterhouse$Values" "kept" "[J") ∈ TT := ttk_3 (List.mem_of_getElem? (i := 162) rfl) rfl
theorem t_3_164 : (Jvm.Cond.laysFinal "Miterhouse$Values" "Miterhouse$Values" "refuted" "[J") ∈ TT := ttk_3 (List.mem_of_getElem? (i := 164) rfl) rfl
theorem t_3_166 : (Jvm.Cond.lays "Miterhouse$Values" "Miterhouse$Values" "constraints" "I") ∈ TT := ttk_3 (List.mem_of_getElem? (i := 166) rfl) rfl
theorem t_3_168 : (Jvm.Cond.lays "Miterhouse$Values" "Miterhouse$Values" "keptChoices" "I") ∈ TT := ttk_3 (List.mem_of_getElem? (i := 168) rfl) rfl
theorem t_3_170 : (Jvm.Cond.lays "Miterhouse$Values" "Miterhouse$Values" "keptInputs" "J") ∈ TT := ttk_3 (List.mem_of_getElem? (i := 170) rfl) rfl
theorem t_3_173 : (Jvm.Cond.arrayClass Jvm.ClassFile.FieldType.long) ∈ TT := ttk_3 (List.mem_of_getElem? (i := 173) rfl) rfl
theorem t_3_174 : (Jvm.Cond.classLink "Miterhouse$Closed" (24 : Nat) "Miterhouse$Ands") ∈ TT := ttk_3 (List.mem_of_getElem? (i := 174) rfl) rfl
theorem t_3_175 : (Jvm.Cond.instantiable "Miterhouse$Ands" (6 : Nat)) ∈ TT := ttk_3 (List.mem_of_getElem? (i := 175) rfl) rfl
theorem t_3_176 : (Jvm.Cond.methodLink "Miterhouse$Closed" (26 : Nat) ({ cls := "Miterhouse$Ands", name := "<init>", desc := "(LMiterhouse$Nets;)V" } : Jvm.MethodName)) ∈ TT := ttk_3 (List.mem_of_getElem? (i := 176) rfl) rfl
theorem t_3_177 : (Jvm.Cond.instanceMethod ({ cls := "Miterhouse$Ands", name := "<init>", desc := "(LMiterhouse$Nets;)V" } : Jvm.MethodName)) ∈ TT := ttk_3 (List.mem_of_getElem? (i := 177) rfl) rfl
theorem t_3_178 : (Jvm.Cond.code ({ cls := "Miterhouse$Ands", name := "<init>", desc := "(LMiterhouse$Nets;)V" } : Jvm.MethodName) prog_2_method_1_code (2 : Nat) (Option.none : Option Jvm.ClassFile.FieldType)) ∈ TT := ttk_3 (List.mem_of_getElem? (i := 178) rfl) rfl
theorem t_3_179 : (Jvm.Cond.methodLink "Miterhouse$Ands" (3 : Nat) ({ cls := "java/lang/Object", name := "<init>", desc := "()V" } : Jvm.MethodName)) ∈ TT := ttk_3 (List.mem_of_getElem? (i := 179) rfl) rfl
theorem t_3_180 : (Jvm.Cond.methodLink "Miterhouse$Ands" (25 : Nat) ({ cls := "Miterhouse$Nets", name := "sourceCount", desc := "()I" } : Jvm.MethodName)) ∈ TT := ttk_3 (List.mem_of_getElem? (i := 180) rfl) rfl
theorem t_3_181 : (Jvm.Cond.fieldLink "Miterhouse$Ands" (9 : Nat) "Miterhouse$Ands" "nets" "LMiterhouse$Nets;") ∈ TT := ttk_3 (List.mem_of_getElem? (i := 181) rfl) rfl
theorem t_3_182 : (Jvm.Cond.fieldLink "Miterhouse$Ands" (15 : Nat) "Miterhouse$Ands" "lesser" "[I") ∈ TT := ttk_3 (List.mem_of_getElem? (i := 182) rfl) rfl
theorem t_3_183 : (Jvm.Cond.fieldLink "Miterhouse$Ands" (19 : Nat) "Miterhouse$Ands" "greater" "[I") ∈ TT := ttk_3 (List.mem_of_getElem? (i := 183) rfl) rfl
theorem t_3_184 : (Jvm.Cond.fieldLink "Miterhouse$Ands" (22 : Nat) "Miterhouse$Ands" "literals" "[I") ∈ TT := ttk_3 (List.mem_of_getElem? (i := 184) rfl) rfl
theorem t_3_185 : (Jvm.Cond.fieldLink "Miterhouse$Ands" (31 : Nat) "Miterhouse$Ands" "firstAnd" "I") ∈ TT := ttk_3 (List.mem_of_getElem? (i := 185) rfl) rfl
theorem t_3_186 : (Jvm.Cond.fieldLink "Miterhouse$Ands" (35 : Nat) "Miterhouse$Ands" "nodes" "I") ∈ TT := ttk_3 (List.mem_of_getElem? (i := 186) rfl) rfl
theorem t_3_187 : (Jvm.Cond.fieldLink "Miterhouse$Closed" (109 : Nat) "Miterhouse$Ands" "nodes" "I") ∈ TT := ttk_3 (List.mem_of_getElem? (i := 187) rfl) rfl
theorem t_3_188 : (Jvm.Cond.laysFinal "Miterhouse$Ands" "Miterhouse$Ands" "nets" "LMiterhouse$Nets;") ∈ TT := ttk_3 (List.mem_of_getElem? (i := 188) rfl) rfl
theorem t_3_190 : (Jvm.Cond.laysFinal "Miterhouse$Ands" "Miterhouse$Ands" "lesser" "[I") ∈ TT := ttk_3 (List.mem_of_getElem? (i := 190) rfl) rfl
theorem t_3_192 : (Jvm.Cond.laysFinal "Miterhouse$Ands" "Miterhouse$Ands" "greater" "[I") ∈ TT := ttk_3 (List.mem_of_getElem? (i := 192) rfl) rfl
theorem t_3_194 : (Jvm.Cond.laysFinal "Miterhouse$Ands" "Miterhouse$Ands" "literals" "[I") ∈ TT := ttk_3 (List.mem_of_getElem? (i := 194) rfl) rfl
theorem t_3_196 : (Jvm.Cond.laysFinal "Miterhouse$Ands" "Miterhouse$Ands" "firstAnd" "I") ∈ TT := ttk_3 (List.mem_of_getElem? (i := 196) rfl) rfl
theorem t_3_198 : (Jvm.Cond.lays "Miterhouse$Ands" "Miterhouse$Ands" "nodes" "I") ∈ TT := ttk_3 (List.mem_of_getElem? (i := 198) rfl) rfl
theorem t_3_201 : (Jvm.Cond.classLink "Miterhouse$Closed" (31 : Nat) "Miterhouse$Sweeping") ∈ TT := ttk_3 (List.mem_of_getElem? (i := 201) rfl) rfl
theorem t_3_202 : (Jvm.Cond.methodLink "Miterhouse$Closed" (33 : Nat) ({ cls := "Miterhouse$Sweeping", name := "<init>", desc := "(LMiterhouse$Nets;LMiterhouse$Values;)V" } : Jvm.MethodName)) ∈ TT := ttk_3 (List.mem_of_getElem? (i := 202) rfl) rfl
theorem t_3_203 : (Jvm.Cond.instanceMethod ({ cls := "Miterhouse$Sweeping", name := "<init>", desc := "(LMiterhouse$Nets;LMiterhouse$Values;)V" } : Jvm.MethodName)) ∈ TT := ttk_3 (List.mem_of_getElem? (i := 203) rfl) rfl
theorem t_3_204 : (Jvm.Cond.code ({ cls := "Miterhouse$Sweeping", name := "<init>", desc := "(LMiterhouse$Nets;LMiterhouse$Values;)V" } : Jvm.MethodName) prog_11_method_1_code (4 : Nat) (Option.none : Option Jvm.ClassFile.FieldType)) ∈ TT := ttk_3 (List.mem_of_getElem? (i := 204) rfl) rfl
theorem t_3_205 : (Jvm.Cond.methodLink "Miterhouse$Sweeping" (3 : Nat) ({ cls := "java/lang/Object", name := "<init>", desc := "()V" } : Jvm.MethodName)) ∈ TT := ttk_3 (List.mem_of_getElem? (i := 205) rfl) rfl
theorem t_3_206 : (Jvm.Cond.fieldLink "Miterhouse$Sweeping" (9 : Nat) "Miterhouse$Sweeping" "nets" "LMiterhouse$Nets;") ∈ TT := ttk_3 (List.mem_of_getElem? (i := 206) rfl) rfl
theorem t_3_207 : (Jvm.Cond.fieldLink "Miterhouse$Sweeping" (15 : Nat) "Miterhouse$Sweeping" "values" "LMiterhouse$Values;") ∈ TT := ttk_3 (List.mem_of_getElem? (i := 207) rfl) rfl
theorem t_3_208 : (Jvm.Cond.fieldLink "Miterhouse$Sweeping" (19 : Nat) "Miterhouse$Sweeping" "signatures" "[J") ∈ TT := ttk_3 (List.mem_of_getElem? (i := 208) rfl) rfl
theorem t_3_209 : (Jvm.Cond.fieldLink "Miterhouse$Sweeping" (23 : Nat) "Miterhouse$Sweeping" "targets" "[I") ∈ TT := ttk_3 (List.mem_of_getElem? (i := 209) rfl) rfl
theorem t_3_210 : (Jvm.Cond.fieldLink "Miterhouse$Sweeping" (27 : Nat) "Miterhouse$Sweeping" "patternCount" "I") ∈ TT := ttk_3 (List.mem_of_getElem? (i := 210) rfl) rfl
theorem t_3_211 : (Jvm.Cond.fieldLink "Miterhouse" (201 : Nat) "Miterhouse$Sweeping" "patternCount" "I") ∈ TT := ttk_3 (List.mem_of_getElem? (i := 211) rfl) rfl
theorem t_3_212 : (Jvm.Cond.fieldLink "Miterhouse$Sweeping" (31 : Nat) "Miterhouse$Sweeping" "mergedCount" "I") ∈ TT := ttk_3 (List.mem_of_getElem? (i := 212) rfl) rfl
theorem t_3_213 : (Jvm.Cond.fieldLink "Miterhouse" (235 : Nat) "Miterhouse$Sweeping" "mergedCount" "I") ∈ TT := ttk_3 (List.mem_of_getElem? (i := 213) rfl) rfl
theorem t_3_214 : (Jvm.Cond.fieldLink "Miterhouse$Sweeping" (34 : Nat) "Miterhouse$Sweeping" "proofSum" "J") ∈ TT := ttk_3 (List.mem_of_getElem? (i := 214) rfl) rfl
theorem t_3_215 : (Jvm.Cond.fieldLink "Miterhouse$Sweeping" (38 : Nat) "Miterhouse$Sweeping" "leaves" "I") ∈ TT := ttk_3 (List.mem_of_getElem? (i := 215) rfl) rfl
theorem t_3_216 : (Jvm.Cond.fieldLink "Miterhouse" (222 : Nat) "Miterhouse$Sweeping" "leaves" "I") ∈ TT := ttk_3 (List.mem_of_getElem? (i := 216) rfl) rfl
theorem t_3_217 : (Jvm.Cond.fieldLink "Miterhouse$Sweeping" (41 : Nat) "Miterhouse$Sweeping" "witness" "I") ∈ TT := ttk_3 (List.mem_of_getElem? (i := 217) rfl) rfl
theorem t_3_218 : (Jvm.Cond.fieldLink "Miterhouse" (225 : Nat) "Miterhouse$Sweeping" "witness" "I") ∈ TT := ttk_3 (List.mem_of_getElem? (i := 218) rfl) rfl
theorem t_3_219 : (Jvm.Cond.laysFinal "Miterhouse$Sweeping" "Miterhouse$Sweeping" "nets" "LMiterhouse$Nets;") ∈ TT := ttk_3 (List.mem_of_getElem? (i := 219) rfl) rfl
theorem t_3_221 : (Jvm.Cond.laysFinal "Miterhouse$Sweeping" "Miterhouse$Sweeping" "values" "LMiterhouse$Values;") ∈ TT := ttk_3 (List.mem_of_getElem? (i := 221) rfl) rfl
theorem t_3_223 : (Jvm.Cond.laysFinal "Miterhouse$Sweeping" "Miterhouse$Sweeping" "signatures" "[J") ∈ TT := ttk_3 (List.mem_of_getElem? (i := 223) rfl) rfl
theorem t_3_225 : (Jvm.Cond.laysFinal "Miterhouse$Sweeping" "Miterhouse$Sweeping" "targets" "[I") ∈ TT := ttk_3 (List.mem_of_getElem? (i := 225) rfl) rfl
theorem t_3_227 : (Jvm.Cond.lays "Miterhouse$Sweeping" "Miterhouse$Sweeping" "patternCount" "I") ∈ TT := ttk_3 (List.mem_of_getElem? (i := 227) rfl) rfl
theorem t_3_229 : (Jvm.Cond.lays "Miterhouse$Sweeping" "Miterhouse$Sweeping" "mergedCount" "I") ∈ TT := ttk_3 (List.mem_of_getElem? (i := 229) rfl) rfl
theorem t_3_231 : (Jvm.Cond.lays "Miterhouse$Sweeping" "Miterhouse$Sweeping" "proofSum" "J") ∈ TT := ttk_3 (List.mem_of_getElem? (i := 231) rfl) rfl
theorem t_3_233 : (Jvm.Cond.lays "Miterhouse$Sweeping" "Miterhouse$Sweeping" "leaves" "I") ∈ TT := ttk_3 (List.mem_of_getElem? (i := 233) rfl) rfl
theorem t_3_235 : (Jvm.Cond.lays "Miterhouse$Sweeping" "Miterhouse$Sweeping" "witness" "I") ∈ TT := ttk_3 (List.mem_of_getElem? (i := 235) rfl) rfl
theorem t_3_238 : (Jvm.Cond.classLink "Miterhouse$Closed" (40 : Nat) "Miterhouse$Diagrams") ∈ TT := ttk_3 (List.mem_of_getElem? (i := 238) rfl) rfl
theorem t_3_239 : (Jvm.Cond.instantiable "Miterhouse$Diagrams" (11 : Nat)) ∈ TT := ttk_3 (List.mem_of_getElem? (i := 239) rfl) rfl
theorem t_4_0 : (Jvm.Cond.methodLink "Miterhouse$Closed" (42 : Nat) ({ cls := "Miterhouse$Diagrams", name := "<init>", desc := "(LMiterhouse$Nets;LMiterhouse$Values;)V" } : Jvm.MethodName)) ∈ TT := ttk_4 (List.mem_of_getElem? (i := 0) rfl) rfl
theorem t_4_1 : (Jvm.Cond.instanceMethod ({ cls := "Miterhouse$Diagrams", name := "<init>", desc := "(LMiterhouse$Nets;LMiterhouse$Values;)V" } : Jvm.MethodName)) ∈ TT := ttk_4 (List.mem_of_getElem? (i := 1) rfl) rfl
theorem t_4_2 : (Jvm.Cond.code ({ cls := "Miterhouse$Diagrams", name := "<init>", desc := "(LMiterhouse$Nets;LMiterhouse$Values;)V" } : Jvm.MethodName) prog_6_method_1_code (4 : Nat) (Option.none : Option Jvm.ClassFile.FieldType)) ∈ TT := ttk_4 (List.mem_of_getElem? (i := 2) rfl) rfl
theorem t_4_3 : (Jvm.Cond.methodLink "Miterhouse$Diagrams" (3 : Nat) ({ cls := "java/lang/Object", name := "<init>", desc := "()V" } : Jvm.MethodName)) ∈ TT := ttk_4 (List.mem_of_getElem? (i := 3) rfl) rfl
theorem t_4_4 : (Jvm.Cond.classLink "Miterhouse$Diagrams" (44 : Nat) "Miterhouse$Keys") ∈ TT := ttk_4 (List.mem_of_getElem? (i := 4) rfl) rfl
theorem t_4_5 : (Jvm.Cond.instantiable "Miterhouse$Keys" (5 : Nat)) ∈ TT := ttk_4 (List.mem_of_getElem? (i := 5) rfl) rfl
theorem t_4_6 : (Jvm.Cond.methodLink "Miterhouse$Diagrams" (46 : Nat) ({ cls := "Miterhouse$Keys", name := "<init>", desc := "()V" } : Jvm.MethodName)) ∈ TT := ttk_4 (List.mem_of_getElem? (i := 6) rfl) rfl
theorem t_4_7 : (Jvm.Cond.instanceMethod ({ cls := "Miterhouse$Keys", name := "<init>", desc := "()V" } : Jvm.MethodName)) ∈ TT := ttk_4 (List.mem_of_getElem? (i := 7) rfl) rfl
theorem t_4_8 : (Jvm.Cond.code ({ cls := "Miterhouse$Keys", name := "<init>", desc := "()V" } : Jvm.MethodName) prog_7_method_1_code (1 : Nat) (Option.none : Option Jvm.ClassFile.FieldType)) ∈ TT := ttk_4 (List.mem_of_getElem? (i := 8) rfl) rfl
theorem t_4_9 : (Jvm.Cond.methodLink "Miterhouse$Keys" (3 : Nat) ({ cls := "java/lang/Object", name := "<init>", desc := "()V" } : Jvm.MethodName)) ∈ TT := ttk_4 (List.mem_of_getElem? (i := 9) rfl) rfl
theorem t_4_10 : (Jvm.Cond.fieldLink "Miterhouse$Keys" (9 : Nat) "Miterhouse$Keys" "keys" "[J") ∈ TT := ttk_4 (List.mem_of_getElem? (i := 10) rfl) rfl
theorem t_4_11 : (Jvm.Cond.fieldLink "Miterhouse$Keys" (15 : Nat) "Miterhouse$Keys" "slots" "[I") ∈ TT := ttk_4 (List.mem_of_getElem? (i := 11) rfl) rfl
theorem t_4_12 : (Jvm.Cond.fieldLink "Miterhouse$Keys" (19 : Nat) "Miterhouse$Keys" "rounds" "[I") ∈ TT := ttk_4 (List.mem_of_getElem? (i := 12) rfl) rfl
theorem t_4_13 : (Jvm.Cond.fieldLink "Miterhouse$Keys" (22 : Nat) "Miterhouse$Keys" "count" "I") ∈ TT := ttk_4 (List.mem_of_getElem? (i := 13) rfl) rfl
theorem t_4_14 : (Jvm.Cond.fieldLink "Miterhouse$Keys" (26 : Nat) "Miterhouse$Keys" "round" "I") ∈ TT := ttk_4 (List.mem_of_getElem? (i := 14) rfl) rfl
theorem t_4_15 : (Jvm.Cond.lays "Miterhouse$Keys" "Miterhouse$Keys" "keys" "[J") ∈ TT := ttk_4 (List.mem_of_getElem? (i := 15) rfl) rfl
theorem t_4_17 : (Jvm.Cond.lays "Miterhouse$Keys" "Miterhouse$Keys" "slots" "[I") ∈ TT := ttk_4 (List.mem_of_getElem? (i := 17) rfl) rfl
theorem t_4_19 : (Jvm.Cond.lays "Miterhouse$Keys" "Miterhouse$Keys" "rounds" "[I") ∈ TT := ttk_4 (List.mem_of_getElem? (i := 19) rfl) rfl
theorem t_4_21 : (Jvm.Cond.lays "Miterhouse$Keys" "Miterhouse$Keys" "count" "I") ∈ TT := ttk_4 (List.mem_of_getElem? (i := 21) rfl) rfl
theorem t_4_23 : (Jvm.Cond.lays "Miterhouse$Keys" "Miterhouse$Keys" "round" "I") ∈ TT := ttk_4 (List.mem_of_getElem? (i := 23) rfl) rfl
theorem t_4_26 : (Jvm.Cond.fieldLink "Miterhouse$Diagrams" (9 : Nat) "Miterhouse$Diagrams" "nets" "LMiterhouse$Nets;") ∈ TT := ttk_4 (List.mem_of_getElem? (i := 26) rfl) rfl
theorem t_4_27 : (Jvm.Cond.fieldLink "Miterhouse$Diagrams" (15 : Nat) "Miterhouse$Diagrams" "values" "LMiterhouse$Values;") ∈ TT := ttk_4 (List.mem_of_getElem? (i := 27) rfl) rfl
theorem t_4_28 : (Jvm.Cond.fieldLink "Miterhouse$Diagrams" (25 : Nat) "Miterhouse$Diagrams" "sources" "I") ∈ TT := ttk_4 (List.mem_of_getElem? (i := 28) rfl) rfl
theorem t_4_29 : (Jvm.Cond.fieldLink "Miterhouse$Diagrams" (29 : Nat) "Miterhouse$Diagrams" "words" "I") ∈ TT := ttk_4 (List.mem_of_getElem? (i := 29) rfl) rfl
theorem t_4_30 : (Jvm.Cond.fieldLink "Miterhouse$Diagrams" (30 : Nat) "Miterhouse$Diagrams" "order" "[I") ∈ TT := ttk_4 (List.mem_of_getElem? (i := 30) rfl) rfl
theorem t_4_31 : (Jvm.Cond.fieldLink "Miterhouse$Diagrams" (34 : Nat) "Miterhouse$Diagrams" "standing" "[I") ∈ TT := ttk_4 (List.mem_of_getElem? (i := 31) rfl) rfl
theorem t_4_32 : (Jvm.Cond.fieldLink "Miterhouse$Diagrams" (37 : Nat) "Miterhouse$Diagrams" "tables" "[J") ∈ TT := ttk_4 (List.mem_of_getElem? (i := 32) rfl) rfl
theorem t_4_33 : (Jvm.Cond.fieldLink "Miterhouse$Diagrams" (41 : Nat) "Miterhouse$Diagrams" "parts" "[I") ∈ TT := ttk_4 (List.mem_of_getElem? (i := 33) rfl) rfl
theorem t_4_34 : (Jvm.Cond.fieldLink "Miterhouse$Diagrams" (47 : Nat) "Miterhouse$Diagrams" "firstKeys" "LMiterhouse$Keys;") ∈ TT := ttk_4 (List.mem_of_getElem? (i := 34) rfl) rfl
theorem t_4_35 : (Jvm.Cond.fieldLink "Miterhouse$Diagrams" (51 : Nat) "Miterhouse$Diagrams" "secondKeys" "LMiterhouse$Keys;") ∈ TT := ttk_4 (List.mem_of_getElem? (i := 35) rfl) rfl
theorem t_4_36 : (Jvm.Cond.fieldLink "Miterhouse$Diagrams" (54 : Nat) "Miterhouse$Diagrams" "used" "I") ∈ TT := ttk_4 (List.mem_of_getElem? (i := 36) rfl) rfl
theorem t_4_37 : (Jvm.Cond.laysFinal "Miterhouse$Diagrams" "Miterhouse$Diagrams" "nets" "LMiterhouse$Nets;") ∈ TT := ttk_4 (List.mem_of_getElem? (i := 37) rfl) rfl
theorem t_4_39 : (Jvm.Cond.laysFinal "Miterhouse$Diagrams" "Miterhouse$Diagrams" "values" "LMiterhouse$Values;") ∈ TT := ttk_4 (List.mem_of_getElem? (i := 39) rfl) rfl
theorem t_4_41 : (Jvm.Cond.laysFinal "Miterhouse$Diagrams" "Miterhouse$Diagrams" "sources" "I") ∈ TT := ttk_4 (List.mem_of_getElem? (i := 41) rfl) rfl
theorem t_4_43 : (Jvm.Cond.laysFinal "Miterhouse$Diagrams" "Miterhouse$Diagrams" "words" "I") ∈ TT := ttk_4 (List.mem_of_getElem? (i := 43) rfl) rfl
theorem t_4_45 : (Jvm.Cond.laysFinal "Miterhouse$Diagrams" "Miterhouse$Diagrams" "order" "[I") ∈ TT := ttk_4 (List.mem_of_getElem? (i := 45) rfl) rfl
theorem t_4_47 : (Jvm.Cond.laysFinal "Miterhouse$Diagrams" "Miterhouse$Diagrams" "standing" "[I") ∈ TT := ttk_4 (List.mem_of_getElem? (i := 47) rfl) rfl
theorem t_4_49 : (Jvm.Cond.laysFinal "Miterhouse$Diagrams" "Miterhouse$Diagrams" "tables" "[J") ∈ TT := ttk_4 (List.mem_of_getElem? (i := 49) rfl) rfl
theorem t_4_51 : (Jvm.Cond.laysFinal "Miterhouse$Diagrams" "Miterhouse$Diagrams" "parts" "[I") ∈ TT := ttk_4 (List.mem_of_getElem? (i := 51) rfl) rfl
theorem t_4_53 : (Jvm.Cond.laysFinal "Miterhouse$Diagrams" "Miterhouse$Diagrams" "firstKeys" "LMiterhouse$Keys;") ∈ TT := ttk_4 (List.mem_of_getElem? (i := 53) rfl) rfl
theorem t_4_55 : (Jvm.Cond.laysFinal "Miterhouse$Diagrams" "Miterhouse$Diagrams" "secondKeys" "LMiterhouse$Keys;") ∈ TT := ttk_4 (List.mem_of_getElem? (i := 55) rfl) rfl
theorem t_4_57 : (Jvm.Cond.lays "Miterhouse$Diagrams" "Miterhouse$Diagrams" "used" "I") ∈ TT := ttk_4 (List.mem_of_getElem? (i := 57) rfl) rfl
theorem t_4_60 : (Jvm.Cond.classLink "Miterhouse$Closed" (47 : Nat) "Miterhouse$Cuts") ∈ TT := ttk_4 (List.mem_of_getElem? (i := 60) rfl) rfl
theorem t_4_61 : (Jvm.Cond.instantiable "Miterhouse$Cuts" (8 : Nat)) ∈ TT := ttk_4 (List.mem_of_getElem? (i := 61) rfl) rfl
theorem t_4_62 : (Jvm.Cond.methodLink "Miterhouse$Closed" (49 : Nat) ({ cls := "Miterhouse$Cuts", name := "<init>", desc := "(LMiterhouse$Ands;I)V" } : Jvm.MethodName)) ∈ TT := ttk_4 (List.mem_of_getElem? (i := 62) rfl) rfl
theorem t_4_63 : (Jvm.Cond.instanceMethod ({ cls := "Miterhouse$Cuts", name := "<init>", desc := "(LMiterhouse$Ands;I)V" } : Jvm.MethodName)) ∈ TT := ttk_4 (List.mem_of_getElem? (i := 63) rfl) rfl
theorem t_4_64 : (Jvm.Cond.code ({ cls := "Miterhouse$Cuts", name := "<init>", desc := "(LMiterhouse$Ands;I)V" } : Jvm.MethodName) prog_5_method_1_code (3 : Nat) (Option.none : Option Jvm.ClassFile.FieldType)) ∈ TT := ttk_4 (List.mem_of_getElem? (i := 64) rfl) rfl
theorem t_4_65 : (Jvm.Cond.methodLink "Miterhouse$Cuts" (3 : Nat) ({ cls := "java/lang/Object", name := "<init>", desc := "()V" } : Jvm.MethodName)) ∈ TT := ttk_4 (List.mem_of_getElem? (i := 65) rfl) rfl
theorem t_4_66 : (Jvm.Cond.classLink "Miterhouse$Cuts" (26 : Nat) "Miterhouse$Keys") ∈ TT := ttk_4 (List.mem_of_getElem? (i := 66) rfl) rfl
theorem t_4_67 : (Jvm.Cond.methodLink "Miterhouse$Cuts" (28 : Nat) ({ cls := "Miterhouse$Keys", name := "<init>", desc := "()V" } : Jvm.MethodName)) ∈ TT := ttk_4 (List.mem_of_getElem? (i := 67) rfl) rfl
theorem t_4_68 : (Jvm.Cond.fieldLink "Miterhouse$Cuts" (9 : Nat) "Miterhouse$Cuts" "ands" "LMiterhouse$Ands;") ∈ TT := ttk_4 (List.mem_of_getElem? (i := 68) rfl) rfl
theorem t_4_69 : (Jvm.Cond.fieldLink "Miterhouse$Cuts" (15 : Nat) "Miterhouse$Cuts" "most" "I") ∈ TT := ttk_4 (List.mem_of_getElem? (i := 69) rfl) rfl
theorem t_4_70 : (Jvm.Cond.fieldLink "Miterhouse$Cuts" (19 : Nat) "Miterhouse$Cuts" "starts" "[I") ∈ TT := ttk_4 (List.mem_of_getElem? (i := 70) rfl) rfl
theorem t_4_71 : (Jvm.Cond.fieldLink "Miterhouse$Cuts" (23 : Nat) "Miterhouse$Cuts" "held" "[I") ∈ TT := ttk_4 (List.mem_of_getElem? (i := 71) rfl) rfl
theorem t_4_72 : (Jvm.Cond.fieldLink "Miterhouse$Cuts" (29 : Nat) "Miterhouse$Cuts" "unions" "LMiterhouse$Keys;") ∈ TT := ttk_4 (List.mem_of_getElem? (i := 72) rfl) rfl
theorem t_4_73 : (Jvm.Cond.fieldLink "Miterhouse$Cuts" (33 : Nat) "Miterhouse$Cuts" "pool" "[J") ∈ TT := ttk_4 (List.mem_of_getElem? (i := 73) rfl) rfl
theorem t_4_74 : (Jvm.Cond.fieldLink "Miterhouse$Cuts" (37 : Nat) "Miterhouse$Cuts" "used" "I") ∈ TT := ttk_4 (List.mem_of_getElem? (i := 74) rfl) rfl
theorem t_4_75 : (Jvm.Cond.fieldLink "Miterhouse$Cuts" (40 : Nat) "Miterhouse$Cuts" "isBuilt" "Z") ∈ TT := ttk_4 (List.mem_of_getElem? (i := 75) rfl) rfl
theorem t_4_76 : (Jvm.Cond.laysFinal "Miterhouse$Cuts" "Miterhouse$Cuts" "ands" "LMiterhouse$Ands;") ∈ TT := ttk_4 (List.mem_of_getElem? (i := 76) rfl) rfl
theorem t_4_78 : (Jvm.Cond.laysFinal "Miterhouse$Cuts" "Miterhouse$Cuts" "most" "I") ∈ TT := ttk_4 (List.mem_of_getElem? (i := 78) rfl) rfl
theorem t_4_80 : (Jvm.Cond.laysFinal "Miterhouse$Cuts" "Miterhouse$Cuts" "starts" "[I") ∈ TT := ttk_4 (List.mem_of_getElem? (i := 80) rfl) rfl
theorem t_4_82 : (Jvm.Cond.laysFinal "Miterhouse$Cuts" "Miterhouse$Cuts" "held" "[I") ∈ TT := ttk_4 (List.mem_of_getElem? (i := 82) rfl) rfl
theorem t_4_84 : (Jvm.Cond.laysFinal "Miterhouse$Cuts" "Miterhouse$Cuts" "unions" "LMiterhouse$Keys;") ∈ TT := ttk_4 (List.mem_of_getElem? (i := 84) rfl) rfl
theorem t_4_86 : (Jvm.Cond.lays "Miterhouse$Cuts" "Miterhouse$Cuts" "pool" "[J") ∈ TT := ttk_4 (List.mem_of_getElem? (i := 86) rfl) rfl
theorem t_4_88 : (Jvm.Cond.lays "Miterhouse$Cuts" "Miterhouse$Cuts" "used" "I") ∈ TT := ttk_4 (List.mem_of_getElem? (i := 88) rfl) rfl
theorem t_4_90 : (Jvm.Cond.lays "Miterhouse$Cuts" "Miterhouse$Cuts" "isBuilt" "Z") ∈ TT := ttk_4 (List.mem_of_getElem? (i := 90) rfl) rfl
theorem t_4_93 : (Jvm.Cond.classLink "Miterhouse$Closed" (62 : Nat) "Miterhouse$Care") ∈ TT := ttk_4 (List.mem_of_getElem? (i := 93) rfl) rfl
theorem t_4_94 : (Jvm.Cond.instantiable "Miterhouse$Care" (5 : Nat)) ∈ TT := ttk_4 (List.mem_of_getElem? (i := 94) rfl) rfl
theorem t_4_95 : (Jvm.Cond.methodLink "Miterhouse$Closed" (64 : Nat) ({ cls := "Miterhouse$Care", name := "<init>", desc := "(LMiterhouse$Nets;LMiterhouse$Values;)V" } : Jvm.MethodName)) ∈ TT := ttk_4 (List.mem_of_getElem? (i := 95) rfl) rfl
theorem t_4_96 : (Jvm.Cond.instanceMethod ({ cls := "Miterhouse$Care", name := "<init>", desc := "(LMiterhouse$Nets;LMiterhouse$Values;)V" } : Jvm.MethodName)) ∈ TT := ttk_4 (List.mem_of_getElem? (i := 96) rfl) rfl
theorem t_4_97 : (Jvm.Cond.code ({ cls := "Miterhouse$Care", name := "<init>", desc := "(LMiterhouse$Nets;LMiterhouse$Values;)V" } : Jvm.MethodName) prog_3_method_1_code (3 : Nat) (Option.none : Option Jvm.ClassFile.FieldType)) ∈ TT := ttk_4 (List.mem_of_getElem? (i := 97) rfl) rfl
theorem t_4_98 : (Jvm.Cond.methodLink "Miterhouse$Care" (3 : Nat) ({ cls := "java/lang/Object", name := "<init>", desc := "()V" } : Jvm.MethodName)) ∈ TT := ttk_4 (List.mem_of_getElem? (i := 98) rfl) rfl
theorem t_4_99 : (Jvm.Cond.fieldLink "Miterhouse$Care" (9 : Nat) "Miterhouse$Care" "nets" "LMiterhouse$Nets;") ∈ TT := ttk_4 (List.mem_of_getElem? (i := 99) rfl) rfl
theorem t_4_100 : (Jvm.Cond.fieldLink "Miterhouse$Care" (15 : Nat) "Miterhouse$Care" "values" "LMiterhouse$Values;") ∈ TT := ttk_4 (List.mem_of_getElem? (i := 100) rfl) rfl
theorem t_4_101 : (Jvm.Cond.fieldLink "Miterhouse$Care" (19 : Nat) "Miterhouse$Care" "changed" "[J") ∈ TT := ttk_4 (List.mem_of_getElem? (i := 101) rfl) rfl
theorem t_4_102 : (Jvm.Cond.fieldLink "Miterhouse$Care" (23 : Nat) "Miterhouse$Care" "counts" "[I") ∈ TT := ttk_4 (List.mem_of_getElem? (i := 102) rfl) rfl
theorem t_4_103 : (Jvm.Cond.fieldLink "Miterhouse$Care" (27 : Nat) "Miterhouse$Care" "countedFor" "I") ∈ TT := ttk_4 (List.mem_of_getElem? (i := 103) rfl) rfl
theorem t_4_104 : (Jvm.Cond.laysFinal "Miterhouse$Care" "Miterhouse$Care" "nets" "LMiterhouse$Nets;") ∈ TT := ttk_4 (List.mem_of_getElem? (i := 104) rfl) rfl
theorem t_4_106 : (Jvm.Cond.laysFinal "Miterhouse$Care" "Miterhouse$Care" "values" "LMiterhouse$Values;") ∈ TT := ttk_4 (List.mem_of_getElem? (i := 106) rfl) rfl
theorem t_4_108 : (Jvm.Cond.laysFinal "Miterhouse$Care" "Miterhouse$Care" "changed" "[J") ∈ TT := ttk_4 (List.mem_of_getElem? (i := 108) rfl) rfl
theorem t_4_110 : (Jvm.Cond.laysFinal "Miterhouse$Care" "Miterhouse$Care" "counts" "[I") ∈ TT := ttk_4 (List.mem_of_getElem? (i := 110) rfl) rfl
theorem t_4_112 : (Jvm.Cond.lays "Miterhouse$Care" "Miterhouse$Care" "countedFor" "I") ∈ TT := ttk_4 (List.mem_of_getElem? (i := 112) rfl) rfl
theorem t_4_115 : (Jvm.Cond.classLink "Miterhouse$Closed" (69 : Nat) "Miterhouse$Registers") ∈ TT := ttk_4 (List.mem_of_getElem? (i := 115) rfl) rfl
theorem t_4_116 : (Jvm.Cond.instantiable "Miterhouse$Registers" (5 : Nat)) ∈ TT := ttk_4 (List.mem_of_getElem? (i := 116) rfl) rfl
theorem t_4_117 : (Jvm.Cond.methodLink "Miterhouse$Closed" (71 : Nat) ({ cls := "Miterhouse$Registers", name := "<init>", desc := "(LMiterhouse$Nets;LMiterhouse$Values;)V" } : Jvm.MethodName)) ∈ TT := ttk_4 (List.mem_of_getElem? (i := 117) rfl) rfl
theorem t_4_118 : (Jvm.Cond.instanceMethod ({ cls := "Miterhouse$Registers", name := "<init>", desc := "(LMiterhouse$Nets;LMiterhouse$Values;)V" } : Jvm.MethodName)) ∈ TT := ttk_4 (List.mem_of_getElem? (i := 118) rfl) rfl
theorem t_4_119 : (Jvm.Cond.code ({ cls := "Miterhouse$Registers", name := "<init>", desc := "(LMiterhouse$Nets;LMiterhouse$Values;)V" } : Jvm.MethodName) prog_9_method_1_code (3 : Nat) (Option.none : Option Jvm.ClassFile.FieldType)) ∈ TT := ttk_4 (List.mem_of_getElem? (i := 119) rfl) rfl
theorem t_4_120 : (Jvm.Cond.methodLink "Miterhouse$Registers" (3 : Nat) ({ cls := "java/lang/Object", name := "<init>", desc := "()V" } : Jvm.MethodName)) ∈ TT := ttk_4 (List.mem_of_getElem? (i := 120) rfl) rfl
theorem t_4_121 : (Jvm.Cond.fieldLink "Miterhouse$Registers" (9 : Nat) "Miterhouse$Registers" "nets" "LMiterhouse$Nets;") ∈ TT := ttk_4 (List.mem_of_getElem? (i := 121) rfl) rfl
theorem t_4_122 : (Jvm.Cond.fieldLink "Miterhouse$Registers" (15 : Nat) "Miterhouse$Registers" "values" "LMiterhouse$Values;") ∈ TT := ttk_4 (List.mem_of_getElem? (i := 122) rfl) rfl
theorem t_4_123 : (Jvm.Cond.fieldLink "Miterhouse$Registers" (19 : Nat) "Miterhouse$Registers" "leaders" "[I") ∈ TT := ttk_4 (List.mem_of_getElem? (i := 123) rfl) rfl
theorem t_4_124 : (Jvm.Cond.fieldLink "Miterhouse$Registers" (23 : Nat) "Miterhouse$Registers" "parted" "[I") ∈ TT := ttk_4 (List.mem_of_getElem? (i := 124) rfl) rfl
theorem t_4_125 : (Jvm.Cond.fieldLink "Miterhouse$Registers" (26 : Nat) "Miterhouse$Registers" "foundFor" "I") ∈ TT := ttk_4 (List.mem_of_getElem? (i := 125) rfl) rfl
theorem t_4_126 : (Jvm.Cond.laysFinal "Miterhouse$Registers" "Miterhouse$Registers" "nets" "LMiterhouse$Nets;") ∈ TT := ttk_4 (List.mem_of_getElem? (i := 126) rfl) rfl
theorem t_4_128 : (Jvm.Cond.laysFinal "Miterhouse$Registers" "Miterhouse$Registers" "values" "LMiterhouse$Values;") ∈ TT := ttk_4 (List.mem_of_getElem? (i := 128) rfl) rfl
theorem t_4_130 : (Jvm.Cond.laysFinal "Miterhouse$Registers" "Miterhouse$Registers" "leaders" "[I") ∈ TT := ttk_4 (List.mem_of_getElem? (i := 130) rfl) rfl
theorem t_4_132 : (Jvm.Cond.laysFinal "Miterhouse$Registers" "Miterhouse$Registers" "parted" "[I") ∈ TT := ttk_4 (List.mem_of_getElem? (i := 132) rfl) rfl
theorem t_4_134 : (Jvm.Cond.lays "Miterhouse$Registers" "Miterhouse$Registers" "foundFor" "I") ∈ TT := ttk_4 (List.mem_of_getElem? (i := 134) rfl) rfl
theorem t_4_137 : (Jvm.Cond.classLink "Miterhouse$Closed" (76 : Nat) "Miterhouse$States") ∈ TT := ttk_4 (List.mem_of_getElem? (i := 137) rfl) rfl
theorem t_4_138 : (Jvm.Cond.methodLink "Miterhouse$Closed" (78 : Nat) ({ cls := "Miterhouse$States", name := "<init>", desc := "(LMiterhouse$Nets;LMiterhouse$Values;)V" } : Jvm.MethodName)) ∈ TT := ttk_4 (List.mem_of_getElem? (i := 138) rfl) rfl
theorem t_4_139 : (Jvm.Cond.instanceMethod ({ cls := "Miterhouse$States", name := "<init>", desc := "(LMiterhouse$Nets;LMiterhouse$Values;)V" } : Jvm.MethodName)) ∈ TT := ttk_4 (List.mem_of_getElem? (i := 139) rfl) rfl
theorem t_4_140 : (Jvm.Cond.code ({ cls := "Miterhouse$States", name := "<init>", desc := "(LMiterhouse$Nets;LMiterhouse$Values;)V" } : Jvm.MethodName) prog_10_method_1_code (3 : Nat) (Option.none : Option Jvm.ClassFile.FieldType)) ∈ TT := ttk_4 (List.mem_of_getElem? (i := 140) rfl) rfl
theorem t_4_141 : (Jvm.Cond.methodLink "Miterhouse$States" (1 : Nat) ({ cls := "java/lang/Object", name := "<init>", desc := "()V" } : Jvm.MethodName)) ∈ TT := ttk_4 (List.mem_of_getElem? (i := 141) rfl) rfl
theorem t_4_142 : (Jvm.Cond.methodLink "Miterhouse$States" (28 : Nat) ({ cls := "java/lang/Math", name := "min", desc := "(II)I" } : Jvm.MethodName)) ∈ TT := ttk_4 (List.mem_of_getElem? (i := 142) rfl) rfl
theorem t_4_143 : (Jvm.Cond.methodLink "Miterhouse$States" (35 : Nat) ({ cls := "java/lang/Math", name := "max", desc := "(II)I" } : Jvm.MethodName)) ∈ TT := ttk_4 (List.mem_of_getElem? (i := 143) rfl) rfl
theorem t_4_144 : (Jvm.Cond.fieldLink "Miterhouse$States" (7 : Nat) "Miterhouse$States" "nets" "LMiterhouse$Nets;") ∈ TT := ttk_4 (List.mem_of_getElem? (i := 144) rfl) rfl
theorem t_4_145 : (Jvm.Cond.fieldLink "Miterhouse$States" (13 : Nat) "Miterhouse$States" "values" "LMiterhouse$Values;") ∈ TT := ttk_4 (List.mem_of_getElem? (i := 145) rfl) rfl
theorem t_4_146 : (Jvm.Cond.fieldLink "Miterhouse$States" (34 : Nat) "Miterhouse$States" "inputs" "I") ∈ TT := ttk_4 (List.mem_of_getElem? (i := 146) rfl) rfl
theorem t_4_147 : (Jvm.Cond.fieldLink "Miterhouse$States" (38 : Nat) "Miterhouse$States" "stateCount" "I") ∈ TT := ttk_4 (List.mem_of_getElem? (i := 147) rfl) rfl
theorem t_4_148 : (Jvm.Cond.fieldLink "Miterhouse$States" (41 : Nat) "Miterhouse$States" "follow" "[I") ∈ TT := ttk_4 (List.mem_of_getElem? (i := 148) rfl) rfl
theorem t_4_149 : (Jvm.Cond.fieldLink "Miterhouse$States" (45 : Nat) "Miterhouse$States" "queue" "[I") ∈ TT := ttk_4 (List.mem_of_getElem? (i := 149) rfl) rfl
theorem t_4_150 : (Jvm.Cond.fieldLink "Miterhouse$States" (48 : Nat) "Miterhouse$States" "from" "[I") ∈ TT := ttk_4 (List.mem_of_getElem? (i := 150) rfl) rfl
theorem t_4_151 : (Jvm.Cond.fieldLink "Miterhouse$States" (51 : Nat) "Miterhouse$States" "by" "[I") ∈ TT := ttk_4 (List.mem_of_getElem? (i := 151) rfl) rfl
theorem t_4_152 : (Jvm.Cond.fieldLink "Miterhouse$States" (54 : Nat) "Miterhouse$States" "depths" "[I") ∈ TT := ttk_4 (List.mem_of_getElem? (i := 152) rfl) rfl
theorem t_4_153 : (Jvm.Cond.fieldLink "Miterhouse$States" (57 : Nat) "Miterhouse$States" "traced" "[I") ∈ TT := ttk_4 (List.mem_of_getElem? (i := 153) rfl) rfl
theorem t_4_154 : (Jvm.Cond.fieldLink "Miterhouse$States" (60 : Nat) "Miterhouse$States" "marks" "[I") ∈ TT := ttk_4 (List.mem_of_getElem? (i := 154) rfl) rfl
theorem t_4_155 : (Jvm.Cond.fieldLink "Miterhouse$States" (63 : Nat) "Miterhouse$States" "nextMarks" "[I") ∈ TT := ttk_4 (List.mem_of_getElem? (i := 155) rfl) rfl
theorem t_4_156 : (Jvm.Cond.fieldLink "Miterhouse$States" (66 : Nat) "Miterhouse$States" "isFollowKnown" "Z") ∈ TT := ttk_4 (List.mem_of_getElem? (i := 156) rfl) rfl
theorem t_4_157 : (Jvm.Cond.fieldLink "Miterhouse$States" (70 : Nat) "Miterhouse$States" "searchedFor" "I") ∈ TT := ttk_4 (List.mem_of_getElem? (i := 157) rfl) rfl
theorem t_4_158 : (Jvm.Cond.fieldLink "Miterhouse$States" (73 : Nat) "Miterhouse$States" "reachedCount" "I") ∈ TT := ttk_4 (List.mem_of_getElem? (i := 158) rfl) rfl
theorem t_4_159 : (Jvm.Cond.fieldLink "Miterhouse" (359 : Nat) "Miterhouse$States" "reachedCount" "I") ∈ TT := ttk_4 (List.mem_of_getElem? (i := 159) rfl) rfl
theorem t_4_160 : (Jvm.Cond.fieldLink "Miterhouse$States" (76 : Nat) "Miterhouse$States" "differsAt" "I") ∈ TT := ttk_4 (List.mem_of_getElem? (i := 160) rfl) rfl
theorem t_4_161 : (Jvm.Cond.fieldLink "Miterhouse" (362 : Nat) "Miterhouse$States" "differsAt" "I") ∈ TT := ttk_4 (List.mem_of_getElem? (i := 161) rfl) rfl
theorem t_4_162 : (Jvm.Cond.laysFinal "Miterhouse$States" "Miterhouse$States" "nets" "LMiterhouse$Nets;") ∈ TT := ttk_4 (List.mem_of_getElem? (i := 162) rfl) rfl
theorem t_4_164 : (Jvm.Cond.laysFinal "Miterhouse$States" "Miterhouse$States" "values" "LMiterhouse$Values;") ∈ TT := ttk_4 (List.mem_of_getElem? (i := 164) rfl) rfl
theorem t_4_166 : (Jvm.Cond.laysFinal "Miterhouse$States" "Miterhouse$States" "inputs" "I") ∈ TT := ttk_4 (List.mem_of_getElem? (i := 166) rfl) rfl
theorem t_4_168 : (Jvm.Cond.laysFinal "Miterhouse$States" "Miterhouse$States" "stateCount" "I") ∈ TT := ttk_4 (List.mem_of_getElem? (i := 168) rfl) rfl
theorem t_4_170 : (Jvm.Cond.laysFinal "Miterhouse$States" "Miterhouse$States" "follow" "[I") ∈ TT := ttk_4 (List.mem_of_getElem? (i := 170) rfl) rfl
theorem t_4_172 : (Jvm.Cond.laysFinal "Miterhouse$States" "Miterhouse$States" "queue" "[I") ∈ TT := ttk_4 (List.mem_of_getElem? (i := 172) rfl) rfl
theorem t_4_174 : (Jvm.Cond.laysFinal "Miterhouse$States" "Miterhouse$States" "from" "[I") ∈ TT := ttk_4 (List.mem_of_getElem? (i := 174) rfl) rfl
theorem t_4_176 : (Jvm.Cond.laysFinal "Miterhouse$States" "Miterhouse$States" "by" "[I") ∈ TT := ttk_4 (List.mem_of_getElem? (i := 176) rfl) rfl
theorem t_4_178 : (Jvm.Cond.laysFinal "Miterhouse$States" "Miterhouse$States" "depths" "[I") ∈ TT := ttk_4 (List.mem_of_getElem? (i := 178) rfl) rfl
theorem t_4_180 : (Jvm.Cond.laysFinal "Miterhouse$States" "Miterhouse$States" "traced" "[I") ∈ TT := ttk_4 (List.mem_of_getElem? (i := 180) rfl) rfl
theorem t_4_182 : (Jvm.Cond.laysFinal "Miterhouse$States" "Miterhouse$States" "marks" "[I") ∈ TT := ttk_4 (List.mem_of_getElem? (i := 182) rfl) rfl
theorem t_4_184 : (Jvm.Cond.laysFinal "Miterhouse$States" "Miterhouse$States" "nextMarks" "[I") ∈ TT := ttk_4 (List.mem_of_getElem? (i := 184) rfl) rfl
theorem t_4_186 : (Jvm.Cond.lays "Miterhouse$States" "Miterhouse$States" "isFollowKnown" "Z") ∈ TT := ttk_4 (List.mem_of_getElem? (i := 186) rfl) rfl
theorem t_4_188 : (Jvm.Cond.lays "Miterhouse$States" "Miterhouse$States" "searchedFor" "I") ∈ TT := ttk_4 (List.mem_of_getElem? (i := 188) rfl) rfl
theorem t_4_190 : (Jvm.Cond.lays "Miterhouse$States" "Miterhouse$States" "reachedCount" "I") ∈ TT := ttk_4 (List.mem_of_getElem? (i := 190) rfl) rfl
theorem t_4_192 : (Jvm.Cond.lays "Miterhouse$States" "Miterhouse$States" "differsAt" "I") ∈ TT := ttk_4 (List.mem_of_getElem? (i := 192) rfl) rfl
theorem t_4_195 : (Jvm.Cond.fieldLink "Miterhouse$Closed" (9 : Nat) "Miterhouse$Closed" "nets" "LMiterhouse$Nets;") ∈ TT := ttk_4 (List.mem_of_getElem? (i := 195) rfl) rfl
theorem t_4_196 : (Jvm.Cond.fieldLink "Miterhouse$Closed" (20 : Nat) "Miterhouse$Closed" "values" "LMiterhouse$Values;") ∈ TT := ttk_4 (List.mem_of_getElem? (i := 196) rfl) rfl
theorem t_4_197 : (Jvm.Cond.fieldLink "Miterhouse" (134 : Nat) "Miterhouse$Closed" "values" "LMiterhouse$Values;") ∈ TT := ttk_4 (List.mem_of_getElem? (i := 197) rfl) rfl
theorem t_4_198 : (Jvm.Cond.fieldLink "Miterhouse$Closed" (27 : Nat) "Miterhouse$Closed" "ands" "LMiterhouse$Ands;") ∈ TT := ttk_4 (List.mem_of_getElem? (i := 198) rfl) rfl
theorem t_4_199 : (Jvm.Cond.fieldLink "Miterhouse" (166 : Nat) "Miterhouse$Closed" "ands" "LMiterhouse$Ands;") ∈ TT := ttk_4 (List.mem_of_getElem? (i := 199) rfl) rfl
theorem t_4_200 : (Jvm.Cond.fieldLink "Miterhouse$Closed" (36 : Nat) "Miterhouse$Closed" "sweeping" "LMiterhouse$Sweeping;") ∈ TT := ttk_4 (List.mem_of_getElem? (i := 200) rfl) rfl
theorem t_4_201 : (Jvm.Cond.fieldLink "Miterhouse" (197 : Nat) "Miterhouse$Closed" "sweeping" "LMiterhouse$Sweeping;") ∈ TT := ttk_4 (List.mem_of_getElem? (i := 201) rfl) rfl
theorem t_4_202 : (Jvm.Cond.fieldLink "Miterhouse$Closed" (43 : Nat) "Miterhouse$Closed" "diagrams" "LMiterhouse$Diagrams;") ∈ TT := ttk_4 (List.mem_of_getElem? (i := 202) rfl) rfl
theorem t_4_203 : (Jvm.Cond.fieldLink "Miterhouse$Closed" (52 : Nat) "Miterhouse$Closed" "cutsOfTwo" "LMiterhouse$Cuts;") ∈ TT := ttk_4 (List.mem_of_getElem? (i := 203) rfl) rfl
theorem t_4_204 : (Jvm.Cond.fieldLink "Miterhouse$Closed" (56 : Nat) "Miterhouse$Closed" "cutsOfThree" "LMiterhouse$Cuts;") ∈ TT := ttk_4 (List.mem_of_getElem? (i := 204) rfl) rfl
theorem t_4_205 : (Jvm.Cond.fieldLink "Miterhouse$Closed" (59 : Nat) "Miterhouse$Closed" "cutsOfFour" "LMiterhouse$Cuts;") ∈ TT := ttk_4 (List.mem_of_getElem? (i := 205) rfl) rfl
theorem t_4_206 : (Jvm.Cond.fieldLink "Miterhouse$Closed" (65 : Nat) "Miterhouse$Closed" "care" "LMiterhouse$Care;") ∈ TT := ttk_4 (List.mem_of_getElem? (i := 206) rfl) rfl
theorem t_4_207 : (Jvm.Cond.fieldLink "Miterhouse$Closed" (72 : Nat) "Miterhouse$Closed" "registers" "LMiterhouse$Registers;") ∈ TT := ttk_4 (List.mem_of_getElem? (i := 207) rfl) rfl
theorem t_4_208 : (Jvm.Cond.fieldLink "Miterhouse$Closed" (79 : Nat) "Miterhouse$Closed" "states" "LMiterhouse$States;") ∈ TT := ttk_4 (List.mem_of_getElem? (i := 208) rfl) rfl
theorem t_4_209 : (Jvm.Cond.fieldLink "Miterhouse" (350 : Nat) "Miterhouse$Closed" "states" "LMiterhouse$States;") ∈ TT := ttk_4 (List.mem_of_getElem? (i := 209) rfl) rfl
theorem t_4_210 : (Jvm.Cond.fieldLink "Miterhouse$Closed" (83 : Nat) "Miterhouse$Closed" "nodeWords" "[J") ∈ TT := ttk_4 (List.mem_of_getElem? (i := 210) rfl) rfl
theorem t_4_211 : (Jvm.Cond.laysFinal "Miterhouse$Closed" "Miterhouse$Closed" "nets" "LMiterhouse$Nets;") ∈ TT := ttk_4 (List.mem_of_getElem? (i := 211) rfl) rfl
theorem t_4_213 : (Jvm.Cond.laysFinal "Miterhouse$Closed" "Miterhouse$Closed" "values" "LMiterhouse$Values;") ∈ TT := ttk_4 (List.mem_of_getElem? (i := 213) rfl) rfl
theorem t_4_215 : (Jvm.Cond.laysFinal "Miterhouse$Closed" "Miterhouse$Closed" "ands" "LMiterhouse$Ands;") ∈ TT := ttk_4 (List.mem_of_getElem? (i := 215) rfl) rfl
theorem t_4_217 : (Jvm.Cond.laysFinal "Miterhouse$Closed" "Miterhouse$Closed" "sweeping" "LMiterhouse$Sweeping;") ∈ TT := ttk_4 (List.mem_of_getElem? (i := 217) rfl) rfl
theorem t_4_219 : (Jvm.Cond.laysFinal "Miterhouse$Closed" "Miterhouse$Closed" "diagrams" "LMiterhouse$Diagrams;") ∈ TT := ttk_4 (List.mem_of_getElem? (i := 219) rfl) rfl
theorem t_4_221 : (Jvm.Cond.laysFinal "Miterhouse$Closed" "Miterhouse$Closed" "cutsOfTwo" "LMiterhouse$Cuts;") ∈ TT := ttk_4 (List.mem_of_getElem? (i := 221) rfl) rfl
theorem t_4_223 : (Jvm.Cond.laysFinal "Miterhouse$Closed" "Miterhouse$Closed" "cutsOfThree" "LMiterhouse$Cuts;") ∈ TT := ttk_4 (List.mem_of_getElem? (i := 223) rfl) rfl
theorem t_4_225 : (Jvm.Cond.laysFinal "Miterhouse$Closed" "Miterhouse$Closed" "cutsOfFour" "LMiterhouse$Cuts;") ∈ TT := ttk_4 (List.mem_of_getElem? (i := 225) rfl) rfl
theorem t_4_227 : (Jvm.Cond.laysFinal "Miterhouse$Closed" "Miterhouse$Closed" "care" "LMiterhouse$Care;") ∈ TT := ttk_4 (List.mem_of_getElem? (i := 227) rfl) rfl
theorem t_4_229 : (Jvm.Cond.laysFinal "Miterhouse$Closed" "Miterhouse$Closed" "registers" "LMiterhouse$Registers;") ∈ TT := ttk_4 (List.mem_of_getElem? (i := 229) rfl) rfl
theorem t_4_231 : (Jvm.Cond.laysFinal "Miterhouse$Closed" "Miterhouse$Closed" "states" "LMiterhouse$States;") ∈ TT := ttk_4 (List.mem_of_getElem? (i := 231) rfl) rfl
theorem t_4_233 : (Jvm.Cond.laysFinal "Miterhouse$Closed" "Miterhouse$Closed" "nodeWords" "[J") ∈ TT := ttk_4 (List.mem_of_getElem? (i := 233) rfl) rfl
theorem t_4_236 : (Jvm.Cond.methodLink "Miterhouse" (124 : Nat) ({ cls := "Miterhouse$Closed", name := "fill", desc := "()V" } : Jvm.MethodName)) ∈ TT := ttk_4 (List.mem_of_getElem? (i := 236) rfl) rfl
theorem t_4_237 : (Jvm.Cond.instanceMethod ({ cls := "Miterhouse$Closed", name := "fill", desc := "()V" } : Jvm.MethodName)) ∈ TT := ttk_4 (List.mem_of_getElem? (i := 237) rfl) rfl
theorem t_4_238 : (Jvm.Cond.selects "Miterhouse$Closed" ({ cls := "Miterhouse$Closed", name := "fill", desc := "()V" } : Jvm.MethodName) ({ cls := "Miterhouse$Closed", name := "fill", desc := "()V" } : Jvm.MethodName)) ∈ TT := ttk_4 (List.mem_of_getElem? (i := 238) rfl) rfl
theorem t_4_239 : (Jvm.Cond.code ({ cls := "Miterhouse$Closed", name := "fill", desc := "()V" } : Jvm.MethodName) prog_4_method_2_code (1 : Nat) (Option.none : Option Jvm.ClassFile.FieldType)) ∈ TT := ttk_4 (List.mem_of_getElem? (i := 239) rfl) rfl
theorem t_5_0 : (Jvm.Cond.methodLink "Miterhouse$Closed" (87 : Nat) ({ cls := "Miterhouse$Values", name := "fill", desc := "()V" } : Jvm.MethodName)) ∈ TT := ttk_5 (List.mem_of_getElem? (i := 0) rfl) rfl
theorem t_5_1 : (Jvm.Cond.instanceMethod ({ cls := "Miterhouse$Values", name := "fill", desc := "()V" } : Jvm.MethodName)) ∈ TT := ttk_5 (List.mem_of_getElem? (i := 1) rfl) rfl
theorem t_5_2 : (Jvm.Cond.selects "Miterhouse$Values" ({ cls := "Miterhouse$Values", name := "fill", desc := "()V" } : Jvm.MethodName) ({ cls := "Miterhouse$Values", name := "fill", desc := "()V" } : Jvm.MethodName)) ∈ TT := ttk_5 (List.mem_of_getElem? (i := 2) rfl) rfl
theorem t_5_3 : (Jvm.Cond.code ({ cls := "Miterhouse$Values", name := "fill", desc := "()V" } : Jvm.MethodName) prog_12_method_2_code (2 : Nat) (Option.none : Option Jvm.ClassFile.FieldType)) ∈ TT := ttk_5 (List.mem_of_getElem? (i := 3) rfl) rfl
theorem t_5_4 : (Jvm.Cond.methodLink "Miterhouse$Values" (71 : Nat) ({ cls := "java/util/Arrays", name := "fill", desc := "([JJ)V" } : Jvm.MethodName)) ∈ TT := ttk_5 (List.mem_of_getElem? (i := 4) rfl) rfl
theorem t_5_5 : (Jvm.Cond.static ({ cls := "java/util/Arrays", name := "fill", desc := "([JJ)V" } : Jvm.MethodName)) ∈ TT := ttk_5 (List.mem_of_getElem? (i := 5) rfl) rfl
theorem t_5_6 : (Jvm.Cond.code ({ cls := "java/util/Arrays", name := "fill", desc := "([JJ)V" } : Jvm.MethodName) prog_35_method_101_code (5 : Nat) (Option.none : Option Jvm.ClassFile.FieldType)) ∈ TT := ttk_5 (List.mem_of_getElem? (i := 6) rfl) rfl
theorem t_5_7 : (Jvm.Cond.methodLink "Miterhouse$Values" (77 : Nat) ({ cls := "Miterhouse$Nets", name := "isGate", desc := "(I)Z" } : Jvm.MethodName)) ∈ TT := ttk_5 (List.mem_of_getElem? (i := 7) rfl) rfl
theorem t_5_8 : (Jvm.Cond.instanceMethod ({ cls := "Miterhouse$Nets", name := "isGate", desc := "(I)Z" } : Jvm.MethodName)) ∈ TT := ttk_5 (List.mem_of_getElem? (i := 8) rfl) rfl
theorem t_5_9 : (Jvm.Cond.selects "Miterhouse$Nets" ({ cls := "Miterhouse$Nets", name := "isGate", desc := "(I)Z" } : Jvm.MethodName) ({ cls := "Miterhouse$Nets", name := "isGate", desc := "(I)Z" } : Jvm.MethodName)) ∈ TT := ttk_5 (List.mem_of_getElem? (i := 9) rfl) rfl
theorem t_5_10 : (Jvm.Cond.code ({ cls := "Miterhouse$Nets", name := "isGate", desc := "(I)Z" } : Jvm.MethodName) prog_8_method_6_code (3 : Nat) (Option.some Jvm.ClassFile.FieldType.boolean)) ∈ TT := ttk_5 (List.mem_of_getElem? (i := 10) rfl) rfl
theorem t_5_11 : (Jvm.Cond.methodLink "Miterhouse$Values" (81 : Nat) ({ cls := "Miterhouse$Values", name := "fillGate", desc := "(I)V" } : Jvm.MethodName)) ∈ TT := ttk_5 (List.mem_of_getElem? (i := 11) rfl) rfl
theorem t_5_13 : (Jvm.Cond.instanceMethod ({ cls := "Miterhouse$Values", name := "fillGate", desc := "(I)V" } : Jvm.MethodName)) ∈ TT := ttk_5 (List.mem_of_getElem? (i := 13) rfl) rfl
theorem t_5_14 : (Jvm.Cond.code ({ cls := "Miterhouse$Values", name := "fillGate", desc := "(I)V" } : Jvm.MethodName) prog_12_method_6_code (19 : Nat) (Option.none : Option Jvm.ClassFile.FieldType)) ∈ TT := ttk_5 (List.mem_of_getElem? (i := 14) rfl) rfl
theorem t_5_15 : (Jvm.Cond.methodLink "Miterhouse$Values" (109 : Nat) ({ cls := "Miterhouse$Nets", name := "kindOf", desc := "(I)C" } : Jvm.MethodName)) ∈ TT := ttk_5 (List.mem_of_getElem? (i := 15) rfl) rfl
theorem t_5_16 : (Jvm.Cond.methodLink "Miterhouse$Values" (113 : Nat) ({ cls := "Miterhouse$Nets", name := "oneOfPins", desc := "(I)I" } : Jvm.MethodName)) ∈ TT := ttk_5 (List.mem_of_getElem? (i := 16) rfl) rfl
theorem t_5_17 : (Jvm.Cond.instanceMethod ({ cls := "Miterhouse$Nets", name := "oneOfPins", desc := "(I)I" } : Jvm.MethodName)) ∈ TT := ttk_5 (List.mem_of_getElem? (i := 17) rfl) rfl
theorem t_5_18 : (Jvm.Cond.selects "Miterhouse$Nets" ({ cls := "Miterhouse$Nets", name := "oneOfPins", desc := "(I)I" } : Jvm.MethodName) ({ cls := "Miterhouse$Nets", name := "oneOfPins", desc := "(I)I" } : Jvm.MethodName)) ∈ TT := ttk_5 (List.mem_of_getElem? (i := 18) rfl) rfl
theorem t_5_19 : (Jvm.Cond.code ({ cls := "Miterhouse$Nets", name := "oneOfPins", desc := "(I)I" } : Jvm.MethodName) prog_8_method_8_code (2 : Nat) (Option.some Jvm.ClassFile.FieldType.int)) ∈ TT := ttk_5 (List.mem_of_getElem? (i := 19) rfl) rfl
theorem t_5_20 : (Jvm.Cond.methodLink "Miterhouse$Values" (116 : Nat) ({ cls := "Miterhouse$Nets", name := "twoOfPins", desc := "(I)I" } : Jvm.MethodName)) ∈ TT := ttk_5 (List.mem_of_getElem? (i := 20) rfl) rfl
theorem t_5_21 : (Jvm.Cond.instanceMethod ({ cls := "Miterhouse$Nets", name := "twoOfPins", desc := "(I)I" } : Jvm.MethodName)) ∈ TT := ttk_5 (List.mem_of_getElem? (i := 21) rfl) rfl
theorem t_5_22 : (Jvm.Cond.selects "Miterhouse$Nets" ({ cls := "Miterhouse$Nets", name := "twoOfPins", desc := "(I)I" } : Jvm.MethodName) ({ cls := "Miterhouse$Nets", name := "twoOfPins", desc := "(I)I" } : Jvm.MethodName)) ∈ TT := ttk_5 (List.mem_of_getElem? (i := 22) rfl) rfl
theorem t_5_23 : (Jvm.Cond.code ({ cls := "Miterhouse$Nets", name := "twoOfPins", desc := "(I)I" } : Jvm.MethodName) prog_8_method_9_code (2 : Nat) (Option.some Jvm.ClassFile.FieldType.int)) ∈ TT := ttk_5 (List.mem_of_getElem? (i := 23) rfl) rfl
theorem t_5_24 : (Jvm.Cond.methodLinkNest "Miterhouse$Values" (123 : Nat) ({ cls := "Miterhouse", name := "oneOf", desc := "(CJJJJ)J" } : Jvm.MethodName) "Miterhouse") ∈ TT := ttk_5 (List.mem_of_getElem? (i := 24) rfl) rfl
theorem t_5_25 : (Jvm.Cond.static ({ cls := "Miterhouse", name := "oneOf", desc := "(CJJJJ)J" } : Jvm.MethodName)) ∈ TT := ttk_5 (List.mem_of_getElem? (i := 25) rfl) rfl
theorem t_5_26 : (Jvm.Cond.code ({ cls := "Miterhouse", name := "oneOf", desc := "(CJJJJ)J" } : Jvm.MethodName) prog_1_method_66_code (9 : Nat) (Option.some Jvm.ClassFile.FieldType.long)) ∈ TT := ttk_5 (List.mem_of_getElem? (i := 26) rfl) rfl
theorem t_5_27 : (Jvm.Cond.methodLinkNest "Miterhouse$Values" (97 : Nat) ({ cls := "Miterhouse", name := "putWord", desc := "([JIJ)V" } : Jvm.MethodName) "Miterhouse") ∈ TT := ttk_5 (List.mem_of_getElem? (i := 27) rfl) rfl
theorem t_5_28 : (Jvm.Cond.methodLinkNest "Miterhouse$Values" (127 : Nat) ({ cls := "Miterhouse", name := "zeroOf", desc := "(CJJJJ)J" } : Jvm.MethodName) "Miterhouse") ∈ TT := ttk_5 (List.mem_of_getElem? (i := 28) rfl) rfl
theorem t_5_29 : (Jvm.Cond.static ({ cls := "Miterhouse", name := "zeroOf", desc := "(CJJJJ)J" } : Jvm.MethodName)) ∈ TT := ttk_5 (List.mem_of_getElem? (i := 29) rfl) rfl
theorem t_5_30 : (Jvm.Cond.code ({ cls := "Miterhouse", name := "zeroOf", desc := "(CJJJJ)J" } : Jvm.MethodName) prog_1_method_67_code (9 : Nat) (Option.some Jvm.ClassFile.FieldType.long)) ∈ TT := ttk_5 (List.mem_of_getElem? (i := 30) rfl) rfl
theorem t_5_31 : (Jvm.Cond.methodLink "Miterhouse$Values" (85 : Nat) ({ cls := "Miterhouse$Nets", name := "sourceAtLine", desc := "(I)I" } : Jvm.MethodName)) ∈ TT := ttk_5 (List.mem_of_getElem? (i := 31) rfl) rfl
theorem t_5_32 : (Jvm.Cond.instanceMethod ({ cls := "Miterhouse$Nets", name := "sourceAtLine", desc := "(I)I" } : Jvm.MethodName)) ∈ TT := ttk_5 (List.mem_of_getElem? (i := 32) rfl) rfl
theorem t_5_33 : (Jvm.Cond.selects "Miterhouse$Nets" ({ cls := "Miterhouse$Nets", name := "sourceAtLine", desc := "(I)I" } : Jvm.MethodName) ({ cls := "Miterhouse$Nets", name := "sourceAtLine", desc := "(I)I" } : Jvm.MethodName)) ∈ TT := ttk_5 (List.mem_of_getElem? (i := 33) rfl) rfl
theorem t_5_34 : (Jvm.Cond.code ({ cls := "Miterhouse$Nets", name := "sourceAtLine", desc := "(I)I" } : Jvm.MethodName) prog_8_method_29_code (3 : Nat) (Option.some Jvm.ClassFile.FieldType.int)) ∈ TT := ttk_5 (List.mem_of_getElem? (i := 34) rfl) rfl
theorem t_5_35 : (Jvm.Cond.methodLink "Miterhouse$Nets" (96 : Nat) ({ cls := "Miterhouse$Nets", name := "sourceCount", desc := "()I" } : Jvm.MethodName)) ∈ TT := ttk_5 (List.mem_of_getElem? (i := 35) rfl) rfl
theorem t_5_36 : (Jvm.Cond.methodLink "Miterhouse$Nets" (100 : Nat) ({ cls := "Miterhouse$Nets", name := "sourceLine", desc := "(I)I" } : Jvm.MethodName)) ∈ TT := ttk_5 (List.mem_of_getElem? (i := 36) rfl) rfl
theorem t_5_37 : (Jvm.Cond.methodLink "Miterhouse$Values" (89 : Nat) ({ cls := "Miterhouse$Values", name := "fillSource", desc := "(II)V" } : Jvm.MethodName)) ∈ TT := ttk_5 (List.mem_of_getElem? (i := 37) rfl) rfl
theorem t_5_39 : (Jvm.Cond.instanceMethod ({ cls := "Miterhouse$Values", name := "fillSource", desc := "(II)V" } : Jvm.MethodName)) ∈ TT := ttk_5 (List.mem_of_getElem? (i := 39) rfl) rfl
theorem t_5_40 : (Jvm.Cond.code ({ cls := "Miterhouse$Values", name := "fillSource", desc := "(II)V" } : Jvm.MethodName) prog_12_method_3_code (8 : Nat) (Option.none : Option Jvm.ClassFile.FieldType)) ∈ TT := ttk_5 (List.mem_of_getElem? (i := 40) rfl) rfl
theorem t_5_41 : (Jvm.Cond.methodLink "Miterhouse$Values" (93 : Nat) ({ cls := "Miterhouse$Values", name := "bitOfIndex", desc := "(II)J" } : Jvm.MethodName)) ∈ TT := ttk_5 (List.mem_of_getElem? (i := 41) rfl) rfl
theorem t_5_42 : (Jvm.Cond.static ({ cls := "Miterhouse$Values", name := "bitOfIndex", desc := "(II)J" } : Jvm.MethodName)) ∈ TT := ttk_5 (List.mem_of_getElem? (i := 42) rfl) rfl
theorem t_5_43 : (Jvm.Cond.code ({ cls := "Miterhouse$Values", name := "bitOfIndex", desc := "(II)J" } : Jvm.MethodName) prog_12_method_4_code (2 : Nat) (Option.some Jvm.ClassFile.FieldType.long)) ∈ TT := ttk_5 (List.mem_of_getElem? (i := 43) rfl) rfl
theorem t_5_44 : (Jvm.Cond.methodLinkNest "Miterhouse$Values" (105 : Nat) ({ cls := "Miterhouse", name := "highHalf", desc := "(I)J" } : Jvm.MethodName) "Miterhouse") ∈ TT := ttk_5 (List.mem_of_getElem? (i := 44) rfl) rfl
theorem t_5_45 : (Jvm.Cond.static ({ cls := "Miterhouse", name := "highHalf", desc := "(I)J" } : Jvm.MethodName)) ∈ TT := ttk_5 (List.mem_of_getElem? (i := 45) rfl) rfl
theorem t_5_46 : (Jvm.Cond.code ({ cls := "Miterhouse", name := "highHalf", desc := "(I)J" } : Jvm.MethodName) prog_1_method_64_code (1 : Nat) (Option.some Jvm.ClassFile.FieldType.long)) ∈ TT := ttk_5 (List.mem_of_getElem? (i := 46) rfl) rfl
theorem t_5_47 : (Jvm.Cond.fieldLink "Miterhouse" (422 : Nat) "Miterhouse" "HIGH_HALVES" "[J") ∈ TT := ttk_5 (List.mem_of_getElem? (i := 47) rfl) rfl
theorem t_5_49 : (Jvm.Cond.methodLink "Miterhouse$Values" (101 : Nat) ({ cls := "Miterhouse$Values", name := "upperTree", desc := "(IJ)J" } : Jvm.MethodName)) ∈ TT := ttk_5 (List.mem_of_getElem? (i := 49) rfl) rfl
theorem t_5_50 : (Jvm.Cond.static ({ cls := "Miterhouse$Values", name := "upperTree", desc := "(IJ)J" } : Jvm.MethodName)) ∈ TT := ttk_5 (List.mem_of_getElem? (i := 50) rfl) rfl
theorem t_5_51 : (Jvm.Cond.code ({ cls := "Miterhouse$Values", name := "upperTree", desc := "(IJ)J" } : Jvm.MethodName) prog_12_method_5_code (8 : Nat) (Option.some Jvm.ClassFile.FieldType.long)) ∈ TT := ttk_5 (List.mem_of_getElem? (i := 51) rfl) rfl
theorem t_5_52 : (Jvm.Cond.methodLink "Miterhouse$Closed" (90 : Nat) ({ cls := "Miterhouse$Ands", name := "fill", desc := "()V" } : Jvm.MethodName)) ∈ TT := ttk_5 (List.mem_of_getElem? (i := 52) rfl) rfl
theorem t_5_53 : (Jvm.Cond.instanceMethod ({ cls := "Miterhouse$Ands", name := "fill", desc := "()V" } : Jvm.MethodName)) ∈ TT := ttk_5 (List.mem_of_getElem? (i := 53) rfl) rfl
theorem t_5_54 : (Jvm.Cond.selects "Miterhouse$Ands" ({ cls := "Miterhouse$Ands", name := "fill", desc := "()V" } : Jvm.MethodName) ({ cls := "Miterhouse$Ands", name := "fill", desc := "()V" } : Jvm.MethodName)) ∈ TT := ttk_5 (List.mem_of_getElem? (i := 54) rfl) rfl
theorem t_5_55 : (Jvm.Cond.code ({ cls := "Miterhouse$Ands", name := "fill", desc := "()V" } : Jvm.MethodName) prog_2_method_2_code (3 : Nat) (Option.none : Option Jvm.ClassFile.FieldType)) ∈ TT := ttk_5 (List.mem_of_getElem? (i := 55) rfl) rfl
theorem t_5_56 : (Jvm.Cond.methodLink "Miterhouse$Ands" (41 : Nat) ({ cls := "Miterhouse$Nets", name := "isGate", desc := "(I)Z" } : Jvm.MethodName)) ∈ TT := ttk_5 (List.mem_of_getElem? (i := 56) rfl) rfl
theorem t_5_57 : (Jvm.Cond.methodLink "Miterhouse$Ands" (45 : Nat) ({ cls := "Miterhouse$Ands", name := "gateLiteral", desc := "(I)I" } : Jvm.MethodName)) ∈ TT := ttk_5 (List.mem_of_getElem? (i := 57) rfl) rfl
theorem t_5_59 : (Jvm.Cond.instanceMethod ({ cls := "Miterhouse$Ands", name := "gateLiteral", desc := "(I)I" } : Jvm.MethodName)) ∈ TT := ttk_5 (List.mem_of_getElem? (i := 59) rfl) rfl
theorem t_5_60 : (Jvm.Cond.code ({ cls := "Miterhouse$Ands", name := "gateLiteral", desc := "(I)I" } : Jvm.MethodName) prog_2_method_3_code (6 : Nat) (Option.some Jvm.ClassFile.FieldType.int)) ∈ TT := ttk_5 (List.mem_of_getElem? (i := 60) rfl) rfl
theorem t_5_61 : (Jvm.Cond.methodLink "Miterhouse$Ands" (56 : Nat) ({ cls := "Miterhouse$Nets", name := "oneOfPins", desc := "(I)I" } : Jvm.MethodName)) ∈ TT := ttk_5 (List.mem_of_getElem? (i := 61) rfl) rfl
theorem t_5_62 : (Jvm.Cond.methodLink "Miterhouse$Ands" (59 : Nat) ({ cls := "Miterhouse$Ands", name := "literalOf", desc := "(I)I" } : Jvm.MethodName)) ∈ TT := ttk_5 (List.mem_of_getElem? (i := 62) rfl) rfl
theorem t_5_63 : (Jvm.Cond.methodLink "Miterhouse$Ands" (62 : Nat) ({ cls := "Miterhouse$Nets", name := "twoOfPins", desc := "(I)I" } : Jvm.MethodName)) ∈ TT := ttk_5 (List.mem_of_getElem? (i := 63) rfl) rfl
theorem t_5_64 : (Jvm.Cond.methodLink "Miterhouse$Ands" (65 : Nat) ({ cls := "Miterhouse$Nets", name := "kindOf", desc := "(I)C" } : Jvm.MethodName)) ∈ TT := ttk_5 (List.mem_of_getElem? (i := 64) rfl) rfl
theorem t_5_65 : (Jvm.Cond.methodLink "Miterhouse$Ands" (69 : Nat) ({ cls := "Miterhouse$Ands", name := "both", desc := "(II)I" } : Jvm.MethodName)) ∈ TT := ttk_5 (List.mem_of_getElem? (i := 65) rfl) rfl
theorem t_5_67 : (Jvm.Cond.instanceMethod ({ cls := "Miterhouse$Ands", name := "both", desc := "(II)I" } : Jvm.MethodName)) ∈ TT := ttk_5 (List.mem_of_getElem? (i := 67) rfl) rfl
theorem t_5_68 : (Jvm.Cond.code ({ cls := "Miterhouse$Ands", name := "both", desc := "(II)I" } : Jvm.MethodName) prog_2_method_4_code (13 : Nat) (Option.some Jvm.ClassFile.FieldType.int)) ∈ TT := ttk_5 (List.mem_of_getElem? (i := 68) rfl) rfl
theorem t_5_69 : (Jvm.Cond.methodLink "Miterhouse$Ands" (73 : Nat) ({ cls := "java/lang/Math", name := "min", desc := "(II)I" } : Jvm.MethodName)) ∈ TT := ttk_5 (List.mem_of_getElem? (i := 69) rfl) rfl
theorem t_5_70 : (Jvm.Cond.methodLink "Miterhouse$Ands" (78 : Nat) ({ cls := "java/lang/Math", name := "max", desc := "(II)I" } : Jvm.MethodName)) ∈ TT := ttk_5 (List.mem_of_getElem? (i := 70) rfl) rfl
theorem t_5_71 : (Jvm.Cond.methodLink "Miterhouse$Ands" (81 : Nat) ({ cls := "Miterhouse$Ands", name := "lesserPin", desc := "(I)I" } : Jvm.MethodName)) ∈ TT := ttk_5 (List.mem_of_getElem? (i := 71) rfl) rfl
theorem t_5_72 : (Jvm.Cond.methodLink "Miterhouse$Ands" (84 : Nat) ({ cls := "Miterhouse$Ands", name := "greaterPin", desc := "(I)I" } : Jvm.MethodName)) ∈ TT := ttk_5 (List.mem_of_getElem? (i := 72) rfl) rfl
theorem t_5_73 : (Jvm.Cond.methodLink "Miterhouse$Ands" (87 : Nat) ({ cls := "Miterhouse$Ands", name := "isAnd", desc := "(I)Z" } : Jvm.MethodName)) ∈ TT := ttk_5 (List.mem_of_getElem? (i := 73) rfl) rfl
theorem t_5_74 : (Jvm.Cond.methodLink "Miterhouse$Ands" (90 : Nat) ({ cls := "Miterhouse$Ands", name := "nodeOf", desc := "(II)I" } : Jvm.MethodName)) ∈ TT := ttk_5 (List.mem_of_getElem? (i := 74) rfl) rfl
theorem t_5_76 : (Jvm.Cond.instanceMethod ({ cls := "Miterhouse$Ands", name := "nodeOf", desc := "(II)I" } : Jvm.MethodName)) ∈ TT := ttk_5 (List.mem_of_getElem? (i := 76) rfl) rfl
theorem t_5_77 : (Jvm.Cond.code ({ cls := "Miterhouse$Ands", name := "nodeOf", desc := "(II)I" } : Jvm.MethodName) prog_2_method_5_code (4 : Nat) (Option.some Jvm.ClassFile.FieldType.int)) ∈ TT := ttk_5 (List.mem_of_getElem? (i := 77) rfl) rfl
theorem t_5_78 : (Jvm.Cond.methodLinkNest "Miterhouse$Ands" (52 : Nat) ({ cls := "Miterhouse", name := "putNumber", desc := "([III)V" } : Jvm.MethodName) "Miterhouse") ∈ TT := ttk_5 (List.mem_of_getElem? (i := 78) rfl) rfl
theorem t_5_79 : (Jvm.Cond.methodLink "Miterhouse$Ands" (49 : Nat) ({ cls := "Miterhouse$Nets", name := "sourceAtLine", desc := "(I)I" } : Jvm.MethodName)) ∈ TT := ttk_5 (List.mem_of_getElem? (i := 79) rfl) rfl
theorem t_5_80 : (Jvm.Cond.methodLink "Miterhouse" (127 : Nat) ({ cls := "Miterhouse$Nets", name := "sourceCount", desc := "()I" } : Jvm.MethodName)) ∈ TT := ttk_5 (List.mem_of_getElem? (i := 80) rfl) rfl
theorem t_5_81 : (Jvm.Cond.methodLink "MiterhouseLaw" (173 : Nat) ({ cls := "MiterhouseLaw", name := "constrain", desc := "(LMiterhouse;I)I" } : Jvm.MethodName)) ∈ TT := ttk_5 (List.mem_of_getElem? (i := 81) rfl) rfl
theorem t_5_82 : (Jvm.Cond.static ({ cls := "MiterhouseLaw", name := "constrain", desc := "(LMiterhouse;I)I" } : Jvm.MethodName)) ∈ TT := ttk_5 (List.mem_of_getElem? (i := 82) rfl) rfl
theorem t_5_83 : (Jvm.Cond.codeWith ({ cls := "MiterhouseLaw", name := "constrain", desc := "(LMiterhouse;I)I" } : Jvm.MethodName) method_9_code (3 : Nat) (Option.some Jvm.ClassFile.FieldType.int) [((0 : Nat), (5 : Nat), (6 : Nat), (32 : Nat)), ((0 : Nat), (5 : Nat), (10 : Nat), (15 : Nat)), ((0 : Nat), (5 : Nat), (14 : Nat), (18 : Nat))]) ∈ TT := ttk_5 (List.mem_of_getElem? (i := 83) rfl) rfl
theorem t_5_84 : (Jvm.Cond.methodLink "MiterhouseLaw" (45 : Nat) ({ cls := "Miterhouse", name := "constrain", desc := "(I)I" } : Jvm.MethodName)) ∈ TT := ttk_5 (List.mem_of_getElem? (i := 84) rfl) rfl
theorem t_5_85 : (Jvm.Cond.instanceMethod ({ cls := "Miterhouse", name := "constrain", desc := "(I)I" } : Jvm.MethodName)) ∈ TT := ttk_5 (List.mem_of_getElem? (i := 85) rfl) rfl
theorem t_5_86 : (Jvm.Cond.selects "Miterhouse" ({ cls := "Miterhouse", name := "constrain", desc := "(I)I" } : Jvm.MethodName) ({ cls := "Miterhouse", name := "constrain", desc := "(I)I" } : Jvm.MethodName)) ∈ TT := ttk_5 (List.mem_of_getElem? (i := 86) rfl) rfl
theorem t_5_87 : (Jvm.Cond.code ({ cls := "Miterhouse", name := "constrain", desc := "(I)I" } : Jvm.MethodName) prog_1_method_8_code (3 : Nat) (Option.some Jvm.ClassFile.FieldType.int)) ∈ TT := ttk_5 (List.mem_of_getElem? (i := 87) rfl) rfl
theorem t_5_88 : (Jvm.Cond.methodLink "Miterhouse" (130 : Nat) ({ cls := "Miterhouse", name := "mustBeClosed", desc := "()LMiterhouse$Closed;" } : Jvm.MethodName)) ∈ TT := ttk_5 (List.mem_of_getElem? (i := 88) rfl) rfl
theorem t_5_90 : (Jvm.Cond.instanceMethod ({ cls := "Miterhouse", name := "mustBeClosed", desc := "()LMiterhouse$Closed;" } : Jvm.MethodName)) ∈ TT := ttk_5 (List.mem_of_getElem? (i := 90) rfl) rfl
theorem t_5_91 : (Jvm.Cond.code ({ cls := "Miterhouse", name := "mustBeClosed", desc := "()LMiterhouse$Closed;" } : Jvm.MethodName) prog_1_method_51_code (1 : Nat) (Option.some (Jvm.ClassFile.FieldType.object "Miterhouse$Closed"))) ∈ TT := ttk_5 (List.mem_of_getElem? (i := 91) rfl) rfl
theorem t_5_93 : (Jvm.Cond.methodLink "Miterhouse" (138 : Nat) ({ cls := "Miterhouse$Nets", name := "dependsOnCell", desc := "(I)Z" } : Jvm.MethodName)) ∈ TT := ttk_5 (List.mem_of_getElem? (i := 93) rfl) rfl
theorem t_5_94 : (Jvm.Cond.instanceMethod ({ cls := "Miterhouse$Nets", name := "dependsOnCell", desc := "(I)Z" } : Jvm.MethodName)) ∈ TT := ttk_5 (List.mem_of_getElem? (i := 94) rfl) rfl
theorem t_5_95 : (Jvm.Cond.selects "Miterhouse$Nets" ({ cls := "Miterhouse$Nets", name := "dependsOnCell", desc := "(I)Z" } : Jvm.MethodName) ({ cls := "Miterhouse$Nets", name := "dependsOnCell", desc := "(I)Z" } : Jvm.MethodName)) ∈ TT := ttk_5 (List.mem_of_getElem? (i := 95) rfl) rfl
theorem t_5_96 : (Jvm.Cond.code ({ cls := "Miterhouse$Nets", name := "dependsOnCell", desc := "(I)Z" } : Jvm.MethodName) prog_8_method_30_code (3 : Nat) (Option.some Jvm.ClassFile.FieldType.boolean)) ∈ TT := ttk_5 (List.mem_of_getElem? (i := 96) rfl) rfl
theorem t_5_97 : (Jvm.Cond.methodLink "Miterhouse$Nets" (103 : Nat) ({ cls := "Miterhouse$Nets", name := "hasMarkedPin", desc := "(I)Z" } : Jvm.MethodName)) ∈ TT := ttk_5 (List.mem_of_getElem? (i := 97) rfl) rfl
theorem t_5_99 : (Jvm.Cond.instanceMethod ({ cls := "Miterhouse$Nets", name := "hasMarkedPin", desc := "(I)Z" } : Jvm.MethodName)) ∈ TT := ttk_5 (List.mem_of_getElem? (i := 99) rfl) rfl
theorem t_5_100 : (Jvm.Cond.code ({ cls := "Miterhouse$Nets", name := "hasMarkedPin", desc := "(I)Z" } : Jvm.MethodName) prog_8_method_32_code (2 : Nat) (Option.some Jvm.ClassFile.FieldType.boolean)) ∈ TT := ttk_5 (List.mem_of_getElem? (i := 100) rfl) rfl
theorem t_5_101 : (Jvm.Cond.methodLink "Miterhouse$Nets" (106 : Nat) ({ cls := "Miterhouse$Nets", name := "isGate", desc := "(I)Z" } : Jvm.MethodName)) ∈ TT := ttk_5 (List.mem_of_getElem? (i := 101) rfl) rfl
theorem t_5_102 : (Jvm.Cond.methodLink "Miterhouse$Nets" (109 : Nat) ({ cls := "Miterhouse$Nets", name := "oneOfPins", desc := "(I)I" } : Jvm.MethodName)) ∈ TT := ttk_5 (List.mem_of_getElem? (i := 102) rfl) rfl
theorem t_5_103 : (Jvm.Cond.methodLink "Miterhouse$Nets" (112 : Nat) ({ cls := "Miterhouse$Nets", name := "twoOfPins", desc := "(I)I" } : Jvm.MethodName)) ∈ TT := ttk_5 (List.mem_of_getElem? (i := 103) rfl) rfl
theorem t_5_104 : (Jvm.Cond.methodLink "Miterhouse" (142 : Nat) ({ cls := "Miterhouse$Values", name := "keptWith", desc := "(I)I" } : Jvm.MethodName)) ∈ TT := ttk_5 (List.mem_of_getElem? (i := 104) rfl) rfl
theorem t_5_105 : (Jvm.Cond.instanceMethod ({ cls := "Miterhouse$Values", name := "keptWith", desc := "(I)I" } : Jvm.MethodName)) ∈ TT := ttk_5 (List.mem_of_getElem? (i := 105) rfl) rfl
theorem t_5_106 : (Jvm.Cond.selects "Miterhouse$Values" ({ cls := "Miterhouse$Values", name := "keptWith", desc := "(I)I" } : Jvm.MethodName) ({ cls := "Miterhouse$Values", name := "keptWith", desc := "(I)I" } : Jvm.MethodName)) ∈ TT := ttk_5 (List.mem_of_getElem? (i := 106) rfl) rfl
theorem t_5_107 : (Jvm.Cond.code ({ cls := "Miterhouse$Values", name := "keptWith", desc := "(I)I" } : Jvm.MethodName) prog_12_method_14_code (4 : Nat) (Option.some Jvm.ClassFile.FieldType.int)) ∈ TT := ttk_5 (List.mem_of_getElem? (i := 107) rfl) rfl
theorem t_5_108 : (Jvm.Cond.methodLink "Miterhouse$Values" (137 : Nat) ({ cls := "Miterhouse$Values", name := "heldWord", desc := "(II)J" } : Jvm.MethodName)) ∈ TT := ttk_5 (List.mem_of_getElem? (i := 108) rfl) rfl
theorem t_5_109 : (Jvm.Cond.methodLink "Miterhouse$Values" (140 : Nat) ({ cls := "java/lang/Long", name := "bitCount", desc := "(J)I" } : Jvm.MethodName)) ∈ TT := ttk_5 (List.mem_of_getElem? (i := 109) rfl) rfl
theorem t_5_112 : (Jvm.Cond.methodLink "Miterhouse" (154 : Nat) ({ cls := "Miterhouse$Values", name := "keepAlso", desc := "(I)V" } : Jvm.MethodName)) ∈ TT := ttk_5 (List.mem_of_getElem? (i := 112) rfl) rfl
theorem t_5_113 : (Jvm.Cond.instanceMethod ({ cls := "Miterhouse$Values", name := "keepAlso", desc := "(I)V" } : Jvm.MethodName)) ∈ TT := ttk_5 (List.mem_of_getElem? (i := 113) rfl) rfl
theorem t_5_114 : (Jvm.Cond.selects "Miterhouse$Values" ({ cls := "Miterhouse$Values", name := "keepAlso", desc := "(I)V" } : Jvm.MethodName) ({ cls := "Miterhouse$Values", name := "keepAlso", desc := "(I)V" } : Jvm.MethodName)) ∈ TT := ttk_5 (List.mem_of_getElem? (i := 114) rfl) rfl
theorem t_5_115 : (Jvm.Cond.code ({ cls := "Miterhouse$Values", name := "keepAlso", desc := "(I)V" } : Jvm.MethodName) prog_12_method_15_code (3 : Nat) (Option.none : Option Jvm.ClassFile.FieldType)) ∈ TT := ttk_5 (List.mem_of_getElem? (i := 115) rfl) rfl
theorem t_5_116 : (Jvm.Cond.methodLink "Miterhouse$Values" (146 : Nat) ({ cls := "Miterhouse$Values", name := "keptWith", desc := "(I)I" } : Jvm.MethodName)) ∈ TT := ttk_5 (List.mem_of_getElem? (i := 116) rfl) rfl
theorem t_5_117 : (Jvm.Cond.methodLink "Miterhouse$Values" (152 : Nat) ({ cls := "Miterhouse$Values", name := "isKept", desc := "(I)Z" } : Jvm.MethodName)) ∈ TT := ttk_5 (List.mem_of_getElem? (i := 117) rfl) rfl
theorem t_5_118 : (Jvm.Cond.methodLink "MiterhouseLaw" (171 : Nat) ({ cls := "MiterhouseLaw", name := "value", desc := "(LMiterhouse;II)I" } : Jvm.MethodName)) ∈ TT := ttk_5 (List.mem_of_getElem? (i := 118) rfl) rfl
theorem t_5_119 : (Jvm.Cond.static ({ cls := "MiterhouseLaw", name := "value", desc := "(LMiterhouse;II)I" } : Jvm.MethodName)) ∈ TT := ttk_5 (List.mem_of_getElem? (i := 119) rfl) rfl
theorem t_5_120 : (Jvm.Cond.codeWith ({ cls := "MiterhouseLaw", name := "value", desc := "(LMiterhouse;II)I" } : Jvm.MethodName) method_10_code (4 : Nat) (Option.some Jvm.ClassFile.FieldType.int) [((0 : Nat), (6 : Nat), (7 : Nat), (32 : Nat)), ((0 : Nat), (6 : Nat), (11 : Nat), (25 : Nat)), ((0 : Nat), (6 : Nat), (15 : Nat), (15 : Nat))]) ∈ TT := ttk_5 (List.mem_of_getElem? (i := 120) rfl) rfl
theorem t_5_121 : (Jvm.Cond.methodLink "MiterhouseLaw" (49 : Nat) ({ cls := "Miterhouse", name := "value", desc := "(II)I" } : Jvm.MethodName)) ∈ TT := ttk_5 (List.mem_of_getElem? (i := 121) rfl) rfl
theorem t_5_122 : (Jvm.Cond.instanceMethod ({ cls := "Miterhouse", name := "value", desc := "(II)I" } : Jvm.MethodName)) ∈ TT := ttk_5 (List.mem_of_getElem? (i := 122) rfl) rfl
theorem t_5_123 : (Jvm.Cond.selects "Miterhouse" ({ cls := "Miterhouse", name := "value", desc := "(II)I" } : Jvm.MethodName) ({ cls := "Miterhouse", name := "value", desc := "(II)I" } : Jvm.MethodName)) ∈ TT := ttk_5 (List.mem_of_getElem? (i := 123) rfl) rfl
theorem t_5_124 : (Jvm.Cond.code ({ cls := "Miterhouse", name := "value", desc := "(II)I" } : Jvm.MethodName) prog_1_method_9_code (3 : Nat) (Option.some Jvm.ClassFile.FieldType.int)) ∈ TT := ttk_5 (List.mem_of_getElem? (i := 124) rfl) rfl
theorem t_5_125 : (Jvm.Cond.methodLink "Miterhouse" (160 : Nat) ({ cls := "Miterhouse", name := "mustBeChoice", desc := "(I)V" } : Jvm.MethodName)) ∈ TT := ttk_5 (List.mem_of_getElem? (i := 125) rfl) rfl
theorem t_5_127 : (Jvm.Cond.instanceMethod ({ cls := "Miterhouse", name := "mustBeChoice", desc := "(I)V" } : Jvm.MethodName)) ∈ TT := ttk_5 (List.mem_of_getElem? (i := 127) rfl) rfl
theorem t_5_128 : (Jvm.Cond.code ({ cls := "Miterhouse", name := "mustBeChoice", desc := "(I)V" } : Jvm.MethodName) prog_1_method_54_code (2 : Nat) (Option.none : Option Jvm.ClassFile.FieldType)) ∈ TT := ttk_5 (List.mem_of_getElem? (i := 128) rfl) rfl
theorem t_5_129 : (Jvm.Cond.methodLink "Miterhouse" (163 : Nat) ({ cls := "Miterhouse$Values", name := "bitAtChoice", desc := "(II)I" } : Jvm.MethodName)) ∈ TT := ttk_5 (List.mem_of_getElem? (i := 129) rfl) rfl
theorem t_5_130 : (Jvm.Cond.methodLink "MiterhouseLaw" (145 : Nat) ({ cls := "MiterhouseLaw", name := "literal", desc := "(LMiterhouse;I)I" } : Jvm.MethodName)) ∈ TT := ttk_5 (List.mem_of_getElem? (i := 130) rfl) rfl
theorem t_5_131 : (Jvm.Cond.static ({ cls := "MiterhouseLaw", name := "literal", desc := "(LMiterhouse;I)I" } : Jvm.MethodName)) ∈ TT := ttk_5 (List.mem_of_getElem? (i := 131) rfl) rfl
theorem t_5_132 : (Jvm.Cond.codeWith ({ cls := "MiterhouseLaw", name := "literal", desc := "(LMiterhouse;I)I" } : Jvm.MethodName) method_11_code (3 : Nat) (Option.some Jvm.ClassFile.FieldType.int) [((0 : Nat), (5 : Nat), (6 : Nat), (32 : Nat)), ((0 : Nat), (5 : Nat), (10 : Nat), (15 : Nat))]) ∈ TT := ttk_5 (List.mem_of_getElem? (i := 132) rfl) rfl
theorem t_5_133 : (Jvm.Cond.methodLink "MiterhouseLaw" (52 : Nat) ({ cls := "Miterhouse", name := "literal", desc := "(I)I" } : Jvm.MethodName)) ∈ TT := ttk_5 (List.mem_of_getElem? (i := 133) rfl) rfl
theorem t_5_134 : (Jvm.Cond.instanceMethod ({ cls := "Miterhouse", name := "literal", desc := "(I)I" } : Jvm.MethodName)) ∈ TT := ttk_5 (List.mem_of_getElem? (i := 134) rfl) rfl
theorem t_5_135 : (Jvm.Cond.selects "Miterhouse" ({ cls := "Miterhouse", name := "literal", desc := "(I)I" } : Jvm.MethodName) ({ cls := "Miterhouse", name := "literal", desc := "(I)I" } : Jvm.MethodName)) ∈ TT := ttk_5 (List.mem_of_getElem? (i := 135) rfl) rfl
theorem t_5_136 : (Jvm.Cond.code ({ cls := "Miterhouse", name := "literal", desc := "(I)I" } : Jvm.MethodName) prog_1_method_10_code (2 : Nat) (Option.some Jvm.ClassFile.FieldType.int)) ∈ TT := ttk_5 (List.mem_of_getElem? (i := 136) rfl) rfl
theorem t_5_137 : (Jvm.Cond.methodLink "Miterhouse" (170 : Nat) ({ cls := "Miterhouse$Ands", name := "literalOf", desc := "(I)I" } : Jvm.MethodName)) ∈ TT := ttk_5 (List.mem_of_getElem? (i := 137) rfl) rfl
theorem t_5_138 : (Jvm.Cond.methodLink "MiterhouseLaw" (148 : Nat) ({ cls := "MiterhouseLaw", name := "ands", desc := "(LMiterhouse;)I" } : Jvm.MethodName)) ∈ TT := ttk_5 (List.mem_of_getElem? (i := 138) rfl) rfl
theorem t_5_139 : (Jvm.Cond.static ({ cls := "MiterhouseLaw", name := "ands", desc := "(LMiterhouse;)I" } : Jvm.MethodName)) ∈ TT := ttk_5 (List.mem_of_getElem? (i := 139) rfl) rfl
theorem t_5_140 : (Jvm.Cond.codeWith ({ cls := "MiterhouseLaw", name := "ands", desc := "(LMiterhouse;)I" } : Jvm.MethodName) method_12_code (2 : Nat) (Option.some Jvm.ClassFile.FieldType.int) [((0 : Nat), (4 : Nat), (5 : Nat), (15 : Nat))]) ∈ TT := ttk_5 (List.mem_of_getElem? (i := 140) rfl) rfl
theorem t_5_141 : (Jvm.Cond.methodLink "MiterhouseLaw" (55 : Nat) ({ cls := "Miterhouse", name := "ands", desc := "()I" } : Jvm.MethodName)) ∈ TT := ttk_5 (List.mem_of_getElem? (i := 141) rfl) rfl
theorem t_5_142 : (Jvm.Cond.instanceMethod ({ cls := "Miterhouse", name := "ands", desc := "()I" } : Jvm.MethodName)) ∈ TT := ttk_5 (List.mem_of_getElem? (i := 142) rfl) rfl
theorem t_5_143 : (Jvm.Cond.selects "Miterhouse" ({ cls := "Miterhouse", name := "ands", desc := "()I" } : Jvm.MethodName) ({ cls := "Miterhouse", name := "ands", desc := "()I" } : Jvm.MethodName)) ∈ TT := ttk_5 (List.mem_of_getElem? (i := 143) rfl) rfl
theorem t_5_144 : (Jvm.Cond.code ({ cls := "Miterhouse", name := "ands", desc := "()I" } : Jvm.MethodName) prog_1_method_11_code (1 : Nat) (Option.some Jvm.ClassFile.FieldType.int)) ∈ TT := ttk_5 (List.mem_of_getElem? (i := 144) rfl) rfl
theorem t_5_145 : (Jvm.Cond.methodLink "Miterhouse" (175 : Nat) ({ cls := "Miterhouse$Ands", name := "andCount", desc := "()I" } : Jvm.MethodName)) ∈ TT := ttk_5 (List.mem_of_getElem? (i := 145) rfl) rfl
theorem t_5_146 : (Jvm.Cond.instanceMethod ({ cls := "Miterhouse$Ands", name := "andCount", desc := "()I" } : Jvm.MethodName)) ∈ TT := ttk_5 (List.mem_of_getElem? (i := 146) rfl) rfl
theorem t_5_147 : (Jvm.Cond.selects "Miterhouse$Ands" ({ cls := "Miterhouse$Ands", name := "andCount", desc := "()I" } : Jvm.MethodName) ({ cls := "Miterhouse$Ands", name := "andCount", desc := "()I" } : Jvm.MethodName)) ∈ TT := ttk_5 (List.mem_of_getElem? (i := 147) rfl) rfl
theorem t_5_148 : (Jvm.Cond.code ({ cls := "Miterhouse$Ands", name := "andCount", desc := "()I" } : Jvm.MethodName) prog_2_method_10_code (1 : Nat) (Option.some Jvm.ClassFile.FieldType.int)) ∈ TT := ttk_5 (List.mem_of_getElem? (i := 148) rfl) rfl
theorem t_5_149 : (Jvm.Cond.methodLink "MiterhouseLaw" (175 : Nat) ({ cls := "MiterhouseLaw", name := "pattern", desc := "(LMiterhouse;I)I" } : Jvm.MethodName)) ∈ TT := ttk_5 (List.mem_of_getElem? (i := 149) rfl) rfl
theorem t_5_150 : (Jvm.Cond.static ({ cls := "MiterhouseLaw", name := "pattern", desc := "(LMiterhouse;I)I" } : Jvm.MethodName)) ∈ TT := ttk_5 (List.mem_of_getElem? (i := 150) rfl) rfl
theorem t_5_151 : (Jvm.Cond.codeWith ({ cls := "MiterhouseLaw", name := "pattern", desc := "(LMiterhouse;I)I" } : Jvm.MethodName) method_13_code (3 : Nat) (Option.some Jvm.ClassFile.FieldType.int) [((0 : Nat), (5 : Nat), (6 : Nat), (25 : Nat)), ((0 : Nat), (5 : Nat), (10 : Nat), (15 : Nat)), ((0 : Nat), (5 : Nat), (14 : Nat), (18 : Nat))]) ∈ TT := ttk_5 (List.mem_of_getElem? (i := 151) rfl) rfl
theorem t_5_152 : (Jvm.Cond.methodLink "MiterhouseLaw" (58 : Nat) ({ cls := "Miterhouse", name := "pattern", desc := "(I)I" } : Jvm.MethodName)) ∈ TT := ttk_5 (List.mem_of_getElem? (i := 152) rfl) rfl
theorem t_5_153 : (Jvm.Cond.instanceMethod ({ cls := "Miterhouse", name := "pattern", desc := "(I)I" } : Jvm.MethodName)) ∈ TT := ttk_5 (List.mem_of_getElem? (i := 153) rfl) rfl
theorem t_5_154 : (Jvm.Cond.selects "Miterhouse" ({ cls := "Miterhouse", name := "pattern", desc := "(I)I" } : Jvm.MethodName) ({ cls := "Miterhouse", name := "pattern", desc := "(I)I" } : Jvm.MethodName)) ∈ TT := ttk_5 (List.mem_of_getElem? (i := 154) rfl) rfl
theorem t_5_155 : (Jvm.Cond.code ({ cls := "Miterhouse", name := "pattern", desc := "(I)I" } : Jvm.MethodName) prog_1_method_13_code (3 : Nat) (Option.some Jvm.ClassFile.FieldType.int)) ∈ TT := ttk_5 (List.mem_of_getElem? (i := 155) rfl) rfl
theorem t_5_156 : (Jvm.Cond.methodLink "Miterhouse" (192 : Nat) ({ cls := "Miterhouse$Values", name := "isKept", desc := "(I)Z" } : Jvm.MethodName)) ∈ TT := ttk_5 (List.mem_of_getElem? (i := 156) rfl) rfl
theorem t_5_159 : (Jvm.Cond.methodLink "Miterhouse" (208 : Nat) ({ cls := "Miterhouse$Sweeping", name := "addPattern", desc := "(I)I" } : Jvm.MethodName)) ∈ TT := ttk_5 (List.mem_of_getElem? (i := 159) rfl) rfl
theorem t_5_160 : (Jvm.Cond.instanceMethod ({ cls := "Miterhouse$Sweeping", name := "addPattern", desc := "(I)I" } : Jvm.MethodName)) ∈ TT := ttk_5 (List.mem_of_getElem? (i := 160) rfl) rfl
theorem t_5_161 : (Jvm.Cond.selects "Miterhouse$Sweeping" ({ cls := "Miterhouse$Sweeping", name := "addPattern", desc := "(I)I" } : Jvm.MethodName) ({ cls := "Miterhouse$Sweeping", name := "addPattern", desc := "(I)I" } : Jvm.MethodName)) ∈ TT := ttk_5 (List.mem_of_getElem? (i := 161) rfl) rfl
theorem t_5_162 : (Jvm.Cond.code ({ cls := "Miterhouse$Sweeping", name := "addPattern", desc := "(I)I" } : Jvm.MethodName) prog_11_method_5_code (6 : Nat) (Option.some Jvm.ClassFile.FieldType.int)) ∈ TT := ttk_5 (List.mem_of_getElem? (i := 162) rfl) rfl
theorem t_5_163 : (Jvm.Cond.methodLink "Miterhouse$Sweeping" (67 : Nat) ({ cls := "Miterhouse$Sweeping", name := "signatureOf", desc := "(I)J" } : Jvm.MethodName)) ∈ TT := ttk_5 (List.mem_of_getElem? (i := 163) rfl) rfl
theorem t_5_164 : (Jvm.Cond.instanceMethod ({ cls := "Miterhouse$Sweeping", name := "signatureOf", desc := "(I)J" } : Jvm.MethodName)) ∈ TT := ttk_5 (List.mem_of_getElem? (i := 164) rfl) rfl
theorem t_5_165 : (Jvm.Cond.selects "Miterhouse$Sweeping" ({ cls := "Miterhouse$Sweeping", name := "signatureOf", desc := "(I)J" } : Jvm.MethodName) ({ cls := "Miterhouse$Sweeping", name := "signatureOf", desc := "(I)J" } : Jvm.MethodName)) ∈ TT := ttk_5 (List.mem_of_getElem? (i := 165) rfl) rfl
theorem t_5_166 : (Jvm.Cond.code ({ cls := "Miterhouse$Sweeping", name := "signatureOf", desc := "(I)J" } : Jvm.MethodName) prog_11_method_2_code (2 : Nat) (Option.some Jvm.ClassFile.FieldType.long)) ∈ TT := ttk_5 (List.mem_of_getElem? (i := 166) rfl) rfl
theorem t_5_167 : (Jvm.Cond.methodLinkNest "Miterhouse$Sweeping" (44 : Nat) ({ cls := "Miterhouse", name := "wordAt", desc := "([JI)J" } : Jvm.MethodName) "Miterhouse") ∈ TT := ttk_5 (List.mem_of_getElem? (i := 167) rfl) rfl
theorem t_5_168 : (Jvm.Cond.methodLinkNest "Miterhouse$Sweeping" (71 : Nat) ({ cls := "Miterhouse", name := "putWord", desc := "([JIJ)V" } : Jvm.MethodName) "Miterhouse") ∈ TT := ttk_5 (List.mem_of_getElem? (i := 168) rfl) rfl
theorem t_5_169 : (Jvm.Cond.methodLink "MiterhouseLaw" (180 : Nat) ({ cls := "MiterhouseLaw", name := "prove", desc := "(LMiterhouse;IIZI)I" } : Jvm.MethodName)) ∈ TT := ttk_5 (List.mem_of_getElem? (i := 169) rfl) rfl
theorem t_5_170 : (Jvm.Cond.static ({ cls := "MiterhouseLaw", name := "prove", desc := "(LMiterhouse;IIZI)I" } : Jvm.MethodName)) ∈ TT := ttk_5 (List.mem_of_getElem? (i := 170) rfl) rfl
theorem t_5_171 : (Jvm.Cond.codeWith ({ cls := "MiterhouseLaw", name := "prove", desc := "(LMiterhouse;IIZI)I" } : Jvm.MethodName) method_14_code (6 : Nat) (Option.some Jvm.ClassFile.FieldType.int) [((0 : Nat), (9 : Nat), (10 : Nat), (32 : Nat)), ((0 : Nat), (9 : Nat), (15 : Nat), (25 : Nat)), ((0 : Nat), (9 : Nat), (20 : Nat), (15 : Nat))]) ∈ TT := ttk_5 (List.mem_of_getElem? (i := 171) rfl) rfl
theorem t_5_172 : (Jvm.Cond.methodLink "MiterhouseLaw" (61 : Nat) ({ cls := "Miterhouse", name := "prove", desc := "(IIZI)C" } : Jvm.MethodName)) ∈ TT := ttk_5 (List.mem_of_getElem? (i := 172) rfl) rfl
theorem t_5_173 : (Jvm.Cond.instanceMethod ({ cls := "Miterhouse", name := "prove", desc := "(IIZI)C" } : Jvm.MethodName)) ∈ TT := ttk_5 (List.mem_of_getElem? (i := 173) rfl) rfl
theorem t_5_174 : (Jvm.Cond.selects "Miterhouse" ({ cls := "Miterhouse", name := "prove", desc := "(IIZI)C" } : Jvm.MethodName) ({ cls := "Miterhouse", name := "prove", desc := "(IIZI)C" } : Jvm.MethodName)) ∈ TT := ttk_5 (List.mem_of_getElem? (i := 174) rfl) rfl
theorem t_5_175 : (Jvm.Cond.code ({ cls := "Miterhouse", name := "prove", desc := "(IIZI)C" } : Jvm.MethodName) prog_1_method_16_code (6 : Nat) (Option.some Jvm.ClassFile.FieldType.char)) ∈ TT := ttk_5 (List.mem_of_getElem? (i := 175) rfl) rfl
theorem t_5_176 : (Jvm.Cond.methodLink "Miterhouse" (218 : Nat) ({ cls := "Miterhouse$Sweeping", name := "compare", desc := "(IIZ)V" } : Jvm.MethodName)) ∈ TT := ttk_5 (List.mem_of_getElem? (i := 176) rfl) rfl
theorem t_5_177 : (Jvm.Cond.methodLink "MiterhouseLaw" (183 : Nat) ({ cls := "MiterhouseLaw", name := "proof", desc := "(LMiterhouse;IIZ)I" } : Jvm.MethodName)) ∈ TT := ttk_5 (List.mem_of_getElem? (i := 177) rfl) rfl
theorem t_5_178 : (Jvm.Cond.static ({ cls := "MiterhouseLaw", name := "proof", desc := "(LMiterhouse;IIZ)I" } : Jvm.MethodName)) ∈ TT := ttk_5 (List.mem_of_getElem? (i := 178) rfl) rfl
theorem t_5_179 : (Jvm.Cond.codeWith ({ cls := "MiterhouseLaw", name := "proof", desc := "(LMiterhouse;IIZ)I" } : Jvm.MethodName) method_15_code (5 : Nat) (Option.some Jvm.ClassFile.FieldType.int) [((0 : Nat), (7 : Nat), (8 : Nat), (32 : Nat)), ((0 : Nat), (7 : Nat), (13 : Nat), (15 : Nat)), ((0 : Nat), (7 : Nat), (18 : Nat), (69 : Nat))]) ∈ TT := ttk_5 (List.mem_of_getElem? (i := 179) rfl) rfl
theorem t_5_180 : (Jvm.Cond.classLink "MiterhouseLaw" (69 : Nat) "java/util/NoSuchElementException") ∈ TT := ttk_5 (List.mem_of_getElem? (i := 180) rfl) rfl
theorem t_5_181 : (Jvm.Cond.methodLink "MiterhouseLaw" (65 : Nat) ({ cls := "Miterhouse", name := "proof", desc := "(IIZ)I" } : Jvm.MethodName)) ∈ TT := ttk_5 (List.mem_of_getElem? (i := 181) rfl) rfl
theorem t_5_182 : (Jvm.Cond.instanceMethod ({ cls := "Miterhouse", name := "proof", desc := "(IIZ)I" } : Jvm.MethodName)) ∈ TT := ttk_5 (List.mem_of_getElem? (i := 182) rfl) rfl
theorem t_5_183 : (Jvm.Cond.selects "Miterhouse" ({ cls := "Miterhouse", name := "proof", desc := "(IIZ)I" } : Jvm.MethodName) ({ cls := "Miterhouse", name := "proof", desc := "(IIZ)I" } : Jvm.MethodName)) ∈ TT := ttk_5 (List.mem_of_getElem? (i := 183) rfl) rfl
theorem t_5_184 : (Jvm.Cond.code ({ cls := "Miterhouse", name := "proof", desc := "(IIZ)I" } : Jvm.MethodName) prog_1_method_17_code (5 : Nat) (Option.some Jvm.ClassFile.FieldType.int)) ∈ TT := ttk_5 (List.mem_of_getElem? (i := 184) rfl) rfl
theorem t_5_187 : (Jvm.Cond.castable "java/util/NoSuchElementException" "java/util/NoSuchElementException") ∈ TT := ttk_5 (List.mem_of_getElem? (i := 187) rfl) rfl
theorem t_5_201 : (Jvm.Cond.methodLink "MiterhouseLaw" (186 : Nat) ({ cls := "MiterhouseLaw", name := "witness", desc := "(LMiterhouse;IIZ)I" } : Jvm.MethodName)) ∈ TT := ttk_5 (List.mem_of_getElem? (i := 201) rfl) rfl
theorem t_5_202 : (Jvm.Cond.static ({ cls := "MiterhouseLaw", name := "witness", desc := "(LMiterhouse;IIZ)I" } : Jvm.MethodName)) ∈ TT := ttk_5 (List.mem_of_getElem? (i := 202) rfl) rfl
theorem t_5_203 : (Jvm.Cond.codeWith ({ cls := "MiterhouseLaw", name := "witness", desc := "(LMiterhouse;IIZ)I" } : Jvm.MethodName) method_16_code (5 : Nat) (Option.some Jvm.ClassFile.FieldType.int) [((0 : Nat), (7 : Nat), (8 : Nat), (32 : Nat)), ((0 : Nat), (7 : Nat), (13 : Nat), (15 : Nat)), ((0 : Nat), (7 : Nat), (18 : Nat), (69 : Nat))]) ∈ TT := ttk_5 (List.mem_of_getElem? (i := 203) rfl) rfl
theorem t_5_204 : (Jvm.Cond.methodLink "MiterhouseLaw" (71 : Nat) ({ cls := "Miterhouse", name := "witness", desc := "(IIZ)I" } : Jvm.MethodName)) ∈ TT := ttk_5 (List.mem_of_getElem? (i := 204) rfl) rfl
theorem t_5_205 : (Jvm.Cond.instanceMethod ({ cls := "Miterhouse", name := "witness", desc := "(IIZ)I" } : Jvm.MethodName)) ∈ TT := ttk_5 (List.mem_of_getElem? (i := 205) rfl) rfl
theorem t_5_206 : (Jvm.Cond.selects "Miterhouse" ({ cls := "Miterhouse", name := "witness", desc := "(IIZ)I" } : Jvm.MethodName) ({ cls := "Miterhouse", name := "witness", desc := "(IIZ)I" } : Jvm.MethodName)) ∈ TT := ttk_5 (List.mem_of_getElem? (i := 206) rfl) rfl
theorem t_5_207 : (Jvm.Cond.code ({ cls := "Miterhouse", name := "witness", desc := "(IIZ)I" } : Jvm.MethodName) prog_1_method_18_code (5 : Nat) (Option.some Jvm.ClassFile.FieldType.int)) ∈ TT := ttk_5 (List.mem_of_getElem? (i := 207) rfl) rfl
theorem t_5_209 : (Jvm.Cond.methodLink "MiterhouseLaw" (150 : Nat) ({ cls := "MiterhouseLaw", name := "sweep", desc := "(LMiterhouse;I)I" } : Jvm.MethodName)) ∈ TT := ttk_5 (List.mem_of_getElem? (i := 209) rfl) rfl
theorem t_5_210 : (Jvm.Cond.static ({ cls := "MiterhouseLaw", name := "sweep", desc := "(LMiterhouse;I)I" } : Jvm.MethodName)) ∈ TT := ttk_5 (List.mem_of_getElem? (i := 210) rfl) rfl
theorem t_5_211 : (Jvm.Cond.codeWith ({ cls := "MiterhouseLaw", name := "sweep", desc := "(LMiterhouse;I)I" } : Jvm.MethodName) method_17_code (3 : Nat) (Option.some Jvm.ClassFile.FieldType.int) [((0 : Nat), (5 : Nat), (6 : Nat), (25 : Nat)), ((0 : Nat), (5 : Nat), (10 : Nat), (15 : Nat))]) ∈ TT := ttk_5 (List.mem_of_getElem? (i := 211) rfl) rfl
theorem t_5_212 : (Jvm.Cond.methodLink "MiterhouseLaw" (74 : Nat) ({ cls := "Miterhouse", name := "sweep", desc := "(I)I" } : Jvm.MethodName)) ∈ TT := ttk_5 (List.mem_of_getElem? (i := 212) rfl) rfl
theorem t_5_213 : (Jvm.Cond.instanceMethod ({ cls := "Miterhouse", name := "sweep", desc := "(I)I" } : Jvm.MethodName)) ∈ TT := ttk_5 (List.mem_of_getElem? (i := 213) rfl) rfl
theorem t_5_214 : (Jvm.Cond.selects "Miterhouse" ({ cls := "Miterhouse", name := "sweep", desc := "(I)I" } : Jvm.MethodName) ({ cls := "Miterhouse", name := "sweep", desc := "(I)I" } : Jvm.MethodName)) ∈ TT := ttk_5 (List.mem_of_getElem? (i := 214) rfl) rfl
theorem t_5_215 : (Jvm.Cond.code ({ cls := "Miterhouse", name := "sweep", desc := "(I)I" } : Jvm.MethodName) prog_1_method_19_code (3 : Nat) (Option.some Jvm.ClassFile.FieldType.int)) ∈ TT := ttk_5 (List.mem_of_getElem? (i := 215) rfl) rfl
theorem t_5_230 : (Jvm.Cond.methodLink "MiterhouseLaw" (152 : Nat) ({ cls := "MiterhouseLaw", name := "reached", desc := "(LMiterhouse;)I" } : Jvm.MethodName)) ∈ TT := ttk_5 (List.mem_of_getElem? (i := 230) rfl) rfl
theorem t_5_231 : (Jvm.Cond.static ({ cls := "MiterhouseLaw", name := "reached", desc := "(LMiterhouse;)I" } : Jvm.MethodName)) ∈ TT := ttk_5 (List.mem_of_getElem? (i := 231) rfl) rfl
theorem t_5_232 : (Jvm.Cond.codeWith ({ cls := "MiterhouseLaw", name := "reached", desc := "(LMiterhouse;)I" } : Jvm.MethodName) method_18_code (2 : Nat) (Option.some Jvm.ClassFile.FieldType.int) [((0 : Nat), (4 : Nat), (5 : Nat), (15 : Nat))]) ∈ TT := ttk_5 (List.mem_of_getElem? (i := 232) rfl) rfl
theorem t_5_233 : (Jvm.Cond.methodLink "MiterhouseLaw" (77 : Nat) ({ cls := "Miterhouse", name := "reached", desc := "()I" } : Jvm.MethodName)) ∈ TT := ttk_5 (List.mem_of_getElem? (i := 233) rfl) rfl
theorem t_5_234 : (Jvm.Cond.instanceMethod ({ cls := "Miterhouse", name := "reached", desc := "()I" } : Jvm.MethodName)) ∈ TT := ttk_5 (List.mem_of_getElem? (i := 234) rfl) rfl
theorem t_5_235 : (Jvm.Cond.selects "Miterhouse" ({ cls := "Miterhouse", name := "reached", desc := "()I" } : Jvm.MethodName) ({ cls := "Miterhouse", name := "reached", desc := "()I" } : Jvm.MethodName)) ∈ TT := ttk_5 (List.mem_of_getElem? (i := 235) rfl) rfl
theorem t_5_236 : (Jvm.Cond.code ({ cls := "Miterhouse", name := "reached", desc := "()I" } : Jvm.MethodName) prog_1_method_40_code (2 : Nat) (Option.some Jvm.ClassFile.FieldType.int)) ∈ TT := ttk_5 (List.mem_of_getElem? (i := 236) rfl) rfl
theorem t_5_237 : (Jvm.Cond.methodLink "Miterhouse" (354 : Nat) ({ cls := "Miterhouse$States", name := "search", desc := "()V" } : Jvm.MethodName)) ∈ TT := ttk_5 (List.mem_of_getElem? (i := 237) rfl) rfl
theorem t_5_238 : (Jvm.Cond.methodLink "MiterhouseLaw" (188 : Nat) ({ cls := "MiterhouseLaw", name := "difference", desc := "(LMiterhouse;)I" } : Jvm.MethodName)) ∈ TT := ttk_5 (List.mem_of_getElem? (i := 238) rfl) rfl
theorem t_5_239 : (Jvm.Cond.static ({ cls := "MiterhouseLaw", name := "difference", desc := "(LMiterhouse;)I" } : Jvm.MethodName)) ∈ TT := ttk_5 (List.mem_of_getElem? (i := 239) rfl) rfl
theorem t_6_0 : (Jvm.Cond.codeWith ({ cls := "MiterhouseLaw", name := "difference", desc := "(LMiterhouse;)I" } : Jvm.MethodName) method_19_code (2 : Nat) (Option.some Jvm.ClassFile.FieldType.int) [((0 : Nat), (4 : Nat), (5 : Nat), (15 : Nat))]) ∈ TT := ttk_6 (List.mem_of_getElem? (i := 0) rfl) rfl
theorem t_6_1 : (Jvm.Cond.methodLink "MiterhouseLaw" (80 : Nat) ({ cls := "Miterhouse", name := "difference", desc := "()I" } : Jvm.MethodName)) ∈ TT := ttk_6 (List.mem_of_getElem? (i := 1) rfl) rfl
theorem t_6_2 : (Jvm.Cond.instanceMethod ({ cls := "Miterhouse", name := "difference", desc := "()I" } : Jvm.MethodName)) ∈ TT := ttk_6 (List.mem_of_getElem? (i := 2) rfl) rfl
theorem t_6_3 : (Jvm.Cond.selects "Miterhouse" ({ cls := "Miterhouse", name := "difference", desc := "()I" } : Jvm.MethodName) ({ cls := "Miterhouse", name := "difference", desc := "()I" } : Jvm.MethodName)) ∈ TT := ttk_6 (List.mem_of_getElem? (i := 3) rfl) rfl
theorem t_6_4 : (Jvm.Cond.code ({ cls := "Miterhouse", name := "difference", desc := "()I" } : Jvm.MethodName) prog_1_method_41_code (2 : Nat) (Option.some Jvm.ClassFile.FieldType.int)) ∈ TT := ttk_6 (List.mem_of_getElem? (i := 4) rfl) rfl
theorem t_6_5 : (Jvm.Cond.methodLink "MiterhouseLaw" (190 : Nat) ({ cls := "MiterhouseLaw", name := "trace", desc := "(LMiterhouse;I)I" } : Jvm.MethodName)) ∈ TT := ttk_6 (List.mem_of_getElem? (i := 5) rfl) rfl
theorem t_6_6 : (Jvm.Cond.static ({ cls := "MiterhouseLaw", name := "trace", desc := "(LMiterhouse;I)I" } : Jvm.MethodName)) ∈ TT := ttk_6 (List.mem_of_getElem? (i := 6) rfl) rfl
theorem t_6_7 : (Jvm.Cond.codeWith ({ cls := "MiterhouseLaw", name := "trace", desc := "(LMiterhouse;I)I" } : Jvm.MethodName) method_20_code (3 : Nat) (Option.some Jvm.ClassFile.FieldType.int) [((0 : Nat), (5 : Nat), (6 : Nat), (15 : Nat)), ((0 : Nat), (5 : Nat), (10 : Nat), (69 : Nat))]) ∈ TT := ttk_6 (List.mem_of_getElem? (i := 7) rfl) rfl
theorem t_6_8 : (Jvm.Cond.methodLink "MiterhouseLaw" (83 : Nat) ({ cls := "Miterhouse", name := "trace", desc := "(I)I" } : Jvm.MethodName)) ∈ TT := ttk_6 (List.mem_of_getElem? (i := 8) rfl) rfl
theorem t_6_9 : (Jvm.Cond.instanceMethod ({ cls := "Miterhouse", name := "trace", desc := "(I)I" } : Jvm.MethodName)) ∈ TT := ttk_6 (List.mem_of_getElem? (i := 9) rfl) rfl
theorem t_6_10 : (Jvm.Cond.selects "Miterhouse" ({ cls := "Miterhouse", name := "trace", desc := "(I)I" } : Jvm.MethodName) ({ cls := "Miterhouse", name := "trace", desc := "(I)I" } : Jvm.MethodName)) ∈ TT := ttk_6 (List.mem_of_getElem? (i := 10) rfl) rfl
theorem t_6_11 : (Jvm.Cond.code ({ cls := "Miterhouse", name := "trace", desc := "(I)I" } : Jvm.MethodName) prog_1_method_42_code (3 : Nat) (Option.some Jvm.ClassFile.FieldType.int)) ∈ TT := ttk_6 (List.mem_of_getElem? (i := 11) rfl) rfl
theorem t_6_13 : (Jvm.Cond.methodLink "Miterhouse" (367 : Nat) ({ cls := "Miterhouse$States", name := "traceAt", desc := "(I)I" } : Jvm.MethodName)) ∈ TT := ttk_6 (List.mem_of_getElem? (i := 13) rfl) rfl
theorem t_6_14 : (Jvm.Cond.methodLink "MiterhouseLaw" (196 : Nat) ({ cls := "MiterhouseLaw", name := "run", desc := "(LMiterhouse;III)I" } : Jvm.MethodName)) ∈ TT := ttk_6 (List.mem_of_getElem? (i := 14) rfl) rfl
theorem t_6_15 : (Jvm.Cond.static ({ cls := "MiterhouseLaw", name := "run", desc := "(LMiterhouse;III)I" } : Jvm.MethodName)) ∈ TT := ttk_6 (List.mem_of_getElem? (i := 15) rfl) rfl
theorem t_6_16 : (Jvm.Cond.codeWith ({ cls := "MiterhouseLaw", name := "run", desc := "(LMiterhouse;III)I" } : Jvm.MethodName) method_21_code (5 : Nat) (Option.some Jvm.ClassFile.FieldType.int) [((0 : Nat), (7 : Nat), (8 : Nat), (25 : Nat)), ((0 : Nat), (7 : Nat), (13 : Nat), (15 : Nat))]) ∈ TT := ttk_6 (List.mem_of_getElem? (i := 16) rfl) rfl
theorem t_6_17 : (Jvm.Cond.methodLink "MiterhouseLaw" (86 : Nat) ({ cls := "Miterhouse", name := "run", desc := "(III)I" } : Jvm.MethodName)) ∈ TT := ttk_6 (List.mem_of_getElem? (i := 17) rfl) rfl
theorem t_6_18 : (Jvm.Cond.instanceMethod ({ cls := "Miterhouse", name := "run", desc := "(III)I" } : Jvm.MethodName)) ∈ TT := ttk_6 (List.mem_of_getElem? (i := 18) rfl) rfl
theorem t_6_19 : (Jvm.Cond.selects "Miterhouse" ({ cls := "Miterhouse", name := "run", desc := "(III)I" } : Jvm.MethodName) ({ cls := "Miterhouse", name := "run", desc := "(III)I" } : Jvm.MethodName)) ∈ TT := ttk_6 (List.mem_of_getElem? (i := 19) rfl) rfl
theorem t_6_20 : (Jvm.Cond.code ({ cls := "Miterhouse", name := "run", desc := "(III)I" } : Jvm.MethodName) prog_1_method_45_code (4 : Nat) (Option.some Jvm.ClassFile.FieldType.int)) ∈ TT := ttk_6 (List.mem_of_getElem? (i := 20) rfl) rfl
theorem t_6_21 : (Jvm.Cond.methodLink "Miterhouse" (376 : Nat) ({ cls := "Miterhouse$Values", name := "areKeptInputs", desc := "(I)Z" } : Jvm.MethodName)) ∈ TT := ttk_6 (List.mem_of_getElem? (i := 21) rfl) rfl
theorem t_6_22 : (Jvm.Cond.methodLink "Miterhouse" (379 : Nat) ({ cls := "Miterhouse$States", name := "outputsBehind", desc := "(III)I" } : Jvm.MethodName)) ∈ TT := ttk_6 (List.mem_of_getElem? (i := 22) rfl) rfl
theorem t_6_23 : (Jvm.Cond.instanceMethod ({ cls := "Miterhouse$States", name := "outputsBehind", desc := "(III)I" } : Jvm.MethodName)) ∈ TT := ttk_6 (List.mem_of_getElem? (i := 23) rfl) rfl
theorem t_6_24 : (Jvm.Cond.selects "Miterhouse$States" ({ cls := "Miterhouse$States", name := "outputsBehind", desc := "(III)I" } : Jvm.MethodName) ({ cls := "Miterhouse$States", name := "outputsBehind", desc := "(III)I" } : Jvm.MethodName)) ∈ TT := ttk_6 (List.mem_of_getElem? (i := 24) rfl) rfl
theorem t_6_25 : (Jvm.Cond.code ({ cls := "Miterhouse$States", name := "outputsBehind", desc := "(III)I" } : Jvm.MethodName) prog_10_method_17_code (6 : Nat) (Option.some Jvm.ClassFile.FieldType.int)) ∈ TT := ttk_6 (List.mem_of_getElem? (i := 25) rfl) rfl
theorem t_6_26 : (Jvm.Cond.methodLink "MiterhouseLaw" (192 : Nat) ({ cls := "MiterhouseLaw", name := "isInductive", desc := "(LMiterhouse;I)I" } : Jvm.MethodName)) ∈ TT := ttk_6 (List.mem_of_getElem? (i := 26) rfl) rfl
theorem t_6_27 : (Jvm.Cond.static ({ cls := "MiterhouseLaw", name := "isInductive", desc := "(LMiterhouse;I)I" } : Jvm.MethodName)) ∈ TT := ttk_6 (List.mem_of_getElem? (i := 27) rfl) rfl
theorem t_6_28 : (Jvm.Cond.codeWith ({ cls := "MiterhouseLaw", name := "isInductive", desc := "(LMiterhouse;I)I" } : Jvm.MethodName) method_22_code (3 : Nat) (Option.some Jvm.ClassFile.FieldType.int) [((0 : Nat), (13 : Nat), (14 : Nat), (25 : Nat)), ((0 : Nat), (13 : Nat), (18 : Nat), (15 : Nat))]) ∈ TT := ttk_6 (List.mem_of_getElem? (i := 28) rfl) rfl
theorem t_6_29 : (Jvm.Cond.methodLink "MiterhouseLaw" (89 : Nat) ({ cls := "Miterhouse", name := "isInductive", desc := "(I)Z" } : Jvm.MethodName)) ∈ TT := ttk_6 (List.mem_of_getElem? (i := 29) rfl) rfl
theorem t_6_30 : (Jvm.Cond.instanceMethod ({ cls := "Miterhouse", name := "isInductive", desc := "(I)Z" } : Jvm.MethodName)) ∈ TT := ttk_6 (List.mem_of_getElem? (i := 30) rfl) rfl
theorem t_6_31 : (Jvm.Cond.selects "Miterhouse" ({ cls := "Miterhouse", name := "isInductive", desc := "(I)Z" } : Jvm.MethodName) ({ cls := "Miterhouse", name := "isInductive", desc := "(I)Z" } : Jvm.MethodName)) ∈ TT := ttk_6 (List.mem_of_getElem? (i := 31) rfl) rfl
theorem t_6_32 : (Jvm.Cond.code ({ cls := "Miterhouse", name := "isInductive", desc := "(I)Z" } : Jvm.MethodName) prog_1_method_43_code (2 : Nat) (Option.some Jvm.ClassFile.FieldType.boolean)) ∈ TT := ttk_6 (List.mem_of_getElem? (i := 32) rfl) rfl
theorem t_6_33 : (Jvm.Cond.methodLink "Miterhouse" (370 : Nat) ({ cls := "Miterhouse$States", name := "isProvedBy", desc := "(I)Z" } : Jvm.MethodName)) ∈ TT := ttk_6 (List.mem_of_getElem? (i := 33) rfl) rfl
theorem t_6_34 : (Jvm.Cond.instanceMethod ({ cls := "Miterhouse$States", name := "isProvedBy", desc := "(I)Z" } : Jvm.MethodName)) ∈ TT := ttk_6 (List.mem_of_getElem? (i := 34) rfl) rfl
theorem t_6_35 : (Jvm.Cond.selects "Miterhouse$States" ({ cls := "Miterhouse$States", name := "isProvedBy", desc := "(I)Z" } : Jvm.MethodName) ({ cls := "Miterhouse$States", name := "isProvedBy", desc := "(I)Z" } : Jvm.MethodName)) ∈ TT := ttk_6 (List.mem_of_getElem? (i := 35) rfl) rfl
theorem t_6_36 : (Jvm.Cond.code ({ cls := "Miterhouse$States", name := "isProvedBy", desc := "(I)Z" } : Jvm.MethodName) prog_10_method_12_code (3 : Nat) (Option.some Jvm.ClassFile.FieldType.boolean)) ∈ TT := ttk_6 (List.mem_of_getElem? (i := 36) rfl) rfl
theorem t_6_37 : (Jvm.Cond.methodLink "Miterhouse$States" (149 : Nat) ({ cls := "Miterhouse$States", name := "search", desc := "()V" } : Jvm.MethodName)) ∈ TT := ttk_6 (List.mem_of_getElem? (i := 37) rfl) rfl
theorem t_6_38 : (Jvm.Cond.methodLink "Miterhouse$States" (152 : Nat) ({ cls := "Miterhouse$States", name := "stepAlike", desc := "()V" } : Jvm.MethodName)) ∈ TT := ttk_6 (List.mem_of_getElem? (i := 38) rfl) rfl
theorem t_6_40 : (Jvm.Cond.instanceMethod ({ cls := "Miterhouse$States", name := "stepAlike", desc := "()V" } : Jvm.MethodName)) ∈ TT := ttk_6 (List.mem_of_getElem? (i := 40) rfl) rfl
theorem t_6_41 : (Jvm.Cond.code ({ cls := "Miterhouse$States", name := "stepAlike", desc := "()V" } : Jvm.MethodName) prog_10_method_13_code (4 : Nat) (Option.none : Option Jvm.ClassFile.FieldType)) ∈ TT := ttk_6 (List.mem_of_getElem? (i := 41) rfl) rfl
theorem t_6_45 : (Jvm.Cond.methodLink "Miterhouse$States" (155 : Nat) ({ cls := "Miterhouse$States", name := "canDiffer", desc := "(I)Z" } : Jvm.MethodName)) ∈ TT := ttk_6 (List.mem_of_getElem? (i := 45) rfl) rfl
theorem t_6_47 : (Jvm.Cond.instanceMethod ({ cls := "Miterhouse$States", name := "canDiffer", desc := "(I)Z" } : Jvm.MethodName)) ∈ TT := ttk_6 (List.mem_of_getElem? (i := 47) rfl) rfl
theorem t_6_48 : (Jvm.Cond.code ({ cls := "Miterhouse$States", name := "canDiffer", desc := "(I)Z" } : Jvm.MethodName) prog_10_method_14_code (3 : Nat) (Option.some Jvm.ClassFile.FieldType.boolean)) ∈ TT := ttk_6 (List.mem_of_getElem? (i := 48) rfl) rfl
theorem t_6_49 : (Jvm.Cond.methodLink "MiterhouseLaw" (194 : Nat) ({ cls := "MiterhouseLaw", name := "isInvariant", desc := "(LMiterhouse;I)I" } : Jvm.MethodName)) ∈ TT := ttk_6 (List.mem_of_getElem? (i := 49) rfl) rfl
theorem t_6_50 : (Jvm.Cond.static ({ cls := "MiterhouseLaw", name := "isInvariant", desc := "(LMiterhouse;I)I" } : Jvm.MethodName)) ∈ TT := ttk_6 (List.mem_of_getElem? (i := 50) rfl) rfl
theorem t_6_51 : (Jvm.Cond.codeWith ({ cls := "MiterhouseLaw", name := "isInvariant", desc := "(LMiterhouse;I)I" } : Jvm.MethodName) method_23_code (3 : Nat) (Option.some Jvm.ClassFile.FieldType.int) [((0 : Nat), (13 : Nat), (14 : Nat), (32 : Nat)), ((0 : Nat), (13 : Nat), (18 : Nat), (15 : Nat))]) ∈ TT := ttk_6 (List.mem_of_getElem? (i := 51) rfl) rfl
theorem t_6_52 : (Jvm.Cond.methodLink "MiterhouseLaw" (93 : Nat) ({ cls := "Miterhouse", name := "isInvariant", desc := "(I)Z" } : Jvm.MethodName)) ∈ TT := ttk_6 (List.mem_of_getElem? (i := 52) rfl) rfl
theorem t_6_53 : (Jvm.Cond.instanceMethod ({ cls := "Miterhouse", name := "isInvariant", desc := "(I)Z" } : Jvm.MethodName)) ∈ TT := ttk_6 (List.mem_of_getElem? (i := 53) rfl) rfl
theorem t_6_54 : (Jvm.Cond.selects "Miterhouse" ({ cls := "Miterhouse", name := "isInvariant", desc := "(I)Z" } : Jvm.MethodName) ({ cls := "Miterhouse", name := "isInvariant", desc := "(I)Z" } : Jvm.MethodName)) ∈ TT := ttk_6 (List.mem_of_getElem? (i := 54) rfl) rfl
theorem t_6_55 : (Jvm.Cond.code ({ cls := "Miterhouse", name := "isInvariant", desc := "(I)Z" } : Jvm.MethodName) prog_1_method_44_code (2 : Nat) (Option.some Jvm.ClassFile.FieldType.boolean)) ∈ TT := ttk_6 (List.mem_of_getElem? (i := 55) rfl) rfl
theorem t_6_56 : (Jvm.Cond.methodLink "Miterhouse" (373 : Nat) ({ cls := "Miterhouse$States", name := "isAlwaysOne", desc := "(I)Z" } : Jvm.MethodName)) ∈ TT := ttk_6 (List.mem_of_getElem? (i := 56) rfl) rfl
theorem t_6_57 : (Jvm.Cond.instanceMethod ({ cls := "Miterhouse$States", name := "isAlwaysOne", desc := "(I)Z" } : Jvm.MethodName)) ∈ TT := ttk_6 (List.mem_of_getElem? (i := 57) rfl) rfl
theorem t_6_58 : (Jvm.Cond.selects "Miterhouse$States" ({ cls := "Miterhouse$States", name := "isAlwaysOne", desc := "(I)Z" } : Jvm.MethodName) ({ cls := "Miterhouse$States", name := "isAlwaysOne", desc := "(I)Z" } : Jvm.MethodName)) ∈ TT := ttk_6 (List.mem_of_getElem? (i := 58) rfl) rfl
theorem t_6_59 : (Jvm.Cond.code ({ cls := "Miterhouse$States", name := "isAlwaysOne", desc := "(I)Z" } : Jvm.MethodName) prog_10_method_15_code (5 : Nat) (Option.some Jvm.ClassFile.FieldType.boolean)) ∈ TT := ttk_6 (List.mem_of_getElem? (i := 59) rfl) rfl
theorem t_6_60 : (Jvm.Cond.methodLink "Miterhouse$States" (164 : Nat) ({ cls := "Miterhouse$States", name := "isOneIn", desc := "(II)Z" } : Jvm.MethodName)) ∈ TT := ttk_6 (List.mem_of_getElem? (i := 60) rfl) rfl
theorem t_6_62 : (Jvm.Cond.instanceMethod ({ cls := "Miterhouse$States", name := "isOneIn", desc := "(II)Z" } : Jvm.MethodName)) ∈ TT := ttk_6 (List.mem_of_getElem? (i := 62) rfl) rfl
theorem t_6_63 : (Jvm.Cond.code ({ cls := "Miterhouse$States", name := "isOneIn", desc := "(II)Z" } : Jvm.MethodName) prog_10_method_16_code (4 : Nat) (Option.some Jvm.ClassFile.FieldType.boolean)) ∈ TT := ttk_6 (List.mem_of_getElem? (i := 63) rfl) rfl
theorem t_6_64 : (Jvm.Cond.methodLink "MiterhouseLaw" (104 : Nat) ({ cls := "MiterhouseLaw", name := "in", desc := "([III)I" } : Jvm.MethodName)) ∈ TT := ttk_6 (List.mem_of_getElem? (i := 64) rfl) rfl
theorem t_6_65 : (Jvm.Cond.static ({ cls := "MiterhouseLaw", name := "in", desc := "([III)I" } : Jvm.MethodName)) ∈ TT := ttk_6 (List.mem_of_getElem? (i := 65) rfl) rfl
theorem t_6_66 : (Jvm.Cond.code ({ cls := "MiterhouseLaw", name := "in", desc := "([III)I" } : Jvm.MethodName) method_24_code (3 : Nat) (Option.some Jvm.ClassFile.FieldType.int)) ∈ TT := ttk_6 (List.mem_of_getElem? (i := 66) rfl) rfl
theorem t_6_67 : (Jvm.Cond.methodLink "MiterhouseLaw" (96 : Nat) ({ cls := "MiterhouseLaw", name := "cell", desc := "([II)I" } : Jvm.MethodName)) ∈ TT := ttk_6 (List.mem_of_getElem? (i := 67) rfl) rfl
theorem t_6_68 : (Jvm.Cond.static ({ cls := "MiterhouseLaw", name := "cell", desc := "([II)I" } : Jvm.MethodName)) ∈ TT := ttk_6 (List.mem_of_getElem? (i := 68) rfl) rfl
theorem t_6_69 : (Jvm.Cond.code ({ cls := "MiterhouseLaw", name := "cell", desc := "([II)I" } : Jvm.MethodName) method_2_code (3 : Nat) (Option.some Jvm.ClassFile.FieldType.int)) ∈ TT := ttk_6 (List.mem_of_getElem? (i := 69) rfl) rfl
theorem t_6_70 : (Jvm.Cond.constant "MiterhouseLaw" (7 : Nat) (69069 : Int32)) ∈ TT := ttk_6 (List.mem_of_getElem? (i := 70) rfl) rfl
theorem t_6_71 : (Jvm.Cond.constant "MiterhouseLaw" (8 : Nat) (1103515245 : Int32)) ∈ TT := ttk_6 (List.mem_of_getElem? (i := 71) rfl) rfl
theorem t_6_72 : (Jvm.Cond.constant "MiterhouseLaw" (101 : Nat) (2147483647 : Int32)) ∈ TT := ttk_6 (List.mem_of_getElem? (i := 72) rfl) rfl
theorem t_6_73 : (Jvm.Cond.methodLink "MiterhouseLaw" (157 : Nat) ({ cls := "MiterhouseLaw", name := "netsBy", desc := "([IIII)[[I" } : Jvm.MethodName)) ∈ TT := ttk_6 (List.mem_of_getElem? (i := 73) rfl) rfl
theorem t_6_74 : (Jvm.Cond.static ({ cls := "MiterhouseLaw", name := "netsBy", desc := "([IIII)[[I" } : Jvm.MethodName)) ∈ TT := ttk_6 (List.mem_of_getElem? (i := 74) rfl) rfl
theorem t_6_75 : (Jvm.Cond.code ({ cls := "MiterhouseLaw", name := "netsBy", desc := "([IIII)[[I" } : Jvm.MethodName) method_25_code (7 : Nat) (Option.some (Jvm.ClassFile.FieldType.array (Jvm.ClassFile.FieldType.array Jvm.ClassFile.FieldType.int)))) ∈ TT := ttk_6 (List.mem_of_getElem? (i := 75) rfl) rfl
theorem t_6_119 : (Jvm.Cond.methodLink "MiterhouseLaw" (116 : Nat) ({ cls := "MiterhouseLaw", name := "lineBy", desc := "([[IIII)I" } : Jvm.MethodName)) ∈ TT := ttk_6 (List.mem_of_getElem? (i := 119) rfl) rfl
theorem t_6_120 : (Jvm.Cond.static ({ cls := "MiterhouseLaw", name := "lineBy", desc := "([[IIII)I" } : Jvm.MethodName)) ∈ TT := ttk_6 (List.mem_of_getElem? (i := 120) rfl) rfl
theorem t_6_121 : (Jvm.Cond.code ({ cls := "MiterhouseLaw", name := "lineBy", desc := "([[IIII)I" } : Jvm.MethodName) method_26_code (5 : Nat) (Option.some Jvm.ClassFile.FieldType.int)) ∈ TT := ttk_6 (List.mem_of_getElem? (i := 121) rfl) rfl
theorem t_6_122 : (Jvm.Cond.methodLink "MiterhouseLaw" (163 : Nat) ({ cls := "MiterhouseLaw", name := "isBuilt", desc := "(LMiterhouse;[I[[I[I[[I)Z" } : Jvm.MethodName)) ∈ TT := ttk_6 (List.mem_of_getElem? (i := 122) rfl) rfl
theorem t_6_123 : (Jvm.Cond.static ({ cls := "MiterhouseLaw", name := "isBuilt", desc := "(LMiterhouse;[I[[I[I[[I)Z" } : Jvm.MethodName)) ∈ TT := ttk_6 (List.mem_of_getElem? (i := 123) rfl) rfl
theorem t_6_124 : (Jvm.Cond.code ({ cls := "MiterhouseLaw", name := "isBuilt", desc := "(LMiterhouse;[I[[I[I[[I)Z" } : Jvm.MethodName) method_27_code (9 : Nat) (Option.some Jvm.ClassFile.FieldType.boolean)) ∈ TT := ttk_6 (List.mem_of_getElem? (i := 124) rfl) rfl
theorem t_6_125 : (Jvm.Cond.methodLink "MiterhouseLaw" (120 : Nat) ({ cls := "MiterhouseLaw", name := "input", desc := "(LMiterhouse;)I" } : Jvm.MethodName)) ∈ TT := ttk_6 (List.mem_of_getElem? (i := 125) rfl) rfl
theorem t_6_126 : (Jvm.Cond.static ({ cls := "MiterhouseLaw", name := "input", desc := "(LMiterhouse;)I" } : Jvm.MethodName)) ∈ TT := ttk_6 (List.mem_of_getElem? (i := 126) rfl) rfl
theorem t_6_127 : (Jvm.Cond.codeWith ({ cls := "MiterhouseLaw", name := "input", desc := "(LMiterhouse;)I" } : Jvm.MethodName) method_3_code (2 : Nat) (Option.some Jvm.ClassFile.FieldType.int) [((0 : Nat), (4 : Nat), (5 : Nat), (15 : Nat)), ((0 : Nat), (4 : Nat), (9 : Nat), (18 : Nat))]) ∈ TT := ttk_6 (List.mem_of_getElem? (i := 127) rfl) rfl
theorem t_6_128 : (Jvm.Cond.methodLink "MiterhouseLaw" (9 : Nat) ({ cls := "Miterhouse", name := "input", desc := "()I" } : Jvm.MethodName)) ∈ TT := ttk_6 (List.mem_of_getElem? (i := 128) rfl) rfl
theorem t_6_129 : (Jvm.Cond.instanceMethod ({ cls := "Miterhouse", name := "input", desc := "()I" } : Jvm.MethodName)) ∈ TT := ttk_6 (List.mem_of_getElem? (i := 129) rfl) rfl
theorem t_6_130 : (Jvm.Cond.selects "Miterhouse" ({ cls := "Miterhouse", name := "input", desc := "()I" } : Jvm.MethodName) ({ cls := "Miterhouse", name := "input", desc := "()I" } : Jvm.MethodName)) ∈ TT := ttk_6 (List.mem_of_getElem? (i := 130) rfl) rfl
theorem t_6_131 : (Jvm.Cond.code ({ cls := "Miterhouse", name := "input", desc := "()I" } : Jvm.MethodName) prog_1_method_2_code (1 : Nat) (Option.some Jvm.ClassFile.FieldType.int)) ∈ TT := ttk_6 (List.mem_of_getElem? (i := 131) rfl) rfl
theorem t_6_133 : (Jvm.Cond.methodLink "Miterhouse" (41 : Nat) ({ cls := "Miterhouse$Nets", name := "addInput", desc := "()I" } : Jvm.MethodName)) ∈ TT := ttk_6 (List.mem_of_getElem? (i := 133) rfl) rfl
theorem t_6_134 : (Jvm.Cond.instanceMethod ({ cls := "Miterhouse$Nets", name := "addInput", desc := "()I" } : Jvm.MethodName)) ∈ TT := ttk_6 (List.mem_of_getElem? (i := 134) rfl) rfl
theorem t_6_135 : (Jvm.Cond.selects "Miterhouse$Nets" ({ cls := "Miterhouse$Nets", name := "addInput", desc := "()I" } : Jvm.MethodName) ({ cls := "Miterhouse$Nets", name := "addInput", desc := "()I" } : Jvm.MethodName)) ∈ TT := ttk_6 (List.mem_of_getElem? (i := 135) rfl) rfl
theorem t_6_136 : (Jvm.Cond.code ({ cls := "Miterhouse$Nets", name := "addInput", desc := "()I" } : Jvm.MethodName) prog_8_method_21_code (1 : Nat) (Option.some Jvm.ClassFile.FieldType.int)) ∈ TT := ttk_6 (List.mem_of_getElem? (i := 136) rfl) rfl
theorem t_6_137 : (Jvm.Cond.methodLink "MiterhouseLaw" (167 : Nat) ({ cls := "MiterhouseLaw", name := "valuesBy", desc := "([[III)[I" } : Jvm.MethodName)) ∈ TT := ttk_6 (List.mem_of_getElem? (i := 137) rfl) rfl
theorem t_6_138 : (Jvm.Cond.static ({ cls := "MiterhouseLaw", name := "valuesBy", desc := "([[III)[I" } : Jvm.MethodName)) ∈ TT := ttk_6 (List.mem_of_getElem? (i := 138) rfl) rfl
theorem t_6_139 : (Jvm.Cond.code ({ cls := "MiterhouseLaw", name := "valuesBy", desc := "([[III)[I" } : Jvm.MethodName) method_28_code (8 : Nat) (Option.some (Jvm.ClassFile.FieldType.array Jvm.ClassFile.FieldType.int))) ∈ TT := ttk_6 (List.mem_of_getElem? (i := 139) rfl) rfl
theorem t_6_140 : (Jvm.Cond.methodLink "MiterhouseLaw" (140 : Nat) ({ cls := "MiterhouseLaw", name := "leaves", desc := "([[IIIIIIII)I" } : Jvm.MethodName)) ∈ TT := ttk_6 (List.mem_of_getElem? (i := 140) rfl) rfl
theorem t_6_141 : (Jvm.Cond.static ({ cls := "MiterhouseLaw", name := "leaves", desc := "([[IIIIIIII)I" } : Jvm.MethodName)) ∈ TT := ttk_6 (List.mem_of_getElem? (i := 141) rfl) rfl
theorem t_6_142 : (Jvm.Cond.code ({ cls := "MiterhouseLaw", name := "leaves", desc := "([[IIIIIIII)I" } : Jvm.MethodName) method_30_code (12 : Nat) (Option.some Jvm.ClassFile.FieldType.int)) ∈ TT := ttk_6 (List.mem_of_getElem? (i := 142) rfl) rfl
theorem t_6_143 : (Jvm.Cond.methodLink "MiterhouseLaw" (136 : Nat) ({ cls := "MiterhouseLaw", name := "told", desc := "(III)I" } : Jvm.MethodName)) ∈ TT := ttk_6 (List.mem_of_getElem? (i := 143) rfl) rfl
theorem t_6_144 : (Jvm.Cond.static ({ cls := "MiterhouseLaw", name := "told", desc := "(III)I" } : Jvm.MethodName)) ∈ TT := ttk_6 (List.mem_of_getElem? (i := 144) rfl) rfl
theorem t_6_145 : (Jvm.Cond.code ({ cls := "MiterhouseLaw", name := "told", desc := "(III)I" } : Jvm.MethodName) method_29_code (6 : Nat) (Option.some Jvm.ClassFile.FieldType.int)) ∈ TT := ttk_6 (List.mem_of_getElem? (i := 145) rfl) rfl
theorem t_6_146 : (Jvm.Cond.constant "MiterhouseLaw" (139 : Nat) (100000 : Int32)) ∈ TT := ttk_6 (List.mem_of_getElem? (i := 146) rfl) rfl
theorem t_6_148 : (Jvm.Cond.arrayClass Jvm.ClassFile.FieldType.boolean) ∈ TT := ttk_6 (List.mem_of_getElem? (i := 148) rfl) rfl
theorem tts {q : MethodName × Nat} (h : q ∈ lw_privs) : Cond.selects q.1.cls q.1 q.1 ∈ TT := List.mem_filter.mpr ⟨List.mem_append_left _ (List.mem_map.mpr ⟨q, h, rfl⟩), rfl⟩
theorem ts_0 : Cond.selects "Miterhouse$States" ⟨"Miterhouse$States", "fillFollow", "()V"⟩ ⟨"Miterhouse$States", "fillFollow", "()V"⟩ ∈ TT := tts (q := (⟨"Miterhouse$States", "fillFollow", "()V"⟩, 16)) (List.mem_of_getElem? (i := 0) (by decide +kernel))
theorem ts_1 : Cond.selects "Miterhouse$States" ⟨"Miterhouse$States", "outputsAt", "(II)I"⟩ ⟨"Miterhouse$States", "outputsAt", "(II)I"⟩ ∈ TT := tts (q := (⟨"Miterhouse$States", "outputsAt", "(II)I"⟩, 16)) (List.mem_of_getElem? (i := 1) (by decide +kernel))
theorem ts_2 : Cond.selects "Miterhouse$States" ⟨"Miterhouse$States", "stateBehind", "(I)I"⟩ ⟨"Miterhouse$States", "stateBehind", "(I)I"⟩ ∈ TT := tts (q := (⟨"Miterhouse$States", "stateBehind", "(I)I"⟩, 16)) (List.mem_of_getElem? (i := 2) (by decide +kernel))
theorem ts_3 : Cond.selects "Miterhouse$States" ⟨"Miterhouse$States", "firstState", "()I"⟩ ⟨"Miterhouse$States", "firstState", "()I"⟩ ∈ TT := tts (q := (⟨"Miterhouse$States", "firstState", "()I"⟩, 16)) (List.mem_of_getElem? (i := 3) (by decide +kernel))
theorem ts_4 : Cond.selects "Miterhouse$States" ⟨"Miterhouse$States", "meet", "(IIII)V"⟩ ⟨"Miterhouse$States", "meet", "(IIII)V"⟩ ∈ TT := tts (q := (⟨"Miterhouse$States", "meet", "(IIII)V"⟩, 16)) (List.mem_of_getElem? (i := 4) (by decide +kernel))
theorem ts_5 : Cond.selects "Miterhouse$States" ⟨"Miterhouse$States", "expand", "(I)V"⟩ ⟨"Miterhouse$States", "expand", "(I)V"⟩ ∈ TT := tts (q := (⟨"Miterhouse$States", "expand", "(I)V"⟩, 16)) (List.mem_of_getElem? (i := 5) (by decide +kernel))
theorem ts_6 : Cond.selects "Miterhouse$States" ⟨"Miterhouse$States", "stepFrom", "(II)I"⟩ ⟨"Miterhouse$States", "stepFrom", "(II)I"⟩ ∈ TT := tts (q := (⟨"Miterhouse$States", "stepFrom", "(II)I"⟩, 16)) (List.mem_of_getElem? (i := 6) (by decide +kernel))
theorem ts_7 : Cond.selects "Miterhouse$States" ⟨"Miterhouse$States", "writeTrace", "(II)V"⟩ ⟨"Miterhouse$States", "writeTrace", "(II)V"⟩ ∈ TT := tts (q := (⟨"Miterhouse$States", "writeTrace", "(II)V"⟩, 16)) (List.mem_of_getElem? (i := 7) (by decide +kernel))
theorem ts_8 : Cond.selects "Miterhouse$Closed" ⟨"Miterhouse$Closed", "areLinesLiterals", "(I)Z"⟩ ⟨"Miterhouse$Closed", "areLinesLiterals", "(I)Z"⟩ ∈ TT := tts (q := (⟨"Miterhouse$Closed", "areLinesLiterals", "(I)Z"⟩, 12)) (List.mem_of_getElem? (i := 8) (by decide +kernel))
theorem ts_9 : Cond.selects "Miterhouse$Closed" ⟨"Miterhouse$Closed", "literalWord", "(I)J"⟩ ⟨"Miterhouse$Closed", "literalWord", "(I)J"⟩ ∈ TT := tts (q := (⟨"Miterhouse$Closed", "literalWord", "(I)J"⟩, 12)) (List.mem_of_getElem? (i := 9) (by decide +kernel))
theorem ts_10 : Cond.selects "Miterhouse$Sweeping" ⟨"Miterhouse$Sweeping", "isMerged", "(I)Z"⟩ ⟨"Miterhouse$Sweeping", "isMerged", "(I)Z"⟩ ∈ TT := tts (q := (⟨"Miterhouse$Sweeping", "isMerged", "(I)Z"⟩, 9)) (List.mem_of_getElem? (i := 10) (by decide +kernel))
theorem ts_11 : Cond.selects "Miterhouse$Sweeping" ⟨"Miterhouse$Sweeping", "firstDifference", "(IIZ)I"⟩ ⟨"Miterhouse$Sweeping", "firstDifference", "(IIZ)I"⟩ ∈ TT := tts (q := (⟨"Miterhouse$Sweeping", "firstDifference", "(IIZ)I"⟩, 9)) (List.mem_of_getElem? (i := 11) (by decide +kernel))
theorem ts_12 : Cond.selects "Miterhouse$Sweeping" ⟨"Miterhouse$Sweeping", "openBetween", "(IIZII)I"⟩ ⟨"Miterhouse$Sweeping", "openBetween", "(IIZII)I"⟩ ∈ TT := tts (q := (⟨"Miterhouse$Sweeping", "openBetween", "(IIZII)I"⟩, 9)) (List.mem_of_getElem? (i := 12) (by decide +kernel))
theorem ts_13 : Cond.selects "Miterhouse$Sweeping" ⟨"Miterhouse$Sweeping", "areSameEverywhere", "(II)Z"⟩ ⟨"Miterhouse$Sweeping", "areSameEverywhere", "(II)Z"⟩ ∈ TT := tts (q := (⟨"Miterhouse$Sweeping", "areSameEverywhere", "(II)Z"⟩, 9)) (List.mem_of_getElem? (i := 13) (by decide +kernel))
theorem ts_15 : Cond.selects "Miterhouse" ⟨"Miterhouse", "mustBeOpen", "()V"⟩ ⟨"Miterhouse", "mustBeOpen", "()V"⟩ ∈ TT := tts (q := (⟨"Miterhouse", "mustBeOpen", "()V"⟩, 3)) (List.mem_of_getElem? (i := 15) (by decide +kernel))
theorem ts_16 : Cond.selects "Miterhouse$Nets" ⟨"Miterhouse$Nets", "addLine", "(ICII)I"⟩ ⟨"Miterhouse$Nets", "addLine", "(ICII)I"⟩ ∈ TT := tts (q := (⟨"Miterhouse$Nets", "addLine", "(ICII)I"⟩, 13)) (List.mem_of_getElem? (i := 16) (by decide +kernel))
theorem ts_17 : Cond.selects "Miterhouse" ⟨"Miterhouse", "mustBeLine", "(I)V"⟩ ⟨"Miterhouse", "mustBeLine", "(I)V"⟩ ∈ TT := tts (q := (⟨"Miterhouse", "mustBeLine", "(I)V"⟩, 3)) (List.mem_of_getElem? (i := 17) (by decide +kernel))
theorem ts_18 : Cond.selects "Miterhouse" ⟨"Miterhouse", "mustBeCell", "(I)V"⟩ ⟨"Miterhouse", "mustBeCell", "(I)V"⟩ ∈ TT := tts (q := (⟨"Miterhouse", "mustBeCell", "(I)V"⟩, 3)) (List.mem_of_getElem? (i := 18) (by decide +kernel))
theorem ts_19 : Cond.selects "Miterhouse$Values" ⟨"Miterhouse$Values", "fillGate", "(I)V"⟩ ⟨"Miterhouse$Values", "fillGate", "(I)V"⟩ ∈ TT := tts (q := (⟨"Miterhouse$Values", "fillGate", "(I)V"⟩, 12)) (List.mem_of_getElem? (i := 19) (by decide +kernel))
theorem ts_20 : Cond.selects "Miterhouse$Values" ⟨"Miterhouse$Values", "fillSource", "(II)V"⟩ ⟨"Miterhouse$Values", "fillSource", "(II)V"⟩ ∈ TT := tts (q := (⟨"Miterhouse$Values", "fillSource", "(II)V"⟩, 12)) (List.mem_of_getElem? (i := 20) (by decide +kernel))
theorem ts_21 : Cond.selects "Miterhouse$Ands" ⟨"Miterhouse$Ands", "gateLiteral", "(I)I"⟩ ⟨"Miterhouse$Ands", "gateLiteral", "(I)I"⟩ ∈ TT := tts (q := (⟨"Miterhouse$Ands", "gateLiteral", "(I)I"⟩, 6)) (List.mem_of_getElem? (i := 21) (by decide +kernel))
theorem ts_22 : Cond.selects "Miterhouse$Ands" ⟨"Miterhouse$Ands", "both", "(II)I"⟩ ⟨"Miterhouse$Ands", "both", "(II)I"⟩ ∈ TT := tts (q := (⟨"Miterhouse$Ands", "both", "(II)I"⟩, 6)) (List.mem_of_getElem? (i := 22) (by decide +kernel))
theorem ts_23 : Cond.selects "Miterhouse$Ands" ⟨"Miterhouse$Ands", "nodeOf", "(II)I"⟩ ⟨"Miterhouse$Ands", "nodeOf", "(II)I"⟩ ∈ TT := tts (q := (⟨"Miterhouse$Ands", "nodeOf", "(II)I"⟩, 6)) (List.mem_of_getElem? (i := 23) (by decide +kernel))
theorem ts_24 : Cond.selects "Miterhouse" ⟨"Miterhouse", "mustBeClosed", "()LMiterhouse$Closed;"⟩ ⟨"Miterhouse", "mustBeClosed", "()LMiterhouse$Closed;"⟩ ∈ TT := tts (q := (⟨"Miterhouse", "mustBeClosed", "()LMiterhouse$Closed;"⟩, 3)) (List.mem_of_getElem? (i := 24) (by decide +kernel))
theorem ts_25 : Cond.selects "Miterhouse$Nets" ⟨"Miterhouse$Nets", "hasMarkedPin", "(I)Z"⟩ ⟨"Miterhouse$Nets", "hasMarkedPin", "(I)Z"⟩ ∈ TT := tts (q := (⟨"Miterhouse$Nets", "hasMarkedPin", "(I)Z"⟩, 13)) (List.mem_of_getElem? (i := 25) (by decide +kernel))
theorem ts_26 : Cond.selects "Miterhouse" ⟨"Miterhouse", "mustBeChoice", "(I)V"⟩ ⟨"Miterhouse", "mustBeChoice", "(I)V"⟩ ∈ TT := tts (q := (⟨"Miterhouse", "mustBeChoice", "(I)V"⟩, 3)) (List.mem_of_getElem? (i := 26) (by decide +kernel))
theorem ts_29 : Cond.selects "Miterhouse$States" ⟨"Miterhouse$States", "stepAlike", "()V"⟩ ⟨"Miterhouse$States", "stepAlike", "()V"⟩ ∈ TT := tts (q := (⟨"Miterhouse$States", "stepAlike", "()V"⟩, 16)) (List.mem_of_getElem? (i := 29) (by decide +kernel))
theorem ts_30 : Cond.selects "Miterhouse$States" ⟨"Miterhouse$States", "canDiffer", "(I)Z"⟩ ⟨"Miterhouse$States", "canDiffer", "(I)Z"⟩ ∈ TT := tts (q := (⟨"Miterhouse$States", "canDiffer", "(I)Z"⟩, 16)) (List.mem_of_getElem? (i := 30) (by decide +kernel))
theorem ts_31 : Cond.selects "Miterhouse$States" ⟨"Miterhouse$States", "isOneIn", "(II)Z"⟩ ⟨"Miterhouse$States", "isOneIn", "(II)Z"⟩ ∈ TT := tts (q := (⟨"Miterhouse$States", "isOneIn", "(II)Z"⟩, 16)) (List.mem_of_getElem? (i := 31) (by decide +kernel))
theorem tmaxC : Cond.code Lib.Math.max.name Lib.Math.max.code 2 (some .int) ∈ TT := ttk_3 (List.mem_of_getElem? (i := 124) (by decide +kernel)) (by decide +kernel)
theorem tmaxS : Cond.static Lib.Math.max.name ∈ TT := ttk_3 (List.mem_of_getElem? (i := 123) (by decide +kernel)) (by decide +kernel)
theorem tminC : Cond.code Lib.Math.min.name Lib.Math.min.code 2 (some .int) ∈ TT := ttk_3 (List.mem_of_getElem? (i := 121) (by decide +kernel)) (by decide +kernel)
theorem tminS : Cond.static Lib.Math.min.name ∈ TT := ttk_3 (List.mem_of_getElem? (i := 120) (by decide +kernel)) (by decide +kernel)
theorem tminL_V_21 : Cond.methodLink "Miterhouse$Values" 21 Lib.Math.min.name ∈ TT := ttk_3 (List.mem_of_getElem? (i := 119) (by decide +kernel)) (by decide +kernel)
theorem tmaxL_V_27 : Cond.methodLink "Miterhouse$Values" 27 Lib.Math.max.name ∈ TT := ttk_3 (List.mem_of_getElem? (i := 122) (by decide +kernel)) (by decide +kernel)
theorem tminL_A_73 : Cond.methodLink "Miterhouse$Ands" 73 Lib.Math.min.name ∈ TT := ttk_5 (List.mem_of_getElem? (i := 69) (by decide +kernel)) (by decide +kernel)
theorem tmaxL_A_78 : Cond.methodLink "Miterhouse$Ands" 78 Lib.Math.max.name ∈ TT := ttk_5 (List.mem_of_getElem? (i := 70) (by decide +kernel)) (by decide +kernel)
theorem tminL_T_28 : Cond.methodLink "Miterhouse$States" 28 Lib.Math.min.name ∈ TT := ttk_4 (List.mem_of_getElem? (i := 142) (by decide +kernel)) (by decide +kernel)
theorem tmaxL_T_35 : Cond.methodLink "Miterhouse$States" 35 Lib.Math.max.name ∈ TT := ttk_4 (List.mem_of_getElem? (i := 143) (by decide +kernel)) (by decide +kernel)
theorem tMI : Cond.initialized "java/lang/Math" ∈ TT := t_1_9
def cT_0 : u_T := fun k => match k with
  | 0 => ("Miterhouse", "nets", "LMiterhouse$Nets;", true)
  | 1 => ("Miterhouse", "coefficients", "[I", true)
  | _ => ("Miterhouse", "house", "LMiterhouse$Closed;", false)
def cY_0 : Nat → FieldType := fun k => match k with
  | 0 => (.object "Miterhouse$Nets")
  | 1 => (.array .int)
  | _ => (.object "Miterhouse$Closed")
def cT_1 : u_T := fun k => match k with
  | 0 => ("Miterhouse$Nets", "kinds", "[C", true)
  | 1 => ("Miterhouse$Nets", "owners", "[I", true)
  | 2 => ("Miterhouse$Nets", "ones", "[I", true)
  | 3 => ("Miterhouse$Nets", "twos", "[I", true)
  | 4 => ("Miterhouse$Nets", "firsts", "[I", true)
  | 5 => ("Miterhouse$Nets", "names", "[I", true)
  | 6 => ("Miterhouse$Nets", "outputs", "[I", true)
  | 7 => ("Miterhouse$Nets", "outputCounts", "[I", true)
  | 8 => ("Miterhouse$Nets", "cellCounts", "[I", true)
  | 9 => ("Miterhouse$Nets", "sources", "[I", true)
  | 10 => ("Miterhouse$Nets", "marks", "[I", true)
  | 11 => ("Miterhouse$Nets", "lines", "I", false)
  | _ => ("Miterhouse$Nets", "inputs", "I", false)
def cY_1 : Nat → FieldType := fun k => match k with
  | 0 => (.array .char)
  | 1 => (.array .int)
  | 2 => (.array .int)
  | 3 => (.array .int)
  | 4 => (.array .int)
  | 5 => (.array .int)
  | 6 => (.array .int)
  | 7 => (.array .int)
  | 8 => (.array .int)
  | 9 => (.array .int)
  | 10 => (.array .int)
  | 11 => .int
  | _ => .int
def cT_2 : u_T := fun k => match k with
  | 0 => ("Miterhouse$Closed", "nets", "LMiterhouse$Nets;", true)
  | 1 => ("Miterhouse$Closed", "values", "LMiterhouse$Values;", true)
  | 2 => ("Miterhouse$Closed", "ands", "LMiterhouse$Ands;", true)
  | 3 => ("Miterhouse$Closed", "sweeping", "LMiterhouse$Sweeping;", true)
  | 4 => ("Miterhouse$Closed", "diagrams", "LMiterhouse$Diagrams;", true)
  | 5 => ("Miterhouse$Closed", "cutsOfTwo", "LMiterhouse$Cuts;", true)
  | 6 => ("Miterhouse$Closed", "cutsOfThree", "LMiterhouse$Cuts;", true)
  | 7 => ("Miterhouse$Closed", "cutsOfFour", "LMiterhouse$Cuts;", true)
  | 8 => ("Miterhouse$Closed", "care", "LMiterhouse$Care;", true)
  | 9 => ("Miterhouse$Closed", "registers", "LMiterhouse$Registers;", true)
  | 10 => ("Miterhouse$Closed", "states", "LMiterhouse$States;", true)
  | _ => ("Miterhouse$Closed", "nodeWords", "[J", true)
def cY_2 : Nat → FieldType := fun k => match k with
  | 0 => (.object "Miterhouse$Nets")
  | 1 => (.object "Miterhouse$Values")
  | 2 => (.object "Miterhouse$Ands")
  | 3 => (.object "Miterhouse$Sweeping")
  | 4 => (.object "Miterhouse$Diagrams")
  | 5 => (.object "Miterhouse$Cuts")
  | 6 => (.object "Miterhouse$Cuts")
  | 7 => (.object "Miterhouse$Cuts")
  | 8 => (.object "Miterhouse$Care")
  | 9 => (.object "Miterhouse$Registers")
  | 10 => (.object "Miterhouse$States")
  | _ => (.array .long)
def cT_3 : u_T := fun k => match k with
  | 0 => ("Miterhouse$Values", "nets", "LMiterhouse$Nets;", true)
  | 1 => ("Miterhouse$Values", "sources", "I", true)
  | 2 => ("Miterhouse$Values", "words", "I", true)
  | 3 => ("Miterhouse$Values", "every", "J", true)
  | 4 => ("Miterhouse$Values", "held", "[J", true)
  | 5 => ("Miterhouse$Values", "knownZeros", "[J", true)
  | 6 => ("Miterhouse$Values", "knownOnes", "[J", true)
  | 7 => ("Miterhouse$Values", "kept", "[J", true)
  | 8 => ("Miterhouse$Values", "refuted", "[J", true)
  | 9 => ("Miterhouse$Values", "constraints", "I", false)
  | 10 => ("Miterhouse$Values", "keptChoices", "I", false)
  | _ => ("Miterhouse$Values", "keptInputs", "J", false)
def cY_3 : Nat → FieldType := fun k => match k with
  | 0 => (.object "Miterhouse$Nets")
  | 1 => .int
  | 2 => .int
  | 3 => .long
  | 4 => (.array .long)
  | 5 => (.array .long)
  | 6 => (.array .long)
  | 7 => (.array .long)
  | 8 => (.array .long)
  | 9 => .int
  | 10 => .int
  | _ => .long
def cT_4 : u_T := fun k => match k with
  | 0 => ("Miterhouse$Ands", "nets", "LMiterhouse$Nets;", true)
  | 1 => ("Miterhouse$Ands", "lesser", "[I", true)
  | 2 => ("Miterhouse$Ands", "greater", "[I", true)
  | 3 => ("Miterhouse$Ands", "literals", "[I", true)
  | 4 => ("Miterhouse$Ands", "firstAnd", "I", true)
  | _ => ("Miterhouse$Ands", "nodes", "I", false)
def cY_4 : Nat → FieldType := fun k => match k with
  | 0 => (.object "Miterhouse$Nets")
  | 1 => (.array .int)
  | 2 => (.array .int)
  | 3 => (.array .int)
  | 4 => .int
  | _ => .int
def cT_5 : u_T := fun k => match k with
  | 0 => ("Miterhouse$Sweeping", "nets", "LMiterhouse$Nets;", true)
  | 1 => ("Miterhouse$Sweeping", "values", "LMiterhouse$Values;", true)
  | 2 => ("Miterhouse$Sweeping", "signatures", "[J", true)
  | 3 => ("Miterhouse$Sweeping", "targets", "[I", true)
  | 4 => ("Miterhouse$Sweeping", "patternCount", "I", false)
  | 5 => ("Miterhouse$Sweeping", "mergedCount", "I", false)
  | 6 => ("Miterhouse$Sweeping", "proofSum", "J", false)
  | 7 => ("Miterhouse$Sweeping", "leaves", "I", false)
  | _ => ("Miterhouse$Sweeping", "witness", "I", false)
def cY_5 : Nat → FieldType := fun k => match k with
  | 0 => (.object "Miterhouse$Nets")
  | 1 => (.object "Miterhouse$Values")
  | 2 => (.array .long)
  | 3 => (.array .int)
  | 4 => .int
  | 5 => .int
  | 6 => .long
  | 7 => .int
  | _ => .int
def cT_6 : u_T := fun k => match k with
  | 0 => ("Miterhouse$States", "nets", "LMiterhouse$Nets;", true)
  | 1 => ("Miterhouse$States", "values", "LMiterhouse$Values;", true)
  | 2 => ("Miterhouse$States", "inputs", "I", true)
  | 3 => ("Miterhouse$States", "stateCount", "I", true)
  | 4 => ("Miterhouse$States", "follow", "[I", true)
  | 5 => ("Miterhouse$States", "queue", "[I", true)
  | 6 => ("Miterhouse$States", "from", "[I", true)
  | 7 => ("Miterhouse$States", "by", "[I", true)
  | 8 => ("Miterhouse$States", "depths", "[I", true)
  | 9 => ("Miterhouse$States", "traced", "[I", true)
  | 10 => ("Miterhouse$States", "marks", "[I", true)
  | 11 => ("Miterhouse$States", "nextMarks", "[I", true)
  | 12 => ("Miterhouse$States", "isFollowKnown", "Z", false)
  | 13 => ("Miterhouse$States", "searchedFor", "I", false)
  | 14 => ("Miterhouse$States", "reachedCount", "I", false)
  | _ => ("Miterhouse$States", "differsAt", "I", false)
def cY_6 : Nat → FieldType := fun k => match k with
  | 0 => (.object "Miterhouse$Nets")
  | 1 => (.object "Miterhouse$Values")
  | 2 => .int
  | 3 => .int
  | 4 => (.array .int)
  | 5 => (.array .int)
  | 6 => (.array .int)
  | 7 => (.array .int)
  | 8 => (.array .int)
  | 9 => (.array .int)
  | 10 => (.array .int)
  | 11 => (.array .int)
  | 12 => .boolean
  | 13 => .int
  | 14 => .int
  | _ => .int
def cT_7 : u_T := fun k => match k with
  | 0 => ("Miterhouse$Diagrams", "nets", "LMiterhouse$Nets;", true)
  | 1 => ("Miterhouse$Diagrams", "values", "LMiterhouse$Values;", true)
  | 2 => ("Miterhouse$Diagrams", "sources", "I", true)
  | 3 => ("Miterhouse$Diagrams", "words", "I", true)
  | 4 => ("Miterhouse$Diagrams", "order", "[I", true)
  | 5 => ("Miterhouse$Diagrams", "standing", "[I", true)
  | 6 => ("Miterhouse$Diagrams", "tables", "[J", true)
  | 7 => ("Miterhouse$Diagrams", "parts", "[I", true)
  | 8 => ("Miterhouse$Diagrams", "firstKeys", "LMiterhouse$Keys;", true)
  | 9 => ("Miterhouse$Diagrams", "secondKeys", "LMiterhouse$Keys;", true)
  | _ => ("Miterhouse$Diagrams", "used", "I", false)
def cY_7 : Nat → FieldType := fun k => match k with
  | 0 => (.object "Miterhouse$Nets")
  | 1 => (.object "Miterhouse$Values")
  | 2 => .int
  | 3 => .int
  | 4 => (.array .int)
  | 5 => (.array .int)
  | 6 => (.array .long)
  | 7 => (.array .int)
  | 8 => (.object "Miterhouse$Keys")
  | 9 => (.object "Miterhouse$Keys")
  | _ => .int
def cT_8 : u_T := fun k => match k with
  | 0 => ("Miterhouse$Cuts", "ands", "LMiterhouse$Ands;", true)
  | 1 => ("Miterhouse$Cuts", "most", "I", true)
  | 2 => ("Miterhouse$Cuts", "starts", "[I", true)
  | 3 => ("Miterhouse$Cuts", "held", "[I", true)
  | 4 => ("Miterhouse$Cuts", "unions", "LMiterhouse$Keys;", true)
  | 5 => ("Miterhouse$Cuts", "pool", "[J", false)
  | 6 => ("Miterhouse$Cuts", "used", "I", false)
  | _ => ("Miterhouse$Cuts", "isBuilt", "Z", false)
def cY_8 : Nat → FieldType := fun k => match k with
  | 0 => (.object "Miterhouse$Ands")
  | 1 => .int
  | 2 => (.array .int)
  | 3 => (.array .int)
  | 4 => (.object "Miterhouse$Keys")
  | 5 => (.array .long)
  | 6 => .int
  | _ => .boolean
def cT_9 : u_T := fun k => match k with
  | 0 => ("Miterhouse$Care", "nets", "LMiterhouse$Nets;", true)
  | 1 => ("Miterhouse$Care", "values", "LMiterhouse$Values;", true)
  | 2 => ("Miterhouse$Care", "changed", "[J", true)
  | 3 => ("Miterhouse$Care", "counts", "[I", true)
  | _ => ("Miterhouse$Care", "countedFor", "I", false)
def cY_9 : Nat → FieldType := fun k => match k with
  | 0 => (.object "Miterhouse$Nets")
  | 1 => (.object "Miterhouse$Values")
  | 2 => (.array .long)
  | 3 => (.array .int)
  | _ => .int
def cT_10 : u_T := fun k => match k with
  | 0 => ("Miterhouse$Registers", "nets", "LMiterhouse$Nets;", true)
  | 1 => ("Miterhouse$Registers", "values", "LMiterhouse$Values;", true)
  | 2 => ("Miterhouse$Registers", "leaders", "[I", true)
  | 3 => ("Miterhouse$Registers", "parted", "[I", true)
  | _ => ("Miterhouse$Registers", "foundFor", "I", false)
def cY_10 : Nat → FieldType := fun k => match k with
  | 0 => (.object "Miterhouse$Nets")
  | 1 => (.object "Miterhouse$Values")
  | 2 => (.array .int)
  | 3 => (.array .int)
  | _ => .int
def cT_11 : u_T := fun k => match k with
  | 0 => ("Miterhouse$Keys", "keys", "[J", false)
  | 1 => ("Miterhouse$Keys", "slots", "[I", false)
  | 2 => ("Miterhouse$Keys", "rounds", "[I", false)
  | 3 => ("Miterhouse$Keys", "count", "I", false)
  | _ => ("Miterhouse$Keys", "round", "I", false)
def cY_11 : Nat → FieldType := fun k => match k with
  | 0 => (.array .long)
  | 1 => (.array .int)
  | 2 => (.array .int)
  | 3 => .int
  | _ => .int
def cl6 : List vw_C := [("Miterhouse", cT_0, 3), ("Miterhouse$Nets", cT_1, 13), ("Miterhouse$Closed", cT_2, 12), ("Miterhouse$Values", cT_3, 12), ("Miterhouse$Ands", cT_4, 6), ("Miterhouse$Sweeping", cT_5, 9), ("Miterhouse$States", cT_6, 16), ("Miterhouse$Diagrams", cT_7, 11), ("Miterhouse$Cuts", cT_8, 8), ("Miterhouse$Care", cT_9, 5), ("Miterhouse$Registers", cT_10, 5), ("Miterhouse$Keys", cT_11, 5)]
theorem cU_0 : u_ws "Miterhouse" cT_0 3 = [(Jvm.Cond.laysFinal "Miterhouse" "Miterhouse" "nets" "LMiterhouse$Nets;"), (Jvm.Cond.laysFinal "Miterhouse" "Miterhouse" "coefficients" "[I"), (Jvm.Cond.lays "Miterhouse" "Miterhouse" "house" "LMiterhouse$Closed;")] := by decide +kernel
theorem cK_0 : cOK TT cl6 0 "Miterhouse" cT_0 3 cY_0 := ⟨rfl, by rw [cU_0]; exact (List.forall_mem_cons.mpr ⟨t_1_97, (List.forall_mem_cons.mpr ⟨t_1_99, (List.forall_mem_cons.mpr ⟨t_1_101, (fun _ h => absurd h List.not_mem_nil)⟩)⟩)⟩), by decide +kernel, by decide +kernel⟩
theorem cD_0 : [.null, .null, .null].all mj_pl = true := by decide
theorem cZ_0 : ∀ v ∈ ([.null, .null, .null] : List Value), v = .int 0 ∨ v = .long 0 ∨ v = .null := (List.forall_mem_cons.mpr ⟨Or.inr (Or.inr rfl), (List.forall_mem_cons.mpr ⟨Or.inr (Or.inr rfl), (List.forall_mem_cons.mpr ⟨Or.inr (Or.inr rfl), (fun _ h => absurd h List.not_mem_nil)⟩)⟩)⟩)
theorem cU_1 : u_ws "Miterhouse$Nets" cT_1 13 = [(Jvm.Cond.laysFinal "Miterhouse$Nets" "Miterhouse$Nets" "kinds" "[C"), (Jvm.Cond.laysFinal "Miterhouse$Nets" "Miterhouse$Nets" "owners" "[I"), (Jvm.Cond.laysFinal "Miterhouse$Nets" "Miterhouse$Nets" "ones" "[I"), (Jvm.Cond.laysFinal "Miterhouse$Nets" "Miterhouse$Nets" "twos" "[I"), (Jvm.Cond.laysFinal "Miterhouse$Nets" "Miterhouse$Nets" "firsts" "[I"), (Jvm.Cond.laysFinal "Miterhouse$Nets" "Miterhouse$Nets" "names" "[I"), (Jvm.Cond.laysFinal "Miterhouse$Nets" "Miterhouse$Nets" "outputs" "[I"), (Jvm.Cond.laysFinal "Miterhouse$Nets" "Miterhouse$Nets" "outputCounts" "[I"), (Jvm.Cond.laysFinal "Miterhouse$Nets" "Miterhouse$Nets" "cellCounts" "[I"), (Jvm.Cond.laysFinal "Miterhouse$Nets" "Miterhouse$Nets" "sources" "[I"), (Jvm.Cond.laysFinal "Miterhouse$Nets" "Miterhouse$Nets" "marks" "[I"), (Jvm.Cond.lays "Miterhouse$Nets" "Miterhouse$Nets" "lines" "I"), (Jvm.Cond.lays "Miterhouse$Nets" "Miterhouse$Nets" "inputs" "I")] := by decide +kernel
theorem cK_1 : cOK TT cl6 1 "Miterhouse$Nets" cT_1 13 cY_1 := ⟨rfl, by rw [cU_1]; exact (List.forall_mem_cons.mpr ⟨t_1_65, (List.forall_mem_cons.mpr ⟨t_1_67, (List.forall_mem_cons.mpr ⟨t_1_69, (List.forall_mem_cons.mpr ⟨t_1_71, (List.forall_mem_cons.mpr ⟨t_1_73, (List.forall_mem_cons.mpr ⟨t_1_75, (List.forall_mem_cons.mpr ⟨t_1_77, (List.forall_mem_cons.mpr ⟨t_1_79, (List.forall_mem_cons.mpr ⟨t_1_81, (List.forall_mem_cons.mpr ⟨t_1_83, (List.forall_mem_cons.mpr ⟨t_1_85, (List.forall_mem_cons.mpr ⟨t_1_87, (List.forall_mem_cons.mpr ⟨t_1_89, (fun _ h => absurd h List.not_mem_nil)⟩)⟩)⟩)⟩)⟩)⟩)⟩)⟩)⟩)⟩)⟩)⟩)⟩), by decide +kernel, by decide +kernel⟩
theorem cD_1 : [.null, .null, .null, .null, .null, .null, .null, .null, .null, .null, .null, .int 0, .int 0].all mj_pl = true := by decide
theorem cZ_1 : ∀ v ∈ ([.null, .null, .null, .null, .null, .null, .null, .null, .null, .null, .null, .int 0, .int 0] : List Value), v = .int 0 ∨ v = .long 0 ∨ v = .null := (List.forall_mem_cons.mpr ⟨Or.inr (Or.inr rfl), (List.forall_mem_cons.mpr ⟨Or.inr (Or.inr rfl), (List.forall_mem_cons.mpr ⟨Or.inr (Or.inr rfl), (List.forall_mem_cons.mpr ⟨Or.inr (Or.inr rfl), (List.forall_mem_cons.mpr ⟨Or.inr (Or.inr rfl), (List.forall_mem_cons.mpr ⟨Or.inr (Or.inr rfl), (List.forall_mem_cons.mpr ⟨Or.inr (Or.inr rfl), (List.forall_mem_cons.mpr ⟨Or.inr (Or.inr rfl), (List.forall_mem_cons.mpr ⟨Or.inr (Or.inr rfl), (List.forall_mem_cons.mpr ⟨Or.inr (Or.inr rfl), (List.forall_mem_cons.mpr ⟨Or.inr (Or.inr rfl), (List.forall_mem_cons.mpr ⟨Or.inl rfl, (List.forall_mem_cons.mpr ⟨Or.inl rfl, (fun _ h => absurd h List.not_mem_nil)⟩)⟩)⟩)⟩)⟩)⟩)⟩)⟩)⟩)⟩)⟩)⟩)⟩)
theorem cU_2 : u_ws "Miterhouse$Closed" cT_2 12 = [(Jvm.Cond.laysFinal "Miterhouse$Closed" "Miterhouse$Closed" "nets" "LMiterhouse$Nets;"), (Jvm.Cond.laysFinal "Miterhouse$Closed" "Miterhouse$Closed" "values" "LMiterhouse$Values;"), (Jvm.Cond.laysFinal "Miterhouse$Closed" "Miterhouse$Closed" "ands" "LMiterhouse$Ands;"), (Jvm.Cond.laysFinal "Miterhouse$Closed" "Miterhouse$Closed" "sweeping" "LMiterhouse$Sweeping;"), (Jvm.Cond.laysFinal "Miterhouse$Closed" "Miterhouse$Closed" "diagrams" "LMiterhouse$Diagrams;"), (Jvm.Cond.laysFinal "Miterhouse$Closed" "Miterhouse$Closed" "cutsOfTwo" "LMiterhouse$Cuts;"), (Jvm.Cond.laysFinal "Miterhouse$Closed" "Miterhouse$Closed" "cutsOfThree" "LMiterhouse$Cuts;"), (Jvm.Cond.laysFinal "Miterhouse$Closed" "Miterhouse$Closed" "cutsOfFour" "LMiterhouse$Cuts;"), (Jvm.Cond.laysFinal "Miterhouse$Closed" "Miterhouse$Closed" "care" "LMiterhouse$Care;"), (Jvm.Cond.laysFinal "Miterhouse$Closed" "Miterhouse$Closed" "registers" "LMiterhouse$Registers;"), (Jvm.Cond.laysFinal "Miterhouse$Closed" "Miterhouse$Closed" "states" "LMiterhouse$States;"), (Jvm.Cond.laysFinal "Miterhouse$Closed" "Miterhouse$Closed" "nodeWords" "[J")] := by decide +kernel
theorem cK_2 : cOK TT cl6 2 "Miterhouse$Closed" cT_2 12 cY_2 := ⟨rfl, by rw [cU_2]; exact (List.forall_mem_cons.mpr ⟨t_4_211, (List.forall_mem_cons.mpr ⟨t_4_213, (List.forall_mem_cons.mpr ⟨t_4_215, (List.forall_mem_cons.mpr ⟨t_4_217, (List.forall_mem_cons.mpr ⟨t_4_219, (List.forall_mem_cons.mpr ⟨t_4_221, (List.forall_mem_cons.mpr ⟨t_4_223, (List.forall_mem_cons.mpr ⟨t_4_225, (List.forall_mem_cons.mpr ⟨t_4_227, (List.forall_mem_cons.mpr ⟨t_4_229, (List.forall_mem_cons.mpr ⟨t_4_231, (List.forall_mem_cons.mpr ⟨t_4_233, (fun _ h => absurd h List.not_mem_nil)⟩)⟩)⟩)⟩)⟩)⟩)⟩)⟩)⟩)⟩)⟩)⟩), by decide +kernel, by decide +kernel⟩
theorem cD_2 : [.null, .null, .null, .null, .null, .null, .null, .null, .null, .null, .null, .null].all mj_pl = true := by decide
theorem cZ_2 : ∀ v ∈ ([.null, .null, .null, .null, .null, .null, .null, .null, .null, .null, .null, .null] : List Value), v = .int 0 ∨ v = .long 0 ∨ v = .null := (List.forall_mem_cons.mpr ⟨Or.inr (Or.inr rfl), (List.forall_mem_cons.mpr ⟨Or.inr (Or.inr rfl), (List.forall_mem_cons.mpr ⟨Or.inr (Or.inr rfl), (List.forall_mem_cons.mpr ⟨Or.inr (Or.inr rfl), (List.forall_mem_cons.mpr ⟨Or.inr (Or.inr rfl), (List.forall_mem_cons.mpr ⟨Or.inr (Or.inr rfl), (List.forall_mem_cons.mpr ⟨Or.inr (Or.inr rfl), (List.forall_mem_cons.mpr ⟨Or.inr (Or.inr rfl), (List.forall_mem_cons.mpr ⟨Or.inr (Or.inr rfl), (List.forall_mem_cons.mpr ⟨Or.inr (Or.inr rfl), (List.forall_mem_cons.mpr ⟨Or.inr (Or.inr rfl), (List.forall_mem_cons.mpr ⟨Or.inr (Or.inr rfl), (fun _ h => absurd h List.not_mem_nil)⟩)⟩)⟩)⟩)⟩)⟩)⟩)⟩)⟩)⟩)⟩)⟩)
theorem cU_3 : u_ws "Miterhouse$Values" cT_3 12 = [(Jvm.Cond.laysFinal "Miterhouse$Values" "Miterhouse$Values" "nets" "LMiterhouse$Nets;"), (Jvm.Cond.laysFinal "Miterhouse$Values" "Miterhouse$Values" "sources" "I"), (Jvm.Cond.laysFinal "Miterhouse$Values" "Miterhouse$Values" "words" "I"), (Jvm.Cond.laysFinal "Miterhouse$Values" "Miterhouse$Values" "every" "J"), (Jvm.Cond.laysFinal "Miterhouse$Values" "Miterhouse$Values" "held" "[J"), (Jvm.Cond.laysFinal "Miterhouse$Values" "Miterhouse$Values" "knownZeros" "[J"), (Jvm.Cond.laysFinal "Miterhouse$Values" "Miterhouse$Values" "knownOnes" "[J"), (Jvm.Cond.laysFinal "Miterhouse$Values" "Miterhouse$Values" "kept" "[J"), (Jvm.Cond.laysFinal "Miterhouse$Values" "Miterhouse$Values" "refuted" "[J"), (Jvm.Cond.lays "Miterhouse$Values" "Miterhouse$Values" "constraints" "I"), (Jvm.Cond.lays "Miterhouse$Values" "Miterhouse$Values" "keptChoices" "I"), (Jvm.Cond.lays "Miterhouse$Values" "Miterhouse$Values" "keptInputs" "J")] := by decide +kernel
theorem cK_3 : cOK TT cl6 3 "Miterhouse$Values" cT_3 12 cY_3 := ⟨rfl, by rw [cU_3]; exact (List.forall_mem_cons.mpr ⟨t_3_148, (List.forall_mem_cons.mpr ⟨t_3_150, (List.forall_mem_cons.mpr ⟨t_3_152, (List.forall_mem_cons.mpr ⟨t_3_154, (List.forall_mem_cons.mpr ⟨t_3_156, (List.forall_mem_cons.mpr ⟨t_3_158, (List.forall_mem_cons.mpr ⟨t_3_160, (List.forall_mem_cons.mpr ⟨t_3_162, (List.forall_mem_cons.mpr ⟨t_3_164, (List.forall_mem_cons.mpr ⟨t_3_166, (List.forall_mem_cons.mpr ⟨t_3_168, (List.forall_mem_cons.mpr ⟨t_3_170, (fun _ h => absurd h List.not_mem_nil)⟩)⟩)⟩)⟩)⟩)⟩)⟩)⟩)⟩)⟩)⟩)⟩), by decide +kernel, by decide +kernel⟩
theorem cD_3 : [.null, .int 0, .int 0, .long 0, .null, .null, .null, .null, .null, .int 0, .int 0, .long 0].all mj_pl = true := by decide
theorem cZ_3 : ∀ v ∈ ([.null, .int 0, .int 0, .long 0, .null, .null, .null, .null, .null, .int 0, .int 0, .long 0] : List Value), v = .int 0 ∨ v = .long 0 ∨ v = .null := (List.forall_mem_cons.mpr ⟨Or.inr (Or.inr rfl), (List.forall_mem_cons.mpr ⟨Or.inl rfl, (List.forall_mem_cons.mpr ⟨Or.inl rfl, (List.forall_mem_cons.mpr ⟨Or.inr (Or.inl rfl), (List.forall_mem_cons.mpr ⟨Or.inr (Or.inr rfl), (List.forall_mem_cons.mpr ⟨Or.inr (Or.inr rfl), (List.forall_mem_cons.mpr ⟨Or.inr (Or.inr rfl), (List.forall_mem_cons.mpr ⟨Or.inr (Or.inr rfl), (List.forall_mem_cons.mpr ⟨Or.inr (Or.inr rfl), (List.forall_mem_cons.mpr ⟨Or.inl rfl, (List.forall_mem_cons.mpr ⟨Or.inl rfl, (List.forall_mem_cons.mpr ⟨Or.inr (Or.inl rfl), (fun _ h => absurd h List.not_mem_nil)⟩)⟩)⟩)⟩)⟩)⟩)⟩)⟩)⟩)⟩)⟩)⟩)
theorem cU_4 : u_ws "Miterhouse$Ands" cT_4 6 = [(Jvm.Cond.laysFinal "Miterhouse$Ands" "Miterhouse$Ands" "nets" "LMiterhouse$Nets;"), (Jvm.Cond.laysFinal "Miterhouse$Ands" "Miterhouse$Ands" "lesser" "[I"), (Jvm.Cond.laysFinal "Miterhouse$Ands" "Miterhouse$Ands" "greater" "[I"), (Jvm.Cond.laysFinal "Miterhouse$Ands" "Miterhouse$Ands" "literals" "[I"), (Jvm.Cond.laysFinal "Miterhouse$Ands" "Miterhouse$Ands" "firstAnd" "I"), (Jvm.Cond.lays "Miterhouse$Ands" "Miterhouse$Ands" "nodes" "I")] := by decide +kernel
theorem cK_4 : cOK TT cl6 4 "Miterhouse$Ands" cT_4 6 cY_4 := ⟨rfl, by rw [cU_4]; exact (List.forall_mem_cons.mpr ⟨t_3_188, (List.forall_mem_cons.mpr ⟨t_3_190, (List.forall_mem_cons.mpr ⟨t_3_192, (List.forall_mem_cons.mpr ⟨t_3_194, (List.forall_mem_cons.mpr ⟨t_3_196, (List.forall_mem_cons.mpr ⟨t_3_198, (fun _ h => absurd h List.not_mem_nil)⟩)⟩)⟩)⟩)⟩)⟩), by decide +kernel, by decide +kernel⟩
theorem cD_4 : [.null, .null, .null, .null, .int 0, .int 0].all mj_pl = true := by decide
theorem cZ_4 : ∀ v ∈ ([.null, .null, .null, .null, .int 0, .int 0] : List Value), v = .int 0 ∨ v = .long 0 ∨ v = .null := (List.forall_mem_cons.mpr ⟨Or.inr (Or.inr rfl), (List.forall_mem_cons.mpr ⟨Or.inr (Or.inr rfl), (List.forall_mem_cons.mpr ⟨Or.inr (Or.inr rfl), (List.forall_mem_cons.mpr ⟨Or.inr (Or.inr rfl), (List.forall_mem_cons.mpr ⟨Or.inl rfl, (List.forall_mem_cons.mpr ⟨Or.inl rfl, (fun _ h => absurd h List.not_mem_nil)⟩)⟩)⟩)⟩)⟩)⟩)
theorem cU_5 : u_ws "Miterhouse$Sweeping" cT_5 9 = [(Jvm.Cond.laysFinal "Miterhouse$Sweeping" "Miterhouse$Sweeping" "nets" "LMiterhouse$Nets;"), (Jvm.Cond.laysFinal "Miterhouse$Sweeping" "Miterhouse$Sweeping" "values" "LMiterhouse$Values;"), (Jvm.Cond.laysFinal "Miterhouse$Sweeping" "Miterhouse$Sweeping" "signatures" "[J"), (Jvm.Cond.laysFinal "Miterhouse$Sweeping" "Miterhouse$Sweeping" "targets" "[I"), (Jvm.Cond.lays "Miterhouse$Sweeping" "Miterhouse$Sweeping" "patternCount" "I"), (Jvm.Cond.lays "Miterhouse$Sweeping" "Miterhouse$Sweeping" "mergedCount" "I"), (Jvm.Cond.lays "Miterhouse$Sweeping" "Miterhouse$Sweeping" "proofSum" "J"), (Jvm.Cond.lays "Miterhouse$Sweeping" "Miterhouse$Sweeping" "leaves" "I"), (Jvm.Cond.lays "Miterhouse$Sweeping" "Miterhouse$Sweeping" "witness" "I")] := by decide +kernel
theorem cK_5 : cOK TT cl6 5 "Miterhouse$Sweeping" cT_5 9 cY_5 := ⟨rfl, by rw [cU_5]; exact (List.forall_mem_cons.mpr ⟨t_3_219, (List.forall_mem_cons.mpr ⟨t_3_221, (List.forall_mem_cons.mpr ⟨t_3_223, (List.forall_mem_cons.mpr ⟨t_3_225, (List.forall_mem_cons.mpr ⟨t_3_227, (List.forall_mem_cons.mpr ⟨t_3_229, (List.forall_mem_cons.mpr ⟨t_3_231, (List.forall_mem_cons.mpr ⟨t_3_233, (List.forall_mem_cons.mpr ⟨t_3_235, (fun _ h => absurd h List.not_mem_nil)⟩)⟩)⟩)⟩)⟩)⟩)⟩)⟩)⟩), by decide +kernel, by decide +kernel⟩
theorem cD_5 : [.null, .null, .null, .null, .int 0, .int 0, .long 0, .int 0, .int 0].all mj_pl = true := by decide
theorem cZ_5 : ∀ v ∈ ([.null, .null, .null, .null, .int 0, .int 0, .long 0, .int 0, .int 0] : List Value), v = .int 0 ∨ v = .long 0 ∨ v = .null := (List.forall_mem_cons.mpr ⟨Or.inr (Or.inr rfl), (List.forall_mem_cons.mpr ⟨Or.inr (Or.inr rfl), (List.forall_mem_cons.mpr ⟨Or.inr (Or.inr rfl), (List.forall_mem_cons.mpr ⟨Or.inr (Or.inr rfl), (List.forall_mem_cons.mpr ⟨Or.inl rfl, (List.forall_mem_cons.mpr ⟨Or.inl rfl, (List.forall_mem_cons.mpr ⟨Or.inr (Or.inl rfl), (List.forall_mem_cons.mpr ⟨Or.inl rfl, (List.forall_mem_cons.mpr ⟨Or.inl rfl, (fun _ h => absurd h List.not_mem_nil)⟩)⟩)⟩)⟩)⟩)⟩)⟩)⟩)⟩)
theorem cU_6 : u_ws "Miterhouse$States" cT_6 16 = [(Jvm.Cond.laysFinal "Miterhouse$States" "Miterhouse$States" "nets" "LMiterhouse$Nets;"), (Jvm.Cond.laysFinal "Miterhouse$States" "Miterhouse$States" "values" "LMiterhouse$Values;"), (Jvm.Cond.laysFinal "Miterhouse$States" "Miterhouse$States" "inputs" "I"), (Jvm.Cond.laysFinal "Miterhouse$States" "Miterhouse$States" "stateCount" "I"), (Jvm.Cond.laysFinal "Miterhouse$States" "Miterhouse$States" "follow" "[I"), (Jvm.Cond.laysFinal "Miterhouse$States" "Miterhouse$States" "queue" "[I"), (Jvm.Cond.laysFinal "Miterhouse$States" "Miterhouse$States" "from" "[I"), (Jvm.Cond.laysFinal "Miterhouse$States" "Miterhouse$States" "by" "[I"), (Jvm.Cond.laysFinal "Miterhouse$States" "Miterhouse$States" "depths" "[I"), (Jvm.Cond.laysFinal "Miterhouse$States" "Miterhouse$States" "traced" "[I"), (Jvm.Cond.laysFinal "Miterhouse$States" "Miterhouse$States" "marks" "[I"), (Jvm.Cond.laysFinal "Miterhouse$States" "Miterhouse$States" "nextMarks" "[I"), (Jvm.Cond.lays "Miterhouse$States" "Miterhouse$States" "isFollowKnown" "Z"), (Jvm.Cond.lays "Miterhouse$States" "Miterhouse$States" "searchedFor" "I"), (Jvm.Cond.lays "Miterhouse$States" "Miterhouse$States" "reachedCount" "I"), (Jvm.Cond.lays "Miterhouse$States" "Miterhouse$States" "differsAt" "I")] := by decide +kernel
theorem cK_6 : cOK TT cl6 6 "Miterhouse$States" cT_6 16 cY_6 := ⟨rfl, by rw [cU_6]; exact (List.forall_mem_cons.mpr ⟨t_4_162, (List.forall_mem_cons.mpr ⟨t_4_164, (List.forall_mem_cons.mpr ⟨t_4_166, (List.forall_mem_cons.mpr ⟨t_4_168, (List.forall_mem_cons.mpr ⟨t_4_170, (List.forall_mem_cons.mpr ⟨t_4_172, (List.forall_mem_cons.mpr ⟨t_4_174, (List.forall_mem_cons.mpr ⟨t_4_176, (List.forall_mem_cons.mpr ⟨t_4_178, (List.forall_mem_cons.mpr ⟨t_4_180, (List.forall_mem_cons.mpr ⟨t_4_182, (List.forall_mem_cons.mpr ⟨t_4_184, (List.forall_mem_cons.mpr ⟨t_4_186, (List.forall_mem_cons.mpr ⟨t_4_188, (List.forall_mem_cons.mpr ⟨t_4_190, (List.forall_mem_cons.mpr ⟨t_4_192, (fun _ h => absurd h List.not_mem_nil)⟩)⟩)⟩)⟩)⟩)⟩)⟩)⟩)⟩)⟩)⟩)⟩)⟩)⟩)⟩)⟩), by decide +kernel, by decide +kernel⟩
theorem cD_6 : [.null, .null, .int 0, .int 0, .null, .null, .null, .null, .null, .null, .null, .null, .int 0, .int 0, .int 0, .int 0].all mj_pl = true := by decide
theorem cZ_6 : ∀ v ∈ ([.null, .null, .int 0, .int 0, .null, .null, .null, .null, .null, .null, .null, .null, .int 0, .int 0, .int 0, .int 0] : List Value), v = .int 0 ∨ v = .long 0 ∨ v = .null := (List.forall_mem_cons.mpr ⟨Or.inr (Or.inr rfl), (List.forall_mem_cons.mpr ⟨Or.inr (Or.inr rfl), (List.forall_mem_cons.mpr ⟨Or.inl rfl, (List.forall_mem_cons.mpr ⟨Or.inl rfl, (List.forall_mem_cons.mpr ⟨Or.inr (Or.inr rfl), (List.forall_mem_cons.mpr ⟨Or.inr (Or.inr rfl), (List.forall_mem_cons.mpr ⟨Or.inr (Or.inr rfl), (List.forall_mem_cons.mpr ⟨Or.inr (Or.inr rfl), (List.forall_mem_cons.mpr ⟨Or.inr (Or.inr rfl), (List.forall_mem_cons.mpr ⟨Or.inr (Or.inr rfl), (List.forall_mem_cons.mpr ⟨Or.inr (Or.inr rfl), (List.forall_mem_cons.mpr ⟨Or.inr (Or.inr rfl), (List.forall_mem_cons.mpr ⟨Or.inl rfl, (List.forall_mem_cons.mpr ⟨Or.inl rfl, (List.forall_mem_cons.mpr ⟨Or.inl rfl, (List.forall_mem_cons.mpr ⟨Or.inl rfl, (fun _ h => absurd h List.not_mem_nil)⟩)⟩)⟩)⟩)⟩)⟩)⟩)⟩)⟩)⟩)⟩)⟩)⟩)⟩)⟩)⟩)
theorem cU_7 : u_ws "Miterhouse$Diagrams" cT_7 11 = [(Jvm.Cond.laysFinal "Miterhouse$Diagrams" "Miterhouse$Diagrams" "nets" "LMiterhouse$Nets;"), (Jvm.Cond.laysFinal "Miterhouse$Diagrams" "Miterhouse$Diagrams" "values" "LMiterhouse$Values;"), (Jvm.Cond.laysFinal "Miterhouse$Diagrams" "Miterhouse$Diagrams" "sources" "I"), (Jvm.Cond.laysFinal "Miterhouse$Diagrams" "Miterhouse$Diagrams" "words" "I"), (Jvm.Cond.laysFinal "Miterhouse$Diagrams" "Miterhouse$Diagrams" "order" "[I"), (Jvm.Cond.laysFinal "Miterhouse$Diagrams" "Miterhouse$Diagrams" "standing" "[I"), (Jvm.Cond.laysFinal "Miterhouse$Diagrams" "Miterhouse$Diagrams" "tables" "[J"), (Jvm.Cond.laysFinal "Miterhouse$Diagrams" "Miterhouse$Diagrams" "parts" "[I"), (Jvm.Cond.laysFinal "Miterhouse$Diagrams" "Miterhouse$Diagrams" "firstKeys" "LMiterhouse$Keys;"), (Jvm.Cond.laysFinal "Miterhouse$Diagrams" "Miterhouse$Diagrams" "secondKeys" "LMiterhouse$Keys;"), (Jvm.Cond.lays "Miterhouse$Diagrams" "Miterhouse$Diagrams" "used" "I")] := by decide +kernel
theorem cK_7 : cOK TT cl6 7 "Miterhouse$Diagrams" cT_7 11 cY_7 := ⟨rfl, by rw [cU_7]; exact (List.forall_mem_cons.mpr ⟨t_4_37, (List.forall_mem_cons.mpr ⟨t_4_39, (List.forall_mem_cons.mpr ⟨t_4_41, (List.forall_mem_cons.mpr ⟨t_4_43, (List.forall_mem_cons.mpr ⟨t_4_45, (List.forall_mem_cons.mpr ⟨t_4_47, (List.forall_mem_cons.mpr ⟨t_4_49, (List.forall_mem_cons.mpr ⟨t_4_51, (List.forall_mem_cons.mpr ⟨t_4_53, (List.forall_mem_cons.mpr ⟨t_4_55, (List.forall_mem_cons.mpr ⟨t_4_57, (fun _ h => absurd h List.not_mem_nil)⟩)⟩)⟩)⟩)⟩)⟩)⟩)⟩)⟩)⟩)⟩), by decide +kernel, by decide +kernel⟩
theorem cD_7 : [.null, .null, .int 0, .int 0, .null, .null, .null, .null, .null, .null, .int 0].all mj_pl = true := by decide
theorem cZ_7 : ∀ v ∈ ([.null, .null, .int 0, .int 0, .null, .null, .null, .null, .null, .null, .int 0] : List Value), v = .int 0 ∨ v = .long 0 ∨ v = .null := (List.forall_mem_cons.mpr ⟨Or.inr (Or.inr rfl), (List.forall_mem_cons.mpr ⟨Or.inr (Or.inr rfl), (List.forall_mem_cons.mpr ⟨Or.inl rfl, (List.forall_mem_cons.mpr ⟨Or.inl rfl, (List.forall_mem_cons.mpr ⟨Or.inr (Or.inr rfl), (List.forall_mem_cons.mpr ⟨Or.inr (Or.inr rfl), (List.forall_mem_cons.mpr ⟨Or.inr (Or.inr rfl), (List.forall_mem_cons.mpr ⟨Or.inr (Or.inr rfl), (List.forall_mem_cons.mpr ⟨Or.inr (Or.inr rfl), (List.forall_mem_cons.mpr ⟨Or.inr (Or.inr rfl), (List.forall_mem_cons.mpr ⟨Or.inl rfl, (fun _ h => absurd h List.not_mem_nil)⟩)⟩)⟩)⟩)⟩)⟩)⟩)⟩)⟩)⟩)⟩)
theorem cU_8 : u_ws "Miterhouse$Cuts" cT_8 8 = [(Jvm.Cond.laysFinal "Miterhouse$Cuts" "Miterhouse$Cuts" "ands" "LMiterhouse$Ands;"), (Jvm.Cond.laysFinal "Miterhouse$Cuts" "Miterhouse$Cuts" "most" "I"), (Jvm.Cond.laysFinal "Miterhouse$Cuts" "Miterhouse$Cuts" "starts" "[I"), (Jvm.Cond.laysFinal "Miterhouse$Cuts" "Miterhouse$Cuts" "held" "[I"), (Jvm.Cond.laysFinal "Miterhouse$Cuts" "Miterhouse$Cuts" "unions" "LMiterhouse$Keys;"), (Jvm.Cond.lays "Miterhouse$Cuts" "Miterhouse$Cuts" "pool" "[J"), (Jvm.Cond.lays "Miterhouse$Cuts" "Miterhouse$Cuts" "used" "I"), (Jvm.Cond.lays "Miterhouse$Cuts" "Miterhouse$Cuts" "isBuilt" "Z")] := by decide +kernel
theorem cK_8 : cOK TT cl6 8 "Miterhouse$Cuts" cT_8 8 cY_8 := ⟨rfl, by rw [cU_8]; exact (List.forall_mem_cons.mpr ⟨t_4_76, (List.forall_mem_cons.mpr ⟨t_4_78, (List.forall_mem_cons.mpr ⟨t_4_80, (List.forall_mem_cons.mpr ⟨t_4_82, (List.forall_mem_cons.mpr ⟨t_4_84, (List.forall_mem_cons.mpr ⟨t_4_86, (List.forall_mem_cons.mpr ⟨t_4_88, (List.forall_mem_cons.mpr ⟨t_4_90, (fun _ h => absurd h List.not_mem_nil)⟩)⟩)⟩)⟩)⟩)⟩)⟩)⟩), by decide +kernel, by decide +kernel⟩
theorem cD_8 : [.null, .int 0, .null, .null, .null, .null, .int 0, .int 0].all mj_pl = true := by decide
theorem cZ_8 : ∀ v ∈ ([.null, .int 0, .null, .null, .null, .null, .int 0, .int 0] : List Value), v = .int 0 ∨ v = .long 0 ∨ v = .null := (List.forall_mem_cons.mpr ⟨Or.inr (Or.inr rfl), (List.forall_mem_cons.mpr ⟨Or.inl rfl, (List.forall_mem_cons.mpr ⟨Or.inr (Or.inr rfl), (List.forall_mem_cons.mpr ⟨Or.inr (Or.inr rfl), (List.forall_mem_cons.mpr ⟨Or.inr (Or.inr rfl), (List.forall_mem_cons.mpr ⟨Or.inr (Or.inr rfl), (List.forall_mem_cons.mpr ⟨Or.inl rfl, (List.forall_mem_cons.mpr ⟨Or.inl rfl, (fun _ h => absurd h List.not_mem_nil)⟩)⟩)⟩)⟩)⟩)⟩)⟩)⟩)
theorem cU_9 : u_ws "Miterhouse$Care" cT_9 5 = [(Jvm.Cond.laysFinal "Miterhouse$Care" "Miterhouse$Care" "nets" "LMiterhouse$Nets;"), (Jvm.Cond.laysFinal "Miterhouse$Care" "Miterhouse$Care" "values" "LMiterhouse$Values;"), (Jvm.Cond.laysFinal "Miterhouse$Care" "Miterhouse$Care" "changed" "[J"), (Jvm.Cond.laysFinal "Miterhouse$Care" "Miterhouse$Care" "counts" "[I"), (Jvm.Cond.lays "Miterhouse$Care" "Miterhouse$Care" "countedFor" "I")] := by decide +kernel
theorem cK_9 : cOK TT cl6 9 "Miterhouse$Care" cT_9 5 cY_9 := ⟨rfl, by rw [cU_9]; exact (List.forall_mem_cons.mpr ⟨t_4_104, (List.forall_mem_cons.mpr ⟨t_4_106, (List.forall_mem_cons.mpr ⟨t_4_108, (List.forall_mem_cons.mpr ⟨t_4_110, (List.forall_mem_cons.mpr ⟨t_4_112, (fun _ h => absurd h List.not_mem_nil)⟩)⟩)⟩)⟩)⟩), by decide +kernel, by decide +kernel⟩
theorem cD_9 : [.null, .null, .null, .null, .int 0].all mj_pl = true := by decide
theorem cZ_9 : ∀ v ∈ ([.null, .null, .null, .null, .int 0] : List Value), v = .int 0 ∨ v = .long 0 ∨ v = .null := (List.forall_mem_cons.mpr ⟨Or.inr (Or.inr rfl), (List.forall_mem_cons.mpr ⟨Or.inr (Or.inr rfl), (List.forall_mem_cons.mpr ⟨Or.inr (Or.inr rfl), (List.forall_mem_cons.mpr ⟨Or.inr (Or.inr rfl), (List.forall_mem_cons.mpr ⟨Or.inl rfl, (fun _ h => absurd h List.not_mem_nil)⟩)⟩)⟩)⟩)⟩)
theorem cU_10 : u_ws "Miterhouse$Registers" cT_10 5 = [(Jvm.Cond.laysFinal "Miterhouse$Registers" "Miterhouse$Registers" "nets" "LMiterhouse$Nets;"), (Jvm.Cond.laysFinal "Miterhouse$Registers" "Miterhouse$Registers" "values" "LMiterhouse$Values;"), (Jvm.Cond.laysFinal "Miterhouse$Registers" "Miterhouse$Registers" "leaders" "[I"), (Jvm.Cond.laysFinal "Miterhouse$Registers" "Miterhouse$Registers" "parted" "[I"), (Jvm.Cond.lays "Miterhouse$Registers" "Miterhouse$Registers" "foundFor" "I")] := by decide +kernel
theorem cK_10 : cOK TT cl6 10 "Miterhouse$Registers" cT_10 5 cY_10 := ⟨rfl, by rw [cU_10]; exact (List.forall_mem_cons.mpr ⟨t_4_126, (List.forall_mem_cons.mpr ⟨t_4_128, (List.forall_mem_cons.mpr ⟨t_4_130, (List.forall_mem_cons.mpr ⟨t_4_132, (List.forall_mem_cons.mpr ⟨t_4_134, (fun _ h => absurd h List.not_mem_nil)⟩)⟩)⟩)⟩)⟩), by decide +kernel, by decide +kernel⟩
theorem cD_10 : [.null, .null, .null, .null, .int 0].all mj_pl = true := by decide
theorem cZ_10 : ∀ v ∈ ([.null, .null, .null, .null, .int 0] : List Value), v = .int 0 ∨ v = .long 0 ∨ v = .null := (List.forall_mem_cons.mpr ⟨Or.inr (Or.inr rfl), (List.forall_mem_cons.mpr ⟨Or.inr (Or.inr rfl), (List.forall_mem_cons.mpr ⟨Or.inr (Or.inr rfl), (List.forall_mem_cons.mpr ⟨Or.inr (Or.inr rfl), (List.forall_mem_cons.mpr ⟨Or.inl rfl, (fun _ h => absurd h List.not_mem_nil)⟩)⟩)⟩)⟩)⟩)
theorem cU_11 : u_ws "Miterhouse$Keys" cT_11 5 = [(Jvm.Cond.lays "Miterhouse$Keys" "Miterhouse$Keys" "keys" "[J"), (Jvm.Cond.lays "Miterhouse$Keys" "Miterhouse$Keys" "slots" "[I"), (Jvm.Cond.lays "Miterhouse$Keys" "Miterhouse$Keys" "rounds" "[I"), (Jvm.Cond.lays "Miterhouse$Keys" "Miterhouse$Keys" "count" "I"), (Jvm.Cond.lays "Miterhouse$Keys" "Miterhouse$Keys" "round" "I")] := by decide +kernel
theorem cK_11 : cOK TT cl6 11 "Miterhouse$Keys" cT_11 5 cY_11 := ⟨rfl, by rw [cU_11]; exact (List.forall_mem_cons.mpr ⟨t_4_15, (List.forall_mem_cons.mpr ⟨t_4_17, (List.forall_mem_cons.mpr ⟨t_4_19, (List.forall_mem_cons.mpr ⟨t_4_21, (List.forall_mem_cons.mpr ⟨t_4_23, (fun _ h => absurd h List.not_mem_nil)⟩)⟩)⟩)⟩)⟩), by decide +kernel, by decide +kernel⟩
theorem cD_11 : [.null, .null, .null, .int 0, .int 0].all mj_pl = true := by decide
theorem cZ_11 : ∀ v ∈ ([.null, .null, .null, .int 0, .int 0] : List Value), v = .int 0 ∨ v = .long 0 ∨ v = .null := (List.forall_mem_cons.mpr ⟨Or.inr (Or.inr rfl), (List.forall_mem_cons.mpr ⟨Or.inr (Or.inr rfl), (List.forall_mem_cons.mpr ⟨Or.inr (Or.inr rfl), (List.forall_mem_cons.mpr ⟨Or.inl rfl, (List.forall_mem_cons.mpr ⟨Or.inl rfl, (fun _ h => absurd h List.not_mem_nil)⟩)⟩)⟩)⟩)⟩)
def exn : List String := ["java/lang/RuntimeException", "java/lang/Exception"]
theorem thr_in {ws : List Cond} (h : ws.all (fun w => mj_pw w && lw_tbl.contains w) = true) : ∀ w ∈ ws, w ∈ TT := fun w hw => by
  have h1 := List.all_eq_true.mp h w hw
  rw [Bool.and_eq_true] at h1
  exact List.mem_filter.mpr ⟨List.contains_iff_mem.mp h1.2, h1.1⟩
theorem tA_int : Cond.arrayClass .int ∈ TT := t_1_93
theorem tA_boolean : Cond.arrayClass .boolean ∈ TT := t_6_148
theorem tA_char : Cond.arrayClass .char ∈ TT := t_1_92
theorem tA_long : Cond.arrayClass .long ∈ TT := t_3_173
end TT1
