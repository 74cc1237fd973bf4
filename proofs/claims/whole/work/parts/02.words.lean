/-- the words of the tables that every method may have -/
def gw : List Cond := lw_tbl.filter goodWord
theorem gw_t {w : Cond} {i : Nat} (h : tables_1[i]? = some w) (hg : goodWord w = true) : w ∈ gw := List.mem_filter.mpr ⟨List.mem_append_right _ (List.mem_of_getElem? h), hg⟩
theorem gw_s {w : Cond} (h : w ∈ k2_sels lw_privs) (hg : goodWord w = true) : w ∈ gw := List.mem_filter.mpr ⟨List.mem_append_left _ h, hg⟩
theorem gw_ok {w : Cond} (h : w ∈ gw) : w ∈ gw ∧ ((w.onTables && w.keeps) = true ∨ ∃ ty, w = .arrayClass ty) := ⟨h, good_of_word (List.mem_filter.mp h).2⟩
theorem gi_V {own C : String} {idx : Nat} {y : MethodName} {c9 : Cond} (m1 : Cond.methodLink own idx y ∈ gw) (m2 : Cond.instanceMethod y ∈ gw) (m3 : Cond.selects C y y ∈ gw) (m4 : Cond.initialized C ∈ gw) (m5 : c9 ∈ gw) : GoodIn gw (wsV own idx C y (c9 :: gw)) := by
  intro w hw
  apply gw_ok
  unfold wsV at hw
  rcases List.mem_append.mp hw with h | h
  · rcases List.mem_cons.mp h with rfl | h
    · exact m1
    · rcases List.mem_cons.mp h with rfl | h
      · exact m2
      · rcases List.mem_cons.mp h with rfl | h
        · exact m3
        · rcases List.mem_cons.mp h with rfl | h
          · exact m4
          · cases h
  · rcases List.mem_cons.mp h with rfl | h
    · exact m5
    · exact h
theorem gi_S {own : String} {idx : Nat} {y : MethodName} {c9 : Cond} (m1 : Cond.methodLink own idx y ∈ gw) (m2 : Cond.static y ∈ gw) (m4 : Cond.initialized y.cls ∈ gw) (m5 : c9 ∈ gw) : GoodIn gw (va_wsS own idx y (c9 :: gw)) := by
  intro w hw
  apply gw_ok
  unfold va_wsS at hw
  rcases List.mem_append.mp hw with h | h
  · rcases List.mem_cons.mp h with rfl | h
    · exact m1
    · rcases List.mem_cons.mp h with rfl | h
      · exact m2
      · rcases List.mem_cons.mp h with rfl | h
        · exact m4
        · cases h
  · rcases List.mem_cons.mp h with rfl | h
    · exact m5
    · exact h
theorem gi_I {c9 : Cond} (m5 : c9 ∈ gw) : GoodIn gw (c9 :: gw) := by
  intro w hw
  apply gw_ok
  rcases List.mem_cons.mp hw with rfl | h
  · exact m5
  · exact h
abbrev RX0 : String := "StageLayer"
def TX0 : u_T := fun k => match k with
  | 0 => ("StageLayer", "readsOf", "[J", true)
  | 1 => ("StageLayer", "writesOf", "[J", true)
  | 2 => ("StageLayer", "arrayOf", "[I", true)
  | 3 => ("StageLayer", "ifAround", "[I", true)
  | 4 => ("StageLayer", "memoryOf", "[I", true)
  | 5 => ("StageLayer", "wiresOf", "[I", true)
  | 6 => ("StageLayer", "stageOf", "[I", true)
  | 7 => ("StageLayer", "openIfs", "[I", true)
  | 8 => ("StageLayer", "stepsIn", "[I", true)
  | 9 => ("StageLayer", "memoryIn", "[I", true)
  | 10 => ("StageLayer", "wiresIn", "[I", true)
  | 11 => ("StageLayer", "steps", "I", false)
  | 12 => ("StageLayer", "tables", "I", false)
  | 13 => ("StageLayer", "ifsOpen", "I", false)
  | 14 => ("StageLayer", "placesRead", "I", false)
  | 15 => ("StageLayer", "stagesLaid", "I", false)
  | _ => ("StageLayer", "homelessStep", "I", false)
def tyX0 : Nat → FieldType := fun k => match k with
  | 0 => .array .long
  | 1 => .array .long
  | 2 => .array .int
  | 3 => .array .int
  | 4 => .array .int
  | 5 => .array .int
  | 6 => .array .int
  | 7 => .array .int
  | 8 => .array .int
  | 9 => .array .int
  | 10 => .array .int
  | 11 => .int
  | 12 => .int
  | 13 => .int
  | 14 => .int
  | 15 => .int
  | _ => .int
theorem nmX0 : ∀ a, a < 17 → ∀ b, b < 17 → a ≠ b → (TX0 a).2.1 ≠ (TX0 b).2.1 := by decide +kernel
theorem tyX0_ok : ∀ k, k < 17 → parseFieldDescriptor (TX0 k).2.2.1 = some (tyX0 k) := by decide +kernel
set_option maxRecDepth 20000 in
theorem inX0 : ∀ w ∈ u_ws RX0 TX0 17, w ∈ gw := by decide +kernel
abbrev RX1 : String := "StageLayerModel"
def TX1 : u_T := fun k => match k with
  | 0 => ("StageLayerModel", "thrown", "I", false)
  | 1 => ("StageLayerModel", "steps", "I", false)
  | 2 => ("StageLayerModel", "readings", "I", false)
  | 3 => ("StageLayerModel", "tables", "I", false)
  | 4 => ("StageLayerModel", "opened", "I", false)
  | 5 => ("StageLayerModel", "reads", "[Z", true)
  | 6 => ("StageLayerModel", "writes", "[Z", true)
  | 7 => ("StageLayerModel", "arrays", "[I", true)
  | 8 => ("StageLayerModel", "memories", "[I", true)
  | 9 => ("StageLayerModel", "wires", "[I", true)
  | 10 => ("StageLayerModel", "isIf", "[Z", true)
  | 11 => ("StageLayerModel", "within", "[I", true)
  | 12 => ("StageLayerModel", "inner", "I", false)
  | 13 => ("StageLayerModel", "stages", "[I", true)
  | 14 => ("StageLayerModel", "laid", "Z", false)
  | 15 => ("StageLayerModel", "taken", "I", false)
  | _ => ("StageLayerModel", "homeless", "I", false)
def tyX1 : Nat → FieldType := fun k => match k with
  | 0 => .int
  | 1 => .int
  | 2 => .int
  | 3 => .int
  | 4 => .int
  | 5 => .array .boolean
  | 6 => .array .boolean
  | 7 => .array .int
  | 8 => .array .int
  | 9 => .array .int
  | 10 => .array .boolean
  | 11 => .array .int
  | 12 => .int
  | 13 => .array .int
  | 14 => .boolean
  | 15 => .int
  | _ => .int
theorem nmX1 : ∀ a, a < 17 → ∀ b, b < 17 → a ≠ b → (TX1 a).2.1 ≠ (TX1 b).2.1 := by decide +kernel
theorem tyX1_ok : ∀ k, k < 17 → parseFieldDescriptor (TX1 k).2.2.1 = some (tyX1 k) := by decide +kernel
set_option maxRecDepth 20000 in
theorem inX1 : ∀ w ∈ u_ws RX1 TX1 17, w ∈ gw := by decide +kernel
abbrev RL : String := "StageLayerLaw"
abbrev RJ6 : String := "java/lang/Integer"
abbrev vwCl : List vw_C := [(RX0, TX0, 17), (RX1, TX1, 17)]
theorem w_0 : (Cond.initialized "StageLayerLaw") ∈ gw := gw_t (i := 0) (by decide +kernel) (by decide +kernel)
theorem w_1 : (Cond.initialized "StageLayer") ∈ gw := gw_t (i := 1) (by decide +kernel) (by decide +kernel)
theorem w_2 : (Cond.initialized "StageLayerModel") ∈ gw := gw_t (i := 2) (by decide +kernel) (by decide +kernel)
theorem w_3 : (Cond.initialized "java/lang/Throwable") ∈ gw := gw_t (i := 3) (by decide +kernel) (by decide +kernel)
theorem w_4 : (Cond.initialized "java/lang/Exception") ∈ gw := gw_t (i := 4) (by decide +kernel) (by decide +kernel)
theorem w_5 : (Cond.initialized "java/lang/RuntimeException") ∈ gw := gw_t (i := 5) (by decide +kernel) (by decide +kernel)
theorem w_6 : (Cond.initialized "java/lang/IndexOutOfBoundsException") ∈ gw := gw_t (i := 6) (by decide +kernel) (by decide +kernel)
theorem w_7 : (Cond.initialized "java/lang/Integer") ∈ gw := gw_t (i := 7) (by decide +kernel) (by decide +kernel)
theorem w_8 : (Cond.initialized "java/lang/Math") ∈ gw := gw_t (i := 8) (by decide +kernel) (by decide +kernel)
theorem w_9 : (Cond.initialized "java/lang/IllegalStateException") ∈ gw := gw_t (i := 9) (by decide +kernel) (by decide +kernel)
theorem w_10 : (Cond.initialized "java/lang/IllegalArgumentException") ∈ gw := gw_t (i := 10) (by decide +kernel) (by decide +kernel)
theorem w_11 : (Cond.classLink "StageLayerLaw" 8 "StageLayer") ∈ gw := gw_t (i := 11) (by decide +kernel) (by decide +kernel)
theorem w_12 : (Cond.instantiable "StageLayer" 17) ∈ gw := gw_t (i := 12) (by decide +kernel) (by decide +kernel)
theorem w_13 : (Cond.methodLink "StageLayerLaw" 47 ⟨"StageLayer", "<init>", "()V"⟩) ∈ gw := gw_t (i := 13) (by decide +kernel) (by decide +kernel)
theorem w_14 : (Cond.instanceMethod ⟨"StageLayer", "<init>", "()V"⟩) ∈ gw := gw_t (i := 14) (by decide +kernel) (by decide +kernel)
theorem w_15 : (Cond.code ⟨"StageLayer", "<init>", "()V"⟩ prog_1_method_1_code 1 none) ∈ gw := gw_t (i := 15) (by decide +kernel) (by decide +kernel)
theorem w_16 : (Cond.methodLink "StageLayer" 3 ⟨"java/lang/Object", "<init>", "()V"⟩) ∈ gw := gw_t (i := 16) (by decide +kernel) (by decide +kernel)
theorem w_17 : (Cond.instanceMethod ⟨"java/lang/Object", "<init>", "()V"⟩) ∈ gw := gw_t (i := 17) (by decide +kernel) (by decide +kernel)
theorem w_18 : (Cond.code ⟨"java/lang/Object", "<init>", "()V"⟩ object_method_1_code 1 none) ∈ gw := gw_t (i := 18) (by decide +kernel) (by decide +kernel)
theorem w_19 : (Cond.fieldLink "StageLayer" 9 "StageLayer" "readsOf" "[J") ∈ gw := gw_t (i := 19) (by decide +kernel) (by decide +kernel)
theorem w_20 : (Cond.fieldLink "StageLayer" 13 "StageLayer" "writesOf" "[J") ∈ gw := gw_t (i := 20) (by decide +kernel) (by decide +kernel)
theorem w_21 : (Cond.fieldLink "StageLayer" 16 "StageLayer" "arrayOf" "[I") ∈ gw := gw_t (i := 21) (by decide +kernel) (by decide +kernel)
theorem w_22 : (Cond.fieldLink "StageLayer" 20 "StageLayer" "ifAround" "[I") ∈ gw := gw_t (i := 22) (by decide +kernel) (by decide +kernel)
theorem w_23 : (Cond.fieldLink "StageLayer" 23 "StageLayer" "memoryOf" "[I") ∈ gw := gw_t (i := 23) (by decide +kernel) (by decide +kernel)
theorem w_24 : (Cond.fieldLink "StageLayer" 26 "StageLayer" "wiresOf" "[I") ∈ gw := gw_t (i := 24) (by decide +kernel) (by decide +kernel)
theorem w_25 : (Cond.fieldLink "StageLayer" 29 "StageLayer" "stageOf" "[I") ∈ gw := gw_t (i := 25) (by decide +kernel) (by decide +kernel)
theorem w_26 : (Cond.fieldLink "StageLayer" 32 "StageLayer" "openIfs" "[I") ∈ gw := gw_t (i := 26) (by decide +kernel) (by decide +kernel)
theorem w_27 : (Cond.fieldLink "StageLayer" 35 "StageLayer" "stepsIn" "[I") ∈ gw := gw_t (i := 27) (by decide +kernel) (by decide +kernel)
theorem w_28 : (Cond.fieldLink "StageLayer" 38 "StageLayer" "memoryIn" "[I") ∈ gw := gw_t (i := 28) (by decide +kernel) (by decide +kernel)
theorem w_29 : (Cond.fieldLink "StageLayer" 41 "StageLayer" "wiresIn" "[I") ∈ gw := gw_t (i := 29) (by decide +kernel) (by decide +kernel)
theorem w_30 : (Cond.fieldLink "StageLayer" 48 "StageLayer" "steps" "I") ∈ gw := gw_t (i := 30) (by decide +kernel) (by decide +kernel)
theorem w_31 : (Cond.fieldLink "StageLayer" 51 "StageLayer" "tables" "I") ∈ gw := gw_t (i := 31) (by decide +kernel) (by decide +kernel)
theorem w_32 : (Cond.fieldLink "StageLayer" 54 "StageLayer" "ifsOpen" "I") ∈ gw := gw_t (i := 32) (by decide +kernel) (by decide +kernel)
theorem w_33 : (Cond.fieldLink "StageLayer" 57 "StageLayer" "placesRead" "I") ∈ gw := gw_t (i := 33) (by decide +kernel) (by decide +kernel)
theorem w_34 : (Cond.fieldLink "StageLayer" 147 "StageLayer" "stagesLaid" "I") ∈ gw := gw_t (i := 34) (by decide +kernel) (by decide +kernel)
theorem w_35 : (Cond.fieldLink "StageLayer" 44 "StageLayer" "homelessStep" "I") ∈ gw := gw_t (i := 35) (by decide +kernel) (by decide +kernel)
theorem w_71 : (Cond.arrayClass .long) ∈ gw := gw_t (i := 71) (by decide +kernel) (by decide +kernel)
theorem w_72 : (Cond.arrayClass .int) ∈ gw := gw_t (i := 72) (by decide +kernel) (by decide +kernel)
theorem w_73 : (Cond.methodLink "StageLayerLaw" 51 ⟨"StageLayer", "clear", "()V"⟩) ∈ gw := gw_t (i := 73) (by decide +kernel) (by decide +kernel)
theorem w_74 : (Cond.instanceMethod ⟨"StageLayer", "clear", "()V"⟩) ∈ gw := gw_t (i := 74) (by decide +kernel) (by decide +kernel)
theorem w_75 : (Cond.selects "StageLayer" ⟨"StageLayer", "clear", "()V"⟩ ⟨"StageLayer", "clear", "()V"⟩) ∈ gw := gw_t (i := 75) (by decide +kernel) (by decide +kernel)
theorem w_76 : (Cond.code ⟨"StageLayer", "clear", "()V"⟩ prog_1_method_2_code 1 none) ∈ gw := gw_t (i := 76) (by decide +kernel) (by decide +kernel)
theorem w_77 : (Cond.methodLink "StageLayer" 60 ⟨"StageLayer", "forgetStages", "()V"⟩) ∈ gw := gw_t (i := 77) (by decide +kernel) (by decide +kernel)
theorem w_79 : (Cond.instanceMethod ⟨"StageLayer", "forgetStages", "()V"⟩) ∈ gw := gw_t (i := 79) (by decide +kernel) (by decide +kernel)
theorem w_80 : (Cond.code ⟨"StageLayer", "forgetStages", "()V"⟩ prog_1_method_26_code 1 none) ∈ gw := gw_t (i := 80) (by decide +kernel) (by decide +kernel)
theorem w_81 : (Cond.methodLink "StageLayerLaw" 92 ⟨"StageLayer", "homeless", "()I"⟩) ∈ gw := gw_t (i := 81) (by decide +kernel) (by decide +kernel)
theorem w_82 : (Cond.instanceMethod ⟨"StageLayer", "homeless", "()I"⟩) ∈ gw := gw_t (i := 82) (by decide +kernel) (by decide +kernel)
theorem w_83 : (Cond.selects "StageLayer" ⟨"StageLayer", "homeless", "()I"⟩ ⟨"StageLayer", "homeless", "()I"⟩) ∈ gw := gw_t (i := 83) (by decide +kernel) (by decide +kernel)
theorem w_84 : (Cond.code ⟨"StageLayer", "homeless", "()I"⟩ prog_1_method_12_code 1 (some .int)) ∈ gw := gw_t (i := 84) (by decide +kernel) (by decide +kernel)
theorem w_85 : (Cond.methodLink "StageLayerLaw" 96 ⟨"StageLayer", "stage", "(I)I"⟩) ∈ gw := gw_t (i := 85) (by decide +kernel) (by decide +kernel)
theorem w_86 : (Cond.instanceMethod ⟨"StageLayer", "stage", "(I)I"⟩) ∈ gw := gw_t (i := 86) (by decide +kernel) (by decide +kernel)
theorem w_87 : (Cond.selects "StageLayer" ⟨"StageLayer", "stage", "(I)I"⟩ ⟨"StageLayer", "stage", "(I)I"⟩) ∈ gw := gw_t (i := 87) (by decide +kernel) (by decide +kernel)
theorem w_88 : (Cond.code ⟨"StageLayer", "stage", "(I)I"⟩ prog_1_method_13_code 2 (some .int)) ∈ gw := gw_t (i := 88) (by decide +kernel) (by decide +kernel)
theorem w_89 : (Cond.methodLink "StageLayerLaw" 100 ⟨"StageLayer", "used", "(II)I"⟩) ∈ gw := gw_t (i := 89) (by decide +kernel) (by decide +kernel)
theorem w_90 : (Cond.instanceMethod ⟨"StageLayer", "used", "(II)I"⟩) ∈ gw := gw_t (i := 90) (by decide +kernel) (by decide +kernel)
theorem w_91 : (Cond.selects "StageLayer" ⟨"StageLayer", "used", "(II)I"⟩ ⟨"StageLayer", "used", "(II)I"⟩) ∈ gw := gw_t (i := 91) (by decide +kernel) (by decide +kernel)
theorem w_92 : (Cond.code ⟨"StageLayer", "used", "(II)I"⟩ prog_1_method_14_code 3 (some .int)) ∈ gw := gw_t (i := 92) (by decide +kernel) (by decide +kernel)
theorem w_93 : (Cond.methodLink "StageLayerLaw" 104 ⟨"StageLayer", "count", "(I)I"⟩) ∈ gw := gw_t (i := 93) (by decide +kernel) (by decide +kernel)
theorem w_94 : (Cond.instanceMethod ⟨"StageLayer", "count", "(I)I"⟩) ∈ gw := gw_t (i := 94) (by decide +kernel) (by decide +kernel)
theorem w_95 : (Cond.selects "StageLayer" ⟨"StageLayer", "count", "(I)I"⟩ ⟨"StageLayer", "count", "(I)I"⟩) ∈ gw := gw_t (i := 95) (by decide +kernel) (by decide +kernel)
theorem w_96 : (Cond.code ⟨"StageLayer", "count", "(I)I"⟩ prog_1_method_15_code 2 (some .int)) ∈ gw := gw_t (i := 96) (by decide +kernel) (by decide +kernel)
theorem w_97 : (Cond.methodLink "StageLayerLaw" 55 ⟨"StageLayerLaw", "assign", "(LStageLayer;II[J)I"⟩) ∈ gw := gw_t (i := 97) (by decide +kernel) (by decide +kernel)
theorem w_98 : (Cond.static ⟨"StageLayerLaw", "assign", "(LStageLayer;II[J)I"⟩) ∈ gw := gw_t (i := 98) (by decide +kernel) (by decide +kernel)
theorem w_99 : (Cond.codeWith ⟨"StageLayerLaw", "assign", "(LStageLayer;II[J)I"⟩ method_3_code 5 (some .int) [(0, 10, 13, 13), (0, 10, 17, 15)]) ∈ gw := gw_t (i := 99) (by decide +kernel) (by decide +kernel)
theorem w_100 : (Cond.classLink "StageLayerLaw" 13 "java/lang/IndexOutOfBoundsException") ∈ gw := gw_t (i := 100) (by decide +kernel) (by decide +kernel)
theorem w_101 : (Cond.classLink "StageLayerLaw" 15 "java/lang/IllegalStateException") ∈ gw := gw_t (i := 101) (by decide +kernel) (by decide +kernel)
theorem w_102 : (Cond.methodLink "StageLayerLaw" 7 ⟨"StageLayer", "assign", "(II)I"⟩) ∈ gw := gw_t (i := 102) (by decide +kernel) (by decide +kernel)
theorem w_103 : (Cond.instanceMethod ⟨"StageLayer", "assign", "(II)I"⟩) ∈ gw := gw_t (i := 103) (by decide +kernel) (by decide +kernel)
theorem w_104 : (Cond.selects "StageLayer" ⟨"StageLayer", "assign", "(II)I"⟩ ⟨"StageLayer", "assign", "(II)I"⟩) ∈ gw := gw_t (i := 104) (by decide +kernel) (by decide +kernel)
theorem w_105 : (Cond.code ⟨"StageLayer", "assign", "(II)I"⟩ prog_1_method_3_code 3 (some .int)) ∈ gw := gw_t (i := 105) (by decide +kernel) (by decide +kernel)
theorem w_106 : (Cond.methodLink "StageLayer" 63 ⟨"StageLayer", "requirePlace", "(I)V"⟩) ∈ gw := gw_t (i := 106) (by decide +kernel) (by decide +kernel)
theorem w_107 : (Cond.static ⟨"StageLayer", "requirePlace", "(I)V"⟩) ∈ gw := gw_t (i := 107) (by decide +kernel) (by decide +kernel)
theorem w_108 : (Cond.code ⟨"StageLayer", "requirePlace", "(I)V"⟩ prog_1_method_16_code 1 none) ∈ gw := gw_t (i := 108) (by decide +kernel) (by decide +kernel)
theorem w_109 : (Cond.classLink "StageLayer" 89 "java/lang/IndexOutOfBoundsException") ∈ gw := gw_t (i := 109) (by decide +kernel) (by decide +kernel)
theorem w_110 : (Cond.instantiable "java/lang/IndexOutOfBoundsException" 6) ∈ gw := gw_t (i := 110) (by decide +kernel) (by decide +kernel)
theorem w_118 : (Cond.selects "java/lang/IndexOutOfBoundsException" ⟨"java/lang/Throwable", "fillInStackTrace", "(I)Ljava/lang/Throwable;"⟩ ⟨"java/lang/Throwable", "fillInStackTrace", "(I)Ljava/lang/Throwable;"⟩) ∈ gw := gw_t (i := 118) (by decide +kernel) (by decide +kernel)
theorem w_119 : (Cond.selects "java/lang/IndexOutOfBoundsException" ⟨"java/lang/Throwable", "fillInStackTrace", "()Ljava/lang/Throwable;"⟩ ⟨"java/lang/Throwable", "fillInStackTrace", "()Ljava/lang/Throwable;"⟩) ∈ gw := gw_t (i := 119) (by decide +kernel) (by decide +kernel)
theorem w_130 : (Cond.fieldLink "java/lang/Throwable" 198 "java/lang/Throwable" "backtrace" "Ljava/lang/Object;") ∈ gw := gw_t (i := 130) (by decide +kernel) (by decide +kernel)
theorem w_132 : (Cond.instanceMethod ⟨"java/lang/Throwable", "<init>", "()V"⟩) ∈ gw := gw_t (i := 132) (by decide +kernel) (by decide +kernel)
theorem w_133 : (Cond.code ⟨"java/lang/Throwable", "<init>", "()V"⟩ prog_12_method_1_code 1 none) ∈ gw := gw_t (i := 133) (by decide +kernel) (by decide +kernel)
theorem w_134 : (Cond.methodLink "java/lang/Throwable" 1 ⟨"java/lang/Object", "<init>", "()V"⟩) ∈ gw := gw_t (i := 134) (by decide +kernel) (by decide +kernel)
theorem w_135 : (Cond.fieldLink "java/lang/Throwable" 13 "java/lang/Throwable" "UNASSIGNED_STACK" "[Ljava/lang/StackTraceElement;") ∈ gw := gw_t (i := 135) (by decide +kernel) (by decide +kernel)
theorem w_137 : (Cond.fieldLink "java/lang/Throwable" 20 "java/lang/Throwable" "SUPPRESSED_SENTINEL" "Ljava/util/List;") ∈ gw := gw_t (i := 137) (by decide +kernel) (by decide +kernel)
theorem w_139 : (Cond.methodLink "java/lang/Throwable" 27 ⟨"java/lang/Throwable", "fillInStackTrace", "()Ljava/lang/Throwable;"⟩) ∈ gw := gw_t (i := 139) (by decide +kernel) (by decide +kernel)
theorem w_140 : (Cond.instanceMethod ⟨"java/lang/Throwable", "fillInStackTrace", "()Ljava/lang/Throwable;"⟩) ∈ gw := gw_t (i := 140) (by decide +kernel) (by decide +kernel)
theorem w_142 : (Cond.selects "java/lang/IllegalArgumentException" ⟨"java/lang/Throwable", "fillInStackTrace", "()Ljava/lang/Throwable;"⟩ ⟨"java/lang/Throwable", "fillInStackTrace", "()Ljava/lang/Throwable;"⟩) ∈ gw := gw_t (i := 142) (by decide +kernel) (by decide +kernel)
theorem w_143 : (Cond.selects "java/lang/IllegalStateException" ⟨"java/lang/Throwable", "fillInStackTrace", "()Ljava/lang/Throwable;"⟩ ⟨"java/lang/Throwable", "fillInStackTrace", "()Ljava/lang/Throwable;"⟩) ∈ gw := gw_t (i := 143) (by decide +kernel) (by decide +kernel)
theorem w_145 : (Cond.methodLink "java/lang/Throwable" 202 ⟨"java/lang/Throwable", "fillInStackTrace", "(I)Ljava/lang/Throwable;"⟩) ∈ gw := gw_t (i := 145) (by decide +kernel) (by decide +kernel)
theorem w_147 : (Cond.instanceMethod ⟨"java/lang/Throwable", "fillInStackTrace", "(I)Ljava/lang/Throwable;"⟩) ∈ gw := gw_t (i := 147) (by decide +kernel) (by decide +kernel)
theorem w_148 : (Cond.instantiable "java/lang/Throwable" 6) ∈ gw := gw_t (i := 148) (by decide +kernel) (by decide +kernel)
theorem w_151 : (Cond.methodLink "StageLayer" 93 ⟨"java/lang/IndexOutOfBoundsException", "<init>", "(Ljava/lang/String;)V"⟩) ∈ gw := gw_t (i := 151) (by decide +kernel) (by decide +kernel)
theorem w_152 : (Cond.instanceMethod ⟨"java/lang/IndexOutOfBoundsException", "<init>", "(Ljava/lang/String;)V"⟩) ∈ gw := gw_t (i := 152) (by decide +kernel) (by decide +kernel)
theorem w_153 : (Cond.code ⟨"java/lang/IndexOutOfBoundsException", "<init>", "(Ljava/lang/String;)V"⟩ prog_7_method_2_code 2 none) ∈ gw := gw_t (i := 153) (by decide +kernel) (by decide +kernel)
theorem w_154 : (Cond.methodLink "java/lang/IndexOutOfBoundsException" 7 ⟨"java/lang/RuntimeException", "<init>", "(Ljava/lang/String;)V"⟩) ∈ gw := gw_t (i := 154) (by decide +kernel) (by decide +kernel)
theorem w_155 : (Cond.instanceMethod ⟨"java/lang/RuntimeException", "<init>", "(Ljava/lang/String;)V"⟩) ∈ gw := gw_t (i := 155) (by decide +kernel) (by decide +kernel)
theorem w_156 : (Cond.code ⟨"java/lang/RuntimeException", "<init>", "(Ljava/lang/String;)V"⟩ prog_10_method_2_code 2 none) ∈ gw := gw_t (i := 156) (by decide +kernel) (by decide +kernel)
theorem w_157 : (Cond.methodLink "java/lang/RuntimeException" 7 ⟨"java/lang/Exception", "<init>", "(Ljava/lang/String;)V"⟩) ∈ gw := gw_t (i := 157) (by decide +kernel) (by decide +kernel)
theorem w_158 : (Cond.instanceMethod ⟨"java/lang/Exception", "<init>", "(Ljava/lang/String;)V"⟩) ∈ gw := gw_t (i := 158) (by decide +kernel) (by decide +kernel)
theorem w_159 : (Cond.code ⟨"java/lang/Exception", "<init>", "(Ljava/lang/String;)V"⟩ prog_4_method_2_code 2 none) ∈ gw := gw_t (i := 159) (by decide +kernel) (by decide +kernel)
theorem w_160 : (Cond.methodLink "java/lang/Exception" 7 ⟨"java/lang/Throwable", "<init>", "(Ljava/lang/String;)V"⟩) ∈ gw := gw_t (i := 160) (by decide +kernel) (by decide +kernel)
theorem w_161 : (Cond.instanceMethod ⟨"java/lang/Throwable", "<init>", "(Ljava/lang/String;)V"⟩) ∈ gw := gw_t (i := 161) (by decide +kernel) (by decide +kernel)
theorem w_162 : (Cond.code ⟨"java/lang/Throwable", "<init>", "(Ljava/lang/String;)V"⟩ prog_12_method_2_code 2 none) ∈ gw := gw_t (i := 162) (by decide +kernel) (by decide +kernel)
theorem w_164 : (Cond.fieldLink "java/lang/Throwable" 31 "java/lang/Throwable" "detailMessage" "Ljava/lang/String;") ∈ gw := gw_t (i := 164) (by decide +kernel) (by decide +kernel)
theorem w_165 : (Cond.fieldLink "java/lang/Throwable" 7 "java/lang/Throwable" "cause" "Ljava/lang/Throwable;") ∈ gw := gw_t (i := 165) (by decide +kernel) (by decide +kernel)
theorem w_166 : (Cond.fieldLink "java/lang/Throwable" 17 "java/lang/Throwable" "stackTrace" "[Ljava/lang/StackTraceElement;") ∈ gw := gw_t (i := 166) (by decide +kernel) (by decide +kernel)
theorem w_167 : (Cond.fieldLink "java/lang/Throwable" 24 "java/lang/Throwable" "suppressedExceptions" "Ljava/util/List;") ∈ gw := gw_t (i := 167) (by decide +kernel) (by decide +kernel)
theorem w_176 : (Cond.arrayClass .byte) ∈ gw := gw_t (i := 176) (by decide +kernel) (by decide +kernel)
theorem w_177 : (Cond.methodLink "StageLayer" 67 ⟨"StageLayer", "requireReadable", "(I)V"⟩) ∈ gw := gw_t (i := 177) (by decide +kernel) (by decide +kernel)
theorem w_178 : (Cond.static ⟨"StageLayer", "requireReadable", "(I)V"⟩) ∈ gw := gw_t (i := 178) (by decide +kernel) (by decide +kernel)
theorem w_179 : (Cond.code ⟨"StageLayer", "requireReadable", "(I)V"⟩ prog_1_method_18_code 1 none) ∈ gw := gw_t (i := 179) (by decide +kernel) (by decide +kernel)
theorem w_181 : (Cond.methodLink "StageLayer" 70 ⟨"StageLayer", "readingAndWriting", "(II)J"⟩) ∈ gw := gw_t (i := 181) (by decide +kernel) (by decide +kernel)
theorem w_182 : (Cond.static ⟨"StageLayer", "readingAndWriting", "(II)J"⟩) ∈ gw := gw_t (i := 182) (by decide +kernel) (by decide +kernel)
theorem w_183 : (Cond.code ⟨"StageLayer", "readingAndWriting", "(II)J"⟩ prog_1_method_21_code 2 (some .long)) ∈ gw := gw_t (i := 183) (by decide +kernel) (by decide +kernel)
theorem w_184 : (Cond.methodLink "StageLayer" 85 ⟨"StageLayer", "reading", "(I)J"⟩) ∈ gw := gw_t (i := 184) (by decide +kernel) (by decide +kernel)
theorem w_185 : (Cond.static ⟨"StageLayer", "reading", "(I)J"⟩) ∈ gw := gw_t (i := 185) (by decide +kernel) (by decide +kernel)
theorem w_186 : (Cond.code ⟨"StageLayer", "reading", "(I)J"⟩ prog_1_method_20_code 1 (some .long)) ∈ gw := gw_t (i := 186) (by decide +kernel) (by decide +kernel)
theorem w_187 : (Cond.methodLink "StageLayer" 96 ⟨"StageLayer", "validitiesOf", "(I)J"⟩) ∈ gw := gw_t (i := 187) (by decide +kernel) (by decide +kernel)
theorem w_188 : (Cond.static ⟨"StageLayer", "validitiesOf", "(I)J"⟩) ∈ gw := gw_t (i := 188) (by decide +kernel) (by decide +kernel)
theorem w_189 : (Cond.code ⟨"StageLayer", "validitiesOf", "(I)J"⟩ prog_1_method_19_code 1 (some .long)) ∈ gw := gw_t (i := 189) (by decide +kernel) (by decide +kernel)
theorem w_190 : (Cond.methodLink "StageLayer" 74 ⟨"StageLayer", "costOf", "(I)I"⟩) ∈ gw := gw_t (i := 190) (by decide +kernel) (by decide +kernel)
theorem w_191 : (Cond.static ⟨"StageLayer", "costOf", "(I)I"⟩) ∈ gw := gw_t (i := 191) (by decide +kernel) (by decide +kernel)
theorem w_192 : (Cond.code ⟨"StageLayer", "costOf", "(I)I"⟩ prog_1_method_22_code 1 (some .int)) ∈ gw := gw_t (i := 192) (by decide +kernel) (by decide +kernel)
theorem w_193 : (Cond.methodLink "StageLayer" 108 ⟨"java/lang/Integer", "bitCount", "(I)I"⟩) ∈ gw := gw_t (i := 193) (by decide +kernel) (by decide +kernel)
theorem w_194 : (Cond.static ⟨"java/lang/Integer", "bitCount", "(I)I"⟩) ∈ gw := gw_t (i := 194) (by decide +kernel) (by decide +kernel)
theorem w_195 : (Cond.code ⟨"java/lang/Integer", "bitCount", "(I)I"⟩ prog_8_method_49_code 1 (some .int)) ∈ gw := gw_t (i := 195) (by decide +kernel) (by decide +kernel)
theorem w_196 : (Cond.constant "java/lang/Integer" 265 1431655765) ∈ gw := gw_t (i := 196) (by decide +kernel) (by decide +kernel)
theorem w_197 : (Cond.constant "java/lang/Integer" 266 858993459) ∈ gw := gw_t (i := 197) (by decide +kernel) (by decide +kernel)
theorem w_198 : (Cond.constant "java/lang/Integer" 267 252645135) ∈ gw := gw_t (i := 198) (by decide +kernel) (by decide +kernel)
theorem w_199 : (Cond.methodLink "StageLayer" 141 ⟨"java/lang/Math", "max", "(II)I"⟩) ∈ gw := gw_t (i := 199) (by decide +kernel) (by decide +kernel)
theorem w_200 : (Cond.static ⟨"java/lang/Math", "max", "(II)I"⟩) ∈ gw := gw_t (i := 200) (by decide +kernel) (by decide +kernel)
theorem w_201 : (Cond.code ⟨"java/lang/Math", "max", "(II)I"⟩ prog_9_method_65_code 2 (some .int)) ∈ gw := gw_t (i := 201) (by decide +kernel) (by decide +kernel)
theorem w_202 : (Cond.methodLink "StageLayer" 78 ⟨"StageLayer", "addStep", "(JJII)I"⟩) ∈ gw := gw_t (i := 202) (by decide +kernel) (by decide +kernel)
theorem w_204 : (Cond.instanceMethod ⟨"StageLayer", "addStep", "(JJII)I"⟩) ∈ gw := gw_t (i := 204) (by decide +kernel) (by decide +kernel)
theorem w_205 : (Cond.code ⟨"StageLayer", "addStep", "(JJII)I"⟩ prog_1_method_23_code 8 (some .int)) ∈ gw := gw_t (i := 205) (by decide +kernel) (by decide +kernel)
theorem w_206 : (Cond.classLink "StageLayer" 101 "java/lang/IllegalStateException") ∈ gw := gw_t (i := 206) (by decide +kernel) (by decide +kernel)
theorem w_207 : (Cond.instantiable "java/lang/IllegalStateException" 6) ∈ gw := gw_t (i := 207) (by decide +kernel) (by decide +kernel)
theorem w_209 : (Cond.selects "java/lang/IllegalStateException" ⟨"java/lang/Throwable", "fillInStackTrace", "(I)Ljava/lang/Throwable;"⟩ ⟨"java/lang/Throwable", "fillInStackTrace", "(I)Ljava/lang/Throwable;"⟩) ∈ gw := gw_t (i := 209) (by decide +kernel) (by decide +kernel)
theorem w_216 : (Cond.methodLink "StageLayer" 105 ⟨"java/lang/IllegalStateException", "<init>", "(Ljava/lang/String;)V"⟩) ∈ gw := gw_t (i := 216) (by decide +kernel) (by decide +kernel)
theorem w_217 : (Cond.instanceMethod ⟨"java/lang/IllegalStateException", "<init>", "(Ljava/lang/String;)V"⟩) ∈ gw := gw_t (i := 217) (by decide +kernel) (by decide +kernel)
theorem w_218 : (Cond.code ⟨"java/lang/IllegalStateException", "<init>", "(Ljava/lang/String;)V"⟩ prog_6_method_2_code 2 none) ∈ gw := gw_t (i := 218) (by decide +kernel) (by decide +kernel)
theorem w_219 : (Cond.methodLink "java/lang/IllegalStateException" 7 ⟨"java/lang/RuntimeException", "<init>", "(Ljava/lang/String;)V"⟩) ∈ gw := gw_t (i := 219) (by decide +kernel) (by decide +kernel)
theorem w_223 : (Cond.methodLink "StageLayer" 160 ⟨"StageLayer", "innermostIf", "()I"⟩) ∈ gw := gw_t (i := 223) (by decide +kernel) (by decide +kernel)
theorem w_225 : (Cond.instanceMethod ⟨"StageLayer", "innermostIf", "()I"⟩) ∈ gw := gw_t (i := 225) (by decide +kernel) (by decide +kernel)
theorem w_226 : (Cond.code ⟨"StageLayer", "innermostIf", "()I"⟩ prog_1_method_25_code 1 (some .int)) ∈ gw := gw_t (i := 226) (by decide +kernel) (by decide +kernel)
theorem w_227 : (Cond.methodLink "StageLayer" 122 ⟨"StageLayer", "need", "(III)V"⟩) ∈ gw := gw_t (i := 227) (by decide +kernel) (by decide +kernel)
theorem w_229 : (Cond.instanceMethod ⟨"StageLayer", "need", "(III)V"⟩) ∈ gw := gw_t (i := 229) (by decide +kernel) (by decide +kernel)
theorem w_230 : (Cond.code ⟨"StageLayer", "need", "(III)V"⟩ prog_1_method_24_code 4 none) ∈ gw := gw_t (i := 230) (by decide +kernel) (by decide +kernel)
theorem w_231 : (Cond.methodLink "StageLayerLaw" 64 ⟨"StageLayerLaw", "load", "(LStageLayer;III[J)I"⟩) ∈ gw := gw_t (i := 231) (by decide +kernel) (by decide +kernel)
theorem w_232 : (Cond.static ⟨"StageLayerLaw", "load", "(LStageLayer;III[J)I"⟩) ∈ gw := gw_t (i := 232) (by decide +kernel) (by decide +kernel)
theorem w_233 : (Cond.codeWith ⟨"StageLayerLaw", "load", "(LStageLayer;III[J)I"⟩ method_4_code 6 (some .int) [(0, 12, 15, 13), (0, 12, 19, 15)]) ∈ gw := gw_t (i := 233) (by decide +kernel) (by decide +kernel)
theorem w_234 : (Cond.methodLink "StageLayerLaw" 17 ⟨"StageLayer", "load", "(III)I"⟩) ∈ gw := gw_t (i := 234) (by decide +kernel) (by decide +kernel)
theorem w_235 : (Cond.instanceMethod ⟨"StageLayer", "load", "(III)I"⟩) ∈ gw := gw_t (i := 235) (by decide +kernel) (by decide +kernel)
theorem w_236 : (Cond.selects "StageLayer" ⟨"StageLayer", "load", "(III)I"⟩ ⟨"StageLayer", "load", "(III)I"⟩) ∈ gw := gw_t (i := 236) (by decide +kernel) (by decide +kernel)
theorem w_237 : (Cond.code ⟨"StageLayer", "load", "(III)I"⟩ prog_1_method_4_code 4 (some .int)) ∈ gw := gw_t (i := 237) (by decide +kernel) (by decide +kernel)
theorem w_238 : (Cond.methodLink "StageLayer" 82 ⟨"StageLayer", "requireArray", "(I)V"⟩) ∈ gw := gw_t (i := 238) (by decide +kernel) (by decide +kernel)
theorem w_239 : (Cond.static ⟨"StageLayer", "requireArray", "(I)V"⟩) ∈ gw := gw_t (i := 239) (by decide +kernel) (by decide +kernel)
theorem w_240 : (Cond.code ⟨"StageLayer", "requireArray", "(I)V"⟩ prog_1_method_17_code 1 none) ∈ gw := gw_t (i := 240) (by decide +kernel) (by decide +kernel)
theorem w_242 : (Cond.methodLink "StageLayerLaw" 68 ⟨"StageLayerLaw", "store", "(LStageLayer;III[J)I"⟩) ∈ gw := gw_t (i := 242) (by decide +kernel) (by decide +kernel)
theorem w_243 : (Cond.static ⟨"StageLayerLaw", "store", "(LStageLayer;III[J)I"⟩) ∈ gw := gw_t (i := 243) (by decide +kernel) (by decide +kernel)
theorem w_244 : (Cond.codeWith ⟨"StageLayerLaw", "store", "(LStageLayer;III[J)I"⟩ method_5_code 6 (some .int) [(0, 12, 15, 13), (0, 12, 19, 15)]) ∈ gw := gw_t (i := 244) (by decide +kernel) (by decide +kernel)
theorem w_245 : (Cond.methodLink "StageLayerLaw" 21 ⟨"StageLayer", "store", "(III)I"⟩) ∈ gw := gw_t (i := 245) (by decide +kernel) (by decide +kernel)
theorem w_246 : (Cond.instanceMethod ⟨"StageLayer", "store", "(III)I"⟩) ∈ gw := gw_t (i := 246) (by decide +kernel) (by decide +kernel)
theorem w_247 : (Cond.selects "StageLayer" ⟨"StageLayer", "store", "(III)I"⟩ ⟨"StageLayer", "store", "(III)I"⟩) ∈ gw := gw_t (i := 247) (by decide +kernel) (by decide +kernel)
theorem w_248 : (Cond.code ⟨"StageLayer", "store", "(III)I"⟩ prog_1_method_5_code 4 (some .int)) ∈ gw := gw_t (i := 248) (by decide +kernel) (by decide +kernel)
theorem w_249 : (Cond.methodLink "StageLayerLaw" 71 ⟨"StageLayerLaw", "valid", "(LStageLayer;IZ[J)I"⟩) ∈ gw := gw_t (i := 249) (by decide +kernel) (by decide +kernel)
theorem w_250 : (Cond.static ⟨"StageLayerLaw", "valid", "(LStageLayer;IZ[J)I"⟩) ∈ gw := gw_t (i := 250) (by decide +kernel) (by decide +kernel)
theorem w_251 : (Cond.codeWith ⟨"StageLayerLaw", "valid", "(LStageLayer;IZ[J)I"⟩ method_6_code 5 (some .int) [(0, 10, 13, 13), (0, 10, 17, 15)]) ∈ gw := gw_t (i := 251) (by decide +kernel) (by decide +kernel)
theorem w_252 : (Cond.methodLink "StageLayerLaw" 24 ⟨"StageLayer", "valid", "(IZ)I"⟩) ∈ gw := gw_t (i := 252) (by decide +kernel) (by decide +kernel)
theorem w_253 : (Cond.instanceMethod ⟨"StageLayer", "valid", "(IZ)I"⟩) ∈ gw := gw_t (i := 253) (by decide +kernel) (by decide +kernel)
theorem w_254 : (Cond.selects "StageLayer" ⟨"StageLayer", "valid", "(IZ)I"⟩ ⟨"StageLayer", "valid", "(IZ)I"⟩) ∈ gw := gw_t (i := 254) (by decide +kernel) (by decide +kernel)
theorem w_255 : (Cond.code ⟨"StageLayer", "valid", "(IZ)I"⟩ prog_1_method_6_code 4 (some .int)) ∈ gw := gw_t (i := 255) (by decide +kernel) (by decide +kernel)
theorem w_257 : (Cond.methodLink "StageLayerLaw" 75 ⟨"StageLayerLaw", "drop", "(LStageLayer;[J)I"⟩) ∈ gw := gw_t (i := 257) (by decide +kernel) (by decide +kernel)
theorem w_258 : (Cond.static ⟨"StageLayerLaw", "drop", "(LStageLayer;[J)I"⟩) ∈ gw := gw_t (i := 258) (by decide +kernel) (by decide +kernel)
theorem w_259 : (Cond.codeWith ⟨"StageLayerLaw", "drop", "(LStageLayer;[J)I"⟩ method_7_code 3 (some .int) [(0, 8, 11, 15)]) ∈ gw := gw_t (i := 259) (by decide +kernel) (by decide +kernel)
theorem w_260 : (Cond.methodLink "StageLayerLaw" 28 ⟨"StageLayer", "drop", "()I"⟩) ∈ gw := gw_t (i := 260) (by decide +kernel) (by decide +kernel)
theorem w_261 : (Cond.instanceMethod ⟨"StageLayer", "drop", "()I"⟩) ∈ gw := gw_t (i := 261) (by decide +kernel) (by decide +kernel)
theorem w_262 : (Cond.selects "StageLayer" ⟨"StageLayer", "drop", "()I"⟩ ⟨"StageLayer", "drop", "()I"⟩) ∈ gw := gw_t (i := 262) (by decide +kernel) (by decide +kernel)
theorem w_263 : (Cond.code ⟨"StageLayer", "drop", "()I"⟩ prog_1_method_7_code 1 (some .int)) ∈ gw := gw_t (i := 263) (by decide +kernel) (by decide +kernel)
theorem w_264 : (Cond.constantLong "StageLayer" 99 1099511627776) ∈ gw := gw_t (i := 264) (by decide +kernel) (by decide +kernel)
theorem w_265 : (Cond.methodLink "StageLayerLaw" 79 ⟨"StageLayerLaw", "open", "(LStageLayer;I[J)I"⟩) ∈ gw := gw_t (i := 265) (by decide +kernel) (by decide +kernel)
theorem w_266 : (Cond.static ⟨"StageLayerLaw", "open", "(LStageLayer;I[J)I"⟩) ∈ gw := gw_t (i := 266) (by decide +kernel) (by decide +kernel)
theorem w_267 : (Cond.codeWith ⟨"StageLayerLaw", "open", "(LStageLayer;I[J)I"⟩ method_8_code 4 (some .int) [(0, 9, 12, 13), (0, 9, 15, 15)]) ∈ gw := gw_t (i := 267) (by decide +kernel) (by decide +kernel)
theorem w_268 : (Cond.methodLink "StageLayerLaw" 32 ⟨"StageLayer", "open", "(I)I"⟩) ∈ gw := gw_t (i := 268) (by decide +kernel) (by decide +kernel)
theorem w_269 : (Cond.instanceMethod ⟨"StageLayer", "open", "(I)I"⟩) ∈ gw := gw_t (i := 269) (by decide +kernel) (by decide +kernel)
theorem w_270 : (Cond.selects "StageLayer" ⟨"StageLayer", "open", "(I)I"⟩ ⟨"StageLayer", "open", "(I)I"⟩) ∈ gw := gw_t (i := 270) (by decide +kernel) (by decide +kernel)
theorem w_271 : (Cond.code ⟨"StageLayer", "open", "(I)I"⟩ prog_1_method_8_code 3 (some .int)) ∈ gw := gw_t (i := 271) (by decide +kernel) (by decide +kernel)
theorem w_273 : (Cond.methodLink "StageLayerLaw" 83 ⟨"StageLayerLaw", "close", "(LStageLayer;[J)I"⟩) ∈ gw := gw_t (i := 273) (by decide +kernel) (by decide +kernel)
theorem w_274 : (Cond.static ⟨"StageLayerLaw", "close", "(LStageLayer;[J)I"⟩) ∈ gw := gw_t (i := 274) (by decide +kernel) (by decide +kernel)
theorem w_275 : (Cond.codeWith ⟨"StageLayerLaw", "close", "(LStageLayer;[J)I"⟩ method_9_code 3 (some .int) [(0, 8, 11, 15)]) ∈ gw := gw_t (i := 275) (by decide +kernel) (by decide +kernel)
theorem w_276 : (Cond.methodLink "StageLayerLaw" 36 ⟨"StageLayer", "close", "()I"⟩) ∈ gw := gw_t (i := 276) (by decide +kernel) (by decide +kernel)
theorem w_277 : (Cond.instanceMethod ⟨"StageLayer", "close", "()I"⟩) ∈ gw := gw_t (i := 277) (by decide +kernel) (by decide +kernel)
theorem w_278 : (Cond.selects "StageLayer" ⟨"StageLayer", "close", "()I"⟩ ⟨"StageLayer", "close", "()I"⟩) ∈ gw := gw_t (i := 278) (by decide +kernel) (by decide +kernel)
theorem w_279 : (Cond.code ⟨"StageLayer", "close", "()I"⟩ prog_1_method_9_code 1 (some .int)) ∈ gw := gw_t (i := 279) (by decide +kernel) (by decide +kernel)
theorem w_281 : (Cond.methodLink "StageLayerLaw" 86 ⟨"StageLayerLaw", "apply", "(LStageLayer;III[J)I"⟩) ∈ gw := gw_t (i := 281) (by decide +kernel) (by decide +kernel)
theorem w_282 : (Cond.static ⟨"StageLayerLaw", "apply", "(LStageLayer;III[J)I"⟩) ∈ gw := gw_t (i := 282) (by decide +kernel) (by decide +kernel)
theorem w_283 : (Cond.codeWith ⟨"StageLayerLaw", "apply", "(LStageLayer;III[J)I"⟩ method_10_code 6 (some .int) [(0, 12, 15, 13), (0, 12, 19, 42), (0, 12, 23, 15)]) ∈ gw := gw_t (i := 283) (by decide +kernel) (by decide +kernel)
theorem w_284 : (Cond.classLink "StageLayerLaw" 42 "java/lang/IllegalArgumentException") ∈ gw := gw_t (i := 284) (by decide +kernel) (by decide +kernel)
theorem w_285 : (Cond.methodLink "StageLayerLaw" 39 ⟨"StageLayer", "apply", "(III)I"⟩) ∈ gw := gw_t (i := 285) (by decide +kernel) (by decide +kernel)
theorem w_286 : (Cond.instanceMethod ⟨"StageLayer", "apply", "(III)I"⟩) ∈ gw := gw_t (i := 286) (by decide +kernel) (by decide +kernel)
theorem w_287 : (Cond.selects "StageLayer" ⟨"StageLayer", "apply", "(III)I"⟩ ⟨"StageLayer", "apply", "(III)I"⟩) ∈ gw := gw_t (i := 287) (by decide +kernel) (by decide +kernel)
theorem w_288 : (Cond.code ⟨"StageLayer", "apply", "(III)I"⟩ prog_1_method_10_code 7 (some .int)) ∈ gw := gw_t (i := 288) (by decide +kernel) (by decide +kernel)
theorem w_289 : (Cond.classLink "StageLayer" 113 "java/lang/IllegalArgumentException") ∈ gw := gw_t (i := 289) (by decide +kernel) (by decide +kernel)
theorem w_290 : (Cond.instantiable "java/lang/IllegalArgumentException" 6) ∈ gw := gw_t (i := 290) (by decide +kernel) (by decide +kernel)
theorem w_292 : (Cond.selects "java/lang/IllegalArgumentException" ⟨"java/lang/Throwable", "fillInStackTrace", "(I)Ljava/lang/Throwable;"⟩ ⟨"java/lang/Throwable", "fillInStackTrace", "(I)Ljava/lang/Throwable;"⟩) ∈ gw := gw_t (i := 292) (by decide +kernel) (by decide +kernel)
theorem w_299 : (Cond.methodLink "StageLayer" 117 ⟨"java/lang/IllegalArgumentException", "<init>", "(Ljava/lang/String;)V"⟩) ∈ gw := gw_t (i := 299) (by decide +kernel) (by decide +kernel)
theorem w_300 : (Cond.instanceMethod ⟨"java/lang/IllegalArgumentException", "<init>", "(Ljava/lang/String;)V"⟩) ∈ gw := gw_t (i := 300) (by decide +kernel) (by decide +kernel)
theorem w_301 : (Cond.code ⟨"java/lang/IllegalArgumentException", "<init>", "(Ljava/lang/String;)V"⟩ prog_5_method_2_code 2 none) ∈ gw := gw_t (i := 301) (by decide +kernel) (by decide +kernel)
theorem w_302 : (Cond.methodLink "java/lang/IllegalArgumentException" 7 ⟨"java/lang/RuntimeException", "<init>", "(Ljava/lang/String;)V"⟩) ∈ gw := gw_t (i := 302) (by decide +kernel) (by decide +kernel)
theorem w_307 : (Cond.methodLink "StageLayerLaw" 89 ⟨"StageLayerLaw", "lay", "(LStageLayer;III[J)I"⟩) ∈ gw := gw_t (i := 307) (by decide +kernel) (by decide +kernel)
theorem w_308 : (Cond.static ⟨"StageLayerLaw", "lay", "(LStageLayer;III[J)I"⟩) ∈ gw := gw_t (i := 308) (by decide +kernel) (by decide +kernel)
theorem w_309 : (Cond.codeWith ⟨"StageLayerLaw", "lay", "(LStageLayer;III[J)I"⟩ method_11_code 6 (some .int) [(0, 12, 15, 42)]) ∈ gw := gw_t (i := 309) (by decide +kernel) (by decide +kernel)
theorem w_310 : (Cond.methodLink "StageLayerLaw" 44 ⟨"StageLayer", "lay", "(III)I"⟩) ∈ gw := gw_t (i := 310) (by decide +kernel) (by decide +kernel)
theorem w_311 : (Cond.instanceMethod ⟨"StageLayer", "lay", "(III)I"⟩) ∈ gw := gw_t (i := 311) (by decide +kernel) (by decide +kernel)
theorem w_312 : (Cond.selects "StageLayer" ⟨"StageLayer", "lay", "(III)I"⟩ ⟨"StageLayer", "lay", "(III)I"⟩) ∈ gw := gw_t (i := 312) (by decide +kernel) (by decide +kernel)
theorem w_313 : (Cond.code ⟨"StageLayer", "lay", "(III)I"⟩ prog_1_method_11_code 7 (some .int)) ∈ gw := gw_t (i := 313) (by decide +kernel) (by decide +kernel)
theorem w_316 : (Cond.methodLink "StageLayer" 130 ⟨"StageLayer", "emptyStages", "()V"⟩) ∈ gw := gw_t (i := 316) (by decide +kernel) (by decide +kernel)
theorem w_318 : (Cond.instanceMethod ⟨"StageLayer", "emptyStages", "()V"⟩) ∈ gw := gw_t (i := 318) (by decide +kernel) (by decide +kernel)
theorem w_319 : (Cond.code ⟨"StageLayer", "emptyStages", "()V"⟩ prog_1_method_27_code 2 none) ∈ gw := gw_t (i := 319) (by decide +kernel) (by decide +kernel)
theorem w_320 : (Cond.methodLink "StageLayer" 133 ⟨"StageLayer", "findStage", "(IIII)I"⟩) ∈ gw := gw_t (i := 320) (by decide +kernel) (by decide +kernel)
theorem w_322 : (Cond.instanceMethod ⟨"StageLayer", "findStage", "(IIII)I"⟩) ∈ gw := gw_t (i := 322) (by decide +kernel) (by decide +kernel)
theorem w_323 : (Cond.code ⟨"StageLayer", "findStage", "(IIII)I"⟩ prog_1_method_28_code 9 (some .int)) ∈ gw := gw_t (i := 323) (by decide +kernel) (by decide +kernel)
theorem w_324 : (Cond.methodLink "StageLayer" 164 ⟨"StageLayer", "earliestStage", "(I)I"⟩) ∈ gw := gw_t (i := 324) (by decide +kernel) (by decide +kernel)
theorem w_326 : (Cond.instanceMethod ⟨"StageLayer", "earliestStage", "(I)I"⟩) ∈ gw := gw_t (i := 326) (by decide +kernel) (by decide +kernel)
theorem w_327 : (Cond.code ⟨"StageLayer", "earliestStage", "(I)I"⟩ prog_1_method_29_code 9 (some .int)) ∈ gw := gw_t (i := 327) (by decide +kernel) (by decide +kernel)
theorem w_328 : (Cond.methodLink "StageLayer" 167 ⟨"StageLayer", "stageOfSharedArray", "(I)I"⟩) ∈ gw := gw_t (i := 328) (by decide +kernel) (by decide +kernel)
theorem w_330 : (Cond.instanceMethod ⟨"StageLayer", "stageOfSharedArray", "(I)I"⟩) ∈ gw := gw_t (i := 330) (by decide +kernel) (by decide +kernel)
theorem w_331 : (Cond.code ⟨"StageLayer", "stageOfSharedArray", "(I)I"⟩ prog_1_method_30_code 3 (some .int)) ∈ gw := gw_t (i := 331) (by decide +kernel) (by decide +kernel)
theorem w_332 : (Cond.methodLink "StageLayer" 170 ⟨"StageLayer", "hasRoom", "(IIII)Z"⟩) ∈ gw := gw_t (i := 332) (by decide +kernel) (by decide +kernel)
theorem w_334 : (Cond.instanceMethod ⟨"StageLayer", "hasRoom", "(IIII)Z"⟩) ∈ gw := gw_t (i := 334) (by decide +kernel) (by decide +kernel)
theorem w_335 : (Cond.code ⟨"StageLayer", "hasRoom", "(IIII)Z"⟩ prog_1_method_31_code 5 (some .boolean)) ∈ gw := gw_t (i := 335) (by decide +kernel) (by decide +kernel)
theorem w_336 : (Cond.methodLink "StageLayer" 137 ⟨"StageLayer", "settle", "(II)V"⟩) ∈ gw := gw_t (i := 336) (by decide +kernel) (by decide +kernel)
theorem w_338 : (Cond.instanceMethod ⟨"StageLayer", "settle", "(II)V"⟩) ∈ gw := gw_t (i := 338) (by decide +kernel) (by decide +kernel)
theorem w_339 : (Cond.code ⟨"StageLayer", "settle", "(II)V"⟩ prog_1_method_32_code 3 none) ∈ gw := gw_t (i := 339) (by decide +kernel) (by decide +kernel)
theorem w_340 : (Cond.classLink "StageLayerLaw" 48 "StageLayerModel") ∈ gw := gw_t (i := 340) (by decide +kernel) (by decide +kernel)
theorem w_341 : (Cond.instantiable "StageLayerModel" 17) ∈ gw := gw_t (i := 341) (by decide +kernel) (by decide +kernel)
theorem w_342 : (Cond.methodLink "StageLayerLaw" 50 ⟨"StageLayerModel", "<init>", "()V"⟩) ∈ gw := gw_t (i := 342) (by decide +kernel) (by decide +kernel)
theorem w_343 : (Cond.instanceMethod ⟨"StageLayerModel", "<init>", "()V"⟩) ∈ gw := gw_t (i := 343) (by decide +kernel) (by decide +kernel)
theorem w_344 : (Cond.code ⟨"StageLayerModel", "<init>", "()V"⟩ prog_3_method_1_code 1 none) ∈ gw := gw_t (i := 344) (by decide +kernel) (by decide +kernel)
theorem w_345 : (Cond.methodLink "StageLayerModel" 1 ⟨"java/lang/Object", "<init>", "()V"⟩) ∈ gw := gw_t (i := 345) (by decide +kernel) (by decide +kernel)
theorem w_346 : (Cond.fieldLink "StageLayerModel" 42 "StageLayerModel" "thrown" "I") ∈ gw := gw_t (i := 346) (by decide +kernel) (by decide +kernel)
theorem w_347 : (Cond.fieldLink "StageLayerModel" 45 "StageLayerModel" "steps" "I") ∈ gw := gw_t (i := 347) (by decide +kernel) (by decide +kernel)
theorem w_348 : (Cond.fieldLink "StageLayerModel" 48 "StageLayerModel" "readings" "I") ∈ gw := gw_t (i := 348) (by decide +kernel) (by decide +kernel)
theorem w_349 : (Cond.fieldLink "StageLayerModel" 51 "StageLayerModel" "tables" "I") ∈ gw := gw_t (i := 349) (by decide +kernel) (by decide +kernel)
theorem w_350 : (Cond.fieldLink "StageLayerModel" 54 "StageLayerModel" "opened" "I") ∈ gw := gw_t (i := 350) (by decide +kernel) (by decide +kernel)
theorem w_351 : (Cond.fieldLink "StageLayerModel" 7 "StageLayerModel" "reads" "[Z") ∈ gw := gw_t (i := 351) (by decide +kernel) (by decide +kernel)
theorem w_352 : (Cond.fieldLink "StageLayerModel" 13 "StageLayerModel" "writes" "[Z") ∈ gw := gw_t (i := 352) (by decide +kernel) (by decide +kernel)
theorem w_353 : (Cond.fieldLink "StageLayerModel" 16 "StageLayerModel" "arrays" "[I") ∈ gw := gw_t (i := 353) (by decide +kernel) (by decide +kernel)
theorem w_354 : (Cond.fieldLink "StageLayerModel" 20 "StageLayerModel" "memories" "[I") ∈ gw := gw_t (i := 354) (by decide +kernel) (by decide +kernel)
theorem w_355 : (Cond.fieldLink "StageLayerModel" 23 "StageLayerModel" "wires" "[I") ∈ gw := gw_t (i := 355) (by decide +kernel) (by decide +kernel)
theorem w_356 : (Cond.fieldLink "StageLayerModel" 26 "StageLayerModel" "isIf" "[Z") ∈ gw := gw_t (i := 356) (by decide +kernel) (by decide +kernel)
theorem w_357 : (Cond.fieldLink "StageLayerModel" 29 "StageLayerModel" "within" "[I") ∈ gw := gw_t (i := 357) (by decide +kernel) (by decide +kernel)
theorem w_358 : (Cond.fieldLink "StageLayerModel" 32 "StageLayerModel" "inner" "I") ∈ gw := gw_t (i := 358) (by decide +kernel) (by decide +kernel)
theorem w_359 : (Cond.fieldLink "StageLayerModel" 36 "StageLayerModel" "stages" "[I") ∈ gw := gw_t (i := 359) (by decide +kernel) (by decide +kernel)
theorem w_360 : (Cond.fieldLink "StageLayerModel" 57 "StageLayerModel" "laid" "Z") ∈ gw := gw_t (i := 360) (by decide +kernel) (by decide +kernel)
theorem w_361 : (Cond.fieldLink "StageLayerModel" 103 "StageLayerModel" "taken" "I") ∈ gw := gw_t (i := 361) (by decide +kernel) (by decide +kernel)
theorem w_362 : (Cond.fieldLink "StageLayerModel" 39 "StageLayerModel" "homeless" "I") ∈ gw := gw_t (i := 362) (by decide +kernel) (by decide +kernel)
theorem w_398 : (Cond.arrayClass .boolean) ∈ gw := gw_t (i := 398) (by decide +kernel) (by decide +kernel)
theorem w_399 : (Cond.methodLink "StageLayerLaw" 61 ⟨"StageLayerModel", "thrown", "()I"⟩) ∈ gw := gw_t (i := 399) (by decide +kernel) (by decide +kernel)
theorem w_400 : (Cond.instanceMethod ⟨"StageLayerModel", "thrown", "()I"⟩) ∈ gw := gw_t (i := 400) (by decide +kernel) (by decide +kernel)
theorem w_401 : (Cond.selects "StageLayerModel" ⟨"StageLayerModel", "thrown", "()I"⟩ ⟨"StageLayerModel", "thrown", "()I"⟩) ∈ gw := gw_t (i := 401) (by decide +kernel) (by decide +kernel)
theorem w_402 : (Cond.code ⟨"StageLayerModel", "thrown", "()I"⟩ prog_3_method_2_code 1 (some .int)) ∈ gw := gw_t (i := 402) (by decide +kernel) (by decide +kernel)
theorem w_403 : (Cond.methodLink "StageLayerLaw" 54 ⟨"StageLayerModel", "clear", "()V"⟩) ∈ gw := gw_t (i := 403) (by decide +kernel) (by decide +kernel)
theorem w_404 : (Cond.instanceMethod ⟨"StageLayerModel", "clear", "()V"⟩) ∈ gw := gw_t (i := 404) (by decide +kernel) (by decide +kernel)
theorem w_405 : (Cond.selects "StageLayerModel" ⟨"StageLayerModel", "clear", "()V"⟩ ⟨"StageLayerModel", "clear", "()V"⟩) ∈ gw := gw_t (i := 405) (by decide +kernel) (by decide +kernel)
theorem w_406 : (Cond.code ⟨"StageLayerModel", "clear", "()V"⟩ prog_3_method_3_code 1 none) ∈ gw := gw_t (i := 406) (by decide +kernel) (by decide +kernel)
theorem w_407 : (Cond.methodLink "StageLayerLaw" 60 ⟨"StageLayerModel", "assign", "(II)I"⟩) ∈ gw := gw_t (i := 407) (by decide +kernel) (by decide +kernel)
theorem w_408 : (Cond.instanceMethod ⟨"StageLayerModel", "assign", "(II)I"⟩) ∈ gw := gw_t (i := 408) (by decide +kernel) (by decide +kernel)
theorem w_409 : (Cond.selects "StageLayerModel" ⟨"StageLayerModel", "assign", "(II)I"⟩ ⟨"StageLayerModel", "assign", "(II)I"⟩) ∈ gw := gw_t (i := 409) (by decide +kernel) (by decide +kernel)
theorem w_410 : (Cond.code ⟨"StageLayerModel", "assign", "(II)I"⟩ prog_3_method_12_code 4 (some .int)) ∈ gw := gw_t (i := 410) (by decide +kernel) (by decide +kernel)
theorem w_411 : (Cond.methodLink "StageLayerModel" 66 ⟨"StageLayerModel", "isPlace", "(I)Z"⟩) ∈ gw := gw_t (i := 411) (by decide +kernel) (by decide +kernel)
theorem w_412 : (Cond.static ⟨"StageLayerModel", "isPlace", "(I)Z"⟩) ∈ gw := gw_t (i := 412) (by decide +kernel) (by decide +kernel)
theorem w_413 : (Cond.code ⟨"StageLayerModel", "isPlace", "(I)Z"⟩ prog_3_method_7_code 1 (some .boolean)) ∈ gw := gw_t (i := 413) (by decide +kernel) (by decide +kernel)
theorem w_414 : (Cond.methodLink "StageLayerModel" 70 ⟨"StageLayerModel", "isSet", "(I)Z"⟩) ∈ gw := gw_t (i := 414) (by decide +kernel) (by decide +kernel)
theorem w_415 : (Cond.static ⟨"StageLayerModel", "isSet", "(I)Z"⟩) ∈ gw := gw_t (i := 415) (by decide +kernel) (by decide +kernel)
theorem w_416 : (Cond.code ⟨"StageLayerModel", "isSet", "(I)Z"⟩ prog_3_method_4_code 1 (some .boolean)) ∈ gw := gw_t (i := 416) (by decide +kernel) (by decide +kernel)
theorem w_417 : (Cond.constant "StageLayerModel" 61 268435456) ∈ gw := gw_t (i := 417) (by decide +kernel) (by decide +kernel)
theorem w_418 : (Cond.methodLink "StageLayerModel" 73 ⟨"StageLayerModel", "counts", "(I)I"⟩) ∈ gw := gw_t (i := 418) (by decide +kernel) (by decide +kernel)
theorem w_419 : (Cond.static ⟨"StageLayerModel", "counts", "(I)I"⟩) ∈ gw := gw_t (i := 419) (by decide +kernel) (by decide +kernel)
theorem w_420 : (Cond.code ⟨"StageLayerModel", "counts", "(I)I"⟩ prog_3_method_6_code 1 (some .int)) ∈ gw := gw_t (i := 420) (by decide +kernel) (by decide +kernel)
theorem w_421 : (Cond.methodLink "StageLayerModel" 62 ⟨"StageLayerModel", "ones", "(I)I"⟩) ∈ gw := gw_t (i := 421) (by decide +kernel) (by decide +kernel)
theorem w_422 : (Cond.static ⟨"StageLayerModel", "ones", "(I)I"⟩) ∈ gw := gw_t (i := 422) (by decide +kernel) (by decide +kernel)
theorem w_423 : (Cond.code ⟨"StageLayerModel", "ones", "(I)I"⟩ prog_3_method_5_code 3 (some .int)) ∈ gw := gw_t (i := 423) (by decide +kernel) (by decide +kernel)
theorem w_424 : (Cond.methodLink "StageLayerModel" 76 ⟨"StageLayerModel", "isFull", "(I)Z"⟩) ∈ gw := gw_t (i := 424) (by decide +kernel) (by decide +kernel)
theorem w_426 : (Cond.instanceMethod ⟨"StageLayerModel", "isFull", "(I)Z"⟩) ∈ gw := gw_t (i := 426) (by decide +kernel) (by decide +kernel)
theorem w_427 : (Cond.code ⟨"StageLayerModel", "isFull", "(I)Z"⟩ prog_3_method_8_code 2 (some .boolean)) ∈ gw := gw_t (i := 427) (by decide +kernel) (by decide +kernel)
theorem w_428 : (Cond.methodLink "StageLayerModel" 79 ⟨"StageLayerModel", "comes", "(I)I"⟩) ∈ gw := gw_t (i := 428) (by decide +kernel) (by decide +kernel)
theorem w_430 : (Cond.instanceMethod ⟨"StageLayerModel", "comes", "(I)I"⟩) ∈ gw := gw_t (i := 430) (by decide +kernel) (by decide +kernel)
theorem w_431 : (Cond.code ⟨"StageLayerModel", "comes", "(I)I"⟩ prog_3_method_9_code 4 (some .int)) ∈ gw := gw_t (i := 431) (by decide +kernel) (by decide +kernel)
theorem w_432 : (Cond.methodLink "StageLayerModel" 82 ⟨"StageLayerModel", "reads", "(II)V"⟩) ∈ gw := gw_t (i := 432) (by decide +kernel) (by decide +kernel)
theorem w_434 : (Cond.instanceMethod ⟨"StageLayerModel", "reads", "(II)V"⟩) ∈ gw := gw_t (i := 434) (by decide +kernel) (by decide +kernel)
theorem w_435 : (Cond.code ⟨"StageLayerModel", "reads", "(II)V"⟩ prog_3_method_10_code 4 none) ∈ gw := gw_t (i := 435) (by decide +kernel) (by decide +kernel)
theorem w_436 : (Cond.methodLink "StageLayerModel" 85 ⟨"StageLayerModel", "writes", "(II)V"⟩) ∈ gw := gw_t (i := 436) (by decide +kernel) (by decide +kernel)
theorem w_438 : (Cond.instanceMethod ⟨"StageLayerModel", "writes", "(II)V"⟩) ∈ gw := gw_t (i := 438) (by decide +kernel) (by decide +kernel)
theorem w_439 : (Cond.code ⟨"StageLayerModel", "writes", "(II)V"⟩ prog_3_method_11_code 3 none) ∈ gw := gw_t (i := 439) (by decide +kernel) (by decide +kernel)
theorem w_440 : (Cond.methodLink "StageLayerLaw" 67 ⟨"StageLayerModel", "load", "(III)I"⟩) ∈ gw := gw_t (i := 440) (by decide +kernel) (by decide +kernel)
theorem w_441 : (Cond.instanceMethod ⟨"StageLayerModel", "load", "(III)I"⟩) ∈ gw := gw_t (i := 441) (by decide +kernel) (by decide +kernel)
theorem w_442 : (Cond.selects "StageLayerModel" ⟨"StageLayerModel", "load", "(III)I"⟩ ⟨"StageLayerModel", "load", "(III)I"⟩) ∈ gw := gw_t (i := 442) (by decide +kernel) (by decide +kernel)
theorem w_443 : (Cond.code ⟨"StageLayerModel", "load", "(III)I"⟩ prog_3_method_13_code 5 (some .int)) ∈ gw := gw_t (i := 443) (by decide +kernel) (by decide +kernel)
theorem w_444 : (Cond.methodLink "StageLayerLaw" 70 ⟨"StageLayerModel", "store", "(III)I"⟩) ∈ gw := gw_t (i := 444) (by decide +kernel) (by decide +kernel)
theorem w_445 : (Cond.instanceMethod ⟨"StageLayerModel", "store", "(III)I"⟩) ∈ gw := gw_t (i := 445) (by decide +kernel) (by decide +kernel)
theorem w_446 : (Cond.selects "StageLayerModel" ⟨"StageLayerModel", "store", "(III)I"⟩ ⟨"StageLayerModel", "store", "(III)I"⟩) ∈ gw := gw_t (i := 446) (by decide +kernel) (by decide +kernel)
theorem w_447 : (Cond.code ⟨"StageLayerModel", "store", "(III)I"⟩ prog_3_method_14_code 5 (some .int)) ∈ gw := gw_t (i := 447) (by decide +kernel) (by decide +kernel)
theorem w_448 : (Cond.methodLink "StageLayerLaw" 74 ⟨"StageLayerModel", "valid", "(IZ)I"⟩) ∈ gw := gw_t (i := 448) (by decide +kernel) (by decide +kernel)
theorem w_449 : (Cond.instanceMethod ⟨"StageLayerModel", "valid", "(IZ)I"⟩) ∈ gw := gw_t (i := 449) (by decide +kernel) (by decide +kernel)
theorem w_450 : (Cond.selects "StageLayerModel" ⟨"StageLayerModel", "valid", "(IZ)I"⟩ ⟨"StageLayerModel", "valid", "(IZ)I"⟩) ∈ gw := gw_t (i := 450) (by decide +kernel) (by decide +kernel)
theorem w_451 : (Cond.code ⟨"StageLayerModel", "valid", "(IZ)I"⟩ prog_3_method_15_code 4 (some .int)) ∈ gw := gw_t (i := 451) (by decide +kernel) (by decide +kernel)
theorem w_452 : (Cond.methodLink "StageLayerLaw" 78 ⟨"StageLayerModel", "drop", "()I"⟩) ∈ gw := gw_t (i := 452) (by decide +kernel) (by decide +kernel)
theorem w_453 : (Cond.instanceMethod ⟨"StageLayerModel", "drop", "()I"⟩) ∈ gw := gw_t (i := 453) (by decide +kernel) (by decide +kernel)
theorem w_454 : (Cond.selects "StageLayerModel" ⟨"StageLayerModel", "drop", "()I"⟩ ⟨"StageLayerModel", "drop", "()I"⟩) ∈ gw := gw_t (i := 454) (by decide +kernel) (by decide +kernel)
theorem w_455 : (Cond.code ⟨"StageLayerModel", "drop", "()I"⟩ prog_3_method_16_code 2 (some .int)) ∈ gw := gw_t (i := 455) (by decide +kernel) (by decide +kernel)
theorem w_456 : (Cond.methodLink "StageLayerLaw" 82 ⟨"StageLayerModel", "open", "(I)I"⟩) ∈ gw := gw_t (i := 456) (by decide +kernel) (by decide +kernel)
theorem w_457 : (Cond.instanceMethod ⟨"StageLayerModel", "open", "(I)I"⟩) ∈ gw := gw_t (i := 457) (by decide +kernel) (by decide +kernel)
theorem w_458 : (Cond.selects "StageLayerModel" ⟨"StageLayerModel", "open", "(I)I"⟩ ⟨"StageLayerModel", "open", "(I)I"⟩) ∈ gw := gw_t (i := 458) (by decide +kernel) (by decide +kernel)
theorem w_459 : (Cond.code ⟨"StageLayerModel", "open", "(I)I"⟩ prog_3_method_17_code 3 (some .int)) ∈ gw := gw_t (i := 459) (by decide +kernel) (by decide +kernel)
theorem w_460 : (Cond.methodLink "StageLayerLaw" 85 ⟨"StageLayerModel", "close", "()I"⟩) ∈ gw := gw_t (i := 460) (by decide +kernel) (by decide +kernel)
theorem w_461 : (Cond.instanceMethod ⟨"StageLayerModel", "close", "()I"⟩) ∈ gw := gw_t (i := 461) (by decide +kernel) (by decide +kernel)
theorem w_462 : (Cond.selects "StageLayerModel" ⟨"StageLayerModel", "close", "()I"⟩ ⟨"StageLayerModel", "close", "()I"⟩) ∈ gw := gw_t (i := 462) (by decide +kernel) (by decide +kernel)
theorem w_463 : (Cond.code ⟨"StageLayerModel", "close", "()I"⟩ prog_3_method_18_code 2 (some .int)) ∈ gw := gw_t (i := 463) (by decide +kernel) (by decide +kernel)
theorem w_464 : (Cond.methodLink "StageLayerLaw" 88 ⟨"StageLayerModel", "apply", "(III)I"⟩) ∈ gw := gw_t (i := 464) (by decide +kernel) (by decide +kernel)
theorem w_465 : (Cond.instanceMethod ⟨"StageLayerModel", "apply", "(III)I"⟩) ∈ gw := gw_t (i := 465) (by decide +kernel) (by decide +kernel)
theorem w_466 : (Cond.selects "StageLayerModel" ⟨"StageLayerModel", "apply", "(III)I"⟩ ⟨"StageLayerModel", "apply", "(III)I"⟩) ∈ gw := gw_t (i := 466) (by decide +kernel) (by decide +kernel)
theorem w_467 : (Cond.code ⟨"StageLayerModel", "apply", "(III)I"⟩ prog_3_method_19_code 7 (some .int)) ∈ gw := gw_t (i := 467) (by decide +kernel) (by decide +kernel)
theorem w_468 : (Cond.methodLink "StageLayerLaw" 91 ⟨"StageLayerModel", "lay", "(III)I"⟩) ∈ gw := gw_t (i := 468) (by decide +kernel) (by decide +kernel)
theorem w_469 : (Cond.instanceMethod ⟨"StageLayerModel", "lay", "(III)I"⟩) ∈ gw := gw_t (i := 469) (by decide +kernel) (by decide +kernel)
theorem w_470 : (Cond.selects "StageLayerModel" ⟨"StageLayerModel", "lay", "(III)I"⟩ ⟨"StageLayerModel", "lay", "(III)I"⟩) ∈ gw := gw_t (i := 470) (by decide +kernel) (by decide +kernel)
theorem w_471 : (Cond.code ⟨"StageLayerModel", "lay", "(III)I"⟩ prog_3_method_25_code 5 (some .int)) ∈ gw := gw_t (i := 471) (by decide +kernel) (by decide +kernel)
theorem w_472 : (Cond.methodLink "StageLayerModel" 106 ⟨"StageLayerModel", "place", "(IIII)I"⟩) ∈ gw := gw_t (i := 472) (by decide +kernel) (by decide +kernel)
theorem w_474 : (Cond.instanceMethod ⟨"StageLayerModel", "place", "(IIII)I"⟩) ∈ gw := gw_t (i := 474) (by decide +kernel) (by decide +kernel)
theorem w_475 : (Cond.code ⟨"StageLayerModel", "place", "(IIII)I"⟩ prog_3_method_24_code 8 (some .int)) ∈ gw := gw_t (i := 475) (by decide +kernel) (by decide +kernel)
theorem w_476 : (Cond.methodLink "StageLayerModel" 95 ⟨"StageLayerModel", "hasRoom", "(IIII)Z"⟩) ∈ gw := gw_t (i := 476) (by decide +kernel) (by decide +kernel)
theorem w_478 : (Cond.instanceMethod ⟨"StageLayerModel", "hasRoom", "(IIII)Z"⟩) ∈ gw := gw_t (i := 478) (by decide +kernel) (by decide +kernel)
theorem w_479 : (Cond.code ⟨"StageLayerModel", "hasRoom", "(IIII)Z"⟩ prog_3_method_23_code 5 (some .boolean)) ∈ gw := gw_t (i := 479) (by decide +kernel) (by decide +kernel)
theorem w_480 : (Cond.methodLink "StageLayerModel" 91 ⟨"StageLayerModel", "sum", "(III)I"⟩) ∈ gw := gw_t (i := 480) (by decide +kernel) (by decide +kernel)
theorem w_482 : (Cond.instanceMethod ⟨"StageLayerModel", "sum", "(III)I"⟩) ∈ gw := gw_t (i := 482) (by decide +kernel) (by decide +kernel)
theorem w_483 : (Cond.code ⟨"StageLayerModel", "sum", "(III)I"⟩ prog_3_method_22_code 6 (some .int)) ∈ gw := gw_t (i := 483) (by decide +kernel) (by decide +kernel)
theorem w_484 : (Cond.methodLink "StageLayerModel" 99 ⟨"StageLayerModel", "mayBe", "(III)Z"⟩) ∈ gw := gw_t (i := 484) (by decide +kernel) (by decide +kernel)
theorem w_486 : (Cond.instanceMethod ⟨"StageLayerModel", "mayBe", "(III)Z"⟩) ∈ gw := gw_t (i := 486) (by decide +kernel) (by decide +kernel)
theorem w_487 : (Cond.code ⟨"StageLayerModel", "mayBe", "(III)Z"⟩ prog_3_method_21_code 7 (some .boolean)) ∈ gw := gw_t (i := 487) (by decide +kernel) (by decide +kernel)
theorem w_488 : (Cond.methodLink "StageLayerModel" 87 ⟨"StageLayerModel", "isIn", "(II)Z"⟩) ∈ gw := gw_t (i := 488) (by decide +kernel) (by decide +kernel)
theorem w_490 : (Cond.instanceMethod ⟨"StageLayerModel", "isIn", "(II)Z"⟩) ∈ gw := gw_t (i := 490) (by decide +kernel) (by decide +kernel)
theorem w_491 : (Cond.code ⟨"StageLayerModel", "isIn", "(II)Z"⟩ prog_3_method_20_code 4 (some .boolean)) ∈ gw := gw_t (i := 491) (by decide +kernel) (by decide +kernel)
theorem w_492 : (Cond.methodLink "StageLayerLaw" 95 ⟨"StageLayerModel", "homeless", "()I"⟩) ∈ gw := gw_t (i := 492) (by decide +kernel) (by decide +kernel)
theorem w_493 : (Cond.instanceMethod ⟨"StageLayerModel", "homeless", "()I"⟩) ∈ gw := gw_t (i := 493) (by decide +kernel) (by decide +kernel)
theorem w_494 : (Cond.selects "StageLayerModel" ⟨"StageLayerModel", "homeless", "()I"⟩ ⟨"StageLayerModel", "homeless", "()I"⟩) ∈ gw := gw_t (i := 494) (by decide +kernel) (by decide +kernel)
theorem w_495 : (Cond.code ⟨"StageLayerModel", "homeless", "()I"⟩ prog_3_method_26_code 1 (some .int)) ∈ gw := gw_t (i := 495) (by decide +kernel) (by decide +kernel)
theorem w_496 : (Cond.methodLink "StageLayerLaw" 99 ⟨"StageLayerModel", "stage", "(I)I"⟩) ∈ gw := gw_t (i := 496) (by decide +kernel) (by decide +kernel)
theorem w_497 : (Cond.instanceMethod ⟨"StageLayerModel", "stage", "(I)I"⟩) ∈ gw := gw_t (i := 497) (by decide +kernel) (by decide +kernel)
theorem w_498 : (Cond.selects "StageLayerModel" ⟨"StageLayerModel", "stage", "(I)I"⟩ ⟨"StageLayerModel", "stage", "(I)I"⟩) ∈ gw := gw_t (i := 498) (by decide +kernel) (by decide +kernel)
theorem w_499 : (Cond.code ⟨"StageLayerModel", "stage", "(I)I"⟩ prog_3_method_27_code 2 (some .int)) ∈ gw := gw_t (i := 499) (by decide +kernel) (by decide +kernel)
theorem w_500 : (Cond.methodLink "StageLayerLaw" 103 ⟨"StageLayerModel", "used", "(II)I"⟩) ∈ gw := gw_t (i := 500) (by decide +kernel) (by decide +kernel)
theorem w_501 : (Cond.instanceMethod ⟨"StageLayerModel", "used", "(II)I"⟩) ∈ gw := gw_t (i := 501) (by decide +kernel) (by decide +kernel)
theorem w_502 : (Cond.selects "StageLayerModel" ⟨"StageLayerModel", "used", "(II)I"⟩ ⟨"StageLayerModel", "used", "(II)I"⟩) ∈ gw := gw_t (i := 502) (by decide +kernel) (by decide +kernel)
theorem w_503 : (Cond.code ⟨"StageLayerModel", "used", "(II)I"⟩ prog_3_method_28_code 3 (some .int)) ∈ gw := gw_t (i := 503) (by decide +kernel) (by decide +kernel)
theorem w_504 : (Cond.methodLink "StageLayerLaw" 107 ⟨"StageLayerModel", "count", "(I)I"⟩) ∈ gw := gw_t (i := 504) (by decide +kernel) (by decide +kernel)
theorem w_505 : (Cond.instanceMethod ⟨"StageLayerModel", "count", "(I)I"⟩) ∈ gw := gw_t (i := 505) (by decide +kernel) (by decide +kernel)
theorem w_506 : (Cond.selects "StageLayerModel" ⟨"StageLayerModel", "count", "(I)I"⟩ ⟨"StageLayerModel", "count", "(I)I"⟩) ∈ gw := gw_t (i := 506) (by decide +kernel) (by decide +kernel)
theorem w_507 : (Cond.code ⟨"StageLayerModel", "count", "(I)I"⟩ prog_3_method_29_code 2 (some .int)) ∈ gw := gw_t (i := 507) (by decide +kernel) (by decide +kernel)
theorem s_0 : (Cond.selects "StageLayer" ⟨"StageLayer", "forgetStages", "()V"⟩ ⟨"StageLayer", "forgetStages", "()V"⟩) ∈ gw := gw_s (by decide +kernel) (by decide +kernel)
theorem s_1 : (Cond.selects "java/lang/Throwable" ⟨"java/lang/Throwable", "fillInStackTrace", "(I)Ljava/lang/Throwable;"⟩ ⟨"java/lang/Throwable", "fillInStackTrace", "(I)Ljava/lang/Throwable;"⟩) ∈ gw := gw_s (by decide +kernel) (by decide +kernel)
theorem s_2 : (Cond.selects "StageLayer" ⟨"StageLayer", "addStep", "(JJII)I"⟩ ⟨"StageLayer", "addStep", "(JJII)I"⟩) ∈ gw := gw_s (by decide +kernel) (by decide +kernel)
theorem s_3 : (Cond.selects "StageLayer" ⟨"StageLayer", "innermostIf", "()I"⟩ ⟨"StageLayer", "innermostIf", "()I"⟩) ∈ gw := gw_s (by decide +kernel) (by decide +kernel)
theorem s_4 : (Cond.selects "StageLayer" ⟨"StageLayer", "need", "(III)V"⟩ ⟨"StageLayer", "need", "(III)V"⟩) ∈ gw := gw_s (by decide +kernel) (by decide +kernel)
theorem s_5 : (Cond.selects "StageLayer" ⟨"StageLayer", "emptyStages", "()V"⟩ ⟨"StageLayer", "emptyStages", "()V"⟩) ∈ gw := gw_s (by decide +kernel) (by decide +kernel)
theorem s_6 : (Cond.selects "StageLayer" ⟨"StageLayer", "findStage", "(IIII)I"⟩ ⟨"StageLayer", "findStage", "(IIII)I"⟩) ∈ gw := gw_s (by decide +kernel) (by decide +kernel)
theorem s_7 : (Cond.selects "StageLayer" ⟨"StageLayer", "earliestStage", "(I)I"⟩ ⟨"StageLayer", "earliestStage", "(I)I"⟩) ∈ gw := gw_s (by decide +kernel) (by decide +kernel)
theorem s_8 : (Cond.selects "StageLayer" ⟨"StageLayer", "stageOfSharedArray", "(I)I"⟩ ⟨"StageLayer", "stageOfSharedArray", "(I)I"⟩) ∈ gw := gw_s (by decide +kernel) (by decide +kernel)
theorem s_9 : (Cond.selects "StageLayer" ⟨"StageLayer", "hasRoom", "(IIII)Z"⟩ ⟨"StageLayer", "hasRoom", "(IIII)Z"⟩) ∈ gw := gw_s (by decide +kernel) (by decide +kernel)
theorem s_10 : (Cond.selects "StageLayer" ⟨"StageLayer", "settle", "(II)V"⟩ ⟨"StageLayer", "settle", "(II)V"⟩) ∈ gw := gw_s (by decide +kernel) (by decide +kernel)
theorem s_11 : (Cond.selects "StageLayerModel" ⟨"StageLayerModel", "isFull", "(I)Z"⟩ ⟨"StageLayerModel", "isFull", "(I)Z"⟩) ∈ gw := gw_s (by decide +kernel) (by decide +kernel)
theorem s_12 : (Cond.selects "StageLayerModel" ⟨"StageLayerModel", "comes", "(I)I"⟩ ⟨"StageLayerModel", "comes", "(I)I"⟩) ∈ gw := gw_s (by decide +kernel) (by decide +kernel)
theorem s_13 : (Cond.selects "StageLayerModel" ⟨"StageLayerModel", "reads", "(II)V"⟩ ⟨"StageLayerModel", "reads", "(II)V"⟩) ∈ gw := gw_s (by decide +kernel) (by decide +kernel)
theorem s_14 : (Cond.selects "StageLayerModel" ⟨"StageLayerModel", "writes", "(II)V"⟩ ⟨"StageLayerModel", "writes", "(II)V"⟩) ∈ gw := gw_s (by decide +kernel) (by decide +kernel)
theorem s_15 : (Cond.selects "StageLayerModel" ⟨"StageLayerModel", "place", "(IIII)I"⟩ ⟨"StageLayerModel", "place", "(IIII)I"⟩) ∈ gw := gw_s (by decide +kernel) (by decide +kernel)
theorem s_16 : (Cond.selects "StageLayerModel" ⟨"StageLayerModel", "hasRoom", "(IIII)Z"⟩ ⟨"StageLayerModel", "hasRoom", "(IIII)Z"⟩) ∈ gw := gw_s (by decide +kernel) (by decide +kernel)
theorem s_17 : (Cond.selects "StageLayerModel" ⟨"StageLayerModel", "sum", "(III)I"⟩ ⟨"StageLayerModel", "sum", "(III)I"⟩) ∈ gw := gw_s (by decide +kernel) (by decide +kernel)
theorem s_18 : (Cond.selects "StageLayerModel" ⟨"StageLayerModel", "mayBe", "(III)Z"⟩ ⟨"StageLayerModel", "mayBe", "(III)Z"⟩) ∈ gw := gw_s (by decide +kernel) (by decide +kernel)
theorem s_19 : (Cond.selects "StageLayerModel" ⟨"StageLayerModel", "isIn", "(II)Z"⟩ ⟨"StageLayerModel", "isIn", "(II)Z"⟩) ∈ gw := gw_s (by decide +kernel) (by decide +kernel)
abbrev cX0_init : ByteArray := prog_1_method_1_code
abbrev yX0_init : MethodName := ⟨RX0, "<init>", "()V"⟩
abbrev wsX0_init : List Cond := .code yX0_init cX0_init 1 none :: gw
abbrev cX0_clear : ByteArray := prog_1_method_2_code
abbrev yX0_clear : MethodName := ⟨RX0, "clear", "()V"⟩
abbrev wsX0_clear : List Cond := .code yX0_clear cX0_clear 1 none :: gw
abbrev cX0_forgetStages : ByteArray := prog_1_method_26_code
abbrev yX0_forgetStages : MethodName := ⟨RX0, "forgetStages", "()V"⟩
abbrev wsX0_forgetStages : List Cond := .code yX0_forgetStages cX0_forgetStages 1 none :: gw
abbrev cX0_homeless : ByteArray := prog_1_method_12_code
abbrev yX0_homeless : MethodName := ⟨RX0, "homeless", "()I"⟩
abbrev wsX0_homeless : List Cond := .code yX0_homeless cX0_homeless 1 (some .int) :: gw
abbrev cX0_stage : ByteArray := prog_1_method_13_code
abbrev yX0_stage : MethodName := ⟨RX0, "stage", "(I)I"⟩
abbrev wsX0_stage : List Cond := .code yX0_stage cX0_stage 2 (some .int) :: gw
abbrev cX0_used : ByteArray := prog_1_method_14_code
abbrev yX0_used : MethodName := ⟨RX0, "used", "(II)I"⟩
abbrev wsX0_used : List Cond := .code yX0_used cX0_used 3 (some .int) :: gw
abbrev cX0_count : ByteArray := prog_1_method_15_code
abbrev yX0_count : MethodName := ⟨RX0, "count", "(I)I"⟩
abbrev wsX0_count : List Cond := .code yX0_count cX0_count 2 (some .int) :: gw
abbrev cL_assign : ByteArray := method_3_code
abbrev yL_assign : MethodName := ⟨RL, "assign", "(LStageLayer;II[J)I"⟩
abbrev wsL_assign : List Cond := .codeWith yL_assign cL_assign 5 (some .int) [(0, 10, 13, 13), (0, 10, 17, 15)] :: gw
abbrev cX0_assign : ByteArray := prog_1_method_3_code
abbrev yX0_assign : MethodName := ⟨RX0, "assign", "(II)I"⟩
abbrev wsX0_assign : List Cond := .code yX0_assign cX0_assign 3 (some .int) :: gw
abbrev cX0_requirePlace : ByteArray := prog_1_method_16_code
abbrev yX0_requirePlace : MethodName := ⟨RX0, "requirePlace", "(I)V"⟩
abbrev wsX0_requirePlace : List Cond := .code yX0_requirePlace cX0_requirePlace 1 none :: gw
abbrev cX0_requireReadable : ByteArray := prog_1_method_18_code
abbrev yX0_requireReadable : MethodName := ⟨RX0, "requireReadable", "(I)V"⟩
abbrev wsX0_requireReadable : List Cond := .code yX0_requireReadable cX0_requireReadable 1 none :: gw
abbrev cX0_readingAndWriting : ByteArray := prog_1_method_21_code
abbrev yX0_readingAndWriting : MethodName := ⟨RX0, "readingAndWriting", "(II)J"⟩
abbrev wsX0_readingAndWriting : List Cond := .code yX0_readingAndWriting cX0_readingAndWriting 2 (some .long) :: gw
abbrev cX0_reading : ByteArray := prog_1_method_20_code
abbrev yX0_reading : MethodName := ⟨RX0, "reading", "(I)J"⟩
abbrev wsX0_reading : List Cond := .code yX0_reading cX0_reading 1 (some .long) :: gw
abbrev cX0_validitiesOf : ByteArray := prog_1_method_19_code
abbrev yX0_validitiesOf : MethodName := ⟨RX0, "validitiesOf", "(I)J"⟩
abbrev wsX0_validitiesOf : List Cond := .code yX0_validitiesOf cX0_validitiesOf 1 (some .long) :: gw
abbrev cX0_costOf : ByteArray := prog_1_method_22_code
abbrev yX0_costOf : MethodName := ⟨RX0, "costOf", "(I)I"⟩
abbrev wsX0_costOf : List Cond := .code yX0_costOf cX0_costOf 1 (some .int) :: gw
abbrev cJ6_bitCount : ByteArray := prog_8_method_49_code
abbrev yJ6_bitCount : MethodName := ⟨RJ6, "bitCount", "(I)I"⟩
abbrev wsJ6_bitCount : List Cond := .code yJ6_bitCount cJ6_bitCount 1 (some .int) :: gw
abbrev cX0_addStep : ByteArray := prog_1_method_23_code
abbrev yX0_addStep : MethodName := ⟨RX0, "addStep", "(JJII)I"⟩
abbrev wsX0_addStep : List Cond := .code yX0_addStep cX0_addStep 8 (some .int) :: gw
abbrev cX0_innermostIf : ByteArray := prog_1_method_25_code
abbrev yX0_innermostIf : MethodName := ⟨RX0, "innermostIf", "()I"⟩
abbrev wsX0_innermostIf : List Cond := .code yX0_innermostIf cX0_innermostIf 1 (some .int) :: gw
abbrev cX0_need : ByteArray := prog_1_method_24_code
abbrev yX0_need : MethodName := ⟨RX0, "need", "(III)V"⟩
abbrev wsX0_need : List Cond := .code yX0_need cX0_need 4 none :: gw
abbrev cL_load : ByteArray := method_4_code
abbrev yL_load : MethodName := ⟨RL, "load", "(LStageLayer;III[J)I"⟩
abbrev wsL_load : List Cond := .codeWith yL_load cL_load 6 (some .int) [(0, 12, 15, 13), (0, 12, 19, 15)] :: gw
abbrev cX0_load : ByteArray := prog_1_method_4_code
abbrev yX0_load : MethodName := ⟨RX0, "load", "(III)I"⟩
abbrev wsX0_load : List Cond := .code yX0_load cX0_load 4 (some .int) :: gw
abbrev cX0_requireArray : ByteArray := prog_1_method_17_code
abbrev yX0_requireArray : MethodName := ⟨RX0, "requireArray", "(I)V"⟩
abbrev wsX0_requireArray : List Cond := .code yX0_requireArray cX0_requireArray 1 none :: gw
abbrev cL_store : ByteArray := method_5_code
abbrev yL_store : MethodName := ⟨RL, "store", "(LStageLayer;III[J)I"⟩
abbrev wsL_store : List Cond := .codeWith yL_store cL_store 6 (some .int) [(0, 12, 15, 13), (0, 12, 19, 15)] :: gw
abbrev cX0_store : ByteArray := prog_1_method_5_code
abbrev yX0_store : MethodName := ⟨RX0, "store", "(III)I"⟩
abbrev wsX0_store : List Cond := .code yX0_store cX0_store 4 (some .int) :: gw
abbrev cL_valid : ByteArray := method_6_code
abbrev yL_valid : MethodName := ⟨RL, "valid", "(LStageLayer;IZ[J)I"⟩
abbrev wsL_valid : List Cond := .codeWith yL_valid cL_valid 5 (some .int) [(0, 10, 13, 13), (0, 10, 17, 15)] :: gw
abbrev cX0_valid : ByteArray := prog_1_method_6_code
abbrev yX0_valid : MethodName := ⟨RX0, "valid", "(IZ)I"⟩
abbrev wsX0_valid : List Cond := .code yX0_valid cX0_valid 4 (some .int) :: gw
abbrev cL_drop : ByteArray := method_7_code
abbrev yL_drop : MethodName := ⟨RL, "drop", "(LStageLayer;[J)I"⟩
abbrev wsL_drop : List Cond := .codeWith yL_drop cL_drop 3 (some .int) [(0, 8, 11, 15)] :: gw
abbrev cX0_drop : ByteArray := prog_1_method_7_code
abbrev yX0_drop : MethodName := ⟨RX0, "drop", "()I"⟩
abbrev wsX0_drop : List Cond := .code yX0_drop cX0_drop 1 (some .int) :: gw
abbrev cL_open : ByteArray := method_8_code
abbrev yL_open : MethodName := ⟨RL, "open", "(LStageLayer;I[J)I"⟩
abbrev wsL_open : List Cond := .codeWith yL_open cL_open 4 (some .int) [(0, 9, 12, 13), (0, 9, 15, 15)] :: gw
abbrev cX0_open : ByteArray := prog_1_method_8_code
abbrev yX0_open : MethodName := ⟨RX0, "open", "(I)I"⟩
abbrev wsX0_open : List Cond := .code yX0_open cX0_open 3 (some .int) :: gw
abbrev cL_close : ByteArray := method_9_code
abbrev yL_close : MethodName := ⟨RL, "close", "(LStageLayer;[J)I"⟩
abbrev wsL_close : List Cond := .codeWith yL_close cL_close 3 (some .int) [(0, 8, 11, 15)] :: gw
abbrev cX0_close : ByteArray := prog_1_method_9_code
abbrev yX0_close : MethodName := ⟨RX0, "close", "()I"⟩
abbrev wsX0_close : List Cond := .code yX0_close cX0_close 1 (some .int) :: gw
abbrev cL_apply : ByteArray := method_10_code
abbrev yL_apply : MethodName := ⟨RL, "apply", "(LStageLayer;III[J)I"⟩
abbrev wsL_apply : List Cond := .codeWith yL_apply cL_apply 6 (some .int) [(0, 12, 15, 13), (0, 12, 19, 42), (0, 12, 23, 15)] :: gw
abbrev cX0_apply : ByteArray := prog_1_method_10_code
abbrev yX0_apply : MethodName := ⟨RX0, "apply", "(III)I"⟩
abbrev wsX0_apply : List Cond := .code yX0_apply cX0_apply 7 (some .int) :: gw
abbrev cL_lay : ByteArray := method_11_code
abbrev yL_lay : MethodName := ⟨RL, "lay", "(LStageLayer;III[J)I"⟩
abbrev wsL_lay : List Cond := .codeWith yL_lay cL_lay 6 (some .int) [(0, 12, 15, 42)] :: gw
abbrev cX0_lay : ByteArray := prog_1_method_11_code
abbrev yX0_lay : MethodName := ⟨RX0, "lay", "(III)I"⟩
abbrev wsX0_lay : List Cond := .code yX0_lay cX0_lay 7 (some .int) :: gw
abbrev cX0_emptyStages : ByteArray := prog_1_method_27_code
abbrev yX0_emptyStages : MethodName := ⟨RX0, "emptyStages", "()V"⟩
abbrev wsX0_emptyStages : List Cond := .code yX0_emptyStages cX0_emptyStages 2 none :: gw
abbrev cX0_findStage : ByteArray := prog_1_method_28_code
abbrev yX0_findStage : MethodName := ⟨RX0, "findStage", "(IIII)I"⟩
abbrev wsX0_findStage : List Cond := .code yX0_findStage cX0_findStage 9 (some .int) :: gw
abbrev cX0_earliestStage : ByteArray := prog_1_method_29_code
abbrev yX0_earliestStage : MethodName := ⟨RX0, "earliestStage", "(I)I"⟩
abbrev wsX0_earliestStage : List Cond := .code yX0_earliestStage cX0_earliestStage 9 (some .int) :: gw
abbrev cX0_stageOfSharedArray : ByteArray := prog_1_method_30_code
abbrev yX0_stageOfSharedArray : MethodName := ⟨RX0, "stageOfSharedArray", "(I)I"⟩
abbrev wsX0_stageOfSharedArray : List Cond := .code yX0_stageOfSharedArray cX0_stageOfSharedArray 3 (some .int) :: gw
abbrev cX0_hasRoom : ByteArray := prog_1_method_31_code
abbrev yX0_hasRoom : MethodName := ⟨RX0, "hasRoom", "(IIII)Z"⟩
abbrev wsX0_hasRoom : List Cond := .code yX0_hasRoom cX0_hasRoom 5 (some .boolean) :: gw
abbrev cX0_settle : ByteArray := prog_1_method_32_code
abbrev yX0_settle : MethodName := ⟨RX0, "settle", "(II)V"⟩
abbrev wsX0_settle : List Cond := .code yX0_settle cX0_settle 3 none :: gw
abbrev cX1_init : ByteArray := prog_3_method_1_code
abbrev yX1_init : MethodName := ⟨RX1, "<init>", "()V"⟩
abbrev wsX1_init : List Cond := .code yX1_init cX1_init 1 none :: gw
abbrev cX1_thrown : ByteArray := prog_3_method_2_code
abbrev yX1_thrown : MethodName := ⟨RX1, "thrown", "()I"⟩
abbrev wsX1_thrown : List Cond := .code yX1_thrown cX1_thrown 1 (some .int) :: gw
abbrev cX1_clear : ByteArray := prog_3_method_3_code
abbrev yX1_clear : MethodName := ⟨RX1, "clear", "()V"⟩
abbrev wsX1_clear : List Cond := .code yX1_clear cX1_clear 1 none :: gw
abbrev cX1_assign : ByteArray := prog_3_method_12_code
abbrev yX1_assign : MethodName := ⟨RX1, "assign", "(II)I"⟩
abbrev wsX1_assign : List Cond := .code yX1_assign cX1_assign 4 (some .int) :: gw
abbrev cX1_isPlace : ByteArray := prog_3_method_7_code
abbrev yX1_isPlace : MethodName := ⟨RX1, "isPlace", "(I)Z"⟩
abbrev wsX1_isPlace : List Cond := .code yX1_isPlace cX1_isPlace 1 (some .boolean) :: gw
abbrev cX1_isSet : ByteArray := prog_3_method_4_code
abbrev yX1_isSet : MethodName := ⟨RX1, "isSet", "(I)Z"⟩
abbrev wsX1_isSet : List Cond := .code yX1_isSet cX1_isSet 1 (some .boolean) :: gw
abbrev cX1_counts : ByteArray := prog_3_method_6_code
abbrev yX1_counts : MethodName := ⟨RX1, "counts", "(I)I"⟩
abbrev wsX1_counts : List Cond := .code yX1_counts cX1_counts 1 (some .int) :: gw
abbrev cX1_ones : ByteArray := prog_3_method_5_code
abbrev yX1_ones : MethodName := ⟨RX1, "ones", "(I)I"⟩
abbrev wsX1_ones : List Cond := .code yX1_ones cX1_ones 3 (some .int) :: gw
abbrev cX1_isFull : ByteArray := prog_3_method_8_code
abbrev yX1_isFull : MethodName := ⟨RX1, "isFull", "(I)Z"⟩
abbrev wsX1_isFull : List Cond := .code yX1_isFull cX1_isFull 2 (some .boolean) :: gw
abbrev cX1_comes : ByteArray := prog_3_method_9_code
abbrev yX1_comes : MethodName := ⟨RX1, "comes", "(I)I"⟩
abbrev wsX1_comes : List Cond := .code yX1_comes cX1_comes 4 (some .int) :: gw
abbrev cX1_reads : ByteArray := prog_3_method_10_code
abbrev yX1_reads : MethodName := ⟨RX1, "reads", "(II)V"⟩
abbrev wsX1_reads : List Cond := .code yX1_reads cX1_reads 4 none :: gw
abbrev cX1_writes : ByteArray := prog_3_method_11_code
abbrev yX1_writes : MethodName := ⟨RX1, "writes", "(II)V"⟩
abbrev wsX1_writes : List Cond := .code yX1_writes cX1_writes 3 none :: gw
abbrev cX1_load : ByteArray := prog_3_method_13_code
abbrev yX1_load : MethodName := ⟨RX1, "load", "(III)I"⟩
abbrev wsX1_load : List Cond := .code yX1_load cX1_load 5 (some .int) :: gw
abbrev cX1_store : ByteArray := prog_3_method_14_code
abbrev yX1_store : MethodName := ⟨RX1, "store", "(III)I"⟩
abbrev wsX1_store : List Cond := .code yX1_store cX1_store 5 (some .int) :: gw
abbrev cX1_valid : ByteArray := prog_3_method_15_code
abbrev yX1_valid : MethodName := ⟨RX1, "valid", "(IZ)I"⟩
abbrev wsX1_valid : List Cond := .code yX1_valid cX1_valid 4 (some .int) :: gw
abbrev cX1_drop : ByteArray := prog_3_method_16_code
abbrev yX1_drop : MethodName := ⟨RX1, "drop", "()I"⟩
abbrev wsX1_drop : List Cond := .code yX1_drop cX1_drop 2 (some .int) :: gw
abbrev cX1_open : ByteArray := prog_3_method_17_code
abbrev yX1_open : MethodName := ⟨RX1, "open", "(I)I"⟩
abbrev wsX1_open : List Cond := .code yX1_open cX1_open 3 (some .int) :: gw
abbrev cX1_close : ByteArray := prog_3_method_18_code
abbrev yX1_close : MethodName := ⟨RX1, "close", "()I"⟩
abbrev wsX1_close : List Cond := .code yX1_close cX1_close 2 (some .int) :: gw
abbrev cX1_apply : ByteArray := prog_3_method_19_code
abbrev yX1_apply : MethodName := ⟨RX1, "apply", "(III)I"⟩
abbrev wsX1_apply : List Cond := .code yX1_apply cX1_apply 7 (some .int) :: gw
abbrev cX1_lay : ByteArray := prog_3_method_25_code
abbrev yX1_lay : MethodName := ⟨RX1, "lay", "(III)I"⟩
abbrev wsX1_lay : List Cond := .code yX1_lay cX1_lay 5 (some .int) :: gw
abbrev cX1_place : ByteArray := prog_3_method_24_code
abbrev yX1_place : MethodName := ⟨RX1, "place", "(IIII)I"⟩
abbrev wsX1_place : List Cond := .code yX1_place cX1_place 8 (some .int) :: gw
abbrev cX1_hasRoom : ByteArray := prog_3_method_23_code
abbrev yX1_hasRoom : MethodName := ⟨RX1, "hasRoom", "(IIII)Z"⟩
abbrev wsX1_hasRoom : List Cond := .code yX1_hasRoom cX1_hasRoom 5 (some .boolean) :: gw
abbrev cX1_sum : ByteArray := prog_3_method_22_code
abbrev yX1_sum : MethodName := ⟨RX1, "sum", "(III)I"⟩
abbrev wsX1_sum : List Cond := .code yX1_sum cX1_sum 6 (some .int) :: gw
abbrev cX1_mayBe : ByteArray := prog_3_method_21_code
abbrev yX1_mayBe : MethodName := ⟨RX1, "mayBe", "(III)Z"⟩
abbrev wsX1_mayBe : List Cond := .code yX1_mayBe cX1_mayBe 7 (some .boolean) :: gw
abbrev cX1_isIn : ByteArray := prog_3_method_20_code
abbrev yX1_isIn : MethodName := ⟨RX1, "isIn", "(II)Z"⟩
abbrev wsX1_isIn : List Cond := .code yX1_isIn cX1_isIn 4 (some .boolean) :: gw
abbrev cX1_homeless : ByteArray := prog_3_method_26_code
abbrev yX1_homeless : MethodName := ⟨RX1, "homeless", "()I"⟩
abbrev wsX1_homeless : List Cond := .code yX1_homeless cX1_homeless 1 (some .int) :: gw
abbrev cX1_stage : ByteArray := prog_3_method_27_code
abbrev yX1_stage : MethodName := ⟨RX1, "stage", "(I)I"⟩
abbrev wsX1_stage : List Cond := .code yX1_stage cX1_stage 2 (some .int) :: gw
abbrev cX1_used : ByteArray := prog_3_method_28_code
abbrev yX1_used : MethodName := ⟨RX1, "used", "(II)I"⟩
abbrev wsX1_used : List Cond := .code yX1_used cX1_used 3 (some .int) :: gw
abbrev cX1_count : ByteArray := prog_3_method_29_code
abbrev yX1_count : MethodName := ⟨RX1, "count", "(I)I"⟩
abbrev wsX1_count : List Cond := .code yX1_count cX1_count 2 (some .int) :: gw
