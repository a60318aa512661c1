abbrev rn_S : String := "SuccessKinds"
abbrev rn_P : String := "SuccessKinds$Program"
abbrev rn_K : String := "SuccessKinds$Knowledge"
abbrev rn_H : String := "SuccessKinds$Machine"
abbrev rn_M : String := "SuccessKindsModel"
abbrev rn_L : String := "SuccessKindsLaw"
abbrev rn_J : String := "java/util/Arrays"
def ft_S : u_T := fun k => match k with
  | 0 => (rn_S, "program", "LSuccessKinds$Program;", true)
  | 1 => (rn_S, "knowledge", "LSuccessKinds$Knowledge;", true)
  | _ => (rn_S, "machine", "LSuccessKinds$Machine;", true)
def fy_S : Nat → FieldType := fun k => match k with
  | 0 => .object "SuccessKinds$Program"
  | 1 => .object "SuccessKinds$Knowledge"
  | _ => .object "SuccessKinds$Machine"
theorem fn_S : ∀ a, a < 3 → ∀ b, b < 3 → a ≠ b → (ft_S a).2.1 ≠ (ft_S b).2.1 := by decide +kernel
theorem fo_S : ∀ k, k < 3 → parseFieldDescriptor (ft_S k).2.2.1 = some (fy_S k) := by decide +kernel
def ft_P : u_T := fun k => match k with
  | 0 => (rn_P, "sorts", "[I", true)
  | 1 => (rn_P, "details", "[I", true)
  | 2 => (rn_P, "firsts", "[I", true)
  | 3 => (rn_P, "seconds", "[I", true)
  | 4 => (rn_P, "thirds", "[I", true)
  | 5 => (rn_P, "depths", "[I", true)
  | 6 => (rn_P, "sizes", "[I", true)
  | 7 => (rn_P, "bodies", "[I", true)
  | _ => (rn_P, "count", "I", false)
def fy_P : Nat → FieldType := fun k => match k with
  | 0 => .array .int
  | 1 => .array .int
  | 2 => .array .int
  | 3 => .array .int
  | 4 => .array .int
  | 5 => .array .int
  | 6 => .array .int
  | 7 => .array .int
  | _ => .int
theorem fn_P : ∀ a, a < 9 → ∀ b, b < 9 → a ≠ b → (ft_P a).2.1 ≠ (ft_P b).2.1 := by decide +kernel
theorem fo_P : ∀ k, k < 9 → parseFieldDescriptor (ft_P k).2.2.1 = some (fy_P k) := by decide +kernel
def ft_K : u_T := fun k => match k with
  | 0 => (rn_K, "program", "LSuccessKinds$Program;", true)
  | 1 => (rn_K, "mays", "[I", true)
  | 2 => (rn_K, "givens", "[I", true)
  | 3 => (rn_K, "outcomes", "[I", true)
  | _ => (rn_K, "fresh", "Z", false)
def fy_K : Nat → FieldType := fun k => match k with
  | 0 => .object "SuccessKinds$Program"
  | 1 => .array .int
  | 2 => .array .int
  | 3 => .array .int
  | _ => .boolean
theorem fn_K : ∀ a, a < 5 → ∀ b, b < 5 → a ≠ b → (ft_K a).2.1 ≠ (ft_K b).2.1 := by decide +kernel
theorem fo_K : ∀ k, k < 5 → parseFieldDescriptor (ft_K k).2.2.1 = some (fy_K k) := by decide +kernel
def ft_H : u_T := fun k => match k with
  | 0 => (rn_H, "parts", "[I", true)
  | 1 => (rn_H, "partCount", "I", false)
  | 2 => (rn_H, "callsMade", "I", false)
  | 3 => (rn_H, "program", "LSuccessKinds$Program;", true)
  | 4 => (rn_H, "variables", "[J", true)
  | 5 => (rn_H, "heads", "[J", true)
  | 6 => (rn_H, "tails", "[J", true)
  | 7 => (rn_H, "waiting", "[J", true)
  | 8 => (rn_H, "differentPairs", "I", false)
  | 9 => (rn_H, "pairsMade", "I", false)
  | 10 => (rn_H, "steps", "I", false)
  | _ => (rn_H, "failures", "I", false)
def fy_H : Nat → FieldType := fun k => match k with
  | 0 => .array .int
  | 1 => .int
  | 2 => .int
  | 3 => .object "SuccessKinds$Program"
  | 4 => .array .long
  | 5 => .array .long
  | 6 => .array .long
  | 7 => .array .long
  | 8 => .int
  | 9 => .int
  | 10 => .int
  | _ => .int
theorem fn_H : ∀ a, a < 12 → ∀ b, b < 12 → a ≠ b → (ft_H a).2.1 ≠ (ft_H b).2.1 := by decide +kernel
theorem fo_H : ∀ k, k < 12 → parseFieldDescriptor (ft_H k).2.2.1 = some (fy_H k) := by decide +kernel
def ft_M : u_T := fun k => match k with
  | 0 => (rn_M, "expressions", "I", false)
  | 1 => (rn_M, "sort", "[I", true)
  | 2 => (rn_M, "first", "[I", true)
  | 3 => (rn_M, "second", "[I", true)
  | 4 => (rn_M, "third", "[I", true)
  | 5 => (rn_M, "fourth", "[I", true)
  | 6 => (rn_M, "depth", "[I", true)
  | 7 => (rn_M, "size", "[I", true)
  | 8 => (rn_M, "body", "[I", true)
  | 9 => (rn_M, "may", "[I", true)
  | 10 => (rn_M, "gives", "[I", true)
  | 11 => (rn_M, "come", "[Z", true)
  | 12 => (rn_M, "given", "[Z", true)
  | 13 => (rn_M, "open", "I", false)
  | 14 => (rn_M, "which", "[I", true)
  | 15 => (rn_M, "stage", "[I", true)
  | 16 => (rn_M, "variable", "[I", true)
  | 17 => (rn_M, "result", "[I", true)
  | 18 => (rn_M, "back", "I", false)
  | 19 => (rn_M, "values", "I", false)
  | 20 => (rn_M, "kind", "[I", true)
  | 21 => (rn_M, "number", "[I", true)
  | 22 => (rn_M, "left", "[I", true)
  | 23 => (rn_M, "right", "[I", true)
  | 24 => (rn_M, "failing", "Z", false)
  | 25 => (rn_M, "cut", "Z", false)
  | 26 => (rn_M, "steps", "I", false)
  | 27 => (rn_M, "pairs", "I", false)
  | 28 => (rn_M, "failures", "I", false)
  | 29 => (rn_M, "active", "I", false)
  | 30 => (rn_M, "calls", "I", false)
  | 31 => (rn_M, "one", "[I", true)
  | 32 => (rn_M, "two", "[I", true)
  | 33 => (rn_M, "parts", "I", false)
  | 34 => (rn_M, "partOf", "[I", true)
  | _ => (rn_M, "thrown", "I", false)
def fy_M : Nat → FieldType := fun k => match k with
  | 0 => .int
  | 1 => .array .int
  | 2 => .array .int
  | 3 => .array .int
  | 4 => .array .int
  | 5 => .array .int
  | 6 => .array .int
  | 7 => .array .int
  | 8 => .array .int
  | 9 => .array .int
  | 10 => .array .int
  | 11 => .array .boolean
  | 12 => .array .boolean
  | 13 => .int
  | 14 => .array .int
  | 15 => .array .int
  | 16 => .array .int
  | 17 => .array .int
  | 18 => .int
  | 19 => .int
  | 20 => .array .int
  | 21 => .array .int
  | 22 => .array .int
  | 23 => .array .int
  | 24 => .boolean
  | 25 => .boolean
  | 26 => .int
  | 27 => .int
  | 28 => .int
  | 29 => .int
  | 30 => .int
  | 31 => .array .int
  | 32 => .array .int
  | 33 => .int
  | 34 => .array .int
  | _ => .int
theorem fn_M : ∀ a, a < 36 → ∀ b, b < 36 → a ≠ b → (ft_M a).2.1 ≠ (ft_M b).2.1 := by decide +kernel
theorem fo_M : ∀ k, k < 36 → parseFieldDescriptor (ft_M k).2.2.1 = some (fy_M k) := by decide +kernel
abbrev cl_A : List vw_C := [(rn_S, ft_S, 3), (rn_P, ft_P, 9), (rn_K, ft_K, 5), (rn_H, ft_H, 12), (rn_M, ft_M, 36)]
abbrev cd_S_init : ByteArray := prog_1_method_1_code
def yn_S_init : MethodName := ⟨rn_S, "<init>", "()V"⟩
abbrev cd_P_init : ByteArray := prog_4_method_1_code
def yn_P_init : MethodName := ⟨rn_P, "<init>", "()V"⟩
abbrev cd_J_fill : ByteArray := prog_16_method_103_code
def yn_J_fill : MethodName := ⟨rn_J, "fill", "([II)V"⟩
abbrev cd_K_init : ByteArray := prog_2_method_1_code
def yn_K_init : MethodName := ⟨rn_K, "<init>", "(LSuccessKinds$Program;)V"⟩
abbrev cd_H_init : ByteArray := prog_3_method_1_code
def yn_H_init : MethodName := ⟨rn_H, "<init>", "(LSuccessKinds$Program;)V"⟩
abbrev cd_S_calls : ByteArray := prog_1_method_10_code
def yn_S_calls : MethodName := ⟨rn_S, "calls", "()I"⟩
abbrev cd_L_make : ByteArray := method_3_code
def yn_L_make : MethodName := ⟨rn_L, "make", "(LSuccessKinds;IIIII[J)I"⟩
abbrev cd_S_make : ByteArray := prog_1_method_2_code
def yn_S_make : MethodName := ⟨rn_S, "make", "(IIIII)I"⟩
abbrev cd_P_draft : ByteArray := prog_4_method_6_code
def yn_P_draft : MethodName := ⟨rn_P, "draft", "(IIIII)Z"⟩
abbrev cd_P_detailFits : ByteArray := prog_4_method_8_code
def yn_P_detailFits : MethodName := ⟨rn_P, "detailFits", "(II)Z"⟩
abbrev cd_S_isFunction : ByteArray := prog_1_method_13_code
def yn_S_isFunction : MethodName := ⟨rn_S, "isFunction", "(I)Z"⟩
abbrev cd_S_parametersOf : ByteArray := prog_1_method_14_code
def yn_S_parametersOf : MethodName := ⟨rn_S, "parametersOf", "(I)I"⟩
abbrev cd_P_partsExist : ByteArray := prog_4_method_9_code
def yn_P_partsExist : MethodName := ⟨rn_P, "partsExist", "(IIII)Z"⟩
abbrev cd_P_isExpression : ByteArray := prog_4_method_2_code
def yn_P_isExpression : MethodName := ⟨rn_P, "isExpression", "(I)Z"⟩
abbrev cd_P_measure : ByteArray := prog_4_method_10_code
def yn_P_measure : MethodName := ⟨rn_P, "measure", "(I)V"⟩
abbrev cd_P_depthOf : ByteArray := prog_4_method_11_code
def yn_P_depthOf : MethodName := ⟨rn_P, "depthOf", "(I)I"⟩
abbrev cd_P_sizeOf : ByteArray := prog_4_method_12_code
def yn_P_sizeOf : MethodName := ⟨rn_P, "sizeOf", "(I)I"⟩
abbrev cd_P_isFull : ByteArray := prog_4_method_3_code
def yn_P_isFull : MethodName := ⟨rn_P, "isFull", "()Z"⟩
abbrev cd_P_keepDraft : ByteArray := prog_4_method_7_code
def yn_P_keepDraft : MethodName := ⟨rn_P, "keepDraft", "()I"⟩
abbrev cd_L_define : ByteArray := method_4_code
def yn_L_define : MethodName := ⟨rn_L, "define", "(LSuccessKinds;II[J)I"⟩
abbrev cd_S_define : ByteArray := prog_1_method_3_code
def yn_S_define : MethodName := ⟨rn_S, "define", "(II)I"⟩
abbrev cd_S_checkFunction : ByteArray := prog_1_method_11_code
def yn_S_checkFunction : MethodName := ⟨rn_S, "checkFunction", "(I)V"⟩
abbrev cd_S_checkExpression : ByteArray := prog_1_method_12_code
def yn_S_checkExpression : MethodName := ⟨rn_S, "checkExpression", "(I)V"⟩
abbrev cd_P_setBody : ByteArray := prog_4_method_4_code
def yn_P_setBody : MethodName := ⟨rn_P, "setBody", "(II)V"⟩
abbrev cd_K_forget : ByteArray := prog_2_method_2_code
def yn_K_forget : MethodName := ⟨rn_K, "forget", "()V"⟩
abbrev cd_P_countBodies : ByteArray := prog_4_method_5_code
def yn_P_countBodies : MethodName := ⟨rn_P, "countBodies", "()I"⟩
abbrev cd_L_may : ByteArray := method_5_code
def yn_L_may : MethodName := ⟨rn_L, "may", "(LSuccessKinds;II[J)I"⟩
abbrev cd_S_may : ByteArray := prog_1_method_4_code
def yn_S_may : MethodName := ⟨rn_S, "may", "(II)I"⟩
abbrev cd_K_learn : ByteArray := prog_2_method_3_code
def yn_K_learn : MethodName := ⟨rn_K, "learn", "()V"⟩
abbrev cd_K_growGives : ByteArray := prog_2_method_9_code
def yn_K_growGives : MethodName := ⟨rn_K, "growGives", "(I)Z"⟩
abbrev cd_K_anyArguments : ByteArray := prog_2_method_12_code
def yn_K_anyArguments : MethodName := ⟨rn_K, "anyArguments", "(I)J"⟩
abbrev cd_K_with : ByteArray := prog_2_method_13_code
def yn_K_with : MethodName := ⟨rn_K, "with", "(JII)J"⟩
abbrev cd_K_bodyKinds : ByteArray := prog_2_method_11_code
def yn_K_bodyKinds : MethodName := ⟨rn_K, "bodyKinds", "(IJ)I"⟩
abbrev cd_K_kinds : ByteArray := prog_2_method_16_code
def yn_K_kinds : MethodName := ⟨rn_K, "kinds", "(IJ)I"⟩
abbrev cd_K_setOf : ByteArray := prog_2_method_14_code
def yn_K_setOf : MethodName := ⟨rn_K, "setOf", "(JI)I"⟩
abbrev cd_H_kindOfNumber : ByteArray := prog_3_method_3_code
def yn_H_kindOfNumber : MethodName := ⟨rn_H, "kindOfNumber", "(I)I"⟩
abbrev cd_K_has : ByteArray := prog_2_method_15_code
def yn_K_has : MethodName := ⟨rn_K, "has", "(II)Z"⟩
abbrev cd_K_caseKinds : ByteArray := prog_2_method_20_code
def yn_K_caseKinds : MethodName := ⟨rn_K, "caseKinds", "(IJ)I"⟩
abbrev cd_K_narrowed : ByteArray := prog_2_method_21_code
def yn_K_narrowed : MethodName := ⟨rn_K, "narrowed", "(JII)J"⟩
abbrev cd_K_callKinds : ByteArray := prog_2_method_22_code
def yn_K_callKinds : MethodName := ⟨rn_K, "callKinds", "(IJ)I"⟩
abbrev cd_K_note : ByteArray := prog_2_method_23_code
def yn_K_note : MethodName := ⟨rn_K, "note", "(II)V"⟩
abbrev cd_K_letKinds : ByteArray := prog_2_method_24_code
def yn_K_letKinds : MethodName := ⟨rn_K, "letKinds", "(IJ)I"⟩
abbrev cd_K_kindsOfTwo : ByteArray := prog_2_method_17_code
def yn_K_kindsOfTwo : MethodName := ⟨rn_K, "kindsOfTwo", "(IJ)I"⟩
abbrev cd_K_numberKinds : ByteArray := prog_2_method_18_code
def yn_K_numberKinds : MethodName := ⟨rn_K, "numberKinds", "(III)I"⟩
abbrev cd_K_numberKindsOf : ByteArray := prog_2_method_19_code
def yn_K_numberKindsOf : MethodName := ⟨rn_K, "numberKindsOf", "(III)I"⟩
abbrev cd_K_growMay : ByteArray := prog_2_method_10_code
def yn_K_growMay : MethodName := ⟨rn_K, "growMay", "(II)Z"⟩
abbrev cd_K_mayOf : ByteArray := prog_2_method_4_code
def yn_K_mayOf : MethodName := ⟨rn_K, "mayOf", "(II)I"⟩
abbrev cd_L_gives : ByteArray := method_6_code
def yn_L_gives : MethodName := ⟨rn_L, "gives", "(LSuccessKinds;I[J)I"⟩
abbrev cd_S_gives : ByteArray := prog_1_method_5_code
def yn_S_gives : MethodName := ⟨rn_S, "gives", "(I)I"⟩
abbrev cd_K_givesOf : ByteArray := prog_2_method_5_code
def yn_K_givesOf : MethodName := ⟨rn_K, "givesOf", "(I)I"⟩
abbrev cd_L_hopeless : ByteArray := method_7_code
def yn_L_hopeless : MethodName := ⟨rn_L, "hopeless", "(LSuccessKinds;I[J)I"⟩
abbrev cd_S_hopeless : ByteArray := prog_1_method_6_code
def yn_S_hopeless : MethodName := ⟨rn_S, "hopeless", "(I)I"⟩
abbrev cd_K_countHopeless : ByteArray := prog_2_method_6_code
def yn_K_countHopeless : MethodName := ⟨rn_K, "countHopeless", "(I)I"⟩
abbrev cd_K_walkBody : ByteArray := prog_2_method_8_code
def yn_K_walkBody : MethodName := ⟨rn_K, "walkBody", "(I)V"⟩
abbrev cd_L_isHopeless : ByteArray := method_8_code
def yn_L_isHopeless : MethodName := ⟨rn_L, "isHopeless", "(LSuccessKinds;II[J)I"⟩
abbrev cd_S_isHopeless : ByteArray := prog_1_method_7_code
def yn_S_isHopeless : MethodName := ⟨rn_S, "isHopeless", "(II)Z"⟩
abbrev cd_K_isHopelessCall : ByteArray := prog_2_method_7_code
def yn_K_isHopelessCall : MethodName := ⟨rn_K, "isHopelessCall", "(II)Z"⟩
abbrev cd_L_run : ByteArray := method_9_code
def yn_L_run : MethodName := ⟨rn_L, "run", "(LSuccessKinds;III[J)I"⟩
abbrev cd_S_run : ByteArray := prog_1_method_8_code
def yn_S_run : MethodName := ⟨rn_S, "run", "(III)I"⟩
abbrev cd_H_start : ByteArray := prog_3_method_4_code
def yn_H_start : MethodName := ⟨rn_H, "start", "(III)J"⟩
abbrev cd_H_openFrame : ByteArray := prog_3_method_6_code
def yn_H_openFrame : MethodName := ⟨rn_H, "openFrame", "(IJJ)V"⟩
abbrev cd_H_callWith : ByteArray := prog_3_method_12_code
def yn_H_callWith : MethodName := ⟨rn_H, "callWith", "(IIII)J"⟩
abbrev cd_H_workOut : ByteArray := prog_3_method_7_code
def yn_H_workOut : MethodName := ⟨rn_H, "workOut", "(II)J"⟩
abbrev cd_H_variable : ByteArray := prog_3_method_9_code
def yn_H_variable : MethodName := ⟨rn_H, "variable", "(II)J"⟩
abbrev cd_H_fail : ByteArray := prog_3_method_8_code
def yn_H_fail : MethodName := ⟨rn_H, "fail", "()J"⟩
abbrev cd_H_value : ByteArray := prog_3_method_19_code
def yn_H_value : MethodName := ⟨rn_H, "value", "(II)J"⟩
abbrev cd_H_number : ByteArray := prog_3_method_18_code
def yn_H_number : MethodName := ⟨rn_H, "number", "(I)J"⟩
abbrev cd_H_headOrTail : ByteArray := prog_3_method_10_code
def yn_H_headOrTail : MethodName := ⟨rn_H, "headOrTail", "(II)J"⟩
abbrev cd_H_isPair : ByteArray := prog_3_method_22_code
def yn_H_isPair : MethodName := ⟨rn_H, "isPair", "(J)Z"⟩
abbrev cd_H_kindOf : ByteArray := prog_3_method_2_code
def yn_H_kindOf : MethodName := ⟨rn_H, "kindOf", "(J)I"⟩
abbrev cd_H_detailOf : ByteArray := prog_3_method_20_code
def yn_H_detailOf : MethodName := ⟨rn_H, "detailOf", "(J)I"⟩
abbrev cd_H_oneOfCase : ByteArray := prog_3_method_11_code
def yn_H_oneOfCase : MethodName := ⟨rn_H, "oneOfCase", "(II)J"⟩
abbrev cd_H_letIn : ByteArray := prog_3_method_13_code
def yn_H_letIn : MethodName := ⟨rn_H, "letIn", "(II)J"⟩
abbrev cd_H_firstOrElse : ByteArray := prog_3_method_14_code
def yn_H_firstOrElse : MethodName := ⟨rn_H, "firstOrElse", "(II)J"⟩
abbrev cd_H_fromTwo : ByteArray := prog_3_method_15_code
def yn_H_fromTwo : MethodName := ⟨rn_H, "fromTwo", "(II)J"⟩
abbrev cd_H_pair : ByteArray := prog_3_method_17_code
def yn_H_pair : MethodName := ⟨rn_H, "pair", "(JJ)J"⟩
abbrev cd_H_calculate : ByteArray := prog_3_method_16_code
def yn_H_calculate : MethodName := ⟨rn_H, "calculate", "(IJJ)J"⟩
abbrev cd_H_isNumber : ByteArray := prog_3_method_21_code
def yn_H_isNumber : MethodName := ⟨rn_H, "isNumber", "(J)Z"⟩
abbrev cd_H_keepParts : ByteArray := prog_3_method_5_code
def yn_H_keepParts : MethodName := ⟨rn_H, "keepParts", "(J)V"⟩
abbrev cd_L_part : ByteArray := method_10_code
def yn_L_part : MethodName := ⟨rn_L, "part", "(LSuccessKinds;I[J)I"⟩
abbrev cd_S_part : ByteArray := prog_1_method_9_code
def yn_S_part : MethodName := ⟨rn_S, "part", "(I)I"⟩
abbrev cd_M_init : ByteArray := prog_6_method_1_code
def yn_M_init : MethodName := ⟨rn_M, "<init>", "()V"⟩
abbrev cd_M_thrown : ByteArray := prog_6_method_2_code
def yn_M_thrown : MethodName := ⟨rn_M, "thrown", "()I"⟩
abbrev cd_M_make : ByteArray := prog_6_method_9_code
def yn_M_make : MethodName := ⟨rn_M, "make", "(IIIII)I"⟩
abbrev cd_M_isSaid : ByteArray := prog_6_method_6_code
def yn_M_isSaid : MethodName := ⟨rn_M, "isSaid", "(III)Z"⟩
abbrev cd_M_outside : ByteArray := prog_6_method_3_code
def yn_M_outside : MethodName := ⟨rn_M, "outside", "(II)Z"⟩
abbrev cd_M_partsOf : ByteArray := prog_6_method_7_code
def yn_M_partsOf : MethodName := ⟨rn_M, "partsOf", "(II)I"⟩
abbrev cd_M_parameters : ByteArray := prog_6_method_4_code
def yn_M_parameters : MethodName := ⟨rn_M, "parameters", "(I)I"⟩
abbrev cd_M_pick : ByteArray := prog_6_method_8_code
def yn_M_pick : MethodName := ⟨rn_M, "pick", "(IIIII)I"⟩
abbrev cd_M_isPart : ByteArray := prog_6_method_5_code
def yn_M_isPart : MethodName := ⟨rn_M, "isPart", "(I)Z"⟩
abbrev cd_M_define : ByteArray := prog_6_method_10_code
def yn_M_define : MethodName := ⟨rn_M, "define", "(II)I"⟩
abbrev cd_M_may : ByteArray := prog_6_method_23_code
def yn_M_may : MethodName := ⟨rn_M, "may", "(II)I"⟩
abbrev cd_M_know : ByteArray := prog_6_method_22_code
def yn_M_know : MethodName := ⟨rn_M, "know", "()V"⟩
abbrev cd_M_learn : ByteArray := prog_6_method_21_code
def yn_M_learn : MethodName := ⟨rn_M, "learn", "(I)Z"⟩
abbrev cd_M_looked : ByteArray := prog_6_method_20_code
def yn_M_looked : MethodName := ⟨rn_M, "looked", "(III)I"⟩
abbrev cd_M_look : ByteArray := prog_6_method_12_code
def yn_M_look : MethodName := ⟨rn_M, "look", "(I)V"⟩
abbrev cd_M_lookOn : ByteArray := prog_6_method_18_code
def yn_M_lookOn : MethodName := ⟨rn_M, "lookOn", "()V"⟩
abbrev cd_M_leaf : ByteArray := prog_6_method_16_code
def yn_M_leaf : MethodName := ⟨rn_M, "leaf", "(II)I"⟩
abbrev cd_M_kindOf : ByteArray := prog_6_method_11_code
def yn_M_kindOf : MethodName := ⟨rn_M, "kindOf", "(I)I"⟩
abbrev cd_M_close : ByteArray := prog_6_method_19_code
def yn_M_close : MethodName := ⟨rn_M, "close", "(II)V"⟩
abbrev cd_M_lookCase : ByteArray := prog_6_method_17_code
def yn_M_lookCase : MethodName := ⟨rn_M, "lookCase", "(IIII)V"⟩
abbrev cd_M_together : ByteArray := prog_6_method_15_code
def yn_M_together : MethodName := ⟨rn_M, "together", "(III)I"⟩
abbrev cd_M_sums : ByteArray := prog_6_method_13_code
def yn_M_sums : MethodName := ⟨rn_M, "sums", "(IIZ)I"⟩
abbrev cd_M_called : ByteArray := prog_6_method_14_code
def yn_M_called : MethodName := ⟨rn_M, "called", "(III)I"⟩
abbrev cd_M_gives : ByteArray := prog_6_method_24_code
def yn_M_gives : MethodName := ⟨rn_M, "gives", "(I)I"⟩
abbrev cd_M_hopeless : ByteArray := prog_6_method_26_code
def yn_M_hopeless : MethodName := ⟨rn_M, "hopeless", "(I)I"⟩
abbrev cd_M_walk : ByteArray := prog_6_method_25_code
def yn_M_walk : MethodName := ⟨rn_M, "walk", "(I)V"⟩
abbrev cd_M_isHopeless : ByteArray := prog_6_method_27_code
def yn_M_isHopeless : MethodName := ⟨rn_M, "isHopeless", "(II)Z"⟩
abbrev cd_M_run : ByteArray := prog_6_method_45_code
def yn_M_run : MethodName := ⟨rn_M, "run", "(III)I"⟩
abbrev cd_M_worked : ByteArray := prog_6_method_43_code
def yn_M_worked : MethodName := ⟨rn_M, "worked", "(I)I"⟩
abbrev cd_M_work : ByteArray := prog_6_method_29_code
def yn_M_work : MethodName := ⟨rn_M, "work", "(I)V"⟩
abbrev cd_M_go : ByteArray := prog_6_method_42_code
def yn_M_go : MethodName := ⟨rn_M, "go", "()V"⟩
abbrev cd_M_goUp : ByteArray := prog_6_method_41_code
def yn_M_goUp : MethodName := ⟨rn_M, "goUp", "()V"⟩
abbrev cd_M_workOn : ByteArray := prog_6_method_40_code
def yn_M_workOn : MethodName := ⟨rn_M, "workOn", "()V"⟩
abbrev cd_M_leafValue : ByteArray := prog_6_method_38_code
def yn_M_leafValue : MethodName := ⟨rn_M, "leafValue", "(II)V"⟩
abbrev cd_M_end : ByteArray := prog_6_method_30_code
def yn_M_end : MethodName := ⟨rn_M, "end", "(I)V"⟩
abbrev cd_M_value : ByteArray := prog_6_method_28_code
def yn_M_value : MethodName := ⟨rn_M, "value", "(II)I"⟩
abbrev cd_M_fail : ByteArray := prog_6_method_32_code
def yn_M_fail : MethodName := ⟨rn_M, "fail", "()V"⟩
abbrev cd_M_fails : ByteArray := prog_6_method_31_code
def yn_M_fails : MethodName := ⟨rn_M, "fails", "()V"⟩
abbrev cd_M_callOn : ByteArray := prog_6_method_39_code
def yn_M_callOn : MethodName := ⟨rn_M, "callOn", "(III)V"⟩
abbrev cd_M_call : ByteArray := prog_6_method_37_code
def yn_M_call : MethodName := ⟨rn_M, "call", "(III)V"⟩
abbrev cd_M_combine : ByteArray := prog_6_method_36_code
def yn_M_combine : MethodName := ⟨rn_M, "combine", "(III)V"⟩
abbrev cd_M_pair : ByteArray := prog_6_method_35_code
def yn_M_pair : MethodName := ⟨rn_M, "pair", "(II)V"⟩
abbrev cd_M_same : ByteArray := prog_6_method_33_code
def yn_M_same : MethodName := ⟨rn_M, "same", "(II)Z"⟩
abbrev cd_M_isNumber : ByteArray := prog_6_method_34_code
def yn_M_isNumber : MethodName := ⟨rn_M, "isNumber", "(I)Z"⟩
abbrev cd_M_flatten : ByteArray := prog_6_method_44_code
def yn_M_flatten : MethodName := ⟨rn_M, "flatten", "(I)V"⟩
abbrev cd_M_part : ByteArray := prog_6_method_46_code
def yn_M_part : MethodName := ⟨rn_M, "part", "(I)I"⟩
abbrev cd_M_calls : ByteArray := prog_6_method_47_code
def yn_M_calls : MethodName := ⟨rn_M, "calls", "()I"⟩
def wa_0 : List Cond := [(Cond.initialized "SuccessKindsLaw"), (Cond.initialized "SuccessKinds"), (Cond.initialized "SuccessKinds$Program"), (Cond.initialized "java/util/Arrays"), (Cond.initialized "SuccessKinds$Knowledge"), (Cond.initialized "SuccessKinds$Machine"), (Cond.initialized "SuccessKindsModel"), (Cond.initialized "java/lang/Math"), (Cond.initialized "java/lang/Throwable"), (Cond.initialized "java/lang/Exception"), (Cond.initialized "java/lang/RuntimeException"), (Cond.initialized "java/lang/IllegalArgumentException"), (Cond.initialized "java/lang/IllegalStateException"), (Cond.initialized "java/lang/UnsupportedOperationException"), (Cond.initialized "java/lang/IndexOutOfBoundsException"), (Cond.classLink "SuccessKindsLaw" 8 "SuccessKinds"), (Cond.instantiable "SuccessKinds" 3), (Cond.methodLink "SuccessKindsLaw" 46 yn_S_init), (Cond.instanceMethod yn_S_init), (Cond.code yn_S_init prog_1_method_1_code 1 none), (Cond.methodLink "SuccessKinds" 1 ⟨"java/lang/Object", "<init>", "()V"⟩), (Cond.instanceMethod ⟨"java/lang/Object", "<init>", "()V"⟩), (Cond.code ⟨"java/lang/Object", "<init>", "()V"⟩ object_method_1_code 1 none), (Cond.classLink "SuccessKinds" 7 "SuccessKinds$Program"), (Cond.instantiable "SuccessKinds$Program" 9), (Cond.methodLink "SuccessKinds" 9 yn_P_init), (Cond.instanceMethod yn_P_init), (Cond.code yn_P_init prog_4_method_1_code 1 none), (Cond.methodLink "SuccessKinds$Program" 3 ⟨"java/lang/Object", "<init>", "()V"⟩), (Cond.methodLink "SuccessKinds$Program" 36 yn_J_fill), (Cond.static yn_J_fill), (Cond.code yn_J_fill prog_16_method_103_code 4 none), (Cond.fieldLink "SuccessKinds$Program" 11 "SuccessKinds$Program" "sorts" "[I"), (Cond.fieldLink "SuccessKinds$Machine" 82 "SuccessKinds$Program" "sorts" "[I"), (Cond.fieldLink "SuccessKinds$Knowledge" 81 "SuccessKinds$Program" "sorts" "[I"), (Cond.fieldLink "SuccessKinds$Program" 15 "SuccessKinds$Program" "details" "[I"), (Cond.fieldLink "SuccessKinds$Machine" 77 "SuccessKinds$Program" "details" "[I"), (Cond.fieldLink "SuccessKinds$Knowledge" 78 "SuccessKinds$Program" "details" "[I"), (Cond.fieldLink "SuccessKinds$Program" 18 "SuccessKinds$Program" "firsts" "[I"), (Cond.fieldLink "SuccessKinds$Machine" 102 "SuccessKinds$Program" "firsts" "[I")]
def wa_1 : List Cond := [(Cond.fieldLink "SuccessKinds$Knowledge" 93 "SuccessKinds$Program" "firsts" "[I"), (Cond.fieldLink "SuccessKinds$Program" 21 "SuccessKinds$Program" "seconds" "[I"), (Cond.fieldLink "SuccessKinds$Machine" 105 "SuccessKinds$Program" "seconds" "[I"), (Cond.fieldLink "SuccessKinds$Knowledge" 108 "SuccessKinds$Program" "seconds" "[I"), (Cond.fieldLink "SuccessKinds$Program" 24 "SuccessKinds$Program" "thirds" "[I"), (Cond.fieldLink "SuccessKinds$Machine" 132 "SuccessKinds$Program" "thirds" "[I"), (Cond.fieldLink "SuccessKinds$Knowledge" 121 "SuccessKinds$Program" "thirds" "[I"), (Cond.fieldLink "SuccessKinds$Program" 27 "SuccessKinds$Program" "depths" "[I"), (Cond.fieldLink "SuccessKinds$Program" 30 "SuccessKinds$Program" "sizes" "[I"), (Cond.fieldLink "SuccessKinds$Program" 33 "SuccessKinds$Program" "bodies" "[I"), (Cond.fieldLink "SuccessKinds$Knowledge" 68 "SuccessKinds$Program" "bodies" "[I"), (Cond.fieldLink "SuccessKinds$Machine" 139 "SuccessKinds$Program" "bodies" "[I"), (Cond.fieldLink "SuccessKinds$Program" 42 "SuccessKinds$Program" "count" "I"), (Cond.laysFinal "SuccessKinds$Program" "SuccessKinds$Program" "sorts" "[I"), (Cond.laysFinal "SuccessKinds$Program" "SuccessKinds$Program" "details" "[I"), (Cond.laysFinal "SuccessKinds$Program" "SuccessKinds$Program" "firsts" "[I"), (Cond.laysFinal "SuccessKinds$Program" "SuccessKinds$Program" "seconds" "[I"), (Cond.laysFinal "SuccessKinds$Program" "SuccessKinds$Program" "thirds" "[I"), (Cond.laysFinal "SuccessKinds$Program" "SuccessKinds$Program" "depths" "[I"), (Cond.laysFinal "SuccessKinds$Program" "SuccessKinds$Program" "sizes" "[I"), (Cond.laysFinal "SuccessKinds$Program" "SuccessKinds$Program" "bodies" "[I"), (Cond.lays "SuccessKinds$Program" "SuccessKinds$Program" "count" "I"), (Cond.superclass "SuccessKinds$Program" "java/lang/Object"), (Cond.arrayClass FieldType.int), (Cond.classLink "SuccessKinds" 16 "SuccessKinds$Knowledge"), (Cond.instantiable "SuccessKinds$Knowledge" 5), (Cond.methodLink "SuccessKinds" 18 yn_K_init), (Cond.instanceMethod yn_K_init), (Cond.code yn_K_init prog_2_method_1_code 2 none), (Cond.methodLink "SuccessKinds$Knowledge" 3 ⟨"java/lang/Object", "<init>", "()V"⟩), (Cond.fieldLink "SuccessKinds$Knowledge" 23 "SuccessKinds$Knowledge" "program" "LSuccessKinds$Program;"), (Cond.fieldLink "SuccessKinds$Knowledge" 9 "SuccessKinds$Knowledge" "mays" "[I"), (Cond.fieldLink "SuccessKinds$Knowledge" 15 "SuccessKinds$Knowledge" "givens" "[I"), (Cond.fieldLink "SuccessKinds$Knowledge" 20 "SuccessKinds$Knowledge" "outcomes" "[I"), (Cond.fieldLink "SuccessKinds$Knowledge" 27 "SuccessKinds$Knowledge" "fresh" "Z"), (Cond.laysFinal "SuccessKinds$Knowledge" "SuccessKinds$Knowledge" "program" "LSuccessKinds$Program;"), (Cond.laysFinal "SuccessKinds$Knowledge" "SuccessKinds$Knowledge" "mays" "[I"), (Cond.laysFinal "SuccessKinds$Knowledge" "SuccessKinds$Knowledge" "givens" "[I"), (Cond.laysFinal "SuccessKinds$Knowledge" "SuccessKinds$Knowledge" "outcomes" "[I"), (Cond.lays "SuccessKinds$Knowledge" "SuccessKinds$Knowledge" "fresh" "Z")]
def wa_2 : List Cond := [(Cond.superclass "SuccessKinds$Knowledge" "java/lang/Object"), (Cond.classLink "SuccessKinds" 25 "SuccessKinds$Machine"), (Cond.instantiable "SuccessKinds$Machine" 12), (Cond.methodLink "SuccessKinds" 27 yn_H_init), (Cond.instanceMethod yn_H_init), (Cond.code yn_H_init prog_3_method_1_code 2 none), (Cond.methodLink "SuccessKinds$Machine" 3 ⟨"java/lang/Object", "<init>", "()V"⟩), (Cond.fieldLink "SuccessKinds$Machine" 11 "SuccessKinds$Machine" "parts" "[I"), (Cond.fieldLink "SuccessKinds" 128 "SuccessKinds$Machine" "parts" "[I"), (Cond.fieldLink "SuccessKinds$Machine" 72 "SuccessKinds$Machine" "partCount" "I"), (Cond.fieldLink "SuccessKinds" 119 "SuccessKinds$Machine" "partCount" "I"), (Cond.fieldLink "SuccessKinds$Machine" 32 "SuccessKinds$Machine" "callsMade" "I"), (Cond.fieldLink "SuccessKinds" 132 "SuccessKinds$Machine" "callsMade" "I"), (Cond.fieldLink "SuccessKinds$Machine" 28 "SuccessKinds$Machine" "program" "LSuccessKinds$Program;"), (Cond.fieldLink "SuccessKinds$Machine" 15 "SuccessKinds$Machine" "variables" "[J"), (Cond.fieldLink "SuccessKinds$Machine" 19 "SuccessKinds$Machine" "heads" "[J"), (Cond.fieldLink "SuccessKinds$Machine" 22 "SuccessKinds$Machine" "tails" "[J"), (Cond.fieldLink "SuccessKinds$Machine" 25 "SuccessKinds$Machine" "waiting" "[J"), (Cond.fieldLink "SuccessKinds$Machine" 36 "SuccessKinds$Machine" "differentPairs" "I"), (Cond.fieldLink "SuccessKinds$Machine" 39 "SuccessKinds$Machine" "pairsMade" "I"), (Cond.fieldLink "SuccessKinds$Machine" 42 "SuccessKinds$Machine" "steps" "I"), (Cond.fieldLink "SuccessKinds$Machine" 45 "SuccessKinds$Machine" "failures" "I"), (Cond.laysFinal "SuccessKinds$Machine" "SuccessKinds$Machine" "parts" "[I"), (Cond.lays "SuccessKinds$Machine" "SuccessKinds$Machine" "partCount" "I"), (Cond.lays "SuccessKinds$Machine" "SuccessKinds$Machine" "callsMade" "I"), (Cond.laysFinal "SuccessKinds$Machine" "SuccessKinds$Machine" "program" "LSuccessKinds$Program;"), (Cond.laysFinal "SuccessKinds$Machine" "SuccessKinds$Machine" "variables" "[J"), (Cond.laysFinal "SuccessKinds$Machine" "SuccessKinds$Machine" "heads" "[J"), (Cond.laysFinal "SuccessKinds$Machine" "SuccessKinds$Machine" "tails" "[J"), (Cond.laysFinal "SuccessKinds$Machine" "SuccessKinds$Machine" "waiting" "[J"), (Cond.lays "SuccessKinds$Machine" "SuccessKinds$Machine" "differentPairs" "I"), (Cond.lays "SuccessKinds$Machine" "SuccessKinds$Machine" "pairsMade" "I"), (Cond.lays "SuccessKinds$Machine" "SuccessKinds$Machine" "steps" "I"), (Cond.lays "SuccessKinds$Machine" "SuccessKinds$Machine" "failures" "I"), (Cond.superclass "SuccessKinds$Machine" "java/lang/Object"), (Cond.arrayClass FieldType.long), (Cond.fieldLink "SuccessKinds" 10 "SuccessKinds" "program" "LSuccessKinds$Program;"), (Cond.fieldLink "SuccessKinds" 21 "SuccessKinds" "knowledge" "LSuccessKinds$Knowledge;"), (Cond.fieldLink "SuccessKinds" 28 "SuccessKinds" "machine" "LSuccessKinds$Machine;"), (Cond.laysFinal "SuccessKinds" "SuccessKinds" "program" "LSuccessKinds$Program;")]
def wa_3 : List Cond := [(Cond.laysFinal "SuccessKinds" "SuccessKinds" "knowledge" "LSuccessKinds$Knowledge;"), (Cond.laysFinal "SuccessKinds" "SuccessKinds" "machine" "LSuccessKinds$Machine;"), (Cond.superclass "SuccessKinds" "java/lang/Object"), (Cond.methodLink "SuccessKindsLaw" 84 yn_S_calls), (Cond.instanceMethod yn_S_calls), (Cond.selects "SuccessKinds" yn_S_calls yn_S_calls), (Cond.code yn_S_calls prog_1_method_10_code 1 (Option.some FieldType.int)), (Cond.methodLink "SuccessKindsLaw" 50 yn_L_make), (Cond.static yn_L_make), (Cond.classLink "SuccessKindsLaw" 13 "java/lang/IllegalArgumentException"), (Cond.classLink "SuccessKindsLaw" 15 "java/lang/IllegalStateException"), (Cond.methodLink "SuccessKindsLaw" 7 yn_S_make), (Cond.instanceMethod yn_S_make), (Cond.selects "SuccessKinds" yn_S_make yn_S_make), (Cond.code yn_S_make prog_1_method_2_code 6 (Option.some FieldType.int)), (Cond.methodLink "SuccessKinds" 32 yn_P_draft), (Cond.instanceMethod yn_P_draft), (Cond.selects "SuccessKinds$Program" yn_P_draft yn_P_draft), (Cond.code yn_P_draft prog_4_method_6_code 11 (Option.some FieldType.boolean)), (Cond.methodLink "SuccessKinds$Program" 46 yn_P_detailFits), (Cond.static yn_P_detailFits), (Cond.code yn_P_detailFits prog_4_method_8_code 2 (Option.some FieldType.boolean)), (Cond.static yn_S_isFunction), (Cond.code yn_S_isFunction prog_1_method_13_code 1 (Option.some FieldType.boolean)), (Cond.static yn_S_parametersOf), (Cond.code yn_S_parametersOf prog_1_method_14_code 1 (Option.some FieldType.int)), (Cond.fieldLink "SuccessKinds$Program" 54 "SuccessKinds$Program" "PARTS" "[I"), (Cond.methodLink "SuccessKinds$Program" 57 yn_P_partsExist), (Cond.instanceMethod yn_P_partsExist), (Cond.code yn_P_partsExist prog_4_method_9_code 5 (Option.some FieldType.boolean)), (Cond.methodLink "SuccessKinds$Program" 71 yn_P_isExpression), (Cond.instanceMethod yn_P_isExpression), (Cond.selects "SuccessKinds$Program" yn_P_isExpression yn_P_isExpression), (Cond.code yn_P_isExpression prog_4_method_2_code 2 (Option.some FieldType.boolean)), (Cond.methodLink "SuccessKinds$Program" 61 yn_P_measure), (Cond.instanceMethod yn_P_measure), (Cond.code yn_P_measure prog_4_method_10_code 3 none), (Cond.methodLink "SuccessKinds$Program" 74 yn_P_depthOf), (Cond.instanceMethod yn_P_depthOf), (Cond.code yn_P_depthOf prog_4_method_11_code 2 (Option.some FieldType.int))]
def wa_4 : List Cond := [(Cond.methodLink "SuccessKinds$Program" 77 ⟨"java/lang/Math", "max", "(II)I"⟩), (Cond.static ⟨"java/lang/Math", "max", "(II)I"⟩), (Cond.code ⟨"java/lang/Math", "max", "(II)I"⟩ prog_11_method_65_code 2 (Option.some FieldType.int)), (Cond.methodLink "SuccessKinds$Program" 83 yn_P_sizeOf), (Cond.instanceMethod yn_P_sizeOf), (Cond.code yn_P_sizeOf prog_4_method_12_code 2 (Option.some FieldType.int)), (Cond.classLink "SuccessKinds" 36 "java/lang/IllegalArgumentException"), (Cond.instantiable "java/lang/IllegalArgumentException" 6), (Cond.selects "java/lang/IllegalArgumentException" ⟨"java/lang/Throwable", "fillInStackTrace", "(I)Ljava/lang/Throwable;"⟩ ⟨"java/lang/Throwable", "fillInStackTrace", "(I)Ljava/lang/Throwable;"⟩), (Cond.selects "java/lang/IllegalArgumentException" ⟨"java/lang/Throwable", "fillInStackTrace", "()Ljava/lang/Throwable;"⟩ ⟨"java/lang/Throwable", "fillInStackTrace", "()Ljava/lang/Throwable;"⟩), (Cond.lays "java/lang/IllegalArgumentException" "java/lang/Throwable" "cause" "Ljava/lang/Throwable;"), (Cond.lays "java/lang/Throwable" "java/lang/Throwable" "cause" "Ljava/lang/Throwable;"), (Cond.lays "java/lang/IllegalArgumentException" "java/lang/Throwable" "stackTrace" "[Ljava/lang/StackTraceElement;"), (Cond.lays "java/lang/Throwable" "java/lang/Throwable" "stackTrace" "[Ljava/lang/StackTraceElement;"), (Cond.lays "java/lang/IllegalArgumentException" "java/lang/Throwable" "suppressedExceptions" "Ljava/util/List;"), (Cond.lays "java/lang/Throwable" "java/lang/Throwable" "suppressedExceptions" "Ljava/util/List;"), (Cond.lays "java/lang/IllegalArgumentException" "java/lang/Throwable" "detailMessage" "Ljava/lang/String;"), (Cond.lays "java/lang/Throwable" "java/lang/Throwable" "detailMessage" "Ljava/lang/String;"), (Cond.lays "java/lang/IllegalArgumentException" "java/lang/Throwable" "backtrace" "Ljava/lang/Object;"), (Cond.lays "java/lang/Throwable" "java/lang/Throwable" "backtrace" "Ljava/lang/Object;"), (Cond.fieldLink "java/lang/Throwable" 198 "java/lang/Throwable" "backtrace" "Ljava/lang/Object;"), (Cond.superclass "java/lang/Throwable" "java/lang/Object"), (Cond.instanceMethod ⟨"java/lang/Throwable", "<init>", "()V"⟩), (Cond.code ⟨"java/lang/Throwable", "<init>", "()V"⟩ prog_14_method_1_code 1 none), (Cond.methodLink "java/lang/Throwable" 1 ⟨"java/lang/Object", "<init>", "()V"⟩), (Cond.fieldLink "java/lang/Throwable" 13 "java/lang/Throwable" "UNASSIGNED_STACK" "[Ljava/lang/StackTraceElement;"), (Cond.fieldLink "java/lang/Throwable" 20 "java/lang/Throwable" "SUPPRESSED_SENTINEL" "Ljava/util/List;"), (Cond.methodLink "java/lang/Throwable" 27 ⟨"java/lang/Throwable", "fillInStackTrace", "()Ljava/lang/Throwable;"⟩), (Cond.instanceMethod ⟨"java/lang/Throwable", "fillInStackTrace", "()Ljava/lang/Throwable;"⟩), (Cond.selects "java/lang/IllegalStateException" ⟨"java/lang/Throwable", "fillInStackTrace", "()Ljava/lang/Throwable;"⟩ ⟨"java/lang/Throwable", "fillInStackTrace", "()Ljava/lang/Throwable;"⟩), (Cond.selects "java/lang/IndexOutOfBoundsException" ⟨"java/lang/Throwable", "fillInStackTrace", "()Ljava/lang/Throwable;"⟩ ⟨"java/lang/Throwable", "fillInStackTrace", "()Ljava/lang/Throwable;"⟩), (Cond.selects "java/lang/UnsupportedOperationException" ⟨"java/lang/Throwable", "fillInStackTrace", "()Ljava/lang/Throwable;"⟩ ⟨"java/lang/Throwable", "fillInStackTrace", "()Ljava/lang/Throwable;"⟩), (Cond.codeSync ⟨"java/lang/Throwable", "fillInStackTrace", "()Ljava/lang/Throwable;"⟩ prog_14_method_18_code 1 (Option.some (FieldType.object "java/lang/Throwable"))), (Cond.methodLink "java/lang/Throwable" 202 ⟨"java/lang/Throwable", "fillInStackTrace", "(I)Ljava/lang/Throwable;"⟩), (Cond.instanceMethod ⟨"java/lang/Throwable", "fillInStackTrace", "(I)Ljava/lang/Throwable;"⟩), (Cond.instantiable "java/lang/Throwable" 6), (Cond.native ⟨"java/lang/Throwable", "fillInStackTrace", "(I)Ljava/lang/Throwable;"⟩), (Cond.methodLink "SuccessKinds" 40 ⟨"java/lang/IllegalArgumentException", "<init>", "(Ljava/lang/String;)V"⟩), (Cond.instanceMethod ⟨"java/lang/IllegalArgumentException", "<init>", "(Ljava/lang/String;)V"⟩), (Cond.code ⟨"java/lang/IllegalArgumentException", "<init>", "(Ljava/lang/String;)V"⟩ prog_8_method_2_code 2 none)]
def wa_5 : List Cond := [(Cond.methodLink "java/lang/IllegalArgumentException" 7 ⟨"java/lang/RuntimeException", "<init>", "(Ljava/lang/String;)V"⟩), (Cond.instanceMethod ⟨"java/lang/RuntimeException", "<init>", "(Ljava/lang/String;)V"⟩), (Cond.code ⟨"java/lang/RuntimeException", "<init>", "(Ljava/lang/String;)V"⟩ prog_12_method_2_code 2 none), (Cond.methodLink "java/lang/RuntimeException" 7 ⟨"java/lang/Exception", "<init>", "(Ljava/lang/String;)V"⟩), (Cond.instanceMethod ⟨"java/lang/Exception", "<init>", "(Ljava/lang/String;)V"⟩), (Cond.code ⟨"java/lang/Exception", "<init>", "(Ljava/lang/String;)V"⟩ prog_7_method_2_code 2 none), (Cond.methodLink "java/lang/Exception" 7 ⟨"java/lang/Throwable", "<init>", "(Ljava/lang/String;)V"⟩), (Cond.instanceMethod ⟨"java/lang/Throwable", "<init>", "(Ljava/lang/String;)V"⟩), (Cond.code ⟨"java/lang/Throwable", "<init>", "(Ljava/lang/String;)V"⟩ prog_14_method_2_code 2 none), (Cond.fieldLink "java/lang/Throwable" 31 "java/lang/Throwable" "detailMessage" "Ljava/lang/String;"), (Cond.fieldLink "java/lang/Throwable" 7 "java/lang/Throwable" "cause" "Ljava/lang/Throwable;"), (Cond.fieldLink "java/lang/Throwable" 17 "java/lang/Throwable" "stackTrace" "[Ljava/lang/StackTraceElement;"), (Cond.fieldLink "java/lang/Throwable" 24 "java/lang/Throwable" "suppressedExceptions" "Ljava/util/List;"), (Cond.lays "java/lang/IllegalArgumentException" "java/lang/Throwable" "depth" "I"), (Cond.superclass "java/lang/IllegalArgumentException" "java/lang/RuntimeException"), (Cond.methodLink "SuccessKinds" 43 yn_P_isFull), (Cond.instanceMethod yn_P_isFull), (Cond.selects "SuccessKinds$Program" yn_P_isFull yn_P_isFull), (Cond.code yn_P_isFull prog_4_method_3_code 1 (Option.some FieldType.boolean)), (Cond.classLink "SuccessKinds" 47 "java/lang/IllegalStateException"), (Cond.instantiable "java/lang/IllegalStateException" 6), (Cond.selects "java/lang/IllegalStateException" ⟨"java/lang/Throwable", "fillInStackTrace", "(I)Ljava/lang/Throwable;"⟩ ⟨"java/lang/Throwable", "fillInStackTrace", "(I)Ljava/lang/Throwable;"⟩), (Cond.lays "java/lang/IllegalStateException" "java/lang/Throwable" "cause" "Ljava/lang/Throwable;"), (Cond.lays "java/lang/IllegalStateException" "java/lang/Throwable" "stackTrace" "[Ljava/lang/StackTraceElement;"), (Cond.lays "java/lang/IllegalStateException" "java/lang/Throwable" "suppressedExceptions" "Ljava/util/List;"), (Cond.lays "java/lang/IllegalStateException" "java/lang/Throwable" "detailMessage" "Ljava/lang/String;"), (Cond.lays "java/lang/IllegalStateException" "java/lang/Throwable" "backtrace" "Ljava/lang/Object;"), (Cond.methodLink "SuccessKinds" 51 ⟨"java/lang/IllegalStateException", "<init>", "(Ljava/lang/String;)V"⟩), (Cond.instanceMethod ⟨"java/lang/IllegalStateException", "<init>", "(Ljava/lang/String;)V"⟩), (Cond.code ⟨"java/lang/IllegalStateException", "<init>", "(Ljava/lang/String;)V"⟩ prog_9_method_2_code 2 none), (Cond.methodLink "java/lang/IllegalStateException" 7 ⟨"java/lang/RuntimeException", "<init>", "(Ljava/lang/String;)V"⟩), (Cond.lays "java/lang/IllegalStateException" "java/lang/Throwable" "depth" "I"), (Cond.superclass "java/lang/IllegalStateException" "java/lang/RuntimeException"), (Cond.methodLink "SuccessKinds" 52 yn_P_keepDraft), (Cond.instanceMethod yn_P_keepDraft), (Cond.selects "SuccessKinds$Program" yn_P_keepDraft yn_P_keepDraft), (Cond.code yn_P_keepDraft prog_4_method_7_code 2 (Option.some FieldType.int)), (Cond.methodLink "SuccessKindsLaw" 60 yn_L_define), (Cond.static yn_L_define), (Cond.methodLink "SuccessKindsLaw" 17 yn_S_define)]
def wa_6 : List Cond := [(Cond.instanceMethod yn_S_define), (Cond.selects "SuccessKinds" yn_S_define yn_S_define), (Cond.code yn_S_define prog_1_method_3_code 3 (Option.some FieldType.int)), (Cond.methodLink "SuccessKinds" 56 yn_S_checkFunction), (Cond.static yn_S_checkFunction), (Cond.code yn_S_checkFunction prog_1_method_11_code 1 none), (Cond.methodLink "SuccessKinds" 135 yn_S_isFunction), (Cond.methodLink "SuccessKinds" 60 yn_S_checkExpression), (Cond.instanceMethod yn_S_checkExpression), (Cond.code yn_S_checkExpression prog_1_method_12_code 2 none), (Cond.methodLink "SuccessKinds" 141 yn_P_isExpression), (Cond.methodLink "SuccessKinds" 63 yn_P_setBody), (Cond.instanceMethod yn_P_setBody), (Cond.selects "SuccessKinds$Program" yn_P_setBody yn_P_setBody), (Cond.code yn_P_setBody prog_4_method_4_code 3 none), (Cond.methodLink "SuccessKinds" 67 yn_K_forget), (Cond.instanceMethod yn_K_forget), (Cond.selects "SuccessKinds$Knowledge" yn_K_forget yn_K_forget), (Cond.code yn_K_forget prog_2_method_2_code 1 none), (Cond.methodLink "SuccessKinds" 70 yn_P_countBodies), (Cond.instanceMethod yn_P_countBodies), (Cond.selects "SuccessKinds$Program" yn_P_countBodies yn_P_countBodies), (Cond.code yn_P_countBodies prog_4_method_5_code 3 (Option.some FieldType.int)), (Cond.methodLink "SuccessKindsLaw" 64 yn_L_may), (Cond.static yn_L_may), (Cond.methodLink "SuccessKindsLaw" 21 yn_S_may), (Cond.instanceMethod yn_S_may), (Cond.selects "SuccessKinds" yn_S_may yn_S_may), (Cond.code yn_S_may prog_1_method_4_code 3 (Option.some FieldType.int)), (Cond.methodLink "SuccessKinds" 73 yn_S_parametersOf), (Cond.methodLink "SuccessKinds" 79 yn_K_learn), (Cond.instanceMethod yn_K_learn), (Cond.selects "SuccessKinds$Knowledge" yn_K_learn yn_K_learn), (Cond.code yn_K_learn prog_2_method_3_code 5 none), (Cond.methodLink "SuccessKinds$Knowledge" 31 yn_J_fill), (Cond.methodLink "SuccessKinds$Knowledge" 37 yn_K_growGives), (Cond.instanceMethod yn_K_growGives), (Cond.code yn_K_growGives prog_2_method_9_code 3 (Option.some FieldType.boolean)), (Cond.methodLink "SuccessKinds$Knowledge" 53 yn_K_anyArguments), (Cond.static yn_K_anyArguments)]
def wa_7 : List Cond := [(Cond.code yn_K_anyArguments prog_2_method_12_code 3 (Option.some FieldType.long)), (Cond.methodLink "SuccessKinds$Knowledge" 61 yn_K_with), (Cond.static yn_K_with), (Cond.code yn_K_with prog_2_method_13_code 5 (Option.some FieldType.long)), (Cond.constantLong "SuccessKinds$Knowledge" 74 (511 : Int64)), (Cond.constantLong "SuccessKinds$Knowledge" 76 (-1 : Int64)), (Cond.methodLink "SuccessKinds$Knowledge" 57 yn_K_bodyKinds), (Cond.instanceMethod yn_K_bodyKinds), (Cond.code yn_K_bodyKinds prog_2_method_11_code 5 (Option.some FieldType.int)), (Cond.methodLink "SuccessKinds$Knowledge" 71 yn_K_kinds), (Cond.instanceMethod yn_K_kinds), (Cond.code yn_K_kinds prog_2_method_16_code 5 (Option.some FieldType.int)), (Cond.methodLink "SuccessKinds$Knowledge" 84 yn_K_setOf), (Cond.static yn_K_setOf), (Cond.code yn_K_setOf prog_2_method_14_code 3 (Option.some FieldType.int)), (Cond.methodLink "SuccessKinds$Knowledge" 88 yn_H_kindOfNumber), (Cond.static yn_H_kindOfNumber), (Cond.code yn_H_kindOfNumber prog_3_method_3_code 1 (Option.some FieldType.int)), (Cond.methodLink "SuccessKinds$Knowledge" 65 yn_K_has), (Cond.static yn_K_has), (Cond.code yn_K_has prog_2_method_15_code 2 (Option.some FieldType.boolean)), (Cond.methodLink "SuccessKinds$Knowledge" 96 yn_K_caseKinds), (Cond.instanceMethod yn_K_caseKinds), (Cond.code yn_K_caseKinds prog_2_method_20_code 10 (Option.some FieldType.int)), (Cond.methodLink "SuccessKinds$Knowledge" 118 yn_K_narrowed), (Cond.instanceMethod yn_K_narrowed), (Cond.code yn_K_narrowed prog_2_method_21_code 5 (Option.some FieldType.long)), (Cond.methodLink "SuccessKinds$Knowledge" 99 yn_K_callKinds), (Cond.instanceMethod yn_K_callKinds), (Cond.code yn_K_callKinds prog_2_method_22_code 7 (Option.some FieldType.int)), (Cond.methodLink "SuccessKinds$Knowledge" 124 yn_K_note), (Cond.instanceMethod yn_K_note), (Cond.code yn_K_note prog_2_method_23_code 3 none), (Cond.methodLink "SuccessKinds$Knowledge" 102 yn_K_letKinds), (Cond.instanceMethod yn_K_letKinds), (Cond.code yn_K_letKinds prog_2_method_24_code 5 (Option.some FieldType.int)), (Cond.methodLink "SuccessKinds$Knowledge" 105 yn_K_kindsOfTwo), (Cond.instanceMethod yn_K_kindsOfTwo), (Cond.code yn_K_kindsOfTwo prog_2_method_17_code 7 (Option.some FieldType.int)), (Cond.methodLink "SuccessKinds$Knowledge" 111 yn_K_numberKinds)]
def wa_8 : List Cond := [(Cond.static yn_K_numberKinds), (Cond.code yn_K_numberKinds prog_2_method_18_code 6 (Option.some FieldType.int)), (Cond.methodLink "SuccessKinds$Knowledge" 115 yn_K_numberKindsOf), (Cond.static yn_K_numberKindsOf), (Cond.code yn_K_numberKindsOf prog_2_method_19_code 3 (Option.some FieldType.int)), (Cond.methodLink "SuccessKinds$Knowledge" 45 yn_K_growMay), (Cond.instanceMethod yn_K_growMay), (Cond.code yn_K_growMay prog_2_method_10_code 8 (Option.some FieldType.boolean)), (Cond.methodLink "SuccessKinds" 82 yn_K_mayOf), (Cond.instanceMethod yn_K_mayOf), (Cond.selects "SuccessKinds$Knowledge" yn_K_mayOf yn_K_mayOf), (Cond.code yn_K_mayOf prog_2_method_4_code 3 (Option.some FieldType.int)), (Cond.methodLink "SuccessKindsLaw" 67 yn_L_gives), (Cond.static yn_L_gives), (Cond.methodLink "SuccessKindsLaw" 24 yn_S_gives), (Cond.instanceMethod yn_S_gives), (Cond.selects "SuccessKinds" yn_S_gives yn_S_gives), (Cond.code yn_S_gives prog_1_method_5_code 2 (Option.some FieldType.int)), (Cond.methodLink "SuccessKinds" 86 yn_K_givesOf), (Cond.instanceMethod yn_K_givesOf), (Cond.selects "SuccessKinds$Knowledge" yn_K_givesOf yn_K_givesOf), (Cond.code yn_K_givesOf prog_2_method_5_code 2 (Option.some FieldType.int)), (Cond.methodLink "SuccessKindsLaw" 71 yn_L_hopeless), (Cond.static yn_L_hopeless), (Cond.methodLink "SuccessKindsLaw" 28 yn_S_hopeless), (Cond.instanceMethod yn_S_hopeless), (Cond.selects "SuccessKinds" yn_S_hopeless yn_S_hopeless), (Cond.code yn_S_hopeless prog_1_method_6_code 2 (Option.some FieldType.int)), (Cond.methodLink "SuccessKinds" 89 yn_K_countHopeless), (Cond.instanceMethod yn_K_countHopeless), (Cond.selects "SuccessKinds$Knowledge" yn_K_countHopeless yn_K_countHopeless), (Cond.code yn_K_countHopeless prog_2_method_6_code 4 (Option.some FieldType.int)), (Cond.methodLink "SuccessKinds$Knowledge" 49 yn_K_walkBody), (Cond.instanceMethod yn_K_walkBody), (Cond.code yn_K_walkBody prog_2_method_8_code 2 none), (Cond.methodLink "SuccessKindsLaw" 74 yn_L_isHopeless), (Cond.static yn_L_isHopeless), (Cond.methodLink "SuccessKindsLaw" 31 yn_S_isHopeless), (Cond.instanceMethod yn_S_isHopeless), (Cond.selects "SuccessKinds" yn_S_isHopeless yn_S_isHopeless)]
def wa_9 : List Cond := [(Cond.code yn_S_isHopeless prog_1_method_7_code 3 (Option.some FieldType.boolean)), (Cond.methodLink "SuccessKinds" 92 yn_K_isHopelessCall), (Cond.instanceMethod yn_K_isHopelessCall), (Cond.selects "SuccessKinds$Knowledge" yn_K_isHopelessCall yn_K_isHopelessCall), (Cond.code yn_K_isHopelessCall prog_2_method_7_code 3 (Option.some FieldType.boolean)), (Cond.methodLink "SuccessKindsLaw" 77 yn_L_run), (Cond.static yn_L_run), (Cond.classLink "SuccessKindsLaw" 39 "java/lang/UnsupportedOperationException"), (Cond.methodLink "SuccessKindsLaw" 35 yn_S_run), (Cond.instanceMethod yn_S_run), (Cond.selects "SuccessKinds" yn_S_run yn_S_run), (Cond.code yn_S_run prog_1_method_8_code 6 (Option.some FieldType.int)), (Cond.methodLink "SuccessKinds" 96 yn_H_start), (Cond.instanceMethod yn_H_start), (Cond.selects "SuccessKinds$Machine" yn_H_start yn_H_start), (Cond.code yn_H_start prog_3_method_4_code 4 (Option.some FieldType.long)), (Cond.constantLong "SuccessKinds$Machine" 48 (-3 : Int64)), (Cond.methodLink "SuccessKinds$Machine" 50 yn_H_openFrame), (Cond.instanceMethod yn_H_openFrame), (Cond.code yn_H_openFrame prog_3_method_6_code 7 none), (Cond.methodLink "SuccessKinds$Machine" 54 yn_H_callWith), (Cond.instanceMethod yn_H_callWith), (Cond.code yn_H_callWith prog_3_method_12_code 10 (Option.some FieldType.long)), (Cond.methodLink "SuccessKinds$Machine" 123 yn_H_workOut), (Cond.instanceMethod yn_H_workOut), (Cond.code yn_H_workOut prog_3_method_7_code 4 (Option.some FieldType.long)), (Cond.constantLong "SuccessKinds$Machine" 75 (-2 : Int64)), (Cond.methodLink "SuccessKinds$Machine" 85 yn_H_variable), (Cond.instanceMethod yn_H_variable), (Cond.code yn_H_variable prog_3_method_9_code 5 (Option.some FieldType.long)), (Cond.methodLink "SuccessKinds$Machine" 114 yn_H_fail), (Cond.instanceMethod yn_H_fail), (Cond.code yn_H_fail prog_3_method_8_code 1 (Option.some FieldType.long)), (Cond.constantLong "SuccessKinds$Machine" 121 (-1 : Int64)), (Cond.methodLink "SuccessKinds$Machine" 89 yn_H_value), (Cond.static yn_H_value), (Cond.code yn_H_value prog_3_method_19_code 2 (Option.some FieldType.long)), (Cond.constantLong "SuccessKinds$Machine" 153 (4294967295 : Int64)), (Cond.methodLink "SuccessKinds$Machine" 92 yn_H_number), (Cond.static yn_H_number)]
def wa_10 : List Cond := [(Cond.code yn_H_number prog_3_method_18_code 1 (Option.some FieldType.long)), (Cond.methodLink "SuccessKinds$Machine" 150 yn_H_kindOfNumber), (Cond.methodLink "SuccessKinds$Machine" 96 yn_H_headOrTail), (Cond.instanceMethod yn_H_headOrTail), (Cond.code yn_H_headOrTail prog_3_method_10_code 5 (Option.some FieldType.long)), (Cond.methodLink "SuccessKinds$Machine" 69 yn_H_isPair), (Cond.static yn_H_isPair), (Cond.code yn_H_isPair prog_3_method_22_code 2 (Option.some FieldType.boolean)), (Cond.methodLink "SuccessKinds$Machine" 66 yn_H_kindOf), (Cond.static yn_H_kindOf), (Cond.code yn_H_kindOf prog_3_method_2_code 2 (Option.some FieldType.int)), (Cond.methodLink "SuccessKinds$Machine" 62 yn_H_detailOf), (Cond.static yn_H_detailOf), (Cond.code yn_H_detailOf prog_3_method_20_code 2 (Option.some FieldType.int)), (Cond.methodLink "SuccessKinds$Machine" 99 yn_H_oneOfCase), (Cond.instanceMethod yn_H_oneOfCase), (Cond.code yn_H_oneOfCase prog_3_method_11_code 6 (Option.some FieldType.long)), (Cond.methodLink "SuccessKinds$Machine" 126 yn_K_has), (Cond.methodLink "SuccessKinds$Machine" 108 yn_H_letIn), (Cond.instanceMethod yn_H_letIn), (Cond.code yn_H_letIn prog_3_method_13_code 10 (Option.some FieldType.long)), (Cond.methodLink "SuccessKinds$Machine" 111 yn_H_firstOrElse), (Cond.instanceMethod yn_H_firstOrElse), (Cond.code yn_H_firstOrElse prog_3_method_14_code 5 (Option.some FieldType.long)), (Cond.methodLink "SuccessKinds$Machine" 118 yn_H_fromTwo), (Cond.instanceMethod yn_H_fromTwo), (Cond.code yn_H_fromTwo prog_3_method_15_code 8 (Option.some FieldType.long)), (Cond.methodLink "SuccessKinds$Machine" 142 yn_H_pair), (Cond.instanceMethod yn_H_pair), (Cond.code yn_H_pair prog_3_method_17_code 6 (Option.some FieldType.long)), (Cond.methodLink "SuccessKinds$Machine" 146 yn_H_calculate), (Cond.instanceMethod yn_H_calculate), (Cond.code yn_H_calculate prog_3_method_16_code 8 (Option.some FieldType.long)), (Cond.methodLink "SuccessKinds$Machine" 58 yn_H_isNumber), (Cond.static yn_H_isNumber), (Cond.code yn_H_isNumber prog_3_method_21_code 2 (Option.some FieldType.boolean)), (Cond.constantLong "SuccessKinds" 100 (-1 : Int64)), (Cond.classLink "SuccessKinds" 102 "java/lang/UnsupportedOperationException"), (Cond.instantiable "java/lang/UnsupportedOperationException" 6), (Cond.selects "java/lang/UnsupportedOperationException" ⟨"java/lang/Throwable", "fillInStackTrace", "(I)Ljava/lang/Throwable;"⟩ ⟨"java/lang/Throwable", "fillInStackTrace", "(I)Ljava/lang/Throwable;"⟩)]
def wa_11 : List Cond := [(Cond.lays "java/lang/UnsupportedOperationException" "java/lang/Throwable" "cause" "Ljava/lang/Throwable;"), (Cond.lays "java/lang/UnsupportedOperationException" "java/lang/Throwable" "stackTrace" "[Ljava/lang/StackTraceElement;"), (Cond.lays "java/lang/UnsupportedOperationException" "java/lang/Throwable" "suppressedExceptions" "Ljava/util/List;"), (Cond.lays "java/lang/UnsupportedOperationException" "java/lang/Throwable" "detailMessage" "Ljava/lang/String;"), (Cond.lays "java/lang/UnsupportedOperationException" "java/lang/Throwable" "backtrace" "Ljava/lang/Object;"), (Cond.methodLink "SuccessKinds" 106 ⟨"java/lang/UnsupportedOperationException", "<init>", "(Ljava/lang/String;)V"⟩), (Cond.instanceMethod ⟨"java/lang/UnsupportedOperationException", "<init>", "(Ljava/lang/String;)V"⟩), (Cond.code ⟨"java/lang/UnsupportedOperationException", "<init>", "(Ljava/lang/String;)V"⟩ prog_15_method_2_code 2 none), (Cond.methodLink "java/lang/UnsupportedOperationException" 7 ⟨"java/lang/RuntimeException", "<init>", "(Ljava/lang/String;)V"⟩), (Cond.lays "java/lang/UnsupportedOperationException" "java/lang/Throwable" "depth" "I"), (Cond.superclass "java/lang/UnsupportedOperationException" "java/lang/RuntimeException"), (Cond.constantLong "SuccessKinds" 107 (-2 : Int64)), (Cond.methodLink "SuccessKinds" 111 yn_H_keepParts), (Cond.instanceMethod yn_H_keepParts), (Cond.selects "SuccessKinds$Machine" yn_H_keepParts yn_H_keepParts), (Cond.code yn_H_keepParts prog_3_method_5_code 7 none), (Cond.methodLink "SuccessKinds" 115 yn_H_kindOf), (Cond.methodLink "SuccessKindsLaw" 81 yn_L_part), (Cond.static yn_L_part), (Cond.classLink "SuccessKindsLaw" 44 "java/lang/IndexOutOfBoundsException"), (Cond.methodLink "SuccessKindsLaw" 41 yn_S_part), (Cond.instanceMethod yn_S_part), (Cond.selects "SuccessKinds" yn_S_part yn_S_part), (Cond.code yn_S_part prog_1_method_9_code 2 (Option.some FieldType.int)), (Cond.classLink "SuccessKinds" 123 "java/lang/IndexOutOfBoundsException"), (Cond.instantiable "java/lang/IndexOutOfBoundsException" 6), (Cond.selects "java/lang/IndexOutOfBoundsException" ⟨"java/lang/Throwable", "fillInStackTrace", "(I)Ljava/lang/Throwable;"⟩ ⟨"java/lang/Throwable", "fillInStackTrace", "(I)Ljava/lang/Throwable;"⟩), (Cond.lays "java/lang/IndexOutOfBoundsException" "java/lang/Throwable" "cause" "Ljava/lang/Throwable;"), (Cond.lays "java/lang/IndexOutOfBoundsException" "java/lang/Throwable" "stackTrace" "[Ljava/lang/StackTraceElement;"), (Cond.lays "java/lang/IndexOutOfBoundsException" "java/lang/Throwable" "suppressedExceptions" "Ljava/util/List;"), (Cond.lays "java/lang/IndexOutOfBoundsException" "java/lang/Throwable" "detailMessage" "Ljava/lang/String;"), (Cond.lays "java/lang/IndexOutOfBoundsException" "java/lang/Throwable" "backtrace" "Ljava/lang/Object;"), (Cond.methodLink "SuccessKinds" 127 ⟨"java/lang/IndexOutOfBoundsException", "<init>", "(Ljava/lang/String;)V"⟩), (Cond.instanceMethod ⟨"java/lang/IndexOutOfBoundsException", "<init>", "(Ljava/lang/String;)V"⟩), (Cond.code ⟨"java/lang/IndexOutOfBoundsException", "<init>", "(Ljava/lang/String;)V"⟩ prog_10_method_2_code 2 none), (Cond.methodLink "java/lang/IndexOutOfBoundsException" 7 ⟨"java/lang/RuntimeException", "<init>", "(Ljava/lang/String;)V"⟩), (Cond.lays "java/lang/IndexOutOfBoundsException" "java/lang/Throwable" "depth" "I"), (Cond.superclass "java/lang/IndexOutOfBoundsException" "java/lang/RuntimeException"), (Cond.classLink "SuccessKindsLaw" 47 "SuccessKindsModel"), (Cond.instantiable "SuccessKindsModel" 36)]
def wa_12 : List Cond := [(Cond.methodLink "SuccessKindsLaw" 49 yn_M_init), (Cond.instanceMethod yn_M_init), (Cond.code yn_M_init prog_6_method_1_code 2 none), (Cond.methodLink "SuccessKindsModel" 1 ⟨"java/lang/Object", "<init>", "()V"⟩), (Cond.fieldLink "SuccessKindsModel" 84 "SuccessKindsModel" "expressions" "I"), (Cond.fieldLink "SuccessKindsModel" 7 "SuccessKindsModel" "sort" "[I"), (Cond.fieldLink "SuccessKindsModel" 13 "SuccessKindsModel" "first" "[I"), (Cond.fieldLink "SuccessKindsModel" 16 "SuccessKindsModel" "second" "[I"), (Cond.fieldLink "SuccessKindsModel" 19 "SuccessKindsModel" "third" "[I"), (Cond.fieldLink "SuccessKindsModel" 22 "SuccessKindsModel" "fourth" "[I"), (Cond.fieldLink "SuccessKindsModel" 25 "SuccessKindsModel" "depth" "[I"), (Cond.fieldLink "SuccessKindsModel" 28 "SuccessKindsModel" "size" "[I"), (Cond.fieldLink "SuccessKindsModel" 31 "SuccessKindsModel" "body" "[I"), (Cond.fieldLink "SuccessKindsModel" 34 "SuccessKindsModel" "may" "[I"), (Cond.fieldLink "SuccessKindsModel" 37 "SuccessKindsModel" "gives" "[I"), (Cond.fieldLink "SuccessKindsModel" 40 "SuccessKindsModel" "come" "[Z"), (Cond.fieldLink "SuccessKindsModel" 44 "SuccessKindsModel" "given" "[Z"), (Cond.fieldLink "SuccessKindsModel" 111 "SuccessKindsModel" "open" "I"), (Cond.fieldLink "SuccessKindsModel" 47 "SuccessKindsModel" "which" "[I"), (Cond.fieldLink "SuccessKindsModel" 50 "SuccessKindsModel" "stage" "[I"), (Cond.fieldLink "SuccessKindsModel" 53 "SuccessKindsModel" "variable" "[I"), (Cond.fieldLink "SuccessKindsModel" 56 "SuccessKindsModel" "result" "[I"), (Cond.fieldLink "SuccessKindsModel" 125 "SuccessKindsModel" "back" "I"), (Cond.fieldLink "SuccessKindsModel" 161 "SuccessKindsModel" "values" "I"), (Cond.fieldLink "SuccessKindsModel" 59 "SuccessKindsModel" "kind" "[I"), (Cond.fieldLink "SuccessKindsModel" 62 "SuccessKindsModel" "number" "[I"), (Cond.fieldLink "SuccessKindsModel" 65 "SuccessKindsModel" "left" "[I"), (Cond.fieldLink "SuccessKindsModel" 68 "SuccessKindsModel" "right" "[I"), (Cond.fieldLink "SuccessKindsModel" 174 "SuccessKindsModel" "failing" "Z"), (Cond.fieldLink "SuccessKindsModel" 167 "SuccessKindsModel" "cut" "Z"), (Cond.fieldLink "SuccessKindsModel" 164 "SuccessKindsModel" "steps" "I"), (Cond.fieldLink "SuccessKindsModel" 180 "SuccessKindsModel" "pairs" "I"), (Cond.fieldLink "SuccessKindsModel" 171 "SuccessKindsModel" "failures" "I"), (Cond.fieldLink "SuccessKindsModel" 201 "SuccessKindsModel" "active" "I"), (Cond.fieldLink "SuccessKindsModel" 204 "SuccessKindsModel" "calls" "I"), (Cond.fieldLink "SuccessKindsModel" 71 "SuccessKindsModel" "one" "[I"), (Cond.fieldLink "SuccessKindsModel" 74 "SuccessKindsModel" "two" "[I"), (Cond.fieldLink "SuccessKindsModel" 232 "SuccessKindsModel" "parts" "I"), (Cond.fieldLink "SuccessKindsModel" 77 "SuccessKindsModel" "partOf" "[I"), (Cond.fieldLink "SuccessKindsModel" 80 "SuccessKindsModel" "thrown" "I")]
def wa_13 : List Cond := [(Cond.lays "SuccessKindsModel" "SuccessKindsModel" "expressions" "I"), (Cond.laysFinal "SuccessKindsModel" "SuccessKindsModel" "sort" "[I"), (Cond.laysFinal "SuccessKindsModel" "SuccessKindsModel" "first" "[I"), (Cond.laysFinal "SuccessKindsModel" "SuccessKindsModel" "second" "[I"), (Cond.laysFinal "SuccessKindsModel" "SuccessKindsModel" "third" "[I"), (Cond.laysFinal "SuccessKindsModel" "SuccessKindsModel" "fourth" "[I"), (Cond.laysFinal "SuccessKindsModel" "SuccessKindsModel" "depth" "[I"), (Cond.laysFinal "SuccessKindsModel" "SuccessKindsModel" "size" "[I"), (Cond.laysFinal "SuccessKindsModel" "SuccessKindsModel" "body" "[I"), (Cond.laysFinal "SuccessKindsModel" "SuccessKindsModel" "may" "[I"), (Cond.laysFinal "SuccessKindsModel" "SuccessKindsModel" "gives" "[I"), (Cond.laysFinal "SuccessKindsModel" "SuccessKindsModel" "come" "[Z"), (Cond.laysFinal "SuccessKindsModel" "SuccessKindsModel" "given" "[Z"), (Cond.lays "SuccessKindsModel" "SuccessKindsModel" "open" "I"), (Cond.laysFinal "SuccessKindsModel" "SuccessKindsModel" "which" "[I"), (Cond.laysFinal "SuccessKindsModel" "SuccessKindsModel" "stage" "[I"), (Cond.laysFinal "SuccessKindsModel" "SuccessKindsModel" "variable" "[I"), (Cond.laysFinal "SuccessKindsModel" "SuccessKindsModel" "result" "[I"), (Cond.lays "SuccessKindsModel" "SuccessKindsModel" "back" "I"), (Cond.lays "SuccessKindsModel" "SuccessKindsModel" "values" "I"), (Cond.laysFinal "SuccessKindsModel" "SuccessKindsModel" "kind" "[I"), (Cond.laysFinal "SuccessKindsModel" "SuccessKindsModel" "number" "[I"), (Cond.laysFinal "SuccessKindsModel" "SuccessKindsModel" "left" "[I"), (Cond.laysFinal "SuccessKindsModel" "SuccessKindsModel" "right" "[I"), (Cond.lays "SuccessKindsModel" "SuccessKindsModel" "failing" "Z"), (Cond.lays "SuccessKindsModel" "SuccessKindsModel" "cut" "Z"), (Cond.lays "SuccessKindsModel" "SuccessKindsModel" "steps" "I"), (Cond.lays "SuccessKindsModel" "SuccessKindsModel" "pairs" "I"), (Cond.lays "SuccessKindsModel" "SuccessKindsModel" "failures" "I"), (Cond.lays "SuccessKindsModel" "SuccessKindsModel" "active" "I"), (Cond.lays "SuccessKindsModel" "SuccessKindsModel" "calls" "I"), (Cond.laysFinal "SuccessKindsModel" "SuccessKindsModel" "one" "[I"), (Cond.laysFinal "SuccessKindsModel" "SuccessKindsModel" "two" "[I"), (Cond.lays "SuccessKindsModel" "SuccessKindsModel" "parts" "I"), (Cond.laysFinal "SuccessKindsModel" "SuccessKindsModel" "partOf" "[I"), (Cond.lays "SuccessKindsModel" "SuccessKindsModel" "thrown" "I"), (Cond.superclass "SuccessKindsModel" "java/lang/Object"), (Cond.arrayClass FieldType.boolean), (Cond.methodLink "SuccessKindsLaw" 56 yn_M_thrown), (Cond.instanceMethod yn_M_thrown)]
def wa_14 : List Cond := [(Cond.selects "SuccessKindsModel" yn_M_thrown yn_M_thrown), (Cond.code yn_M_thrown prog_6_method_2_code 1 (Option.some FieldType.int)), (Cond.methodLink "SuccessKindsLaw" 55 yn_M_make), (Cond.instanceMethod yn_M_make), (Cond.selects "SuccessKindsModel" yn_M_make yn_M_make), (Cond.code yn_M_make prog_6_method_9_code 10 (Option.some FieldType.int)), (Cond.methodLink "SuccessKindsModel" 95 yn_M_isSaid), (Cond.static yn_M_isSaid), (Cond.code yn_M_isSaid prog_6_method_6_code 3 (Option.some FieldType.boolean)), (Cond.methodLink "SuccessKindsModel" 87 yn_M_outside), (Cond.static yn_M_outside), (Cond.code yn_M_outside prog_6_method_3_code 2 (Option.some FieldType.boolean)), (Cond.methodLink "SuccessKindsModel" 99 yn_M_partsOf), (Cond.static yn_M_partsOf), (Cond.code yn_M_partsOf prog_6_method_7_code 2 (Option.some FieldType.int)), (Cond.methodLink "SuccessKindsModel" 91 yn_M_parameters), (Cond.static yn_M_parameters), (Cond.code yn_M_parameters prog_6_method_4_code 1 (Option.some FieldType.int)), (Cond.methodLink "SuccessKindsModel" 103 yn_M_pick), (Cond.static yn_M_pick), (Cond.code yn_M_pick prog_6_method_8_code 5 (Option.some FieldType.int)), (Cond.methodLink "SuccessKindsModel" 107 yn_M_isPart), (Cond.instanceMethod yn_M_isPart), (Cond.code yn_M_isPart prog_6_method_5_code 2 (Option.some FieldType.boolean)), (Cond.methodLink "SuccessKindsLaw" 63 yn_M_define), (Cond.instanceMethod yn_M_define), (Cond.selects "SuccessKindsModel" yn_M_define yn_M_define), (Cond.code yn_M_define prog_6_method_10_code 5 (Option.some FieldType.int)), (Cond.methodLink "SuccessKindsLaw" 66 yn_M_may), (Cond.instanceMethod yn_M_may), (Cond.selects "SuccessKindsModel" yn_M_may yn_M_may), (Cond.code yn_M_may prog_6_method_23_code 3 (Option.some FieldType.int)), (Cond.methodLink "SuccessKindsModel" 155 yn_M_know), (Cond.instanceMethod yn_M_know), (Cond.code yn_M_know prog_6_method_22_code 4 none), (Cond.methodLink "SuccessKindsModel" 152 yn_M_learn), (Cond.instanceMethod yn_M_learn), (Cond.code yn_M_learn prog_6_method_21_code 7 (Option.some FieldType.boolean)), (Cond.methodLink "SuccessKindsModel" 149 yn_M_looked), (Cond.instanceMethod yn_M_looked)]
def wa_15 : List Cond := [(Cond.code yn_M_looked prog_6_method_20_code 4 (Option.some FieldType.int)), (Cond.methodLink "SuccessKindsModel" 128 yn_M_look), (Cond.instanceMethod yn_M_look), (Cond.code yn_M_look prog_6_method_12_code 3 none), (Cond.methodLink "SuccessKindsModel" 146 yn_M_lookOn), (Cond.instanceMethod yn_M_lookOn), (Cond.code yn_M_lookOn prog_6_method_18_code 6 none), (Cond.methodLink "SuccessKindsModel" 132 yn_M_leaf), (Cond.instanceMethod yn_M_leaf), (Cond.code yn_M_leaf prog_6_method_16_code 3 (Option.some FieldType.int)), (Cond.methodLink "SuccessKindsModel" 122 yn_M_kindOf), (Cond.static yn_M_kindOf), (Cond.code yn_M_kindOf prog_6_method_11_code 1 (Option.some FieldType.int)), (Cond.methodLink "SuccessKindsModel" 135 yn_M_close), (Cond.instanceMethod yn_M_close), (Cond.code yn_M_close prog_6_method_19_code 3 none), (Cond.methodLink "SuccessKindsModel" 139 yn_M_lookCase), (Cond.instanceMethod yn_M_lookCase), (Cond.code yn_M_lookCase prog_6_method_17_code 6 none), (Cond.methodLink "SuccessKindsModel" 143 yn_M_together), (Cond.instanceMethod yn_M_together), (Cond.code yn_M_together prog_6_method_15_code 5 (Option.some FieldType.int)), (Cond.methodLink "SuccessKindsModel" 114 yn_M_sums), (Cond.static yn_M_sums), (Cond.code yn_M_sums prog_6_method_13_code 8 (Option.some FieldType.int)), (Cond.methodLink "SuccessKindsModel" 118 yn_M_called), (Cond.instanceMethod yn_M_called), (Cond.code yn_M_called prog_6_method_14_code 5 (Option.some FieldType.int)), (Cond.methodLink "SuccessKindsLaw" 70 yn_M_gives), (Cond.instanceMethod yn_M_gives), (Cond.selects "SuccessKindsModel" yn_M_gives yn_M_gives), (Cond.code yn_M_gives prog_6_method_24_code 2 (Option.some FieldType.int)), (Cond.methodLink "SuccessKindsLaw" 73 yn_M_hopeless), (Cond.instanceMethod yn_M_hopeless), (Cond.selects "SuccessKindsModel" yn_M_hopeless yn_M_hopeless), (Cond.code yn_M_hopeless prog_6_method_26_code 4 (Option.some FieldType.int)), (Cond.methodLink "SuccessKindsModel" 158 yn_M_walk), (Cond.instanceMethod yn_M_walk), (Cond.code yn_M_walk prog_6_method_25_code 3 none), (Cond.methodLink "SuccessKindsLaw" 76 yn_M_isHopeless)]
def wa_16 : List Cond := [(Cond.instanceMethod yn_M_isHopeless), (Cond.selects "SuccessKindsModel" yn_M_isHopeless yn_M_isHopeless), (Cond.code yn_M_isHopeless prog_6_method_27_code 3 (Option.some FieldType.boolean)), (Cond.methodLink "SuccessKindsLaw" 80 yn_M_run), (Cond.instanceMethod yn_M_run), (Cond.selects "SuccessKindsModel" yn_M_run yn_M_run), (Cond.code yn_M_run prog_6_method_45_code 7 (Option.some FieldType.int)), (Cond.methodLink "SuccessKindsModel" 235 yn_M_worked), (Cond.instanceMethod yn_M_worked), (Cond.code yn_M_worked prog_6_method_43_code 3 (Option.some FieldType.int)), (Cond.methodLink "SuccessKindsModel" 207 yn_M_work), (Cond.instanceMethod yn_M_work), (Cond.code yn_M_work prog_6_method_29_code 2 none), (Cond.methodLink "SuccessKindsModel" 229 yn_M_go), (Cond.instanceMethod yn_M_go), (Cond.code yn_M_go prog_6_method_42_code 1 none), (Cond.methodLink "SuccessKindsModel" 223 yn_M_goUp), (Cond.instanceMethod yn_M_goUp), (Cond.code yn_M_goUp prog_6_method_41_code 3 none), (Cond.methodLink "SuccessKindsModel" 226 yn_M_workOn), (Cond.instanceMethod yn_M_workOn), (Cond.code yn_M_workOn prog_6_method_40_code 6 none), (Cond.methodLink "SuccessKindsModel" 214 yn_M_leafValue), (Cond.instanceMethod yn_M_leafValue), (Cond.code yn_M_leafValue prog_6_method_38_code 4 none), (Cond.methodLink "SuccessKindsModel" 186 yn_M_end), (Cond.instanceMethod yn_M_end), (Cond.code yn_M_end prog_6_method_30_code 2 none), (Cond.methodLink "SuccessKindsModel" 183 yn_M_value), (Cond.instanceMethod yn_M_value), (Cond.code yn_M_value prog_6_method_28_code 3 (Option.some FieldType.int)), (Cond.methodLink "SuccessKindsModel" 198 yn_M_fail), (Cond.instanceMethod yn_M_fail), (Cond.code yn_M_fail prog_6_method_32_code 1 none), (Cond.methodLink "SuccessKindsModel" 177 yn_M_fails), (Cond.instanceMethod yn_M_fails), (Cond.code yn_M_fails prog_6_method_31_code 1 none), (Cond.methodLink "SuccessKindsModel" 217 yn_M_callOn), (Cond.instanceMethod yn_M_callOn), (Cond.code yn_M_callOn prog_6_method_39_code 5 none)]
def wa_17 : List Cond := [(Cond.methodLink "SuccessKindsModel" 210 yn_M_call), (Cond.instanceMethod yn_M_call), (Cond.code yn_M_call prog_6_method_37_code 5 none), (Cond.methodLink "SuccessKindsModel" 220 yn_M_combine), (Cond.instanceMethod yn_M_combine), (Cond.code yn_M_combine prog_6_method_36_code 5 none), (Cond.methodLink "SuccessKindsModel" 189 yn_M_pair), (Cond.instanceMethod yn_M_pair), (Cond.code yn_M_pair prog_6_method_35_code 4 none), (Cond.methodLink "SuccessKindsModel" 192 yn_M_same), (Cond.instanceMethod yn_M_same), (Cond.code yn_M_same prog_6_method_33_code 6 (Option.some FieldType.boolean)), (Cond.methodLink "SuccessKindsModel" 195 yn_M_isNumber), (Cond.static yn_M_isNumber), (Cond.code yn_M_isNumber prog_6_method_34_code 1 (Option.some FieldType.boolean)), (Cond.methodLink "SuccessKindsModel" 238 yn_M_flatten), (Cond.instanceMethod yn_M_flatten), (Cond.code yn_M_flatten prog_6_method_44_code 4 none), (Cond.methodLink "SuccessKindsLaw" 83 yn_M_part), (Cond.instanceMethod yn_M_part), (Cond.selects "SuccessKindsModel" yn_M_part yn_M_part), (Cond.code yn_M_part prog_6_method_46_code 2 (Option.some FieldType.int)), (Cond.methodLink "SuccessKindsLaw" 87 yn_M_calls), (Cond.instanceMethod yn_M_calls), (Cond.selects "SuccessKindsModel" yn_M_calls yn_M_calls), (Cond.code yn_M_calls prog_6_method_47_code 1 (Option.some FieldType.int)), (Cond.selects rn_P yn_P_partsExist yn_P_partsExist), (Cond.selects rn_P yn_P_measure yn_P_measure), (Cond.selects rn_P yn_P_depthOf yn_P_depthOf), (Cond.selects rn_P yn_P_sizeOf yn_P_sizeOf), (Cond.selects rn_S yn_S_checkExpression yn_S_checkExpression), (Cond.selects rn_K yn_K_growGives yn_K_growGives), (Cond.selects rn_K yn_K_bodyKinds yn_K_bodyKinds), (Cond.selects rn_K yn_K_kinds yn_K_kinds), (Cond.selects rn_K yn_K_caseKinds yn_K_caseKinds), (Cond.selects rn_K yn_K_narrowed yn_K_narrowed), (Cond.selects rn_K yn_K_callKinds yn_K_callKinds), (Cond.selects rn_K yn_K_note yn_K_note), (Cond.selects rn_K yn_K_letKinds yn_K_letKinds), (Cond.selects rn_K yn_K_kindsOfTwo yn_K_kindsOfTwo)]
def wa_18 : List Cond := [(Cond.selects rn_K yn_K_growMay yn_K_growMay), (Cond.selects rn_K yn_K_walkBody yn_K_walkBody), (Cond.selects rn_H yn_H_openFrame yn_H_openFrame), (Cond.selects rn_H yn_H_callWith yn_H_callWith), (Cond.selects rn_H yn_H_workOut yn_H_workOut), (Cond.selects rn_H yn_H_variable yn_H_variable), (Cond.selects rn_H yn_H_fail yn_H_fail), (Cond.selects rn_H yn_H_headOrTail yn_H_headOrTail), (Cond.selects rn_H yn_H_oneOfCase yn_H_oneOfCase), (Cond.selects rn_H yn_H_letIn yn_H_letIn), (Cond.selects rn_H yn_H_firstOrElse yn_H_firstOrElse), (Cond.selects rn_H yn_H_fromTwo yn_H_fromTwo), (Cond.selects rn_H yn_H_pair yn_H_pair), (Cond.selects rn_H yn_H_calculate yn_H_calculate), (Cond.selects rn_M yn_M_isPart yn_M_isPart), (Cond.selects rn_M yn_M_know yn_M_know), (Cond.selects rn_M yn_M_learn yn_M_learn), (Cond.selects rn_M yn_M_looked yn_M_looked), (Cond.selects rn_M yn_M_look yn_M_look), (Cond.selects rn_M yn_M_lookOn yn_M_lookOn), (Cond.selects rn_M yn_M_leaf yn_M_leaf), (Cond.selects rn_M yn_M_close yn_M_close), (Cond.selects rn_M yn_M_lookCase yn_M_lookCase), (Cond.selects rn_M yn_M_together yn_M_together), (Cond.selects rn_M yn_M_called yn_M_called), (Cond.selects rn_M yn_M_walk yn_M_walk), (Cond.selects rn_M yn_M_worked yn_M_worked), (Cond.selects rn_M yn_M_work yn_M_work), (Cond.selects rn_M yn_M_go yn_M_go), (Cond.selects rn_M yn_M_goUp yn_M_goUp), (Cond.selects rn_M yn_M_workOn yn_M_workOn), (Cond.selects rn_M yn_M_leafValue yn_M_leafValue), (Cond.selects rn_M yn_M_end yn_M_end), (Cond.selects rn_M yn_M_value yn_M_value), (Cond.selects rn_M yn_M_fail yn_M_fail), (Cond.selects rn_M yn_M_fails yn_M_fails), (Cond.selects rn_M yn_M_callOn yn_M_callOn), (Cond.selects rn_M yn_M_call yn_M_call), (Cond.selects rn_M yn_M_combine yn_M_combine), (Cond.selects rn_M yn_M_pair yn_M_pair)]
def wa_19 : List Cond := [(Cond.selects rn_M yn_M_same yn_M_same), (Cond.selects rn_M yn_M_flatten yn_M_flatten)]
def wa_A : List Cond := wa_0 ++ (wa_1 ++ (wa_2 ++ (wa_3 ++ (wa_4 ++ (wa_5 ++ (wa_6 ++ (wa_7 ++ (wa_8 ++ (wa_9 ++ (wa_10 ++ (wa_11 ++ (wa_12 ++ (wa_13 ++ (wa_14 ++ (wa_15 ++ (wa_16 ++ (wa_17 ++ (wa_18 ++ (wa_19)))))))))))))))))))
theorem wc_0 : ∀ w ∈ wa_0, w ∈ wa_A := fun w h => List.mem_append_left _ h
theorem wc_1 : ∀ w ∈ wa_1, w ∈ wa_A := fun w h => List.mem_append_right _ (List.mem_append_left _ h)
theorem wc_2 : ∀ w ∈ wa_2, w ∈ wa_A := fun w h => List.mem_append_right _ (List.mem_append_right _ (List.mem_append_left _ h))
theorem wc_3 : ∀ w ∈ wa_3, w ∈ wa_A := fun w h => List.mem_append_right _ (List.mem_append_right _ (List.mem_append_right _ (List.mem_append_left _ h)))
theorem wc_4 : ∀ w ∈ wa_4, w ∈ wa_A := fun w h => List.mem_append_right _ (List.mem_append_right _ (List.mem_append_right _ (List.mem_append_right _ (List.mem_append_left _ h))))
theorem wc_5 : ∀ w ∈ wa_5, w ∈ wa_A := fun w h => List.mem_append_right _ (List.mem_append_right _ (List.mem_append_right _ (List.mem_append_right _ (List.mem_append_right _ (List.mem_append_left _ h)))))
theorem wc_6 : ∀ w ∈ wa_6, w ∈ wa_A := fun w h => List.mem_append_right _ (List.mem_append_right _ (List.mem_append_right _ (List.mem_append_right _ (List.mem_append_right _ (List.mem_append_right _ (List.mem_append_left _ h))))))
theorem wc_7 : ∀ w ∈ wa_7, w ∈ wa_A := fun w h => List.mem_append_right _ (List.mem_append_right _ (List.mem_append_right _ (List.mem_append_right _ (List.mem_append_right _ (List.mem_append_right _ (List.mem_append_right _ (List.mem_append_left _ h)))))))
theorem wc_8 : ∀ w ∈ wa_8, w ∈ wa_A := fun w h => List.mem_append_right _ (List.mem_append_right _ (List.mem_append_right _ (List.mem_append_right _ (List.mem_append_right _ (List.mem_append_right _ (List.mem_append_right _ (List.mem_append_right _ (List.mem_append_left _ h))))))))
theorem wc_9 : ∀ w ∈ wa_9, w ∈ wa_A := fun w h => List.mem_append_right _ (List.mem_append_right _ (List.mem_append_right _ (List.mem_append_right _ (List.mem_append_right _ (List.mem_append_right _ (List.mem_append_right _ (List.mem_append_right _ (List.mem_append_right _ (List.mem_append_left _ h)))))))))
theorem wc_10 : ∀ w ∈ wa_10, w ∈ wa_A := fun w h => List.mem_append_right _ (List.mem_append_right _ (List.mem_append_right _ (List.mem_append_right _ (List.mem_append_right _ (List.mem_append_right _ (List.mem_append_right _ (List.mem_append_right _ (List.mem_append_right _ (List.mem_append_right _ (List.mem_append_left _ h))))))))))
theorem wc_11 : ∀ w ∈ wa_11, w ∈ wa_A := fun w h => List.mem_append_right _ (List.mem_append_right _ (List.mem_append_right _ (List.mem_append_right _ (List.mem_append_right _ (List.mem_append_right _ (List.mem_append_right _ (List.mem_append_right _ (List.mem_append_right _ (List.mem_append_right _ (List.mem_append_right _ (List.mem_append_left _ h)))))))))))
theorem wc_12 : ∀ w ∈ wa_12, w ∈ wa_A := fun w h => List.mem_append_right _ (List.mem_append_right _ (List.mem_append_right _ (List.mem_append_right _ (List.mem_append_right _ (List.mem_append_right _ (List.mem_append_right _ (List.mem_append_right _ (List.mem_append_right _ (List.mem_append_right _ (List.mem_append_right _ (List.mem_append_right _ (List.mem_append_left _ h))))))))))))
theorem wc_13 : ∀ w ∈ wa_13, w ∈ wa_A := fun w h => List.mem_append_right _ (List.mem_append_right _ (List.mem_append_right _ (List.mem_append_right _ (List.mem_append_right _ (List.mem_append_right _ (List.mem_append_right _ (List.mem_append_right _ (List.mem_append_right _ (List.mem_append_right _ (List.mem_append_right _ (List.mem_append_right _ (List.mem_append_right _ (List.mem_append_left _ h)))))))))))))
theorem wc_14 : ∀ w ∈ wa_14, w ∈ wa_A := fun w h => List.mem_append_right _ (List.mem_append_right _ (List.mem_append_right _ (List.mem_append_right _ (List.mem_append_right _ (List.mem_append_right _ (List.mem_append_right _ (List.mem_append_right _ (List.mem_append_right _ (List.mem_append_right _ (List.mem_append_right _ (List.mem_append_right _ (List.mem_append_right _ (List.mem_append_right _ (List.mem_append_left _ h))))))))))))))
theorem wc_15 : ∀ w ∈ wa_15, w ∈ wa_A := fun w h => List.mem_append_right _ (List.mem_append_right _ (List.mem_append_right _ (List.mem_append_right _ (List.mem_append_right _ (List.mem_append_right _ (List.mem_append_right _ (List.mem_append_right _ (List.mem_append_right _ (List.mem_append_right _ (List.mem_append_right _ (List.mem_append_right _ (List.mem_append_right _ (List.mem_append_right _ (List.mem_append_right _ (List.mem_append_left _ h)))))))))))))))
theorem wc_16 : ∀ w ∈ wa_16, w ∈ wa_A := fun w h => List.mem_append_right _ (List.mem_append_right _ (List.mem_append_right _ (List.mem_append_right _ (List.mem_append_right _ (List.mem_append_right _ (List.mem_append_right _ (List.mem_append_right _ (List.mem_append_right _ (List.mem_append_right _ (List.mem_append_right _ (List.mem_append_right _ (List.mem_append_right _ (List.mem_append_right _ (List.mem_append_right _ (List.mem_append_right _ (List.mem_append_left _ h))))))))))))))))
theorem wc_17 : ∀ w ∈ wa_17, w ∈ wa_A := fun w h => List.mem_append_right _ (List.mem_append_right _ (List.mem_append_right _ (List.mem_append_right _ (List.mem_append_right _ (List.mem_append_right _ (List.mem_append_right _ (List.mem_append_right _ (List.mem_append_right _ (List.mem_append_right _ (List.mem_append_right _ (List.mem_append_right _ (List.mem_append_right _ (List.mem_append_right _ (List.mem_append_right _ (List.mem_append_right _ (List.mem_append_right _ (List.mem_append_left _ h)))))))))))))))))
theorem wc_18 : ∀ w ∈ wa_18, w ∈ wa_A := fun w h => List.mem_append_right _ (List.mem_append_right _ (List.mem_append_right _ (List.mem_append_right _ (List.mem_append_right _ (List.mem_append_right _ (List.mem_append_right _ (List.mem_append_right _ (List.mem_append_right _ (List.mem_append_right _ (List.mem_append_right _ (List.mem_append_right _ (List.mem_append_right _ (List.mem_append_right _ (List.mem_append_right _ (List.mem_append_right _ (List.mem_append_right _ (List.mem_append_right _ (List.mem_append_left _ h))))))))))))))))))
theorem wc_19 : ∀ w ∈ wa_19, w ∈ wa_A := fun w h => List.mem_append_right _ (List.mem_append_right _ (List.mem_append_right _ (List.mem_append_right _ (List.mem_append_right _ (List.mem_append_right _ (List.mem_append_right _ (List.mem_append_right _ (List.mem_append_right _ (List.mem_append_right _ (List.mem_append_right _ (List.mem_append_right _ (List.mem_append_right _ (List.mem_append_right _ (List.mem_append_right _ (List.mem_append_right _ (List.mem_append_right _ (List.mem_append_right _ (List.mem_append_right _ (h)))))))))))))))))))
theorem wg_0 : wa_0.all goodWord = true := by decide +kernel
theorem wg_1 : wa_1.all goodWord = true := by decide +kernel
theorem wg_2 : wa_2.all goodWord = true := by decide +kernel
theorem wg_3 : wa_3.all goodWord = true := by decide +kernel
theorem wg_4 : wa_4.all goodWord = true := by decide +kernel
theorem wg_5 : wa_5.all goodWord = true := by decide +kernel
theorem wg_6 : wa_6.all goodWord = true := by decide +kernel
theorem wg_7 : wa_7.all goodWord = true := by decide +kernel
theorem wg_8 : wa_8.all goodWord = true := by decide +kernel
theorem wg_9 : wa_9.all goodWord = true := by decide +kernel
theorem wg_10 : wa_10.all goodWord = true := by decide +kernel
theorem wg_11 : wa_11.all goodWord = true := by decide +kernel
theorem wg_12 : wa_12.all goodWord = true := by decide +kernel
theorem wg_13 : wa_13.all goodWord = true := by decide +kernel
theorem wg_14 : wa_14.all goodWord = true := by decide +kernel
theorem wg_15 : wa_15.all goodWord = true := by decide +kernel
theorem wg_16 : wa_16.all goodWord = true := by decide +kernel
theorem wg_17 : wa_17.all goodWord = true := by decide +kernel
theorem wg_18 : wa_18.all goodWord = true := by decide +kernel
theorem wg_19 : wa_19.all goodWord = true := by decide +kernel
theorem wg_A : wa_A.all goodWord = true := by
  unfold wa_A
  simp only [List.all_append, Bool.and_eq_true]
  exact ⟨wg_0, ⟨wg_1, ⟨wg_2, ⟨wg_3, ⟨wg_4, ⟨wg_5, ⟨wg_6, ⟨wg_7, ⟨wg_8, ⟨wg_9, ⟨wg_10, ⟨wg_11, ⟨wg_12, ⟨wg_13, ⟨wg_14, ⟨wg_15, ⟨wg_16, ⟨wg_17, ⟨wg_18, wg_19⟩⟩⟩⟩⟩⟩⟩⟩⟩⟩⟩⟩⟩⟩⟩⟩⟩⟩⟩
theorem wg_in {y y' : MethodName} {c c' : ByteArray} {n n' : Nat} {r r' : Option FieldType} (h : Cond.code y' c' n' r' ∈ wa_A) : GoodIn (Cond.code y c n r :: wa_A) (Cond.code y' c' n' r' :: wa_A) := fun w hw => (List.mem_cons.mp hw).elim (fun e => ⟨by rw [e]; exact List.mem_cons_of_mem _ h, by rw [e]; exact Or.inl rfl⟩) (fun hw => ⟨List.mem_cons_of_mem _ hw, good_of_word (List.all_eq_true.mp wg_A w hw)⟩)
theorem wm_in_L : Cond.initialized "SuccessKindsLaw" ∈ wa_A := wc_0 _ (List.mem_of_getElem? (i := 0) rfl)
theorem wm_in_S : Cond.initialized "SuccessKinds" ∈ wa_A := wc_0 _ (List.mem_of_getElem? (i := 1) rfl)
theorem wm_in_P : Cond.initialized "SuccessKinds$Program" ∈ wa_A := wc_0 _ (List.mem_of_getElem? (i := 2) rfl)
theorem wm_in_J : Cond.initialized "java/util/Arrays" ∈ wa_A := wc_0 _ (List.mem_of_getElem? (i := 3) rfl)
theorem wm_in_K : Cond.initialized "SuccessKinds$Knowledge" ∈ wa_A := wc_0 _ (List.mem_of_getElem? (i := 4) rfl)
theorem wm_in_H : Cond.initialized "SuccessKinds$Machine" ∈ wa_A := wc_0 _ (List.mem_of_getElem? (i := 5) rfl)
theorem wm_in_M : Cond.initialized "SuccessKindsModel" ∈ wa_A := wc_0 _ (List.mem_of_getElem? (i := 6) rfl)
theorem wm_cl_L_8 : Cond.classLink "SuccessKindsLaw" 8 "SuccessKinds" ∈ wa_A := wc_0 _ (List.mem_of_getElem? (i := 15) rfl)
theorem wm_ml_L_46 : Cond.methodLink "SuccessKindsLaw" 46 yn_S_init ∈ wa_A := wc_0 _ (List.mem_of_getElem? (i := 17) rfl)
theorem wm_im_S_init : Cond.instanceMethod yn_S_init ∈ wa_A := wc_0 _ (List.mem_of_getElem? (i := 18) rfl)
theorem wm_code_S_init : Cond.code yn_S_init prog_1_method_1_code 1 none ∈ wa_A := wc_0 _ (List.mem_of_getElem? (i := 19) rfl)
theorem wm_ml_S_1 : Cond.methodLink "SuccessKinds" 1 ⟨"java/lang/Object", "<init>", "()V"⟩ ∈ wa_A := wc_0 _ (List.mem_of_getElem? (i := 20) rfl)
theorem wm_cl_S_7 : Cond.classLink "SuccessKinds" 7 "SuccessKinds$Program" ∈ wa_A := wc_0 _ (List.mem_of_getElem? (i := 23) rfl)
theorem wm_ml_S_9 : Cond.methodLink "SuccessKinds" 9 yn_P_init ∈ wa_A := wc_0 _ (List.mem_of_getElem? (i := 25) rfl)
theorem wm_im_P_init : Cond.instanceMethod yn_P_init ∈ wa_A := wc_0 _ (List.mem_of_getElem? (i := 26) rfl)
theorem wm_code_P_init : Cond.code yn_P_init prog_4_method_1_code 1 none ∈ wa_A := wc_0 _ (List.mem_of_getElem? (i := 27) rfl)
theorem wm_ml_P_3 : Cond.methodLink "SuccessKinds$Program" 3 ⟨"java/lang/Object", "<init>", "()V"⟩ ∈ wa_A := wc_0 _ (List.mem_of_getElem? (i := 28) rfl)
theorem wm_ml_P_36 : Cond.methodLink "SuccessKinds$Program" 36 yn_J_fill ∈ wa_A := wc_0 _ (List.mem_of_getElem? (i := 29) rfl)
theorem wm_st_J_fill : Cond.static yn_J_fill ∈ wa_A := wc_0 _ (List.mem_of_getElem? (i := 30) rfl)
theorem wm_code_J_fill : Cond.code yn_J_fill prog_16_method_103_code 4 none ∈ wa_A := wc_0 _ (List.mem_of_getElem? (i := 31) rfl)
theorem wm_fl_P_11 : Cond.fieldLink "SuccessKinds$Program" 11 "SuccessKinds$Program" "sorts" "[I" ∈ wa_A := wc_0 _ (List.mem_of_getElem? (i := 32) rfl)
theorem wm_fl_H_82 : Cond.fieldLink "SuccessKinds$Machine" 82 "SuccessKinds$Program" "sorts" "[I" ∈ wa_A := wc_0 _ (List.mem_of_getElem? (i := 33) rfl)
theorem wm_fl_K_81 : Cond.fieldLink "SuccessKinds$Knowledge" 81 "SuccessKinds$Program" "sorts" "[I" ∈ wa_A := wc_0 _ (List.mem_of_getElem? (i := 34) rfl)
theorem wm_fl_P_15 : Cond.fieldLink "SuccessKinds$Program" 15 "SuccessKinds$Program" "details" "[I" ∈ wa_A := wc_0 _ (List.mem_of_getElem? (i := 35) rfl)
theorem wm_fl_H_77 : Cond.fieldLink "SuccessKinds$Machine" 77 "SuccessKinds$Program" "details" "[I" ∈ wa_A := wc_0 _ (List.mem_of_getElem? (i := 36) rfl)
theorem wm_fl_K_78 : Cond.fieldLink "SuccessKinds$Knowledge" 78 "SuccessKinds$Program" "details" "[I" ∈ wa_A := wc_0 _ (List.mem_of_getElem? (i := 37) rfl)
theorem wm_fl_P_18 : Cond.fieldLink "SuccessKinds$Program" 18 "SuccessKinds$Program" "firsts" "[I" ∈ wa_A := wc_0 _ (List.mem_of_getElem? (i := 38) rfl)
theorem wm_fl_H_102 : Cond.fieldLink "SuccessKinds$Machine" 102 "SuccessKinds$Program" "firsts" "[I" ∈ wa_A := wc_0 _ (List.mem_of_getElem? (i := 39) rfl)
theorem wm_fl_K_93 : Cond.fieldLink "SuccessKinds$Knowledge" 93 "SuccessKinds$Program" "firsts" "[I" ∈ wa_A := wc_1 _ (List.mem_of_getElem? (i := 0) rfl)
theorem wm_fl_P_21 : Cond.fieldLink "SuccessKinds$Program" 21 "SuccessKinds$Program" "seconds" "[I" ∈ wa_A := wc_1 _ (List.mem_of_getElem? (i := 1) rfl)
theorem wm_fl_H_105 : Cond.fieldLink "SuccessKinds$Machine" 105 "SuccessKinds$Program" "seconds" "[I" ∈ wa_A := wc_1 _ (List.mem_of_getElem? (i := 2) rfl)
theorem wm_fl_K_108 : Cond.fieldLink "SuccessKinds$Knowledge" 108 "SuccessKinds$Program" "seconds" "[I" ∈ wa_A := wc_1 _ (List.mem_of_getElem? (i := 3) rfl)
theorem wm_fl_P_24 : Cond.fieldLink "SuccessKinds$Program" 24 "SuccessKinds$Program" "thirds" "[I" ∈ wa_A := wc_1 _ (List.mem_of_getElem? (i := 4) rfl)
theorem wm_fl_H_132 : Cond.fieldLink "SuccessKinds$Machine" 132 "SuccessKinds$Program" "thirds" "[I" ∈ wa_A := wc_1 _ (List.mem_of_getElem? (i := 5) rfl)
theorem wm_fl_K_121 : Cond.fieldLink "SuccessKinds$Knowledge" 121 "SuccessKinds$Program" "thirds" "[I" ∈ wa_A := wc_1 _ (List.mem_of_getElem? (i := 6) rfl)
theorem wm_fl_P_27 : Cond.fieldLink "SuccessKinds$Program" 27 "SuccessKinds$Program" "depths" "[I" ∈ wa_A := wc_1 _ (List.mem_of_getElem? (i := 7) rfl)
theorem wm_fl_P_30 : Cond.fieldLink "SuccessKinds$Program" 30 "SuccessKinds$Program" "sizes" "[I" ∈ wa_A := wc_1 _ (List.mem_of_getElem? (i := 8) rfl)
theorem wm_fl_P_33 : Cond.fieldLink "SuccessKinds$Program" 33 "SuccessKinds$Program" "bodies" "[I" ∈ wa_A := wc_1 _ (List.mem_of_getElem? (i := 9) rfl)
theorem wm_fl_K_68 : Cond.fieldLink "SuccessKinds$Knowledge" 68 "SuccessKinds$Program" "bodies" "[I" ∈ wa_A := wc_1 _ (List.mem_of_getElem? (i := 10) rfl)
theorem wm_fl_H_139 : Cond.fieldLink "SuccessKinds$Machine" 139 "SuccessKinds$Program" "bodies" "[I" ∈ wa_A := wc_1 _ (List.mem_of_getElem? (i := 11) rfl)
theorem wm_fl_P_42 : Cond.fieldLink "SuccessKinds$Program" 42 "SuccessKinds$Program" "count" "I" ∈ wa_A := wc_1 _ (List.mem_of_getElem? (i := 12) rfl)
theorem wm_cl_S_16 : Cond.classLink "SuccessKinds" 16 "SuccessKinds$Knowledge" ∈ wa_A := wc_1 _ (List.mem_of_getElem? (i := 24) rfl)
theorem wm_ml_S_18 : Cond.methodLink "SuccessKinds" 18 yn_K_init ∈ wa_A := wc_1 _ (List.mem_of_getElem? (i := 26) rfl)
theorem wm_im_K_init : Cond.instanceMethod yn_K_init ∈ wa_A := wc_1 _ (List.mem_of_getElem? (i := 27) rfl)
theorem wm_code_K_init : Cond.code yn_K_init prog_2_method_1_code 2 none ∈ wa_A := wc_1 _ (List.mem_of_getElem? (i := 28) rfl)
theorem wm_ml_K_3 : Cond.methodLink "SuccessKinds$Knowledge" 3 ⟨"java/lang/Object", "<init>", "()V"⟩ ∈ wa_A := wc_1 _ (List.mem_of_getElem? (i := 29) rfl)
theorem wm_fl_K_23 : Cond.fieldLink "SuccessKinds$Knowledge" 23 "SuccessKinds$Knowledge" "program" "LSuccessKinds$Program;" ∈ wa_A := wc_1 _ (List.mem_of_getElem? (i := 30) rfl)
theorem wm_fl_K_9 : Cond.fieldLink "SuccessKinds$Knowledge" 9 "SuccessKinds$Knowledge" "mays" "[I" ∈ wa_A := wc_1 _ (List.mem_of_getElem? (i := 31) rfl)
theorem wm_fl_K_15 : Cond.fieldLink "SuccessKinds$Knowledge" 15 "SuccessKinds$Knowledge" "givens" "[I" ∈ wa_A := wc_1 _ (List.mem_of_getElem? (i := 32) rfl)
theorem wm_fl_K_20 : Cond.fieldLink "SuccessKinds$Knowledge" 20 "SuccessKinds$Knowledge" "outcomes" "[I" ∈ wa_A := wc_1 _ (List.mem_of_getElem? (i := 33) rfl)
theorem wm_fl_K_27 : Cond.fieldLink "SuccessKinds$Knowledge" 27 "SuccessKinds$Knowledge" "fresh" "Z" ∈ wa_A := wc_1 _ (List.mem_of_getElem? (i := 34) rfl)
theorem wm_cl_S_25 : Cond.classLink "SuccessKinds" 25 "SuccessKinds$Machine" ∈ wa_A := wc_2 _ (List.mem_of_getElem? (i := 1) rfl)
theorem wm_ml_S_27 : Cond.methodLink "SuccessKinds" 27 yn_H_init ∈ wa_A := wc_2 _ (List.mem_of_getElem? (i := 3) rfl)
theorem wm_im_H_init : Cond.instanceMethod yn_H_init ∈ wa_A := wc_2 _ (List.mem_of_getElem? (i := 4) rfl)
theorem wm_code_H_init : Cond.code yn_H_init prog_3_method_1_code 2 none ∈ wa_A := wc_2 _ (List.mem_of_getElem? (i := 5) rfl)
theorem wm_ml_H_3 : Cond.methodLink "SuccessKinds$Machine" 3 ⟨"java/lang/Object", "<init>", "()V"⟩ ∈ wa_A := wc_2 _ (List.mem_of_getElem? (i := 6) rfl)
theorem wm_fl_H_11 : Cond.fieldLink "SuccessKinds$Machine" 11 "SuccessKinds$Machine" "parts" "[I" ∈ wa_A := wc_2 _ (List.mem_of_getElem? (i := 7) rfl)
theorem wm_fl_S_128 : Cond.fieldLink "SuccessKinds" 128 "SuccessKinds$Machine" "parts" "[I" ∈ wa_A := wc_2 _ (List.mem_of_getElem? (i := 8) rfl)
theorem wm_fl_H_72 : Cond.fieldLink "SuccessKinds$Machine" 72 "SuccessKinds$Machine" "partCount" "I" ∈ wa_A := wc_2 _ (List.mem_of_getElem? (i := 9) rfl)
theorem wm_fl_S_119 : Cond.fieldLink "SuccessKinds" 119 "SuccessKinds$Machine" "partCount" "I" ∈ wa_A := wc_2 _ (List.mem_of_getElem? (i := 10) rfl)
theorem wm_fl_H_32 : Cond.fieldLink "SuccessKinds$Machine" 32 "SuccessKinds$Machine" "callsMade" "I" ∈ wa_A := wc_2 _ (List.mem_of_getElem? (i := 11) rfl)
theorem wm_fl_S_132 : Cond.fieldLink "SuccessKinds" 132 "SuccessKinds$Machine" "callsMade" "I" ∈ wa_A := wc_2 _ (List.mem_of_getElem? (i := 12) rfl)
theorem wm_fl_H_28 : Cond.fieldLink "SuccessKinds$Machine" 28 "SuccessKinds$Machine" "program" "LSuccessKinds$Program;" ∈ wa_A := wc_2 _ (List.mem_of_getElem? (i := 13) rfl)
theorem wm_fl_H_15 : Cond.fieldLink "SuccessKinds$Machine" 15 "SuccessKinds$Machine" "variables" "[J" ∈ wa_A := wc_2 _ (List.mem_of_getElem? (i := 14) rfl)
theorem wm_fl_H_19 : Cond.fieldLink "SuccessKinds$Machine" 19 "SuccessKinds$Machine" "heads" "[J" ∈ wa_A := wc_2 _ (List.mem_of_getElem? (i := 15) rfl)
theorem wm_fl_H_22 : Cond.fieldLink "SuccessKinds$Machine" 22 "SuccessKinds$Machine" "tails" "[J" ∈ wa_A := wc_2 _ (List.mem_of_getElem? (i := 16) rfl)
theorem wm_fl_H_25 : Cond.fieldLink "SuccessKinds$Machine" 25 "SuccessKinds$Machine" "waiting" "[J" ∈ wa_A := wc_2 _ (List.mem_of_getElem? (i := 17) rfl)
theorem wm_fl_H_36 : Cond.fieldLink "SuccessKinds$Machine" 36 "SuccessKinds$Machine" "differentPairs" "I" ∈ wa_A := wc_2 _ (List.mem_of_getElem? (i := 18) rfl)
theorem wm_fl_H_39 : Cond.fieldLink "SuccessKinds$Machine" 39 "SuccessKinds$Machine" "pairsMade" "I" ∈ wa_A := wc_2 _ (List.mem_of_getElem? (i := 19) rfl)
theorem wm_fl_H_42 : Cond.fieldLink "SuccessKinds$Machine" 42 "SuccessKinds$Machine" "steps" "I" ∈ wa_A := wc_2 _ (List.mem_of_getElem? (i := 20) rfl)
theorem wm_fl_H_45 : Cond.fieldLink "SuccessKinds$Machine" 45 "SuccessKinds$Machine" "failures" "I" ∈ wa_A := wc_2 _ (List.mem_of_getElem? (i := 21) rfl)
theorem wm_fl_S_10 : Cond.fieldLink "SuccessKinds" 10 "SuccessKinds" "program" "LSuccessKinds$Program;" ∈ wa_A := wc_2 _ (List.mem_of_getElem? (i := 36) rfl)
theorem wm_fl_S_21 : Cond.fieldLink "SuccessKinds" 21 "SuccessKinds" "knowledge" "LSuccessKinds$Knowledge;" ∈ wa_A := wc_2 _ (List.mem_of_getElem? (i := 37) rfl)
theorem wm_fl_S_28 : Cond.fieldLink "SuccessKinds" 28 "SuccessKinds" "machine" "LSuccessKinds$Machine;" ∈ wa_A := wc_2 _ (List.mem_of_getElem? (i := 38) rfl)
theorem wm_ml_L_84 : Cond.methodLink "SuccessKindsLaw" 84 yn_S_calls ∈ wa_A := wc_3 _ (List.mem_of_getElem? (i := 3) rfl)
theorem wm_im_S_calls : Cond.instanceMethod yn_S_calls ∈ wa_A := wc_3 _ (List.mem_of_getElem? (i := 4) rfl)
theorem wm_se_S_calls : Cond.selects "SuccessKinds" yn_S_calls yn_S_calls ∈ wa_A := wc_3 _ (List.mem_of_getElem? (i := 5) rfl)
theorem wm_code_S_calls : Cond.code yn_S_calls prog_1_method_10_code 1 (Option.some FieldType.int) ∈ wa_A := wc_3 _ (List.mem_of_getElem? (i := 6) rfl)
theorem wm_ml_L_50 : Cond.methodLink "SuccessKindsLaw" 50 yn_L_make ∈ wa_A := wc_3 _ (List.mem_of_getElem? (i := 7) rfl)
theorem wm_st_L_make : Cond.static yn_L_make ∈ wa_A := wc_3 _ (List.mem_of_getElem? (i := 8) rfl)
theorem wm_cl_L_13 : Cond.classLink "SuccessKindsLaw" 13 "java/lang/IllegalArgumentException" ∈ wa_A := wc_3 _ (List.mem_of_getElem? (i := 9) rfl)
theorem wm_cl_L_15 : Cond.classLink "SuccessKindsLaw" 15 "java/lang/IllegalStateException" ∈ wa_A := wc_3 _ (List.mem_of_getElem? (i := 10) rfl)
theorem wm_ml_L_7 : Cond.methodLink "SuccessKindsLaw" 7 yn_S_make ∈ wa_A := wc_3 _ (List.mem_of_getElem? (i := 11) rfl)
theorem wm_im_S_make : Cond.instanceMethod yn_S_make ∈ wa_A := wc_3 _ (List.mem_of_getElem? (i := 12) rfl)
theorem wm_se_S_make : Cond.selects "SuccessKinds" yn_S_make yn_S_make ∈ wa_A := wc_3 _ (List.mem_of_getElem? (i := 13) rfl)
theorem wm_code_S_make : Cond.code yn_S_make prog_1_method_2_code 6 (Option.some FieldType.int) ∈ wa_A := wc_3 _ (List.mem_of_getElem? (i := 14) rfl)
theorem wm_ml_S_32 : Cond.methodLink "SuccessKinds" 32 yn_P_draft ∈ wa_A := wc_3 _ (List.mem_of_getElem? (i := 15) rfl)
theorem wm_im_P_draft : Cond.instanceMethod yn_P_draft ∈ wa_A := wc_3 _ (List.mem_of_getElem? (i := 16) rfl)
theorem wm_se_P_draft : Cond.selects "SuccessKinds$Program" yn_P_draft yn_P_draft ∈ wa_A := wc_3 _ (List.mem_of_getElem? (i := 17) rfl)
theorem wm_code_P_draft : Cond.code yn_P_draft prog_4_method_6_code 11 (Option.some FieldType.boolean) ∈ wa_A := wc_3 _ (List.mem_of_getElem? (i := 18) rfl)
theorem wm_ml_P_46 : Cond.methodLink "SuccessKinds$Program" 46 yn_P_detailFits ∈ wa_A := wc_3 _ (List.mem_of_getElem? (i := 19) rfl)
theorem wm_st_P_detailFits : Cond.static yn_P_detailFits ∈ wa_A := wc_3 _ (List.mem_of_getElem? (i := 20) rfl)
theorem wm_code_P_detailFits : Cond.code yn_P_detailFits prog_4_method_8_code 2 (Option.some FieldType.boolean) ∈ wa_A := wc_3 _ (List.mem_of_getElem? (i := 21) rfl)
theorem wm_st_S_isFunction : Cond.static yn_S_isFunction ∈ wa_A := wc_3 _ (List.mem_of_getElem? (i := 22) rfl)
theorem wm_code_S_isFunction : Cond.code yn_S_isFunction prog_1_method_13_code 1 (Option.some FieldType.boolean) ∈ wa_A := wc_3 _ (List.mem_of_getElem? (i := 23) rfl)
theorem wm_st_S_parametersOf : Cond.static yn_S_parametersOf ∈ wa_A := wc_3 _ (List.mem_of_getElem? (i := 24) rfl)
theorem wm_code_S_parametersOf : Cond.code yn_S_parametersOf prog_1_method_14_code 1 (Option.some FieldType.int) ∈ wa_A := wc_3 _ (List.mem_of_getElem? (i := 25) rfl)
theorem wm_fl_P_54 : Cond.fieldLink "SuccessKinds$Program" 54 "SuccessKinds$Program" "PARTS" "[I" ∈ wa_A := wc_3 _ (List.mem_of_getElem? (i := 26) rfl)
theorem wm_ml_P_57 : Cond.methodLink "SuccessKinds$Program" 57 yn_P_partsExist ∈ wa_A := wc_3 _ (List.mem_of_getElem? (i := 27) rfl)
theorem wm_im_P_partsExist : Cond.instanceMethod yn_P_partsExist ∈ wa_A := wc_3 _ (List.mem_of_getElem? (i := 28) rfl)
theorem wm_code_P_partsExist : Cond.code yn_P_partsExist prog_4_method_9_code 5 (Option.some FieldType.boolean) ∈ wa_A := wc_3 _ (List.mem_of_getElem? (i := 29) rfl)
theorem wm_ml_P_71 : Cond.methodLink "SuccessKinds$Program" 71 yn_P_isExpression ∈ wa_A := wc_3 _ (List.mem_of_getElem? (i := 30) rfl)
theorem wm_im_P_isExpression : Cond.instanceMethod yn_P_isExpression ∈ wa_A := wc_3 _ (List.mem_of_getElem? (i := 31) rfl)
theorem wm_se_P_isExpression : Cond.selects "SuccessKinds$Program" yn_P_isExpression yn_P_isExpression ∈ wa_A := wc_3 _ (List.mem_of_getElem? (i := 32) rfl)
theorem wm_code_P_isExpression : Cond.code yn_P_isExpression prog_4_method_2_code 2 (Option.some FieldType.boolean) ∈ wa_A := wc_3 _ (List.mem_of_getElem? (i := 33) rfl)
theorem wm_ml_P_61 : Cond.methodLink "SuccessKinds$Program" 61 yn_P_measure ∈ wa_A := wc_3 _ (List.mem_of_getElem? (i := 34) rfl)
theorem wm_im_P_measure : Cond.instanceMethod yn_P_measure ∈ wa_A := wc_3 _ (List.mem_of_getElem? (i := 35) rfl)
theorem wm_code_P_measure : Cond.code yn_P_measure prog_4_method_10_code 3 none ∈ wa_A := wc_3 _ (List.mem_of_getElem? (i := 36) rfl)
theorem wm_ml_P_74 : Cond.methodLink "SuccessKinds$Program" 74 yn_P_depthOf ∈ wa_A := wc_3 _ (List.mem_of_getElem? (i := 37) rfl)
theorem wm_im_P_depthOf : Cond.instanceMethod yn_P_depthOf ∈ wa_A := wc_3 _ (List.mem_of_getElem? (i := 38) rfl)
theorem wm_code_P_depthOf : Cond.code yn_P_depthOf prog_4_method_11_code 2 (Option.some FieldType.int) ∈ wa_A := wc_3 _ (List.mem_of_getElem? (i := 39) rfl)
theorem wm_ml_P_77 : Cond.methodLink "SuccessKinds$Program" 77 ⟨"java/lang/Math", "max", "(II)I"⟩ ∈ wa_A := wc_4 _ (List.mem_of_getElem? (i := 0) rfl)
theorem wm_ml_P_83 : Cond.methodLink "SuccessKinds$Program" 83 yn_P_sizeOf ∈ wa_A := wc_4 _ (List.mem_of_getElem? (i := 3) rfl)
theorem wm_im_P_sizeOf : Cond.instanceMethod yn_P_sizeOf ∈ wa_A := wc_4 _ (List.mem_of_getElem? (i := 4) rfl)
theorem wm_code_P_sizeOf : Cond.code yn_P_sizeOf prog_4_method_12_code 2 (Option.some FieldType.int) ∈ wa_A := wc_4 _ (List.mem_of_getElem? (i := 5) rfl)
theorem wm_cl_S_36 : Cond.classLink "SuccessKinds" 36 "java/lang/IllegalArgumentException" ∈ wa_A := wc_4 _ (List.mem_of_getElem? (i := 6) rfl)
theorem wm_ml_S_40 : Cond.methodLink "SuccessKinds" 40 ⟨"java/lang/IllegalArgumentException", "<init>", "(Ljava/lang/String;)V"⟩ ∈ wa_A := wc_4 _ (List.mem_of_getElem? (i := 37) rfl)
theorem wm_ml_S_43 : Cond.methodLink "SuccessKinds" 43 yn_P_isFull ∈ wa_A := wc_5 _ (List.mem_of_getElem? (i := 15) rfl)
theorem wm_im_P_isFull : Cond.instanceMethod yn_P_isFull ∈ wa_A := wc_5 _ (List.mem_of_getElem? (i := 16) rfl)
theorem wm_se_P_isFull : Cond.selects "SuccessKinds$Program" yn_P_isFull yn_P_isFull ∈ wa_A := wc_5 _ (List.mem_of_getElem? (i := 17) rfl)
theorem wm_code_P_isFull : Cond.code yn_P_isFull prog_4_method_3_code 1 (Option.some FieldType.boolean) ∈ wa_A := wc_5 _ (List.mem_of_getElem? (i := 18) rfl)
theorem wm_cl_S_47 : Cond.classLink "SuccessKinds" 47 "java/lang/IllegalStateException" ∈ wa_A := wc_5 _ (List.mem_of_getElem? (i := 19) rfl)
theorem wm_ml_S_51 : Cond.methodLink "SuccessKinds" 51 ⟨"java/lang/IllegalStateException", "<init>", "(Ljava/lang/String;)V"⟩ ∈ wa_A := wc_5 _ (List.mem_of_getElem? (i := 27) rfl)
theorem wm_ml_S_52 : Cond.methodLink "SuccessKinds" 52 yn_P_keepDraft ∈ wa_A := wc_5 _ (List.mem_of_getElem? (i := 33) rfl)
theorem wm_im_P_keepDraft : Cond.instanceMethod yn_P_keepDraft ∈ wa_A := wc_5 _ (List.mem_of_getElem? (i := 34) rfl)
theorem wm_se_P_keepDraft : Cond.selects "SuccessKinds$Program" yn_P_keepDraft yn_P_keepDraft ∈ wa_A := wc_5 _ (List.mem_of_getElem? (i := 35) rfl)
theorem wm_code_P_keepDraft : Cond.code yn_P_keepDraft prog_4_method_7_code 2 (Option.some FieldType.int) ∈ wa_A := wc_5 _ (List.mem_of_getElem? (i := 36) rfl)
theorem wm_ml_L_60 : Cond.methodLink "SuccessKindsLaw" 60 yn_L_define ∈ wa_A := wc_5 _ (List.mem_of_getElem? (i := 37) rfl)
theorem wm_st_L_define : Cond.static yn_L_define ∈ wa_A := wc_5 _ (List.mem_of_getElem? (i := 38) rfl)
theorem wm_ml_L_17 : Cond.methodLink "SuccessKindsLaw" 17 yn_S_define ∈ wa_A := wc_5 _ (List.mem_of_getElem? (i := 39) rfl)
theorem wm_im_S_define : Cond.instanceMethod yn_S_define ∈ wa_A := wc_6 _ (List.mem_of_getElem? (i := 0) rfl)
theorem wm_se_S_define : Cond.selects "SuccessKinds" yn_S_define yn_S_define ∈ wa_A := wc_6 _ (List.mem_of_getElem? (i := 1) rfl)
theorem wm_code_S_define : Cond.code yn_S_define prog_1_method_3_code 3 (Option.some FieldType.int) ∈ wa_A := wc_6 _ (List.mem_of_getElem? (i := 2) rfl)
theorem wm_ml_S_56 : Cond.methodLink "SuccessKinds" 56 yn_S_checkFunction ∈ wa_A := wc_6 _ (List.mem_of_getElem? (i := 3) rfl)
theorem wm_st_S_checkFunction : Cond.static yn_S_checkFunction ∈ wa_A := wc_6 _ (List.mem_of_getElem? (i := 4) rfl)
theorem wm_code_S_checkFunction : Cond.code yn_S_checkFunction prog_1_method_11_code 1 none ∈ wa_A := wc_6 _ (List.mem_of_getElem? (i := 5) rfl)
theorem wm_ml_S_135 : Cond.methodLink "SuccessKinds" 135 yn_S_isFunction ∈ wa_A := wc_6 _ (List.mem_of_getElem? (i := 6) rfl)
theorem wm_ml_S_60 : Cond.methodLink "SuccessKinds" 60 yn_S_checkExpression ∈ wa_A := wc_6 _ (List.mem_of_getElem? (i := 7) rfl)
theorem wm_im_S_checkExpression : Cond.instanceMethod yn_S_checkExpression ∈ wa_A := wc_6 _ (List.mem_of_getElem? (i := 8) rfl)
theorem wm_code_S_checkExpression : Cond.code yn_S_checkExpression prog_1_method_12_code 2 none ∈ wa_A := wc_6 _ (List.mem_of_getElem? (i := 9) rfl)
theorem wm_ml_S_141 : Cond.methodLink "SuccessKinds" 141 yn_P_isExpression ∈ wa_A := wc_6 _ (List.mem_of_getElem? (i := 10) rfl)
theorem wm_ml_S_63 : Cond.methodLink "SuccessKinds" 63 yn_P_setBody ∈ wa_A := wc_6 _ (List.mem_of_getElem? (i := 11) rfl)
theorem wm_im_P_setBody : Cond.instanceMethod yn_P_setBody ∈ wa_A := wc_6 _ (List.mem_of_getElem? (i := 12) rfl)
theorem wm_se_P_setBody : Cond.selects "SuccessKinds$Program" yn_P_setBody yn_P_setBody ∈ wa_A := wc_6 _ (List.mem_of_getElem? (i := 13) rfl)
theorem wm_code_P_setBody : Cond.code yn_P_setBody prog_4_method_4_code 3 none ∈ wa_A := wc_6 _ (List.mem_of_getElem? (i := 14) rfl)
theorem wm_ml_S_67 : Cond.methodLink "SuccessKinds" 67 yn_K_forget ∈ wa_A := wc_6 _ (List.mem_of_getElem? (i := 15) rfl)
theorem wm_im_K_forget : Cond.instanceMethod yn_K_forget ∈ wa_A := wc_6 _ (List.mem_of_getElem? (i := 16) rfl)
theorem wm_se_K_forget : Cond.selects "SuccessKinds$Knowledge" yn_K_forget yn_K_forget ∈ wa_A := wc_6 _ (List.mem_of_getElem? (i := 17) rfl)
theorem wm_code_K_forget : Cond.code yn_K_forget prog_2_method_2_code 1 none ∈ wa_A := wc_6 _ (List.mem_of_getElem? (i := 18) rfl)
theorem wm_ml_S_70 : Cond.methodLink "SuccessKinds" 70 yn_P_countBodies ∈ wa_A := wc_6 _ (List.mem_of_getElem? (i := 19) rfl)
theorem wm_im_P_countBodies : Cond.instanceMethod yn_P_countBodies ∈ wa_A := wc_6 _ (List.mem_of_getElem? (i := 20) rfl)
theorem wm_se_P_countBodies : Cond.selects "SuccessKinds$Program" yn_P_countBodies yn_P_countBodies ∈ wa_A := wc_6 _ (List.mem_of_getElem? (i := 21) rfl)
theorem wm_code_P_countBodies : Cond.code yn_P_countBodies prog_4_method_5_code 3 (Option.some FieldType.int) ∈ wa_A := wc_6 _ (List.mem_of_getElem? (i := 22) rfl)
theorem wm_ml_L_64 : Cond.methodLink "SuccessKindsLaw" 64 yn_L_may ∈ wa_A := wc_6 _ (List.mem_of_getElem? (i := 23) rfl)
theorem wm_st_L_may : Cond.static yn_L_may ∈ wa_A := wc_6 _ (List.mem_of_getElem? (i := 24) rfl)
theorem wm_ml_L_21 : Cond.methodLink "SuccessKindsLaw" 21 yn_S_may ∈ wa_A := wc_6 _ (List.mem_of_getElem? (i := 25) rfl)
theorem wm_im_S_may : Cond.instanceMethod yn_S_may ∈ wa_A := wc_6 _ (List.mem_of_getElem? (i := 26) rfl)
theorem wm_se_S_may : Cond.selects "SuccessKinds" yn_S_may yn_S_may ∈ wa_A := wc_6 _ (List.mem_of_getElem? (i := 27) rfl)
theorem wm_code_S_may : Cond.code yn_S_may prog_1_method_4_code 3 (Option.some FieldType.int) ∈ wa_A := wc_6 _ (List.mem_of_getElem? (i := 28) rfl)
theorem wm_ml_S_73 : Cond.methodLink "SuccessKinds" 73 yn_S_parametersOf ∈ wa_A := wc_6 _ (List.mem_of_getElem? (i := 29) rfl)
theorem wm_ml_S_79 : Cond.methodLink "SuccessKinds" 79 yn_K_learn ∈ wa_A := wc_6 _ (List.mem_of_getElem? (i := 30) rfl)
theorem wm_im_K_learn : Cond.instanceMethod yn_K_learn ∈ wa_A := wc_6 _ (List.mem_of_getElem? (i := 31) rfl)
theorem wm_se_K_learn : Cond.selects "SuccessKinds$Knowledge" yn_K_learn yn_K_learn ∈ wa_A := wc_6 _ (List.mem_of_getElem? (i := 32) rfl)
theorem wm_code_K_learn : Cond.code yn_K_learn prog_2_method_3_code 5 none ∈ wa_A := wc_6 _ (List.mem_of_getElem? (i := 33) rfl)
theorem wm_ml_K_31 : Cond.methodLink "SuccessKinds$Knowledge" 31 yn_J_fill ∈ wa_A := wc_6 _ (List.mem_of_getElem? (i := 34) rfl)
theorem wm_ml_K_37 : Cond.methodLink "SuccessKinds$Knowledge" 37 yn_K_growGives ∈ wa_A := wc_6 _ (List.mem_of_getElem? (i := 35) rfl)
theorem wm_im_K_growGives : Cond.instanceMethod yn_K_growGives ∈ wa_A := wc_6 _ (List.mem_of_getElem? (i := 36) rfl)
theorem wm_code_K_growGives : Cond.code yn_K_growGives prog_2_method_9_code 3 (Option.some FieldType.boolean) ∈ wa_A := wc_6 _ (List.mem_of_getElem? (i := 37) rfl)
theorem wm_ml_K_53 : Cond.methodLink "SuccessKinds$Knowledge" 53 yn_K_anyArguments ∈ wa_A := wc_6 _ (List.mem_of_getElem? (i := 38) rfl)
theorem wm_st_K_anyArguments : Cond.static yn_K_anyArguments ∈ wa_A := wc_6 _ (List.mem_of_getElem? (i := 39) rfl)
theorem wm_code_K_anyArguments : Cond.code yn_K_anyArguments prog_2_method_12_code 3 (Option.some FieldType.long) ∈ wa_A := wc_7 _ (List.mem_of_getElem? (i := 0) rfl)
theorem wm_ml_K_61 : Cond.methodLink "SuccessKinds$Knowledge" 61 yn_K_with ∈ wa_A := wc_7 _ (List.mem_of_getElem? (i := 1) rfl)
theorem wm_st_K_with : Cond.static yn_K_with ∈ wa_A := wc_7 _ (List.mem_of_getElem? (i := 2) rfl)
theorem wm_code_K_with : Cond.code yn_K_with prog_2_method_13_code 5 (Option.some FieldType.long) ∈ wa_A := wc_7 _ (List.mem_of_getElem? (i := 3) rfl)
theorem wm_kl_K_74 : Cond.constantLong "SuccessKinds$Knowledge" 74 (511 : Int64) ∈ wa_A := wc_7 _ (List.mem_of_getElem? (i := 4) rfl)
theorem wm_kl_K_76 : Cond.constantLong "SuccessKinds$Knowledge" 76 (-1 : Int64) ∈ wa_A := wc_7 _ (List.mem_of_getElem? (i := 5) rfl)
theorem wm_ml_K_57 : Cond.methodLink "SuccessKinds$Knowledge" 57 yn_K_bodyKinds ∈ wa_A := wc_7 _ (List.mem_of_getElem? (i := 6) rfl)
theorem wm_im_K_bodyKinds : Cond.instanceMethod yn_K_bodyKinds ∈ wa_A := wc_7 _ (List.mem_of_getElem? (i := 7) rfl)
theorem wm_code_K_bodyKinds : Cond.code yn_K_bodyKinds prog_2_method_11_code 5 (Option.some FieldType.int) ∈ wa_A := wc_7 _ (List.mem_of_getElem? (i := 8) rfl)
theorem wm_ml_K_71 : Cond.methodLink "SuccessKinds$Knowledge" 71 yn_K_kinds ∈ wa_A := wc_7 _ (List.mem_of_getElem? (i := 9) rfl)
theorem wm_im_K_kinds : Cond.instanceMethod yn_K_kinds ∈ wa_A := wc_7 _ (List.mem_of_getElem? (i := 10) rfl)
theorem wm_code_K_kinds : Cond.code yn_K_kinds prog_2_method_16_code 5 (Option.some FieldType.int) ∈ wa_A := wc_7 _ (List.mem_of_getElem? (i := 11) rfl)
theorem wm_ml_K_84 : Cond.methodLink "SuccessKinds$Knowledge" 84 yn_K_setOf ∈ wa_A := wc_7 _ (List.mem_of_getElem? (i := 12) rfl)
theorem wm_st_K_setOf : Cond.static yn_K_setOf ∈ wa_A := wc_7 _ (List.mem_of_getElem? (i := 13) rfl)
theorem wm_code_K_setOf : Cond.code yn_K_setOf prog_2_method_14_code 3 (Option.some FieldType.int) ∈ wa_A := wc_7 _ (List.mem_of_getElem? (i := 14) rfl)
theorem wm_ml_K_88 : Cond.methodLink "SuccessKinds$Knowledge" 88 yn_H_kindOfNumber ∈ wa_A := wc_7 _ (List.mem_of_getElem? (i := 15) rfl)
theorem wm_st_H_kindOfNumber : Cond.static yn_H_kindOfNumber ∈ wa_A := wc_7 _ (List.mem_of_getElem? (i := 16) rfl)
theorem wm_code_H_kindOfNumber : Cond.code yn_H_kindOfNumber prog_3_method_3_code 1 (Option.some FieldType.int) ∈ wa_A := wc_7 _ (List.mem_of_getElem? (i := 17) rfl)
theorem wm_ml_K_65 : Cond.methodLink "SuccessKinds$Knowledge" 65 yn_K_has ∈ wa_A := wc_7 _ (List.mem_of_getElem? (i := 18) rfl)
theorem wm_st_K_has : Cond.static yn_K_has ∈ wa_A := wc_7 _ (List.mem_of_getElem? (i := 19) rfl)
theorem wm_code_K_has : Cond.code yn_K_has prog_2_method_15_code 2 (Option.some FieldType.boolean) ∈ wa_A := wc_7 _ (List.mem_of_getElem? (i := 20) rfl)
theorem wm_ml_K_96 : Cond.methodLink "SuccessKinds$Knowledge" 96 yn_K_caseKinds ∈ wa_A := wc_7 _ (List.mem_of_getElem? (i := 21) rfl)
theorem wm_im_K_caseKinds : Cond.instanceMethod yn_K_caseKinds ∈ wa_A := wc_7 _ (List.mem_of_getElem? (i := 22) rfl)
theorem wm_code_K_caseKinds : Cond.code yn_K_caseKinds prog_2_method_20_code 10 (Option.some FieldType.int) ∈ wa_A := wc_7 _ (List.mem_of_getElem? (i := 23) rfl)
theorem wm_ml_K_118 : Cond.methodLink "SuccessKinds$Knowledge" 118 yn_K_narrowed ∈ wa_A := wc_7 _ (List.mem_of_getElem? (i := 24) rfl)
theorem wm_im_K_narrowed : Cond.instanceMethod yn_K_narrowed ∈ wa_A := wc_7 _ (List.mem_of_getElem? (i := 25) rfl)
theorem wm_code_K_narrowed : Cond.code yn_K_narrowed prog_2_method_21_code 5 (Option.some FieldType.long) ∈ wa_A := wc_7 _ (List.mem_of_getElem? (i := 26) rfl)
theorem wm_ml_K_99 : Cond.methodLink "SuccessKinds$Knowledge" 99 yn_K_callKinds ∈ wa_A := wc_7 _ (List.mem_of_getElem? (i := 27) rfl)
theorem wm_im_K_callKinds : Cond.instanceMethod yn_K_callKinds ∈ wa_A := wc_7 _ (List.mem_of_getElem? (i := 28) rfl)
theorem wm_code_K_callKinds : Cond.code yn_K_callKinds prog_2_method_22_code 7 (Option.some FieldType.int) ∈ wa_A := wc_7 _ (List.mem_of_getElem? (i := 29) rfl)
theorem wm_ml_K_124 : Cond.methodLink "SuccessKinds$Knowledge" 124 yn_K_note ∈ wa_A := wc_7 _ (List.mem_of_getElem? (i := 30) rfl)
theorem wm_im_K_note : Cond.instanceMethod yn_K_note ∈ wa_A := wc_7 _ (List.mem_of_getElem? (i := 31) rfl)
theorem wm_code_K_note : Cond.code yn_K_note prog_2_method_23_code 3 none ∈ wa_A := wc_7 _ (List.mem_of_getElem? (i := 32) rfl)
theorem wm_ml_K_102 : Cond.methodLink "SuccessKinds$Knowledge" 102 yn_K_letKinds ∈ wa_A := wc_7 _ (List.mem_of_getElem? (i := 33) rfl)
theorem wm_im_K_letKinds : Cond.instanceMethod yn_K_letKinds ∈ wa_A := wc_7 _ (List.mem_of_getElem? (i := 34) rfl)
theorem wm_code_K_letKinds : Cond.code yn_K_letKinds prog_2_method_24_code 5 (Option.some FieldType.int) ∈ wa_A := wc_7 _ (List.mem_of_getElem? (i := 35) rfl)
theorem wm_ml_K_105 : Cond.methodLink "SuccessKinds$Knowledge" 105 yn_K_kindsOfTwo ∈ wa_A := wc_7 _ (List.mem_of_getElem? (i := 36) rfl)
theorem wm_im_K_kindsOfTwo : Cond.instanceMethod yn_K_kindsOfTwo ∈ wa_A := wc_7 _ (List.mem_of_getElem? (i := 37) rfl)
theorem wm_code_K_kindsOfTwo : Cond.code yn_K_kindsOfTwo prog_2_method_17_code 7 (Option.some FieldType.int) ∈ wa_A := wc_7 _ (List.mem_of_getElem? (i := 38) rfl)
theorem wm_ml_K_111 : Cond.methodLink "SuccessKinds$Knowledge" 111 yn_K_numberKinds ∈ wa_A := wc_7 _ (List.mem_of_getElem? (i := 39) rfl)
theorem wm_st_K_numberKinds : Cond.static yn_K_numberKinds ∈ wa_A := wc_8 _ (List.mem_of_getElem? (i := 0) rfl)
theorem wm_code_K_numberKinds : Cond.code yn_K_numberKinds prog_2_method_18_code 6 (Option.some FieldType.int) ∈ wa_A := wc_8 _ (List.mem_of_getElem? (i := 1) rfl)
theorem wm_ml_K_115 : Cond.methodLink "SuccessKinds$Knowledge" 115 yn_K_numberKindsOf ∈ wa_A := wc_8 _ (List.mem_of_getElem? (i := 2) rfl)
theorem wm_st_K_numberKindsOf : Cond.static yn_K_numberKindsOf ∈ wa_A := wc_8 _ (List.mem_of_getElem? (i := 3) rfl)
theorem wm_code_K_numberKindsOf : Cond.code yn_K_numberKindsOf prog_2_method_19_code 3 (Option.some FieldType.int) ∈ wa_A := wc_8 _ (List.mem_of_getElem? (i := 4) rfl)
theorem wm_ml_K_45 : Cond.methodLink "SuccessKinds$Knowledge" 45 yn_K_growMay ∈ wa_A := wc_8 _ (List.mem_of_getElem? (i := 5) rfl)
theorem wm_im_K_growMay : Cond.instanceMethod yn_K_growMay ∈ wa_A := wc_8 _ (List.mem_of_getElem? (i := 6) rfl)
theorem wm_code_K_growMay : Cond.code yn_K_growMay prog_2_method_10_code 8 (Option.some FieldType.boolean) ∈ wa_A := wc_8 _ (List.mem_of_getElem? (i := 7) rfl)
theorem wm_ml_S_82 : Cond.methodLink "SuccessKinds" 82 yn_K_mayOf ∈ wa_A := wc_8 _ (List.mem_of_getElem? (i := 8) rfl)
theorem wm_im_K_mayOf : Cond.instanceMethod yn_K_mayOf ∈ wa_A := wc_8 _ (List.mem_of_getElem? (i := 9) rfl)
theorem wm_se_K_mayOf : Cond.selects "SuccessKinds$Knowledge" yn_K_mayOf yn_K_mayOf ∈ wa_A := wc_8 _ (List.mem_of_getElem? (i := 10) rfl)
theorem wm_code_K_mayOf : Cond.code yn_K_mayOf prog_2_method_4_code 3 (Option.some FieldType.int) ∈ wa_A := wc_8 _ (List.mem_of_getElem? (i := 11) rfl)
theorem wm_ml_L_67 : Cond.methodLink "SuccessKindsLaw" 67 yn_L_gives ∈ wa_A := wc_8 _ (List.mem_of_getElem? (i := 12) rfl)
theorem wm_st_L_gives : Cond.static yn_L_gives ∈ wa_A := wc_8 _ (List.mem_of_getElem? (i := 13) rfl)
theorem wm_ml_L_24 : Cond.methodLink "SuccessKindsLaw" 24 yn_S_gives ∈ wa_A := wc_8 _ (List.mem_of_getElem? (i := 14) rfl)
theorem wm_im_S_gives : Cond.instanceMethod yn_S_gives ∈ wa_A := wc_8 _ (List.mem_of_getElem? (i := 15) rfl)
theorem wm_se_S_gives : Cond.selects "SuccessKinds" yn_S_gives yn_S_gives ∈ wa_A := wc_8 _ (List.mem_of_getElem? (i := 16) rfl)
theorem wm_code_S_gives : Cond.code yn_S_gives prog_1_method_5_code 2 (Option.some FieldType.int) ∈ wa_A := wc_8 _ (List.mem_of_getElem? (i := 17) rfl)
theorem wm_ml_S_86 : Cond.methodLink "SuccessKinds" 86 yn_K_givesOf ∈ wa_A := wc_8 _ (List.mem_of_getElem? (i := 18) rfl)
theorem wm_im_K_givesOf : Cond.instanceMethod yn_K_givesOf ∈ wa_A := wc_8 _ (List.mem_of_getElem? (i := 19) rfl)
theorem wm_se_K_givesOf : Cond.selects "SuccessKinds$Knowledge" yn_K_givesOf yn_K_givesOf ∈ wa_A := wc_8 _ (List.mem_of_getElem? (i := 20) rfl)
theorem wm_code_K_givesOf : Cond.code yn_K_givesOf prog_2_method_5_code 2 (Option.some FieldType.int) ∈ wa_A := wc_8 _ (List.mem_of_getElem? (i := 21) rfl)
theorem wm_ml_L_71 : Cond.methodLink "SuccessKindsLaw" 71 yn_L_hopeless ∈ wa_A := wc_8 _ (List.mem_of_getElem? (i := 22) rfl)
theorem wm_st_L_hopeless : Cond.static yn_L_hopeless ∈ wa_A := wc_8 _ (List.mem_of_getElem? (i := 23) rfl)
theorem wm_ml_L_28 : Cond.methodLink "SuccessKindsLaw" 28 yn_S_hopeless ∈ wa_A := wc_8 _ (List.mem_of_getElem? (i := 24) rfl)
theorem wm_im_S_hopeless : Cond.instanceMethod yn_S_hopeless ∈ wa_A := wc_8 _ (List.mem_of_getElem? (i := 25) rfl)
theorem wm_se_S_hopeless : Cond.selects "SuccessKinds" yn_S_hopeless yn_S_hopeless ∈ wa_A := wc_8 _ (List.mem_of_getElem? (i := 26) rfl)
theorem wm_code_S_hopeless : Cond.code yn_S_hopeless prog_1_method_6_code 2 (Option.some FieldType.int) ∈ wa_A := wc_8 _ (List.mem_of_getElem? (i := 27) rfl)
theorem wm_ml_S_89 : Cond.methodLink "SuccessKinds" 89 yn_K_countHopeless ∈ wa_A := wc_8 _ (List.mem_of_getElem? (i := 28) rfl)
theorem wm_im_K_countHopeless : Cond.instanceMethod yn_K_countHopeless ∈ wa_A := wc_8 _ (List.mem_of_getElem? (i := 29) rfl)
theorem wm_se_K_countHopeless : Cond.selects "SuccessKinds$Knowledge" yn_K_countHopeless yn_K_countHopeless ∈ wa_A := wc_8 _ (List.mem_of_getElem? (i := 30) rfl)
theorem wm_code_K_countHopeless : Cond.code yn_K_countHopeless prog_2_method_6_code 4 (Option.some FieldType.int) ∈ wa_A := wc_8 _ (List.mem_of_getElem? (i := 31) rfl)
theorem wm_ml_K_49 : Cond.methodLink "SuccessKinds$Knowledge" 49 yn_K_walkBody ∈ wa_A := wc_8 _ (List.mem_of_getElem? (i := 32) rfl)
theorem wm_im_K_walkBody : Cond.instanceMethod yn_K_walkBody ∈ wa_A := wc_8 _ (List.mem_of_getElem? (i := 33) rfl)
theorem wm_code_K_walkBody : Cond.code yn_K_walkBody prog_2_method_8_code 2 none ∈ wa_A := wc_8 _ (List.mem_of_getElem? (i := 34) rfl)
theorem wm_ml_L_74 : Cond.methodLink "SuccessKindsLaw" 74 yn_L_isHopeless ∈ wa_A := wc_8 _ (List.mem_of_getElem? (i := 35) rfl)
theorem wm_st_L_isHopeless : Cond.static yn_L_isHopeless ∈ wa_A := wc_8 _ (List.mem_of_getElem? (i := 36) rfl)
theorem wm_ml_L_31 : Cond.methodLink "SuccessKindsLaw" 31 yn_S_isHopeless ∈ wa_A := wc_8 _ (List.mem_of_getElem? (i := 37) rfl)
theorem wm_im_S_isHopeless : Cond.instanceMethod yn_S_isHopeless ∈ wa_A := wc_8 _ (List.mem_of_getElem? (i := 38) rfl)
theorem wm_se_S_isHopeless : Cond.selects "SuccessKinds" yn_S_isHopeless yn_S_isHopeless ∈ wa_A := wc_8 _ (List.mem_of_getElem? (i := 39) rfl)
theorem wm_code_S_isHopeless : Cond.code yn_S_isHopeless prog_1_method_7_code 3 (Option.some FieldType.boolean) ∈ wa_A := wc_9 _ (List.mem_of_getElem? (i := 0) rfl)
theorem wm_ml_S_92 : Cond.methodLink "SuccessKinds" 92 yn_K_isHopelessCall ∈ wa_A := wc_9 _ (List.mem_of_getElem? (i := 1) rfl)
theorem wm_im_K_isHopelessCall : Cond.instanceMethod yn_K_isHopelessCall ∈ wa_A := wc_9 _ (List.mem_of_getElem? (i := 2) rfl)
theorem wm_se_K_isHopelessCall : Cond.selects "SuccessKinds$Knowledge" yn_K_isHopelessCall yn_K_isHopelessCall ∈ wa_A := wc_9 _ (List.mem_of_getElem? (i := 3) rfl)
theorem wm_code_K_isHopelessCall : Cond.code yn_K_isHopelessCall prog_2_method_7_code 3 (Option.some FieldType.boolean) ∈ wa_A := wc_9 _ (List.mem_of_getElem? (i := 4) rfl)
theorem wm_ml_L_77 : Cond.methodLink "SuccessKindsLaw" 77 yn_L_run ∈ wa_A := wc_9 _ (List.mem_of_getElem? (i := 5) rfl)
theorem wm_st_L_run : Cond.static yn_L_run ∈ wa_A := wc_9 _ (List.mem_of_getElem? (i := 6) rfl)
theorem wm_cl_L_39 : Cond.classLink "SuccessKindsLaw" 39 "java/lang/UnsupportedOperationException" ∈ wa_A := wc_9 _ (List.mem_of_getElem? (i := 7) rfl)
theorem wm_ml_L_35 : Cond.methodLink "SuccessKindsLaw" 35 yn_S_run ∈ wa_A := wc_9 _ (List.mem_of_getElem? (i := 8) rfl)
theorem wm_im_S_run : Cond.instanceMethod yn_S_run ∈ wa_A := wc_9 _ (List.mem_of_getElem? (i := 9) rfl)
theorem wm_se_S_run : Cond.selects "SuccessKinds" yn_S_run yn_S_run ∈ wa_A := wc_9 _ (List.mem_of_getElem? (i := 10) rfl)
theorem wm_code_S_run : Cond.code yn_S_run prog_1_method_8_code 6 (Option.some FieldType.int) ∈ wa_A := wc_9 _ (List.mem_of_getElem? (i := 11) rfl)
theorem wm_ml_S_96 : Cond.methodLink "SuccessKinds" 96 yn_H_start ∈ wa_A := wc_9 _ (List.mem_of_getElem? (i := 12) rfl)
theorem wm_im_H_start : Cond.instanceMethod yn_H_start ∈ wa_A := wc_9 _ (List.mem_of_getElem? (i := 13) rfl)
theorem wm_se_H_start : Cond.selects "SuccessKinds$Machine" yn_H_start yn_H_start ∈ wa_A := wc_9 _ (List.mem_of_getElem? (i := 14) rfl)
theorem wm_code_H_start : Cond.code yn_H_start prog_3_method_4_code 4 (Option.some FieldType.long) ∈ wa_A := wc_9 _ (List.mem_of_getElem? (i := 15) rfl)
theorem wm_kl_H_48 : Cond.constantLong "SuccessKinds$Machine" 48 (-3 : Int64) ∈ wa_A := wc_9 _ (List.mem_of_getElem? (i := 16) rfl)
theorem wm_ml_H_50 : Cond.methodLink "SuccessKinds$Machine" 50 yn_H_openFrame ∈ wa_A := wc_9 _ (List.mem_of_getElem? (i := 17) rfl)
theorem wm_im_H_openFrame : Cond.instanceMethod yn_H_openFrame ∈ wa_A := wc_9 _ (List.mem_of_getElem? (i := 18) rfl)
theorem wm_code_H_openFrame : Cond.code yn_H_openFrame prog_3_method_6_code 7 none ∈ wa_A := wc_9 _ (List.mem_of_getElem? (i := 19) rfl)
theorem wm_ml_H_54 : Cond.methodLink "SuccessKinds$Machine" 54 yn_H_callWith ∈ wa_A := wc_9 _ (List.mem_of_getElem? (i := 20) rfl)
theorem wm_im_H_callWith : Cond.instanceMethod yn_H_callWith ∈ wa_A := wc_9 _ (List.mem_of_getElem? (i := 21) rfl)
theorem wm_code_H_callWith : Cond.code yn_H_callWith prog_3_method_12_code 10 (Option.some FieldType.long) ∈ wa_A := wc_9 _ (List.mem_of_getElem? (i := 22) rfl)
theorem wm_ml_H_123 : Cond.methodLink "SuccessKinds$Machine" 123 yn_H_workOut ∈ wa_A := wc_9 _ (List.mem_of_getElem? (i := 23) rfl)
theorem wm_im_H_workOut : Cond.instanceMethod yn_H_workOut ∈ wa_A := wc_9 _ (List.mem_of_getElem? (i := 24) rfl)
theorem wm_code_H_workOut : Cond.code yn_H_workOut prog_3_method_7_code 4 (Option.some FieldType.long) ∈ wa_A := wc_9 _ (List.mem_of_getElem? (i := 25) rfl)
theorem wm_kl_H_75 : Cond.constantLong "SuccessKinds$Machine" 75 (-2 : Int64) ∈ wa_A := wc_9 _ (List.mem_of_getElem? (i := 26) rfl)
theorem wm_ml_H_85 : Cond.methodLink "SuccessKinds$Machine" 85 yn_H_variable ∈ wa_A := wc_9 _ (List.mem_of_getElem? (i := 27) rfl)
theorem wm_im_H_variable : Cond.instanceMethod yn_H_variable ∈ wa_A := wc_9 _ (List.mem_of_getElem? (i := 28) rfl)
theorem wm_code_H_variable : Cond.code yn_H_variable prog_3_method_9_code 5 (Option.some FieldType.long) ∈ wa_A := wc_9 _ (List.mem_of_getElem? (i := 29) rfl)
theorem wm_ml_H_114 : Cond.methodLink "SuccessKinds$Machine" 114 yn_H_fail ∈ wa_A := wc_9 _ (List.mem_of_getElem? (i := 30) rfl)
theorem wm_im_H_fail : Cond.instanceMethod yn_H_fail ∈ wa_A := wc_9 _ (List.mem_of_getElem? (i := 31) rfl)
theorem wm_code_H_fail : Cond.code yn_H_fail prog_3_method_8_code 1 (Option.some FieldType.long) ∈ wa_A := wc_9 _ (List.mem_of_getElem? (i := 32) rfl)
theorem wm_kl_H_121 : Cond.constantLong "SuccessKinds$Machine" 121 (-1 : Int64) ∈ wa_A := wc_9 _ (List.mem_of_getElem? (i := 33) rfl)
theorem wm_ml_H_89 : Cond.methodLink "SuccessKinds$Machine" 89 yn_H_value ∈ wa_A := wc_9 _ (List.mem_of_getElem? (i := 34) rfl)
theorem wm_st_H_value : Cond.static yn_H_value ∈ wa_A := wc_9 _ (List.mem_of_getElem? (i := 35) rfl)
theorem wm_code_H_value : Cond.code yn_H_value prog_3_method_19_code 2 (Option.some FieldType.long) ∈ wa_A := wc_9 _ (List.mem_of_getElem? (i := 36) rfl)
theorem wm_kl_H_153 : Cond.constantLong "SuccessKinds$Machine" 153 (4294967295 : Int64) ∈ wa_A := wc_9 _ (List.mem_of_getElem? (i := 37) rfl)
theorem wm_ml_H_92 : Cond.methodLink "SuccessKinds$Machine" 92 yn_H_number ∈ wa_A := wc_9 _ (List.mem_of_getElem? (i := 38) rfl)
theorem wm_st_H_number : Cond.static yn_H_number ∈ wa_A := wc_9 _ (List.mem_of_getElem? (i := 39) rfl)
theorem wm_code_H_number : Cond.code yn_H_number prog_3_method_18_code 1 (Option.some FieldType.long) ∈ wa_A := wc_10 _ (List.mem_of_getElem? (i := 0) rfl)
theorem wm_ml_H_150 : Cond.methodLink "SuccessKinds$Machine" 150 yn_H_kindOfNumber ∈ wa_A := wc_10 _ (List.mem_of_getElem? (i := 1) rfl)
theorem wm_ml_H_96 : Cond.methodLink "SuccessKinds$Machine" 96 yn_H_headOrTail ∈ wa_A := wc_10 _ (List.mem_of_getElem? (i := 2) rfl)
theorem wm_im_H_headOrTail : Cond.instanceMethod yn_H_headOrTail ∈ wa_A := wc_10 _ (List.mem_of_getElem? (i := 3) rfl)
theorem wm_code_H_headOrTail : Cond.code yn_H_headOrTail prog_3_method_10_code 5 (Option.some FieldType.long) ∈ wa_A := wc_10 _ (List.mem_of_getElem? (i := 4) rfl)
theorem wm_ml_H_69 : Cond.methodLink "SuccessKinds$Machine" 69 yn_H_isPair ∈ wa_A := wc_10 _ (List.mem_of_getElem? (i := 5) rfl)
theorem wm_st_H_isPair : Cond.static yn_H_isPair ∈ wa_A := wc_10 _ (List.mem_of_getElem? (i := 6) rfl)
theorem wm_code_H_isPair : Cond.code yn_H_isPair prog_3_method_22_code 2 (Option.some FieldType.boolean) ∈ wa_A := wc_10 _ (List.mem_of_getElem? (i := 7) rfl)
theorem wm_ml_H_66 : Cond.methodLink "SuccessKinds$Machine" 66 yn_H_kindOf ∈ wa_A := wc_10 _ (List.mem_of_getElem? (i := 8) rfl)
theorem wm_st_H_kindOf : Cond.static yn_H_kindOf ∈ wa_A := wc_10 _ (List.mem_of_getElem? (i := 9) rfl)
theorem wm_code_H_kindOf : Cond.code yn_H_kindOf prog_3_method_2_code 2 (Option.some FieldType.int) ∈ wa_A := wc_10 _ (List.mem_of_getElem? (i := 10) rfl)
theorem wm_ml_H_62 : Cond.methodLink "SuccessKinds$Machine" 62 yn_H_detailOf ∈ wa_A := wc_10 _ (List.mem_of_getElem? (i := 11) rfl)
theorem wm_st_H_detailOf : Cond.static yn_H_detailOf ∈ wa_A := wc_10 _ (List.mem_of_getElem? (i := 12) rfl)
theorem wm_code_H_detailOf : Cond.code yn_H_detailOf prog_3_method_20_code 2 (Option.some FieldType.int) ∈ wa_A := wc_10 _ (List.mem_of_getElem? (i := 13) rfl)
theorem wm_ml_H_99 : Cond.methodLink "SuccessKinds$Machine" 99 yn_H_oneOfCase ∈ wa_A := wc_10 _ (List.mem_of_getElem? (i := 14) rfl)
theorem wm_im_H_oneOfCase : Cond.instanceMethod yn_H_oneOfCase ∈ wa_A := wc_10 _ (List.mem_of_getElem? (i := 15) rfl)
theorem wm_code_H_oneOfCase : Cond.code yn_H_oneOfCase prog_3_method_11_code 6 (Option.some FieldType.long) ∈ wa_A := wc_10 _ (List.mem_of_getElem? (i := 16) rfl)
theorem wm_ml_H_126 : Cond.methodLink "SuccessKinds$Machine" 126 yn_K_has ∈ wa_A := wc_10 _ (List.mem_of_getElem? (i := 17) rfl)
theorem wm_ml_H_108 : Cond.methodLink "SuccessKinds$Machine" 108 yn_H_letIn ∈ wa_A := wc_10 _ (List.mem_of_getElem? (i := 18) rfl)
theorem wm_im_H_letIn : Cond.instanceMethod yn_H_letIn ∈ wa_A := wc_10 _ (List.mem_of_getElem? (i := 19) rfl)
theorem wm_code_H_letIn : Cond.code yn_H_letIn prog_3_method_13_code 10 (Option.some FieldType.long) ∈ wa_A := wc_10 _ (List.mem_of_getElem? (i := 20) rfl)
theorem wm_ml_H_111 : Cond.methodLink "SuccessKinds$Machine" 111 yn_H_firstOrElse ∈ wa_A := wc_10 _ (List.mem_of_getElem? (i := 21) rfl)
theorem wm_im_H_firstOrElse : Cond.instanceMethod yn_H_firstOrElse ∈ wa_A := wc_10 _ (List.mem_of_getElem? (i := 22) rfl)
theorem wm_code_H_firstOrElse : Cond.code yn_H_firstOrElse prog_3_method_14_code 5 (Option.some FieldType.long) ∈ wa_A := wc_10 _ (List.mem_of_getElem? (i := 23) rfl)
theorem wm_ml_H_118 : Cond.methodLink "SuccessKinds$Machine" 118 yn_H_fromTwo ∈ wa_A := wc_10 _ (List.mem_of_getElem? (i := 24) rfl)
theorem wm_im_H_fromTwo : Cond.instanceMethod yn_H_fromTwo ∈ wa_A := wc_10 _ (List.mem_of_getElem? (i := 25) rfl)
theorem wm_code_H_fromTwo : Cond.code yn_H_fromTwo prog_3_method_15_code 8 (Option.some FieldType.long) ∈ wa_A := wc_10 _ (List.mem_of_getElem? (i := 26) rfl)
theorem wm_ml_H_142 : Cond.methodLink "SuccessKinds$Machine" 142 yn_H_pair ∈ wa_A := wc_10 _ (List.mem_of_getElem? (i := 27) rfl)
theorem wm_im_H_pair : Cond.instanceMethod yn_H_pair ∈ wa_A := wc_10 _ (List.mem_of_getElem? (i := 28) rfl)
theorem wm_code_H_pair : Cond.code yn_H_pair prog_3_method_17_code 6 (Option.some FieldType.long) ∈ wa_A := wc_10 _ (List.mem_of_getElem? (i := 29) rfl)
theorem wm_ml_H_146 : Cond.methodLink "SuccessKinds$Machine" 146 yn_H_calculate ∈ wa_A := wc_10 _ (List.mem_of_getElem? (i := 30) rfl)
theorem wm_im_H_calculate : Cond.instanceMethod yn_H_calculate ∈ wa_A := wc_10 _ (List.mem_of_getElem? (i := 31) rfl)
theorem wm_code_H_calculate : Cond.code yn_H_calculate prog_3_method_16_code 8 (Option.some FieldType.long) ∈ wa_A := wc_10 _ (List.mem_of_getElem? (i := 32) rfl)
theorem wm_ml_H_58 : Cond.methodLink "SuccessKinds$Machine" 58 yn_H_isNumber ∈ wa_A := wc_10 _ (List.mem_of_getElem? (i := 33) rfl)
theorem wm_st_H_isNumber : Cond.static yn_H_isNumber ∈ wa_A := wc_10 _ (List.mem_of_getElem? (i := 34) rfl)
theorem wm_code_H_isNumber : Cond.code yn_H_isNumber prog_3_method_21_code 2 (Option.some FieldType.boolean) ∈ wa_A := wc_10 _ (List.mem_of_getElem? (i := 35) rfl)
theorem wm_kl_S_100 : Cond.constantLong "SuccessKinds" 100 (-1 : Int64) ∈ wa_A := wc_10 _ (List.mem_of_getElem? (i := 36) rfl)
theorem wm_cl_S_102 : Cond.classLink "SuccessKinds" 102 "java/lang/UnsupportedOperationException" ∈ wa_A := wc_10 _ (List.mem_of_getElem? (i := 37) rfl)
theorem wm_ml_S_106 : Cond.methodLink "SuccessKinds" 106 ⟨"java/lang/UnsupportedOperationException", "<init>", "(Ljava/lang/String;)V"⟩ ∈ wa_A := wc_11 _ (List.mem_of_getElem? (i := 5) rfl)
theorem wm_kl_S_107 : Cond.constantLong "SuccessKinds" 107 (-2 : Int64) ∈ wa_A := wc_11 _ (List.mem_of_getElem? (i := 11) rfl)
theorem wm_ml_S_111 : Cond.methodLink "SuccessKinds" 111 yn_H_keepParts ∈ wa_A := wc_11 _ (List.mem_of_getElem? (i := 12) rfl)
theorem wm_im_H_keepParts : Cond.instanceMethod yn_H_keepParts ∈ wa_A := wc_11 _ (List.mem_of_getElem? (i := 13) rfl)
theorem wm_se_H_keepParts : Cond.selects "SuccessKinds$Machine" yn_H_keepParts yn_H_keepParts ∈ wa_A := wc_11 _ (List.mem_of_getElem? (i := 14) rfl)
theorem wm_code_H_keepParts : Cond.code yn_H_keepParts prog_3_method_5_code 7 none ∈ wa_A := wc_11 _ (List.mem_of_getElem? (i := 15) rfl)
theorem wm_ml_S_115 : Cond.methodLink "SuccessKinds" 115 yn_H_kindOf ∈ wa_A := wc_11 _ (List.mem_of_getElem? (i := 16) rfl)
theorem wm_ml_L_81 : Cond.methodLink "SuccessKindsLaw" 81 yn_L_part ∈ wa_A := wc_11 _ (List.mem_of_getElem? (i := 17) rfl)
theorem wm_st_L_part : Cond.static yn_L_part ∈ wa_A := wc_11 _ (List.mem_of_getElem? (i := 18) rfl)
theorem wm_cl_L_44 : Cond.classLink "SuccessKindsLaw" 44 "java/lang/IndexOutOfBoundsException" ∈ wa_A := wc_11 _ (List.mem_of_getElem? (i := 19) rfl)
theorem wm_ml_L_41 : Cond.methodLink "SuccessKindsLaw" 41 yn_S_part ∈ wa_A := wc_11 _ (List.mem_of_getElem? (i := 20) rfl)
theorem wm_im_S_part : Cond.instanceMethod yn_S_part ∈ wa_A := wc_11 _ (List.mem_of_getElem? (i := 21) rfl)
theorem wm_se_S_part : Cond.selects "SuccessKinds" yn_S_part yn_S_part ∈ wa_A := wc_11 _ (List.mem_of_getElem? (i := 22) rfl)
theorem wm_code_S_part : Cond.code yn_S_part prog_1_method_9_code 2 (Option.some FieldType.int) ∈ wa_A := wc_11 _ (List.mem_of_getElem? (i := 23) rfl)
theorem wm_cl_S_123 : Cond.classLink "SuccessKinds" 123 "java/lang/IndexOutOfBoundsException" ∈ wa_A := wc_11 _ (List.mem_of_getElem? (i := 24) rfl)
theorem wm_ml_S_127 : Cond.methodLink "SuccessKinds" 127 ⟨"java/lang/IndexOutOfBoundsException", "<init>", "(Ljava/lang/String;)V"⟩ ∈ wa_A := wc_11 _ (List.mem_of_getElem? (i := 32) rfl)
theorem wm_cl_L_47 : Cond.classLink "SuccessKindsLaw" 47 "SuccessKindsModel" ∈ wa_A := wc_11 _ (List.mem_of_getElem? (i := 38) rfl)
theorem wm_ml_L_49 : Cond.methodLink "SuccessKindsLaw" 49 yn_M_init ∈ wa_A := wc_12 _ (List.mem_of_getElem? (i := 0) rfl)
theorem wm_im_M_init : Cond.instanceMethod yn_M_init ∈ wa_A := wc_12 _ (List.mem_of_getElem? (i := 1) rfl)
theorem wm_code_M_init : Cond.code yn_M_init prog_6_method_1_code 2 none ∈ wa_A := wc_12 _ (List.mem_of_getElem? (i := 2) rfl)
theorem wm_ml_M_1 : Cond.methodLink "SuccessKindsModel" 1 ⟨"java/lang/Object", "<init>", "()V"⟩ ∈ wa_A := wc_12 _ (List.mem_of_getElem? (i := 3) rfl)
theorem wm_fl_M_84 : Cond.fieldLink "SuccessKindsModel" 84 "SuccessKindsModel" "expressions" "I" ∈ wa_A := wc_12 _ (List.mem_of_getElem? (i := 4) rfl)
theorem wm_fl_M_7 : Cond.fieldLink "SuccessKindsModel" 7 "SuccessKindsModel" "sort" "[I" ∈ wa_A := wc_12 _ (List.mem_of_getElem? (i := 5) rfl)
theorem wm_fl_M_13 : Cond.fieldLink "SuccessKindsModel" 13 "SuccessKindsModel" "first" "[I" ∈ wa_A := wc_12 _ (List.mem_of_getElem? (i := 6) rfl)
theorem wm_fl_M_16 : Cond.fieldLink "SuccessKindsModel" 16 "SuccessKindsModel" "second" "[I" ∈ wa_A := wc_12 _ (List.mem_of_getElem? (i := 7) rfl)
theorem wm_fl_M_19 : Cond.fieldLink "SuccessKindsModel" 19 "SuccessKindsModel" "third" "[I" ∈ wa_A := wc_12 _ (List.mem_of_getElem? (i := 8) rfl)
theorem wm_fl_M_22 : Cond.fieldLink "SuccessKindsModel" 22 "SuccessKindsModel" "fourth" "[I" ∈ wa_A := wc_12 _ (List.mem_of_getElem? (i := 9) rfl)
theorem wm_fl_M_25 : Cond.fieldLink "SuccessKindsModel" 25 "SuccessKindsModel" "depth" "[I" ∈ wa_A := wc_12 _ (List.mem_of_getElem? (i := 10) rfl)
theorem wm_fl_M_28 : Cond.fieldLink "SuccessKindsModel" 28 "SuccessKindsModel" "size" "[I" ∈ wa_A := wc_12 _ (List.mem_of_getElem? (i := 11) rfl)
theorem wm_fl_M_31 : Cond.fieldLink "SuccessKindsModel" 31 "SuccessKindsModel" "body" "[I" ∈ wa_A := wc_12 _ (List.mem_of_getElem? (i := 12) rfl)
theorem wm_fl_M_34 : Cond.fieldLink "SuccessKindsModel" 34 "SuccessKindsModel" "may" "[I" ∈ wa_A := wc_12 _ (List.mem_of_getElem? (i := 13) rfl)
theorem wm_fl_M_37 : Cond.fieldLink "SuccessKindsModel" 37 "SuccessKindsModel" "gives" "[I" ∈ wa_A := wc_12 _ (List.mem_of_getElem? (i := 14) rfl)
theorem wm_fl_M_40 : Cond.fieldLink "SuccessKindsModel" 40 "SuccessKindsModel" "come" "[Z" ∈ wa_A := wc_12 _ (List.mem_of_getElem? (i := 15) rfl)
theorem wm_fl_M_44 : Cond.fieldLink "SuccessKindsModel" 44 "SuccessKindsModel" "given" "[Z" ∈ wa_A := wc_12 _ (List.mem_of_getElem? (i := 16) rfl)
theorem wm_fl_M_111 : Cond.fieldLink "SuccessKindsModel" 111 "SuccessKindsModel" "open" "I" ∈ wa_A := wc_12 _ (List.mem_of_getElem? (i := 17) rfl)
theorem wm_fl_M_47 : Cond.fieldLink "SuccessKindsModel" 47 "SuccessKindsModel" "which" "[I" ∈ wa_A := wc_12 _ (List.mem_of_getElem? (i := 18) rfl)
theorem wm_fl_M_50 : Cond.fieldLink "SuccessKindsModel" 50 "SuccessKindsModel" "stage" "[I" ∈ wa_A := wc_12 _ (List.mem_of_getElem? (i := 19) rfl)
theorem wm_fl_M_53 : Cond.fieldLink "SuccessKindsModel" 53 "SuccessKindsModel" "variable" "[I" ∈ wa_A := wc_12 _ (List.mem_of_getElem? (i := 20) rfl)
theorem wm_fl_M_56 : Cond.fieldLink "SuccessKindsModel" 56 "SuccessKindsModel" "result" "[I" ∈ wa_A := wc_12 _ (List.mem_of_getElem? (i := 21) rfl)
theorem wm_fl_M_125 : Cond.fieldLink "SuccessKindsModel" 125 "SuccessKindsModel" "back" "I" ∈ wa_A := wc_12 _ (List.mem_of_getElem? (i := 22) rfl)
theorem wm_fl_M_161 : Cond.fieldLink "SuccessKindsModel" 161 "SuccessKindsModel" "values" "I" ∈ wa_A := wc_12 _ (List.mem_of_getElem? (i := 23) rfl)
theorem wm_fl_M_59 : Cond.fieldLink "SuccessKindsModel" 59 "SuccessKindsModel" "kind" "[I" ∈ wa_A := wc_12 _ (List.mem_of_getElem? (i := 24) rfl)
theorem wm_fl_M_62 : Cond.fieldLink "SuccessKindsModel" 62 "SuccessKindsModel" "number" "[I" ∈ wa_A := wc_12 _ (List.mem_of_getElem? (i := 25) rfl)
theorem wm_fl_M_65 : Cond.fieldLink "SuccessKindsModel" 65 "SuccessKindsModel" "left" "[I" ∈ wa_A := wc_12 _ (List.mem_of_getElem? (i := 26) rfl)
theorem wm_fl_M_68 : Cond.fieldLink "SuccessKindsModel" 68 "SuccessKindsModel" "right" "[I" ∈ wa_A := wc_12 _ (List.mem_of_getElem? (i := 27) rfl)
theorem wm_fl_M_174 : Cond.fieldLink "SuccessKindsModel" 174 "SuccessKindsModel" "failing" "Z" ∈ wa_A := wc_12 _ (List.mem_of_getElem? (i := 28) rfl)
theorem wm_fl_M_167 : Cond.fieldLink "SuccessKindsModel" 167 "SuccessKindsModel" "cut" "Z" ∈ wa_A := wc_12 _ (List.mem_of_getElem? (i := 29) rfl)
theorem wm_fl_M_164 : Cond.fieldLink "SuccessKindsModel" 164 "SuccessKindsModel" "steps" "I" ∈ wa_A := wc_12 _ (List.mem_of_getElem? (i := 30) rfl)
theorem wm_fl_M_180 : Cond.fieldLink "SuccessKindsModel" 180 "SuccessKindsModel" "pairs" "I" ∈ wa_A := wc_12 _ (List.mem_of_getElem? (i := 31) rfl)
theorem wm_fl_M_171 : Cond.fieldLink "SuccessKindsModel" 171 "SuccessKindsModel" "failures" "I" ∈ wa_A := wc_12 _ (List.mem_of_getElem? (i := 32) rfl)
theorem wm_fl_M_201 : Cond.fieldLink "SuccessKindsModel" 201 "SuccessKindsModel" "active" "I" ∈ wa_A := wc_12 _ (List.mem_of_getElem? (i := 33) rfl)
theorem wm_fl_M_204 : Cond.fieldLink "SuccessKindsModel" 204 "SuccessKindsModel" "calls" "I" ∈ wa_A := wc_12 _ (List.mem_of_getElem? (i := 34) rfl)
theorem wm_fl_M_71 : Cond.fieldLink "SuccessKindsModel" 71 "SuccessKindsModel" "one" "[I" ∈ wa_A := wc_12 _ (List.mem_of_getElem? (i := 35) rfl)
theorem wm_fl_M_74 : Cond.fieldLink "SuccessKindsModel" 74 "SuccessKindsModel" "two" "[I" ∈ wa_A := wc_12 _ (List.mem_of_getElem? (i := 36) rfl)
theorem wm_fl_M_232 : Cond.fieldLink "SuccessKindsModel" 232 "SuccessKindsModel" "parts" "I" ∈ wa_A := wc_12 _ (List.mem_of_getElem? (i := 37) rfl)
theorem wm_fl_M_77 : Cond.fieldLink "SuccessKindsModel" 77 "SuccessKindsModel" "partOf" "[I" ∈ wa_A := wc_12 _ (List.mem_of_getElem? (i := 38) rfl)
theorem wm_fl_M_80 : Cond.fieldLink "SuccessKindsModel" 80 "SuccessKindsModel" "thrown" "I" ∈ wa_A := wc_12 _ (List.mem_of_getElem? (i := 39) rfl)
theorem wm_ml_L_56 : Cond.methodLink "SuccessKindsLaw" 56 yn_M_thrown ∈ wa_A := wc_13 _ (List.mem_of_getElem? (i := 38) rfl)
theorem wm_im_M_thrown : Cond.instanceMethod yn_M_thrown ∈ wa_A := wc_13 _ (List.mem_of_getElem? (i := 39) rfl)
theorem wm_se_M_thrown : Cond.selects "SuccessKindsModel" yn_M_thrown yn_M_thrown ∈ wa_A := wc_14 _ (List.mem_of_getElem? (i := 0) rfl)
theorem wm_code_M_thrown : Cond.code yn_M_thrown prog_6_method_2_code 1 (Option.some FieldType.int) ∈ wa_A := wc_14 _ (List.mem_of_getElem? (i := 1) rfl)
theorem wm_ml_L_55 : Cond.methodLink "SuccessKindsLaw" 55 yn_M_make ∈ wa_A := wc_14 _ (List.mem_of_getElem? (i := 2) rfl)
theorem wm_im_M_make : Cond.instanceMethod yn_M_make ∈ wa_A := wc_14 _ (List.mem_of_getElem? (i := 3) rfl)
theorem wm_se_M_make : Cond.selects "SuccessKindsModel" yn_M_make yn_M_make ∈ wa_A := wc_14 _ (List.mem_of_getElem? (i := 4) rfl)
theorem wm_code_M_make : Cond.code yn_M_make prog_6_method_9_code 10 (Option.some FieldType.int) ∈ wa_A := wc_14 _ (List.mem_of_getElem? (i := 5) rfl)
theorem wm_ml_M_95 : Cond.methodLink "SuccessKindsModel" 95 yn_M_isSaid ∈ wa_A := wc_14 _ (List.mem_of_getElem? (i := 6) rfl)
theorem wm_st_M_isSaid : Cond.static yn_M_isSaid ∈ wa_A := wc_14 _ (List.mem_of_getElem? (i := 7) rfl)
theorem wm_code_M_isSaid : Cond.code yn_M_isSaid prog_6_method_6_code 3 (Option.some FieldType.boolean) ∈ wa_A := wc_14 _ (List.mem_of_getElem? (i := 8) rfl)
theorem wm_ml_M_87 : Cond.methodLink "SuccessKindsModel" 87 yn_M_outside ∈ wa_A := wc_14 _ (List.mem_of_getElem? (i := 9) rfl)
theorem wm_st_M_outside : Cond.static yn_M_outside ∈ wa_A := wc_14 _ (List.mem_of_getElem? (i := 10) rfl)
theorem wm_code_M_outside : Cond.code yn_M_outside prog_6_method_3_code 2 (Option.some FieldType.boolean) ∈ wa_A := wc_14 _ (List.mem_of_getElem? (i := 11) rfl)
theorem wm_ml_M_99 : Cond.methodLink "SuccessKindsModel" 99 yn_M_partsOf ∈ wa_A := wc_14 _ (List.mem_of_getElem? (i := 12) rfl)
theorem wm_st_M_partsOf : Cond.static yn_M_partsOf ∈ wa_A := wc_14 _ (List.mem_of_getElem? (i := 13) rfl)
theorem wm_code_M_partsOf : Cond.code yn_M_partsOf prog_6_method_7_code 2 (Option.some FieldType.int) ∈ wa_A := wc_14 _ (List.mem_of_getElem? (i := 14) rfl)
theorem wm_ml_M_91 : Cond.methodLink "SuccessKindsModel" 91 yn_M_parameters ∈ wa_A := wc_14 _ (List.mem_of_getElem? (i := 15) rfl)
theorem wm_st_M_parameters : Cond.static yn_M_parameters ∈ wa_A := wc_14 _ (List.mem_of_getElem? (i := 16) rfl)
theorem wm_code_M_parameters : Cond.code yn_M_parameters prog_6_method_4_code 1 (Option.some FieldType.int) ∈ wa_A := wc_14 _ (List.mem_of_getElem? (i := 17) rfl)
theorem wm_ml_M_103 : Cond.methodLink "SuccessKindsModel" 103 yn_M_pick ∈ wa_A := wc_14 _ (List.mem_of_getElem? (i := 18) rfl)
theorem wm_st_M_pick : Cond.static yn_M_pick ∈ wa_A := wc_14 _ (List.mem_of_getElem? (i := 19) rfl)
theorem wm_code_M_pick : Cond.code yn_M_pick prog_6_method_8_code 5 (Option.some FieldType.int) ∈ wa_A := wc_14 _ (List.mem_of_getElem? (i := 20) rfl)
theorem wm_ml_M_107 : Cond.methodLink "SuccessKindsModel" 107 yn_M_isPart ∈ wa_A := wc_14 _ (List.mem_of_getElem? (i := 21) rfl)
theorem wm_im_M_isPart : Cond.instanceMethod yn_M_isPart ∈ wa_A := wc_14 _ (List.mem_of_getElem? (i := 22) rfl)
theorem wm_code_M_isPart : Cond.code yn_M_isPart prog_6_method_5_code 2 (Option.some FieldType.boolean) ∈ wa_A := wc_14 _ (List.mem_of_getElem? (i := 23) rfl)
theorem wm_ml_L_63 : Cond.methodLink "SuccessKindsLaw" 63 yn_M_define ∈ wa_A := wc_14 _ (List.mem_of_getElem? (i := 24) rfl)
theorem wm_im_M_define : Cond.instanceMethod yn_M_define ∈ wa_A := wc_14 _ (List.mem_of_getElem? (i := 25) rfl)
theorem wm_se_M_define : Cond.selects "SuccessKindsModel" yn_M_define yn_M_define ∈ wa_A := wc_14 _ (List.mem_of_getElem? (i := 26) rfl)
theorem wm_code_M_define : Cond.code yn_M_define prog_6_method_10_code 5 (Option.some FieldType.int) ∈ wa_A := wc_14 _ (List.mem_of_getElem? (i := 27) rfl)
theorem wm_ml_L_66 : Cond.methodLink "SuccessKindsLaw" 66 yn_M_may ∈ wa_A := wc_14 _ (List.mem_of_getElem? (i := 28) rfl)
theorem wm_im_M_may : Cond.instanceMethod yn_M_may ∈ wa_A := wc_14 _ (List.mem_of_getElem? (i := 29) rfl)
theorem wm_se_M_may : Cond.selects "SuccessKindsModel" yn_M_may yn_M_may ∈ wa_A := wc_14 _ (List.mem_of_getElem? (i := 30) rfl)
theorem wm_code_M_may : Cond.code yn_M_may prog_6_method_23_code 3 (Option.some FieldType.int) ∈ wa_A := wc_14 _ (List.mem_of_getElem? (i := 31) rfl)
theorem wm_ml_M_155 : Cond.methodLink "SuccessKindsModel" 155 yn_M_know ∈ wa_A := wc_14 _ (List.mem_of_getElem? (i := 32) rfl)
theorem wm_im_M_know : Cond.instanceMethod yn_M_know ∈ wa_A := wc_14 _ (List.mem_of_getElem? (i := 33) rfl)
theorem wm_code_M_know : Cond.code yn_M_know prog_6_method_22_code 4 none ∈ wa_A := wc_14 _ (List.mem_of_getElem? (i := 34) rfl)
theorem wm_ml_M_152 : Cond.methodLink "SuccessKindsModel" 152 yn_M_learn ∈ wa_A := wc_14 _ (List.mem_of_getElem? (i := 35) rfl)
theorem wm_im_M_learn : Cond.instanceMethod yn_M_learn ∈ wa_A := wc_14 _ (List.mem_of_getElem? (i := 36) rfl)
theorem wm_code_M_learn : Cond.code yn_M_learn prog_6_method_21_code 7 (Option.some FieldType.boolean) ∈ wa_A := wc_14 _ (List.mem_of_getElem? (i := 37) rfl)
theorem wm_ml_M_149 : Cond.methodLink "SuccessKindsModel" 149 yn_M_looked ∈ wa_A := wc_14 _ (List.mem_of_getElem? (i := 38) rfl)
theorem wm_im_M_looked : Cond.instanceMethod yn_M_looked ∈ wa_A := wc_14 _ (List.mem_of_getElem? (i := 39) rfl)
theorem wm_code_M_looked : Cond.code yn_M_looked prog_6_method_20_code 4 (Option.some FieldType.int) ∈ wa_A := wc_15 _ (List.mem_of_getElem? (i := 0) rfl)
theorem wm_ml_M_128 : Cond.methodLink "SuccessKindsModel" 128 yn_M_look ∈ wa_A := wc_15 _ (List.mem_of_getElem? (i := 1) rfl)
theorem wm_im_M_look : Cond.instanceMethod yn_M_look ∈ wa_A := wc_15 _ (List.mem_of_getElem? (i := 2) rfl)
theorem wm_code_M_look : Cond.code yn_M_look prog_6_method_12_code 3 none ∈ wa_A := wc_15 _ (List.mem_of_getElem? (i := 3) rfl)
theorem wm_ml_M_146 : Cond.methodLink "SuccessKindsModel" 146 yn_M_lookOn ∈ wa_A := wc_15 _ (List.mem_of_getElem? (i := 4) rfl)
theorem wm_im_M_lookOn : Cond.instanceMethod yn_M_lookOn ∈ wa_A := wc_15 _ (List.mem_of_getElem? (i := 5) rfl)
theorem wm_code_M_lookOn : Cond.code yn_M_lookOn prog_6_method_18_code 6 none ∈ wa_A := wc_15 _ (List.mem_of_getElem? (i := 6) rfl)
theorem wm_ml_M_132 : Cond.methodLink "SuccessKindsModel" 132 yn_M_leaf ∈ wa_A := wc_15 _ (List.mem_of_getElem? (i := 7) rfl)
theorem wm_im_M_leaf : Cond.instanceMethod yn_M_leaf ∈ wa_A := wc_15 _ (List.mem_of_getElem? (i := 8) rfl)
theorem wm_code_M_leaf : Cond.code yn_M_leaf prog_6_method_16_code 3 (Option.some FieldType.int) ∈ wa_A := wc_15 _ (List.mem_of_getElem? (i := 9) rfl)
theorem wm_ml_M_122 : Cond.methodLink "SuccessKindsModel" 122 yn_M_kindOf ∈ wa_A := wc_15 _ (List.mem_of_getElem? (i := 10) rfl)
theorem wm_st_M_kindOf : Cond.static yn_M_kindOf ∈ wa_A := wc_15 _ (List.mem_of_getElem? (i := 11) rfl)
theorem wm_code_M_kindOf : Cond.code yn_M_kindOf prog_6_method_11_code 1 (Option.some FieldType.int) ∈ wa_A := wc_15 _ (List.mem_of_getElem? (i := 12) rfl)
theorem wm_ml_M_135 : Cond.methodLink "SuccessKindsModel" 135 yn_M_close ∈ wa_A := wc_15 _ (List.mem_of_getElem? (i := 13) rfl)
theorem wm_im_M_close : Cond.instanceMethod yn_M_close ∈ wa_A := wc_15 _ (List.mem_of_getElem? (i := 14) rfl)
theorem wm_code_M_close : Cond.code yn_M_close prog_6_method_19_code 3 none ∈ wa_A := wc_15 _ (List.mem_of_getElem? (i := 15) rfl)
theorem wm_ml_M_139 : Cond.methodLink "SuccessKindsModel" 139 yn_M_lookCase ∈ wa_A := wc_15 _ (List.mem_of_getElem? (i := 16) rfl)
theorem wm_im_M_lookCase : Cond.instanceMethod yn_M_lookCase ∈ wa_A := wc_15 _ (List.mem_of_getElem? (i := 17) rfl)
theorem wm_code_M_lookCase : Cond.code yn_M_lookCase prog_6_method_17_code 6 none ∈ wa_A := wc_15 _ (List.mem_of_getElem? (i := 18) rfl)
theorem wm_ml_M_143 : Cond.methodLink "SuccessKindsModel" 143 yn_M_together ∈ wa_A := wc_15 _ (List.mem_of_getElem? (i := 19) rfl)
theorem wm_im_M_together : Cond.instanceMethod yn_M_together ∈ wa_A := wc_15 _ (List.mem_of_getElem? (i := 20) rfl)
theorem wm_code_M_together : Cond.code yn_M_together prog_6_method_15_code 5 (Option.some FieldType.int) ∈ wa_A := wc_15 _ (List.mem_of_getElem? (i := 21) rfl)
theorem wm_ml_M_114 : Cond.methodLink "SuccessKindsModel" 114 yn_M_sums ∈ wa_A := wc_15 _ (List.mem_of_getElem? (i := 22) rfl)
theorem wm_st_M_sums : Cond.static yn_M_sums ∈ wa_A := wc_15 _ (List.mem_of_getElem? (i := 23) rfl)
theorem wm_code_M_sums : Cond.code yn_M_sums prog_6_method_13_code 8 (Option.some FieldType.int) ∈ wa_A := wc_15 _ (List.mem_of_getElem? (i := 24) rfl)
theorem wm_ml_M_118 : Cond.methodLink "SuccessKindsModel" 118 yn_M_called ∈ wa_A := wc_15 _ (List.mem_of_getElem? (i := 25) rfl)
theorem wm_im_M_called : Cond.instanceMethod yn_M_called ∈ wa_A := wc_15 _ (List.mem_of_getElem? (i := 26) rfl)
theorem wm_code_M_called : Cond.code yn_M_called prog_6_method_14_code 5 (Option.some FieldType.int) ∈ wa_A := wc_15 _ (List.mem_of_getElem? (i := 27) rfl)
theorem wm_ml_L_70 : Cond.methodLink "SuccessKindsLaw" 70 yn_M_gives ∈ wa_A := wc_15 _ (List.mem_of_getElem? (i := 28) rfl)
theorem wm_im_M_gives : Cond.instanceMethod yn_M_gives ∈ wa_A := wc_15 _ (List.mem_of_getElem? (i := 29) rfl)
theorem wm_se_M_gives : Cond.selects "SuccessKindsModel" yn_M_gives yn_M_gives ∈ wa_A := wc_15 _ (List.mem_of_getElem? (i := 30) rfl)
theorem wm_code_M_gives : Cond.code yn_M_gives prog_6_method_24_code 2 (Option.some FieldType.int) ∈ wa_A := wc_15 _ (List.mem_of_getElem? (i := 31) rfl)
theorem wm_ml_L_73 : Cond.methodLink "SuccessKindsLaw" 73 yn_M_hopeless ∈ wa_A := wc_15 _ (List.mem_of_getElem? (i := 32) rfl)
theorem wm_im_M_hopeless : Cond.instanceMethod yn_M_hopeless ∈ wa_A := wc_15 _ (List.mem_of_getElem? (i := 33) rfl)
theorem wm_se_M_hopeless : Cond.selects "SuccessKindsModel" yn_M_hopeless yn_M_hopeless ∈ wa_A := wc_15 _ (List.mem_of_getElem? (i := 34) rfl)
theorem wm_code_M_hopeless : Cond.code yn_M_hopeless prog_6_method_26_code 4 (Option.some FieldType.int) ∈ wa_A := wc_15 _ (List.mem_of_getElem? (i := 35) rfl)
theorem wm_ml_M_158 : Cond.methodLink "SuccessKindsModel" 158 yn_M_walk ∈ wa_A := wc_15 _ (List.mem_of_getElem? (i := 36) rfl)
theorem wm_im_M_walk : Cond.instanceMethod yn_M_walk ∈ wa_A := wc_15 _ (List.mem_of_getElem? (i := 37) rfl)
theorem wm_code_M_walk : Cond.code yn_M_walk prog_6_method_25_code 3 none ∈ wa_A := wc_15 _ (List.mem_of_getElem? (i := 38) rfl)
theorem wm_ml_L_76 : Cond.methodLink "SuccessKindsLaw" 76 yn_M_isHopeless ∈ wa_A := wc_15 _ (List.mem_of_getElem? (i := 39) rfl)
theorem wm_im_M_isHopeless : Cond.instanceMethod yn_M_isHopeless ∈ wa_A := wc_16 _ (List.mem_of_getElem? (i := 0) rfl)
theorem wm_se_M_isHopeless : Cond.selects "SuccessKindsModel" yn_M_isHopeless yn_M_isHopeless ∈ wa_A := wc_16 _ (List.mem_of_getElem? (i := 1) rfl)
theorem wm_code_M_isHopeless : Cond.code yn_M_isHopeless prog_6_method_27_code 3 (Option.some FieldType.boolean) ∈ wa_A := wc_16 _ (List.mem_of_getElem? (i := 2) rfl)
theorem wm_ml_L_80 : Cond.methodLink "SuccessKindsLaw" 80 yn_M_run ∈ wa_A := wc_16 _ (List.mem_of_getElem? (i := 3) rfl)
theorem wm_im_M_run : Cond.instanceMethod yn_M_run ∈ wa_A := wc_16 _ (List.mem_of_getElem? (i := 4) rfl)
theorem wm_se_M_run : Cond.selects "SuccessKindsModel" yn_M_run yn_M_run ∈ wa_A := wc_16 _ (List.mem_of_getElem? (i := 5) rfl)
theorem wm_code_M_run : Cond.code yn_M_run prog_6_method_45_code 7 (Option.some FieldType.int) ∈ wa_A := wc_16 _ (List.mem_of_getElem? (i := 6) rfl)
theorem wm_ml_M_235 : Cond.methodLink "SuccessKindsModel" 235 yn_M_worked ∈ wa_A := wc_16 _ (List.mem_of_getElem? (i := 7) rfl)
theorem wm_im_M_worked : Cond.instanceMethod yn_M_worked ∈ wa_A := wc_16 _ (List.mem_of_getElem? (i := 8) rfl)
theorem wm_code_M_worked : Cond.code yn_M_worked prog_6_method_43_code 3 (Option.some FieldType.int) ∈ wa_A := wc_16 _ (List.mem_of_getElem? (i := 9) rfl)
theorem wm_ml_M_207 : Cond.methodLink "SuccessKindsModel" 207 yn_M_work ∈ wa_A := wc_16 _ (List.mem_of_getElem? (i := 10) rfl)
theorem wm_im_M_work : Cond.instanceMethod yn_M_work ∈ wa_A := wc_16 _ (List.mem_of_getElem? (i := 11) rfl)
theorem wm_code_M_work : Cond.code yn_M_work prog_6_method_29_code 2 none ∈ wa_A := wc_16 _ (List.mem_of_getElem? (i := 12) rfl)
theorem wm_ml_M_229 : Cond.methodLink "SuccessKindsModel" 229 yn_M_go ∈ wa_A := wc_16 _ (List.mem_of_getElem? (i := 13) rfl)
theorem wm_im_M_go : Cond.instanceMethod yn_M_go ∈ wa_A := wc_16 _ (List.mem_of_getElem? (i := 14) rfl)
theorem wm_code_M_go : Cond.code yn_M_go prog_6_method_42_code 1 none ∈ wa_A := wc_16 _ (List.mem_of_getElem? (i := 15) rfl)
theorem wm_ml_M_223 : Cond.methodLink "SuccessKindsModel" 223 yn_M_goUp ∈ wa_A := wc_16 _ (List.mem_of_getElem? (i := 16) rfl)
theorem wm_im_M_goUp : Cond.instanceMethod yn_M_goUp ∈ wa_A := wc_16 _ (List.mem_of_getElem? (i := 17) rfl)
theorem wm_code_M_goUp : Cond.code yn_M_goUp prog_6_method_41_code 3 none ∈ wa_A := wc_16 _ (List.mem_of_getElem? (i := 18) rfl)
theorem wm_ml_M_226 : Cond.methodLink "SuccessKindsModel" 226 yn_M_workOn ∈ wa_A := wc_16 _ (List.mem_of_getElem? (i := 19) rfl)
theorem wm_im_M_workOn : Cond.instanceMethod yn_M_workOn ∈ wa_A := wc_16 _ (List.mem_of_getElem? (i := 20) rfl)
theorem wm_code_M_workOn : Cond.code yn_M_workOn prog_6_method_40_code 6 none ∈ wa_A := wc_16 _ (List.mem_of_getElem? (i := 21) rfl)
theorem wm_ml_M_214 : Cond.methodLink "SuccessKindsModel" 214 yn_M_leafValue ∈ wa_A := wc_16 _ (List.mem_of_getElem? (i := 22) rfl)
theorem wm_im_M_leafValue : Cond.instanceMethod yn_M_leafValue ∈ wa_A := wc_16 _ (List.mem_of_getElem? (i := 23) rfl)
theorem wm_code_M_leafValue : Cond.code yn_M_leafValue prog_6_method_38_code 4 none ∈ wa_A := wc_16 _ (List.mem_of_getElem? (i := 24) rfl)
theorem wm_ml_M_186 : Cond.methodLink "SuccessKindsModel" 186 yn_M_end ∈ wa_A := wc_16 _ (List.mem_of_getElem? (i := 25) rfl)
theorem wm_im_M_end : Cond.instanceMethod yn_M_end ∈ wa_A := wc_16 _ (List.mem_of_getElem? (i := 26) rfl)
theorem wm_code_M_end : Cond.code yn_M_end prog_6_method_30_code 2 none ∈ wa_A := wc_16 _ (List.mem_of_getElem? (i := 27) rfl)
theorem wm_ml_M_183 : Cond.methodLink "SuccessKindsModel" 183 yn_M_value ∈ wa_A := wc_16 _ (List.mem_of_getElem? (i := 28) rfl)
theorem wm_im_M_value : Cond.instanceMethod yn_M_value ∈ wa_A := wc_16 _ (List.mem_of_getElem? (i := 29) rfl)
theorem wm_code_M_value : Cond.code yn_M_value prog_6_method_28_code 3 (Option.some FieldType.int) ∈ wa_A := wc_16 _ (List.mem_of_getElem? (i := 30) rfl)
theorem wm_ml_M_198 : Cond.methodLink "SuccessKindsModel" 198 yn_M_fail ∈ wa_A := wc_16 _ (List.mem_of_getElem? (i := 31) rfl)
theorem wm_im_M_fail : Cond.instanceMethod yn_M_fail ∈ wa_A := wc_16 _ (List.mem_of_getElem? (i := 32) rfl)
theorem wm_code_M_fail : Cond.code yn_M_fail prog_6_method_32_code 1 none ∈ wa_A := wc_16 _ (List.mem_of_getElem? (i := 33) rfl)
theorem wm_ml_M_177 : Cond.methodLink "SuccessKindsModel" 177 yn_M_fails ∈ wa_A := wc_16 _ (List.mem_of_getElem? (i := 34) rfl)
theorem wm_im_M_fails : Cond.instanceMethod yn_M_fails ∈ wa_A := wc_16 _ (List.mem_of_getElem? (i := 35) rfl)
theorem wm_code_M_fails : Cond.code yn_M_fails prog_6_method_31_code 1 none ∈ wa_A := wc_16 _ (List.mem_of_getElem? (i := 36) rfl)
theorem wm_ml_M_217 : Cond.methodLink "SuccessKindsModel" 217 yn_M_callOn ∈ wa_A := wc_16 _ (List.mem_of_getElem? (i := 37) rfl)
theorem wm_im_M_callOn : Cond.instanceMethod yn_M_callOn ∈ wa_A := wc_16 _ (List.mem_of_getElem? (i := 38) rfl)
theorem wm_code_M_callOn : Cond.code yn_M_callOn prog_6_method_39_code 5 none ∈ wa_A := wc_16 _ (List.mem_of_getElem? (i := 39) rfl)
theorem wm_ml_M_210 : Cond.methodLink "SuccessKindsModel" 210 yn_M_call ∈ wa_A := wc_17 _ (List.mem_of_getElem? (i := 0) rfl)
theorem wm_im_M_call : Cond.instanceMethod yn_M_call ∈ wa_A := wc_17 _ (List.mem_of_getElem? (i := 1) rfl)
theorem wm_code_M_call : Cond.code yn_M_call prog_6_method_37_code 5 none ∈ wa_A := wc_17 _ (List.mem_of_getElem? (i := 2) rfl)
theorem wm_ml_M_220 : Cond.methodLink "SuccessKindsModel" 220 yn_M_combine ∈ wa_A := wc_17 _ (List.mem_of_getElem? (i := 3) rfl)
theorem wm_im_M_combine : Cond.instanceMethod yn_M_combine ∈ wa_A := wc_17 _ (List.mem_of_getElem? (i := 4) rfl)
theorem wm_code_M_combine : Cond.code yn_M_combine prog_6_method_36_code 5 none ∈ wa_A := wc_17 _ (List.mem_of_getElem? (i := 5) rfl)
theorem wm_ml_M_189 : Cond.methodLink "SuccessKindsModel" 189 yn_M_pair ∈ wa_A := wc_17 _ (List.mem_of_getElem? (i := 6) rfl)
theorem wm_im_M_pair : Cond.instanceMethod yn_M_pair ∈ wa_A := wc_17 _ (List.mem_of_getElem? (i := 7) rfl)
theorem wm_code_M_pair : Cond.code yn_M_pair prog_6_method_35_code 4 none ∈ wa_A := wc_17 _ (List.mem_of_getElem? (i := 8) rfl)
theorem wm_ml_M_192 : Cond.methodLink "SuccessKindsModel" 192 yn_M_same ∈ wa_A := wc_17 _ (List.mem_of_getElem? (i := 9) rfl)
theorem wm_im_M_same : Cond.instanceMethod yn_M_same ∈ wa_A := wc_17 _ (List.mem_of_getElem? (i := 10) rfl)
theorem wm_code_M_same : Cond.code yn_M_same prog_6_method_33_code 6 (Option.some FieldType.boolean) ∈ wa_A := wc_17 _ (List.mem_of_getElem? (i := 11) rfl)
theorem wm_ml_M_195 : Cond.methodLink "SuccessKindsModel" 195 yn_M_isNumber ∈ wa_A := wc_17 _ (List.mem_of_getElem? (i := 12) rfl)
theorem wm_st_M_isNumber : Cond.static yn_M_isNumber ∈ wa_A := wc_17 _ (List.mem_of_getElem? (i := 13) rfl)
theorem wm_code_M_isNumber : Cond.code yn_M_isNumber prog_6_method_34_code 1 (Option.some FieldType.boolean) ∈ wa_A := wc_17 _ (List.mem_of_getElem? (i := 14) rfl)
theorem wm_ml_M_238 : Cond.methodLink "SuccessKindsModel" 238 yn_M_flatten ∈ wa_A := wc_17 _ (List.mem_of_getElem? (i := 15) rfl)
theorem wm_im_M_flatten : Cond.instanceMethod yn_M_flatten ∈ wa_A := wc_17 _ (List.mem_of_getElem? (i := 16) rfl)
theorem wm_code_M_flatten : Cond.code yn_M_flatten prog_6_method_44_code 4 none ∈ wa_A := wc_17 _ (List.mem_of_getElem? (i := 17) rfl)
theorem wm_ml_L_83 : Cond.methodLink "SuccessKindsLaw" 83 yn_M_part ∈ wa_A := wc_17 _ (List.mem_of_getElem? (i := 18) rfl)
theorem wm_im_M_part : Cond.instanceMethod yn_M_part ∈ wa_A := wc_17 _ (List.mem_of_getElem? (i := 19) rfl)
theorem wm_se_M_part : Cond.selects "SuccessKindsModel" yn_M_part yn_M_part ∈ wa_A := wc_17 _ (List.mem_of_getElem? (i := 20) rfl)
theorem wm_code_M_part : Cond.code yn_M_part prog_6_method_46_code 2 (Option.some FieldType.int) ∈ wa_A := wc_17 _ (List.mem_of_getElem? (i := 21) rfl)
theorem wm_ml_L_87 : Cond.methodLink "SuccessKindsLaw" 87 yn_M_calls ∈ wa_A := wc_17 _ (List.mem_of_getElem? (i := 22) rfl)
theorem wm_im_M_calls : Cond.instanceMethod yn_M_calls ∈ wa_A := wc_17 _ (List.mem_of_getElem? (i := 23) rfl)
theorem wm_se_M_calls : Cond.selects "SuccessKindsModel" yn_M_calls yn_M_calls ∈ wa_A := wc_17 _ (List.mem_of_getElem? (i := 24) rfl)
theorem wm_code_M_calls : Cond.code yn_M_calls prog_6_method_47_code 1 (Option.some FieldType.int) ∈ wa_A := wc_17 _ (List.mem_of_getElem? (i := 25) rfl)
theorem wm_se_P_partsExist : Cond.selects rn_P yn_P_partsExist yn_P_partsExist ∈ wa_A := wc_17 _ (List.mem_of_getElem? (i := 26) rfl)
theorem wm_se_P_measure : Cond.selects rn_P yn_P_measure yn_P_measure ∈ wa_A := wc_17 _ (List.mem_of_getElem? (i := 27) rfl)
theorem wm_se_P_depthOf : Cond.selects rn_P yn_P_depthOf yn_P_depthOf ∈ wa_A := wc_17 _ (List.mem_of_getElem? (i := 28) rfl)
theorem wm_se_P_sizeOf : Cond.selects rn_P yn_P_sizeOf yn_P_sizeOf ∈ wa_A := wc_17 _ (List.mem_of_getElem? (i := 29) rfl)
theorem wm_se_S_checkExpression : Cond.selects rn_S yn_S_checkExpression yn_S_checkExpression ∈ wa_A := wc_17 _ (List.mem_of_getElem? (i := 30) rfl)
theorem wm_se_K_growGives : Cond.selects rn_K yn_K_growGives yn_K_growGives ∈ wa_A := wc_17 _ (List.mem_of_getElem? (i := 31) rfl)
theorem wm_se_K_bodyKinds : Cond.selects rn_K yn_K_bodyKinds yn_K_bodyKinds ∈ wa_A := wc_17 _ (List.mem_of_getElem? (i := 32) rfl)
theorem wm_se_K_kinds : Cond.selects rn_K yn_K_kinds yn_K_kinds ∈ wa_A := wc_17 _ (List.mem_of_getElem? (i := 33) rfl)
theorem wm_se_K_caseKinds : Cond.selects rn_K yn_K_caseKinds yn_K_caseKinds ∈ wa_A := wc_17 _ (List.mem_of_getElem? (i := 34) rfl)
theorem wm_se_K_narrowed : Cond.selects rn_K yn_K_narrowed yn_K_narrowed ∈ wa_A := wc_17 _ (List.mem_of_getElem? (i := 35) rfl)
theorem wm_se_K_callKinds : Cond.selects rn_K yn_K_callKinds yn_K_callKinds ∈ wa_A := wc_17 _ (List.mem_of_getElem? (i := 36) rfl)
theorem wm_se_K_note : Cond.selects rn_K yn_K_note yn_K_note ∈ wa_A := wc_17 _ (List.mem_of_getElem? (i := 37) rfl)
theorem wm_se_K_letKinds : Cond.selects rn_K yn_K_letKinds yn_K_letKinds ∈ wa_A := wc_17 _ (List.mem_of_getElem? (i := 38) rfl)
theorem wm_se_K_kindsOfTwo : Cond.selects rn_K yn_K_kindsOfTwo yn_K_kindsOfTwo ∈ wa_A := wc_17 _ (List.mem_of_getElem? (i := 39) rfl)
theorem wm_se_K_growMay : Cond.selects rn_K yn_K_growMay yn_K_growMay ∈ wa_A := wc_18 _ (List.mem_of_getElem? (i := 0) rfl)
theorem wm_se_K_walkBody : Cond.selects rn_K yn_K_walkBody yn_K_walkBody ∈ wa_A := wc_18 _ (List.mem_of_getElem? (i := 1) rfl)
theorem wm_se_H_openFrame : Cond.selects rn_H yn_H_openFrame yn_H_openFrame ∈ wa_A := wc_18 _ (List.mem_of_getElem? (i := 2) rfl)
theorem wm_se_H_callWith : Cond.selects rn_H yn_H_callWith yn_H_callWith ∈ wa_A := wc_18 _ (List.mem_of_getElem? (i := 3) rfl)
theorem wm_se_H_workOut : Cond.selects rn_H yn_H_workOut yn_H_workOut ∈ wa_A := wc_18 _ (List.mem_of_getElem? (i := 4) rfl)
theorem wm_se_H_variable : Cond.selects rn_H yn_H_variable yn_H_variable ∈ wa_A := wc_18 _ (List.mem_of_getElem? (i := 5) rfl)
theorem wm_se_H_fail : Cond.selects rn_H yn_H_fail yn_H_fail ∈ wa_A := wc_18 _ (List.mem_of_getElem? (i := 6) rfl)
theorem wm_se_H_headOrTail : Cond.selects rn_H yn_H_headOrTail yn_H_headOrTail ∈ wa_A := wc_18 _ (List.mem_of_getElem? (i := 7) rfl)
theorem wm_se_H_oneOfCase : Cond.selects rn_H yn_H_oneOfCase yn_H_oneOfCase ∈ wa_A := wc_18 _ (List.mem_of_getElem? (i := 8) rfl)
theorem wm_se_H_letIn : Cond.selects rn_H yn_H_letIn yn_H_letIn ∈ wa_A := wc_18 _ (List.mem_of_getElem? (i := 9) rfl)
theorem wm_se_H_firstOrElse : Cond.selects rn_H yn_H_firstOrElse yn_H_firstOrElse ∈ wa_A := wc_18 _ (List.mem_of_getElem? (i := 10) rfl)
theorem wm_se_H_fromTwo : Cond.selects rn_H yn_H_fromTwo yn_H_fromTwo ∈ wa_A := wc_18 _ (List.mem_of_getElem? (i := 11) rfl)
theorem wm_se_H_pair : Cond.selects rn_H yn_H_pair yn_H_pair ∈ wa_A := wc_18 _ (List.mem_of_getElem? (i := 12) rfl)
theorem wm_se_H_calculate : Cond.selects rn_H yn_H_calculate yn_H_calculate ∈ wa_A := wc_18 _ (List.mem_of_getElem? (i := 13) rfl)
theorem wm_se_M_isPart : Cond.selects rn_M yn_M_isPart yn_M_isPart ∈ wa_A := wc_18 _ (List.mem_of_getElem? (i := 14) rfl)
theorem wm_se_M_know : Cond.selects rn_M yn_M_know yn_M_know ∈ wa_A := wc_18 _ (List.mem_of_getElem? (i := 15) rfl)
theorem wm_se_M_learn : Cond.selects rn_M yn_M_learn yn_M_learn ∈ wa_A := wc_18 _ (List.mem_of_getElem? (i := 16) rfl)
theorem wm_se_M_looked : Cond.selects rn_M yn_M_looked yn_M_looked ∈ wa_A := wc_18 _ (List.mem_of_getElem? (i := 17) rfl)
theorem wm_se_M_look : Cond.selects rn_M yn_M_look yn_M_look ∈ wa_A := wc_18 _ (List.mem_of_getElem? (i := 18) rfl)
theorem wm_se_M_lookOn : Cond.selects rn_M yn_M_lookOn yn_M_lookOn ∈ wa_A := wc_18 _ (List.mem_of_getElem? (i := 19) rfl)
theorem wm_se_M_leaf : Cond.selects rn_M yn_M_leaf yn_M_leaf ∈ wa_A := wc_18 _ (List.mem_of_getElem? (i := 20) rfl)
theorem wm_se_M_close : Cond.selects rn_M yn_M_close yn_M_close ∈ wa_A := wc_18 _ (List.mem_of_getElem? (i := 21) rfl)
theorem wm_se_M_lookCase : Cond.selects rn_M yn_M_lookCase yn_M_lookCase ∈ wa_A := wc_18 _ (List.mem_of_getElem? (i := 22) rfl)
theorem wm_se_M_together : Cond.selects rn_M yn_M_together yn_M_together ∈ wa_A := wc_18 _ (List.mem_of_getElem? (i := 23) rfl)
theorem wm_se_M_called : Cond.selects rn_M yn_M_called yn_M_called ∈ wa_A := wc_18 _ (List.mem_of_getElem? (i := 24) rfl)
theorem wm_se_M_walk : Cond.selects rn_M yn_M_walk yn_M_walk ∈ wa_A := wc_18 _ (List.mem_of_getElem? (i := 25) rfl)
theorem wm_se_M_worked : Cond.selects rn_M yn_M_worked yn_M_worked ∈ wa_A := wc_18 _ (List.mem_of_getElem? (i := 26) rfl)
theorem wm_se_M_work : Cond.selects rn_M yn_M_work yn_M_work ∈ wa_A := wc_18 _ (List.mem_of_getElem? (i := 27) rfl)
theorem wm_se_M_go : Cond.selects rn_M yn_M_go yn_M_go ∈ wa_A := wc_18 _ (List.mem_of_getElem? (i := 28) rfl)
theorem wm_se_M_goUp : Cond.selects rn_M yn_M_goUp yn_M_goUp ∈ wa_A := wc_18 _ (List.mem_of_getElem? (i := 29) rfl)
theorem wm_se_M_workOn : Cond.selects rn_M yn_M_workOn yn_M_workOn ∈ wa_A := wc_18 _ (List.mem_of_getElem? (i := 30) rfl)
theorem wm_se_M_leafValue : Cond.selects rn_M yn_M_leafValue yn_M_leafValue ∈ wa_A := wc_18 _ (List.mem_of_getElem? (i := 31) rfl)
theorem wm_se_M_end : Cond.selects rn_M yn_M_end yn_M_end ∈ wa_A := wc_18 _ (List.mem_of_getElem? (i := 32) rfl)
theorem wm_se_M_value : Cond.selects rn_M yn_M_value yn_M_value ∈ wa_A := wc_18 _ (List.mem_of_getElem? (i := 33) rfl)
theorem wm_se_M_fail : Cond.selects rn_M yn_M_fail yn_M_fail ∈ wa_A := wc_18 _ (List.mem_of_getElem? (i := 34) rfl)
theorem wm_se_M_fails : Cond.selects rn_M yn_M_fails yn_M_fails ∈ wa_A := wc_18 _ (List.mem_of_getElem? (i := 35) rfl)
theorem wm_se_M_callOn : Cond.selects rn_M yn_M_callOn yn_M_callOn ∈ wa_A := wc_18 _ (List.mem_of_getElem? (i := 36) rfl)
theorem wm_se_M_call : Cond.selects rn_M yn_M_call yn_M_call ∈ wa_A := wc_18 _ (List.mem_of_getElem? (i := 37) rfl)
theorem wm_se_M_combine : Cond.selects rn_M yn_M_combine yn_M_combine ∈ wa_A := wc_18 _ (List.mem_of_getElem? (i := 38) rfl)
theorem wm_se_M_pair : Cond.selects rn_M yn_M_pair yn_M_pair ∈ wa_A := wc_18 _ (List.mem_of_getElem? (i := 39) rfl)
theorem wm_se_M_same : Cond.selects rn_M yn_M_same yn_M_same ∈ wa_A := wc_19 _ (List.mem_of_getElem? (i := 0) rfl)
theorem wm_se_M_flatten : Cond.selects rn_M yn_M_flatten yn_M_flatten ∈ wa_A := wc_19 _ (List.mem_of_getElem? (i := 1) rfl)
theorem wm_x_st : Cond.static ⟨"java/lang/Math", "max", "(II)I"⟩ ∈ wa_A := wc_4 _ (List.mem_of_getElem? (i := 1) rfl)
theorem wm_x_in : Cond.initialized "java/lang/Math" ∈ wa_A := wc_0 _ (List.mem_of_getElem? (i := 7) rfl)
theorem wm_x_code : Cond.code Lib.Math.max.name Lib.Math.max.code 2 (some .int) ∈ wa_A := wc_4 _ (List.mem_of_getElem? (i := 2) rfl)
theorem wf_S : ∀ z ∈ u_ws rn_S ft_S 3, z ∈ wa_A := by
  intro z hz
  obtain ⟨j, hj, rfl⟩ := List.mem_map.mp hz
  have hj := List.mem_range.mp hj
  by_cases h0 : j = 0
  · subst h0; exact wc_2 _ (List.mem_of_getElem? (i := 39) rfl)
  by_cases h1 : j = 1
  · subst h1; exact wc_3 _ (List.mem_of_getElem? (i := 0) rfl)
  by_cases h2 : j = 2
  · subst h2; exact wc_3 _ (List.mem_of_getElem? (i := 1) rfl)
  omega
theorem wf_P : ∀ z ∈ u_ws rn_P ft_P 9, z ∈ wa_A := by
  intro z hz
  obtain ⟨j, hj, rfl⟩ := List.mem_map.mp hz
  have hj := List.mem_range.mp hj
  by_cases h0 : j = 0
  · subst h0; exact wc_1 _ (List.mem_of_getElem? (i := 13) rfl)
  by_cases h1 : j = 1
  · subst h1; exact wc_1 _ (List.mem_of_getElem? (i := 14) rfl)
  by_cases h2 : j = 2
  · subst h2; exact wc_1 _ (List.mem_of_getElem? (i := 15) rfl)
  by_cases h3 : j = 3
  · subst h3; exact wc_1 _ (List.mem_of_getElem? (i := 16) rfl)
  by_cases h4 : j = 4
  · subst h4; exact wc_1 _ (List.mem_of_getElem? (i := 17) rfl)
  by_cases h5 : j = 5
  · subst h5; exact wc_1 _ (List.mem_of_getElem? (i := 18) rfl)
  by_cases h6 : j = 6
  · subst h6; exact wc_1 _ (List.mem_of_getElem? (i := 19) rfl)
  by_cases h7 : j = 7
  · subst h7; exact wc_1 _ (List.mem_of_getElem? (i := 20) rfl)
  by_cases h8 : j = 8
  · subst h8; exact wc_1 _ (List.mem_of_getElem? (i := 21) rfl)
  omega
theorem wf_K : ∀ z ∈ u_ws rn_K ft_K 5, z ∈ wa_A := by
  intro z hz
  obtain ⟨j, hj, rfl⟩ := List.mem_map.mp hz
  have hj := List.mem_range.mp hj
  by_cases h0 : j = 0
  · subst h0; exact wc_1 _ (List.mem_of_getElem? (i := 35) rfl)
  by_cases h1 : j = 1
  · subst h1; exact wc_1 _ (List.mem_of_getElem? (i := 36) rfl)
  by_cases h2 : j = 2
  · subst h2; exact wc_1 _ (List.mem_of_getElem? (i := 37) rfl)
  by_cases h3 : j = 3
  · subst h3; exact wc_1 _ (List.mem_of_getElem? (i := 38) rfl)
  by_cases h4 : j = 4
  · subst h4; exact wc_1 _ (List.mem_of_getElem? (i := 39) rfl)
  omega
theorem wf_H : ∀ z ∈ u_ws rn_H ft_H 12, z ∈ wa_A := by
  intro z hz
  obtain ⟨j, hj, rfl⟩ := List.mem_map.mp hz
  have hj := List.mem_range.mp hj
  by_cases h0 : j = 0
  · subst h0; exact wc_2 _ (List.mem_of_getElem? (i := 22) rfl)
  by_cases h1 : j = 1
  · subst h1; exact wc_2 _ (List.mem_of_getElem? (i := 23) rfl)
  by_cases h2 : j = 2
  · subst h2; exact wc_2 _ (List.mem_of_getElem? (i := 24) rfl)
  by_cases h3 : j = 3
  · subst h3; exact wc_2 _ (List.mem_of_getElem? (i := 25) rfl)
  by_cases h4 : j = 4
  · subst h4; exact wc_2 _ (List.mem_of_getElem? (i := 26) rfl)
  by_cases h5 : j = 5
  · subst h5; exact wc_2 _ (List.mem_of_getElem? (i := 27) rfl)
  by_cases h6 : j = 6
  · subst h6; exact wc_2 _ (List.mem_of_getElem? (i := 28) rfl)
  by_cases h7 : j = 7
  · subst h7; exact wc_2 _ (List.mem_of_getElem? (i := 29) rfl)
  by_cases h8 : j = 8
  · subst h8; exact wc_2 _ (List.mem_of_getElem? (i := 30) rfl)
  by_cases h9 : j = 9
  · subst h9; exact wc_2 _ (List.mem_of_getElem? (i := 31) rfl)
  by_cases h10 : j = 10
  · subst h10; exact wc_2 _ (List.mem_of_getElem? (i := 32) rfl)
  by_cases h11 : j = 11
  · subst h11; exact wc_2 _ (List.mem_of_getElem? (i := 33) rfl)
  omega
theorem wf_M : ∀ z ∈ u_ws rn_M ft_M 36, z ∈ wa_A := by
  intro z hz
  obtain ⟨j, hj, rfl⟩ := List.mem_map.mp hz
  have hj := List.mem_range.mp hj
  by_cases h0 : j = 0
  · subst h0; exact wc_13 _ (List.mem_of_getElem? (i := 0) rfl)
  by_cases h1 : j = 1
  · subst h1; exact wc_13 _ (List.mem_of_getElem? (i := 1) rfl)
  by_cases h2 : j = 2
  · subst h2; exact wc_13 _ (List.mem_of_getElem? (i := 2) rfl)
  by_cases h3 : j = 3
  · subst h3; exact wc_13 _ (List.mem_of_getElem? (i := 3) rfl)
  by_cases h4 : j = 4
  · subst h4; exact wc_13 _ (List.mem_of_getElem? (i := 4) rfl)
  by_cases h5 : j = 5
  · subst h5; exact wc_13 _ (List.mem_of_getElem? (i := 5) rfl)
  by_cases h6 : j = 6
  · subst h6; exact wc_13 _ (List.mem_of_getElem? (i := 6) rfl)
  by_cases h7 : j = 7
  · subst h7; exact wc_13 _ (List.mem_of_getElem? (i := 7) rfl)
  by_cases h8 : j = 8
  · subst h8; exact wc_13 _ (List.mem_of_getElem? (i := 8) rfl)
  by_cases h9 : j = 9
  · subst h9; exact wc_13 _ (List.mem_of_getElem? (i := 9) rfl)
  by_cases h10 : j = 10
  · subst h10; exact wc_13 _ (List.mem_of_getElem? (i := 10) rfl)
  by_cases h11 : j = 11
  · subst h11; exact wc_13 _ (List.mem_of_getElem? (i := 11) rfl)
  by_cases h12 : j = 12
  · subst h12; exact wc_13 _ (List.mem_of_getElem? (i := 12) rfl)
  by_cases h13 : j = 13
  · subst h13; exact wc_13 _ (List.mem_of_getElem? (i := 13) rfl)
  by_cases h14 : j = 14
  · subst h14; exact wc_13 _ (List.mem_of_getElem? (i := 14) rfl)
  by_cases h15 : j = 15
  · subst h15; exact wc_13 _ (List.mem_of_getElem? (i := 15) rfl)
  by_cases h16 : j = 16
  · subst h16; exact wc_13 _ (List.mem_of_getElem? (i := 16) rfl)
  by_cases h17 : j = 17
  · subst h17; exact wc_13 _ (List.mem_of_getElem? (i := 17) rfl)
  by_cases h18 : j = 18
  · subst h18; exact wc_13 _ (List.mem_of_getElem? (i := 18) rfl)
  by_cases h19 : j = 19
  · subst h19; exact wc_13 _ (List.mem_of_getElem? (i := 19) rfl)
  by_cases h20 : j = 20
  · subst h20; exact wc_13 _ (List.mem_of_getElem? (i := 20) rfl)
  by_cases h21 : j = 21
  · subst h21; exact wc_13 _ (List.mem_of_getElem? (i := 21) rfl)
  by_cases h22 : j = 22
  · subst h22; exact wc_13 _ (List.mem_of_getElem? (i := 22) rfl)
  by_cases h23 : j = 23
  · subst h23; exact wc_13 _ (List.mem_of_getElem? (i := 23) rfl)
  by_cases h24 : j = 24
  · subst h24; exact wc_13 _ (List.mem_of_getElem? (i := 24) rfl)
  by_cases h25 : j = 25
  · subst h25; exact wc_13 _ (List.mem_of_getElem? (i := 25) rfl)
  by_cases h26 : j = 26
  · subst h26; exact wc_13 _ (List.mem_of_getElem? (i := 26) rfl)
  by_cases h27 : j = 27
  · subst h27; exact wc_13 _ (List.mem_of_getElem? (i := 27) rfl)
  by_cases h28 : j = 28
  · subst h28; exact wc_13 _ (List.mem_of_getElem? (i := 28) rfl)
  by_cases h29 : j = 29
  · subst h29; exact wc_13 _ (List.mem_of_getElem? (i := 29) rfl)
  by_cases h30 : j = 30
  · subst h30; exact wc_13 _ (List.mem_of_getElem? (i := 30) rfl)
  by_cases h31 : j = 31
  · subst h31; exact wc_13 _ (List.mem_of_getElem? (i := 31) rfl)
  by_cases h32 : j = 32
  · subst h32; exact wc_13 _ (List.mem_of_getElem? (i := 32) rfl)
  by_cases h33 : j = 33
  · subst h33; exact wc_13 _ (List.mem_of_getElem? (i := 33) rfl)
  by_cases h34 : j = 34
  · subst h34; exact wc_13 _ (List.mem_of_getElem? (i := 34) rfl)
  by_cases h35 : j = 35
  · subst h35; exact wc_13 _ (List.mem_of_getElem? (i := 35) rfl)
  omega
