def RX0 : String := "ScrapYard$ChargeSearch"
def TX0 : u_T := fun k => match k with
  | 0 => ("ScrapYard$ChargeSearch", "chosen", "[I", true)
  | 1 => ("ScrapYard$ChargeSearch", "tried", "[I", true)
  | 2 => ("ScrapYard$ChargeSearch", "most", "[I", true)
  | 3 => ("ScrapYard$ChargeSearch", "given", "[[I", true)
  | 4 => ("ScrapYard$ChargeSearch", "least", "[[I", true)
  | 5 => ("ScrapYard$ChargeSearch", "limits", "[I", true)
  | _ => ("ScrapYard$ChargeSearch", "sums", "[I", true)
def tyX0 : Nat → FieldType := fun k => match k with
  | 0 => .array .int
  | 1 => .array .int
  | 2 => .array .int
  | 3 => .array (.array .int)
  | 4 => .array (.array .int)
  | 5 => .array .int
  | _ => .array .int
theorem nmX0 : ∀ a, a < 7 → ∀ b, b < 7 → a ≠ b → (TX0 a).2.1 ≠ (TX0 b).2.1 := by decide +kernel
theorem tyX0_ok : ∀ k, k < 7 → parseFieldDescriptor (TX0 k).2.2.1 = some (tyX0 k) := by decide +kernel
abbrev cX0_init : ByteArray := prog_2_method_1_code
def yX0_init : MethodName := ⟨RX0, "<init>", "()V"⟩
abbrev cX0_leastCost : ByteArray := prog_2_method_2_code
def yX0_leastCost : MethodName := ⟨RX0, "leastCost", "([LScrapYard$Heap;LScrapYard$Spans;I)I"⟩
abbrev cX0_at : ByteArray := prog_2_method_3_code
def yX0_at : MethodName := ⟨RX0, "at", "(II)I"⟩
abbrev cX0_weigh : ByteArray := prog_2_method_4_code
def yX0_weigh : MethodName := ⟨RX0, "weigh", "(ILScrapYard$Heap;I)V"⟩
abbrev cX0_addTon : ByteArray := prog_2_method_5_code
def yX0_addTon : MethodName := ⟨RX0, "addTon", "(ILScrapYard$Layer;)V"⟩
abbrev cX0_boundSum : ByteArray := prog_2_method_6_code
def yX0_boundSum : MethodName := ⟨RX0, "boundSum", "(II)V"⟩
abbrev cX0_tryFrom : ByteArray := prog_2_method_7_code
def yX0_tryFrom : MethodName := ⟨RX0, "tryFrom", "(II)V"⟩
abbrev cX0_hasHope : ByteArray := prog_2_method_8_code
def yX0_hasHope : MethodName := ⟨RX0, "hasHope", "(II)Z"⟩
abbrev cX0_addGiven : ByteArray := prog_2_method_9_code
def yX0_addGiven : MethodName := ⟨RX0, "addGiven", "(II)V"⟩
abbrev cX0_keep : ByteArray := prog_2_method_10_code
def yX0_keep : MethodName := ⟨RX0, "keep", "()V"⟩
def RX1 : String := "ScrapYard$Contract"
def TX1 : u_T := fun k => match k with
  | 0 => ("ScrapYard$Contract", "number", "I", true)
  | 1 => ("ScrapYard$Contract", "seller", "LScrapYard$Seller;", true)
  | 2 => ("ScrapYard$Contract", "day", "I", true)
  | 3 => ("ScrapYard$Contract", "grades", "Ljava/util/ArrayList;", true)
  | _ => ("ScrapYard$Contract", "elsePay", "I", false)
def tyX1 : Nat → FieldType := fun k => match k with
  | 0 => .int
  | 1 => .object "ScrapYard$Seller"
  | 2 => .int
  | 3 => .object "java/util/ArrayList"
  | _ => .int
theorem nmX1 : ∀ a, a < 5 → ∀ b, b < 5 → a ≠ b → (TX1 a).2.1 ≠ (TX1 b).2.1 := by decide +kernel
theorem tyX1_ok : ∀ k, k < 5 → parseFieldDescriptor (TX1 k).2.2.1 = some (tyX1 k) := by decide +kernel
abbrev cX1_init : ByteArray := prog_3_method_1_code
def yX1_init : MethodName := ⟨RX1, "<init>", "(ILScrapYard$Seller;I)V"⟩
abbrev cX1_gradeOf : ByteArray := prog_3_method_2_code
def yX1_gradeOf : MethodName := ⟨RX1, "gradeOf", "(LScrapYard$Spans;)I"⟩
abbrev cX1_payOf : ByteArray := prog_3_method_3_code
def yX1_payOf : MethodName := ⟨RX1, "payOf", "(I)I"⟩
def RX2 : String := "ScrapYard$ContractReader"
def TX2 : u_T := fun k => match k with
  | 0 => ("ScrapYard$ContractReader", "text", "Ljava/lang/String;", true)
  | 1 => ("ScrapYard$ContractReader", "contract", "LScrapYard$Contract;", true)
  | 2 => ("ScrapYard$ContractReader", "at", "I", false)
  | 3 => ("ScrapYard$ContractReader", "place", "I", false)
  | _ => ("ScrapYard$ContractReader", "number", "I", false)
def tyX2 : Nat → FieldType := fun k => match k with
  | 0 => .object "java/lang/String"
  | 1 => .object "ScrapYard$Contract"
  | 2 => .int
  | 3 => .int
  | _ => .int
theorem nmX2 : ∀ a, a < 5 → ∀ b, b < 5 → a ≠ b → (TX2 a).2.1 ≠ (TX2 b).2.1 := by decide +kernel
theorem tyX2_ok : ∀ k, k < 5 → parseFieldDescriptor (TX2 k).2.2.1 = some (tyX2 k) := by decide +kernel
abbrev cX2_init : ByteArray := prog_4_method_1_code
def yX2_init : MethodName := ⟨RX2, "<init>", "(Ljava/lang/String;LScrapYard$Contract;)V"⟩
abbrev cX2_readsAll : ByteArray := prog_4_method_2_code
def yX2_readsAll : MethodName := ⟨RX2, "readsAll", "()Z"⟩
abbrev cX2_readsGrade : ByteArray := prog_4_method_3_code
def yX2_readsGrade : MethodName := ⟨RX2, "readsGrade", "()Z"⟩
abbrev cX2_readsTest : ByteArray := prog_4_method_4_code
def yX2_readsTest : MethodName := ⟨RX2, "readsTest", "(LScrapYard$Grade;)Z"⟩
abbrev cX2_readsPay : ByteArray := prog_4_method_5_code
def yX2_readsPay : MethodName := ⟨RX2, "readsPay", "()Z"⟩
abbrev cX2_skipBlanks : ByteArray := prog_4_method_6_code
def yX2_skipBlanks : MethodName := ⟨RX2, "skipBlanks", "()V"⟩
abbrev cX2_nextWord : ByteArray := prog_4_method_7_code
def yX2_nextWord : MethodName := ⟨RX2, "nextWord", "()Ljava/lang/String;"⟩
abbrev cX2_takesWord : ByteArray := prog_4_method_8_code
def yX2_takesWord : MethodName := ⟨RX2, "takesWord", "(Ljava/lang/String;)Z"⟩
abbrev cX2_takenMetal : ByteArray := prog_4_method_9_code
def yX2_takenMetal : MethodName := ⟨RX2, "takenMetal", "()I"⟩
abbrev cX2_metalOf : ByteArray := prog_4_method_10_code
def yX2_metalOf : MethodName := ⟨RX2, "metalOf", "(Ljava/lang/String;)I"⟩
abbrev cX2_takesSign : ByteArray := prog_4_method_11_code
def yX2_takesSign : MethodName := ⟨RX2, "takesSign", "(C)Z"⟩
abbrev cX2_takesNumber : ByteArray := prog_4_method_12_code
def yX2_takesNumber : MethodName := ⟨RX2, "takesNumber", "()Z"⟩
abbrev cX2_isBetween : ByteArray := prog_4_method_13_code
def yX2_isBetween : MethodName := ⟨RX2, "isBetween", "(CCC)Z"⟩
def RX3 : String := "ScrapYard$Grade"
def TX3 : u_T := fun k => match k with
  | 0 => ("ScrapYard$Grade", "below", "[I", true)
  | 1 => ("ScrapYard$Grade", "above", "[I", true)
  | _ => ("ScrapYard$Grade", "pay", "I", false)
def tyX3 : Nat → FieldType := fun k => match k with
  | 0 => .array .int
  | 1 => .array .int
  | _ => .int
theorem nmX3 : ∀ a, a < 3 → ∀ b, b < 3 → a ≠ b → (TX3 a).2.1 ≠ (TX3 b).2.1 := by decide +kernel
theorem tyX3_ok : ∀ k, k < 3 → parseFieldDescriptor (TX3 k).2.2.1 = some (tyX3 k) := by decide +kernel
abbrev cX3_init : ByteArray := prog_5_method_1_code
def yX3_init : MethodName := ⟨RX3, "<init>", "()V"⟩
abbrev cX3_addTest : ByteArray := prog_5_method_2_code
def yX3_addTest : MethodName := ⟨RX3, "addTest", "(IZI)V"⟩
abbrev cX3_isSure : ByteArray := prog_5_method_3_code
def yX3_isSure : MethodName := ⟨RX3, "isSure", "(LScrapYard$Spans;)Z"⟩
def RX4 : String := "ScrapYard$Heap"
def TX4 : u_T := fun k => match k with
  | _ => ("ScrapYard$Heap", "layers", "Ljava/util/ArrayList;", true)
def tyX4 : Nat → FieldType := fun k => match k with
  | _ => .object "java/util/ArrayList"
theorem nmX4 : ∀ a, a < 1 → ∀ b, b < 1 → a ≠ b → (TX4 a).2.1 ≠ (TX4 b).2.1 := by decide +kernel
theorem tyX4_ok : ∀ k, k < 1 → parseFieldDescriptor (TX4 k).2.2.1 = some (tyX4 k) := by decide +kernel
abbrev cX4_init : ByteArray := prog_6_method_1_code
def yX4_init : MethodName := ⟨RX4, "<init>", "()V"⟩
abbrev cX4_fromTop : ByteArray := prog_6_method_2_code
def yX4_fromTop : MethodName := ⟨RX4, "fromTop", "(I)LScrapYard$Layer;"⟩
abbrev cX4_splitsFor : ByteArray := prog_6_method_3_code
def yX4_splitsFor : MethodName := ⟨RX4, "splitsFor", "(I)Z"⟩
abbrev cX4_giveTo : ByteArray := prog_6_method_4_code
def yX4_giveTo : MethodName := ⟨RX4, "giveTo", "(Ljava/util/ArrayList;I)V"⟩
abbrev cX4_becomeOneLayer : ByteArray := prog_6_method_5_code
def yX4_becomeOneLayer : MethodName := ⟨RX4, "becomeOneLayer", "()V"⟩
abbrev cX4_narrowLayersOf : ByteArray := prog_6_method_6_code
def yX4_narrowLayersOf : MethodName := ⟨RX4, "narrowLayersOf", "(LScrapYard$Load;III)V"⟩
def RX5 : String := "ScrapYard$Kind"
def TX5 : u_T := fun k => match k with
  | 0 => ("ScrapYard$Kind", "number", "I", true)
  | _ => ("ScrapYard$Kind", "spans", "LScrapYard$Spans;", true)
def tyX5 : Nat → FieldType := fun k => match k with
  | 0 => .int
  | _ => .object "ScrapYard$Spans"
theorem nmX5 : ∀ a, a < 2 → ∀ b, b < 2 → a ≠ b → (TX5 a).2.1 ≠ (TX5 b).2.1 := by decide +kernel
theorem tyX5_ok : ∀ k, k < 2 → parseFieldDescriptor (TX5 k).2.2.1 = some (tyX5 k) := by decide +kernel
abbrev cX5_init : ByteArray := prog_7_method_1_code
def yX5_init : MethodName := ⟨RX5, "<init>", "(I)V"⟩
def RX6 : String := "ScrapYard$Layer"
def TX6 : u_T := fun k => match k with
  | 0 => ("ScrapYard$Layer", "tons", "I", false)
  | 1 => ("ScrapYard$Layer", "load", "LScrapYard$Load;", true)
  | 2 => ("ScrapYard$Layer", "cost", "I", true)
  | _ => ("ScrapYard$Layer", "spans", "LScrapYard$Spans;", true)
def tyX6 : Nat → FieldType := fun k => match k with
  | 0 => .int
  | 1 => .object "ScrapYard$Load"
  | 2 => .int
  | _ => .object "ScrapYard$Spans"
theorem nmX6 : ∀ a, a < 4 → ∀ b, b < 4 → a ≠ b → (TX6 a).2.1 ≠ (TX6 b).2.1 := by decide +kernel
theorem tyX6_ok : ∀ k, k < 4 → parseFieldDescriptor (TX6 k).2.2.1 = some (tyX6 k) := by decide +kernel
abbrev cX6_init : ByteArray := prog_8_method_1_code
def yX6_init : MethodName := ⟨RX6, "<init>", "(ILScrapYard$Load;ILScrapYard$Spans;)V"⟩
abbrev cX6_loadNumber : ByteArray := prog_8_method_2_code
def yX6_loadNumber : MethodName := ⟨RX6, "loadNumber", "()I"⟩
abbrev cX6_splitOff : ByteArray := prog_8_method_3_code
def yX6_splitOff : MethodName := ⟨RX6, "splitOff", "(I)LScrapYard$Layer;"⟩
def RX7 : String := "ScrapYard$Load"
def TX7 : u_T := fun k => match k with
  | 0 => ("ScrapYard$Load", "number", "I", true)
  | 1 => ("ScrapYard$Load", "seller", "LScrapYard$Seller;", true)
  | 2 => ("ScrapYard$Load", "kind", "LScrapYard$Kind;", true)
  | 3 => ("ScrapYard$Load", "tons", "I", true)
  | 4 => ("ScrapYard$Load", "day", "I", true)
  | 5 => ("ScrapYard$Load", "contract", "LScrapYard$Contract;", true)
  | 6 => ("ScrapYard$Load", "spans", "LScrapYard$Spans;", true)
  | 7 => ("ScrapYard$Load", "grade", "I", false)
  | _ => ("ScrapYard$Load", "pay", "I", false)
def tyX7 : Nat → FieldType := fun k => match k with
  | 0 => .int
  | 1 => .object "ScrapYard$Seller"
  | 2 => .object "ScrapYard$Kind"
  | 3 => .int
  | 4 => .int
  | 5 => .object "ScrapYard$Contract"
  | 6 => .object "ScrapYard$Spans"
  | 7 => .int
  | _ => .int
theorem nmX7 : ∀ a, a < 9 → ∀ b, b < 9 → a ≠ b → (TX7 a).2.1 ≠ (TX7 b).2.1 := by decide +kernel
theorem tyX7_ok : ∀ k, k < 9 → parseFieldDescriptor (TX7 k).2.2.1 = some (tyX7 k) := by decide +kernel
abbrev cX7_init : ByteArray := prog_9_method_1_code
def yX7_init : MethodName := ⟨RX7, "<init>", "(ILScrapYard$Seller;LScrapYard$Kind;IILScrapYard$Contract;)V"⟩
abbrev cX7_gradeAnew : ByteArray := prog_9_method_2_code
def yX7_gradeAnew : MethodName := ⟨RX7, "gradeAnew", "()V"⟩
def RX8 : String := "ScrapYard$Melt"
def TX8 : u_T := fun k => match k with
  | 0 => ("ScrapYard$Melt", "tons", "I", true)
  | _ => ("ScrapYard$Melt", "portions", "Ljava/util/ArrayList;", true)
def tyX8 : Nat → FieldType := fun k => match k with
  | 0 => .int
  | _ => .object "java/util/ArrayList"
theorem nmX8 : ∀ a, a < 2 → ∀ b, b < 2 → a ≠ b → (TX8 a).2.1 ≠ (TX8 b).2.1 := by decide +kernel
theorem tyX8_ok : ∀ k, k < 2 → parseFieldDescriptor (TX8 k).2.2.1 = some (tyX8 k) := by decide +kernel
abbrev cX8_init : ByteArray := prog_10_method_1_code
def yX8_init : MethodName := ⟨RX8, "<init>", "(I)V"⟩
abbrev cX8_narrowsAll : ByteArray := prog_10_method_2_code
def yX8_narrowsAll : MethodName := ⟨RX8, "narrowsAll", "(III)Z"⟩
abbrev cX8_atLeast : ByteArray := prog_10_method_3_code
def yX8_atLeast : MethodName := ⟨RX8, "atLeast", "(LScrapYard$Layer;III)I"⟩
abbrev cX8_atMost : ByteArray := prog_10_method_4_code
def yX8_atMost : MethodName := ⟨RX8, "atMost", "(LScrapYard$Layer;III)I"⟩
abbrev cX8_putUsualRight : ByteArray := prog_10_method_5_code
def yX8_putUsualRight : MethodName := ⟨RX8, "putUsualRight", "(I)V"⟩
def RX9 : String := "ScrapYard$Seller"
def TX9 : u_T := fun k => match k with
  | 0 => ("ScrapYard$Seller", "number", "I", true)
  | 1 => ("ScrapYard$Seller", "ownParts", "[I", true)
  | _ => ("ScrapYard$Seller", "paid", "J", false)
def tyX9 : Nat → FieldType := fun k => match k with
  | 0 => .int
  | 1 => .array .int
  | _ => .long
theorem nmX9 : ∀ a, a < 3 → ∀ b, b < 3 → a ≠ b → (TX9 a).2.1 ≠ (TX9 b).2.1 := by decide +kernel
theorem tyX9_ok : ∀ k, k < 3 → parseFieldDescriptor (TX9 k).2.2.1 = some (tyX9 k) := by decide +kernel
abbrev cX9_init : ByteArray := prog_11_method_1_code
def yX9_init : MethodName := ⟨RX9, "<init>", "(I)V"⟩
abbrev cX9_usualPart : ByteArray := prog_11_method_2_code
def yX9_usualPart : MethodName := ⟨RX9, "usualPart", "(LScrapYard$Kind;I)I"⟩
abbrev cX9_putRight : ByteArray := prog_11_method_3_code
def yX9_putRight : MethodName := ⟨RX9, "putRight", "(LScrapYard$Kind;ILScrapYard$Spans;)V"⟩
def RX10 : String := "ScrapYard$Spans"
def TX10 : u_T := fun k => match k with
  | _ => ("ScrapYard$Spans", "parts", "[I", true)
def tyX10 : Nat → FieldType := fun k => match k with
  | _ => .array .int
theorem nmX10 : ∀ a, a < 1 → ∀ b, b < 1 → a ≠ b → (TX10 a).2.1 ≠ (TX10 b).2.1 := by decide +kernel
theorem tyX10_ok : ∀ k, k < 1 → parseFieldDescriptor (TX10 k).2.2.1 = some (tyX10 k) := by decide +kernel
abbrev cX10_init : ByteArray := prog_12_method_1_code
def yX10_init : MethodName := ⟨RX10, "<init>", "()V"⟩
abbrev cX10_low : ByteArray := prog_12_method_2_code
def yX10_low : MethodName := ⟨RX10, "low", "(I)I"⟩
abbrev cX10_high : ByteArray := prog_12_method_3_code
def yX10_high : MethodName := ⟨RX10, "high", "(I)I"⟩
abbrev cX10_put : ByteArray := prog_12_method_4_code
def yX10_put : MethodName := ⟨RX10, "put", "(III)V"⟩
abbrev cX10_hasCommon : ByteArray := prog_12_method_5_code
def yX10_hasCommon : MethodName := ⟨RX10, "hasCommon", "(III)Z"⟩
abbrev cX10_narrow : ByteArray := prog_12_method_6_code
def yX10_narrow : MethodName := ⟨RX10, "narrow", "(III)V"⟩
abbrev cX10_copyFrom : ByteArray := prog_12_method_7_code
def yX10_copyFrom : MethodName := ⟨RX10, "copyFrom", "(LScrapYard$Spans;)V"⟩
abbrev cX10_partOrThrow : ByteArray := prog_12_method_8_code
def yX10_partOrThrow : MethodName := ⟨RX10, "partOrThrow", "(II)I"⟩
def RX11 : String := "ScrapYard"
def TX11 : u_T := fun k => match k with
  | 0 => ("ScrapYard", "kinds", "Ljava/util/ArrayList;", true)
  | 1 => ("ScrapYard", "sellers", "Ljava/util/ArrayList;", true)
  | 2 => ("ScrapYard", "contracts", "Ljava/util/ArrayList;", true)
  | 3 => ("ScrapYard", "loads", "Ljava/util/ArrayList;", true)
  | 4 => ("ScrapYard", "melts", "Ljava/util/ArrayList;", true)
  | 5 => ("ScrapYard", "heaps", "[LScrapYard$Heap;", true)
  | 6 => ("ScrapYard", "asked", "LScrapYard$Spans;", true)
  | 7 => ("ScrapYard", "search", "LScrapYard$ChargeSearch;", true)
  | 8 => ("ScrapYard", "tape", "Ljava/lang/StringBuilder;", true)
  | _ => ("ScrapYard", "today", "I", false)
def tyX11 : Nat → FieldType := fun k => match k with
  | 0 => .object "java/util/ArrayList"
  | 1 => .object "java/util/ArrayList"
  | 2 => .object "java/util/ArrayList"
  | 3 => .object "java/util/ArrayList"
  | 4 => .object "java/util/ArrayList"
  | 5 => .array (.object "ScrapYard$Heap")
  | 6 => .object "ScrapYard$Spans"
  | 7 => .object "ScrapYard$ChargeSearch"
  | 8 => .object "java/lang/StringBuilder"
  | _ => .int
theorem nmX11 : ∀ a, a < 10 → ∀ b, b < 10 → a ≠ b → (TX11 a).2.1 ≠ (TX11 b).2.1 := by decide +kernel
theorem tyX11_ok : ∀ k, k < 10 → parseFieldDescriptor (TX11 k).2.2.1 = some (tyX11 k) := by decide +kernel
abbrev cX11_init : ByteArray := prog_1_method_1_code
def yX11_init : MethodName := ⟨RX11, "<init>", "()V"⟩
abbrev cX11_kind : ByteArray := prog_1_method_2_code
def yX11_kind : MethodName := ⟨RX11, "kind", "()I"⟩
abbrev cX11_span : ByteArray := prog_1_method_3_code
def yX11_span : MethodName := ⟨RX11, "span", "(IIII)I"⟩
abbrev cX11_seller : ByteArray := prog_1_method_4_code
def yX11_seller : MethodName := ⟨RX11, "seller", "()I"⟩
abbrev cX11_feed : ByteArray := prog_1_method_5_code
def yX11_feed : MethodName := ⟨RX11, "feed", "(IIIII)I"⟩
abbrev cX11_contract : ByteArray := prog_1_method_6_code
def yX11_contract : MethodName := ⟨RX11, "contract", "(III)I"⟩
abbrev cX11_force : ByteArray := prog_1_method_7_code
def yX11_force : MethodName := ⟨RX11, "force", "(II)I"⟩
abbrev cX11_usual : ByteArray := prog_1_method_8_code
def yX11_usual : MethodName := ⟨RX11, "usual", "(IIII)I"⟩
abbrev cX11_load : ByteArray := prog_1_method_9_code
def yX11_load : MethodName := ⟨RX11, "load", "(IIII)I"⟩
abbrev cX11_told : ByteArray := prog_1_method_10_code
def yX11_told : MethodName := ⟨RX11, "told", "(II)I"⟩
abbrev cX11_sample : ByteArray := prog_1_method_11_code
def yX11_sample : MethodName := ⟨RX11, "sample", "(IIII)I"⟩
abbrev cX11_tons : ByteArray := prog_1_method_12_code
def yX11_tons : MethodName := ⟨RX11, "tons", "(I)I"⟩
abbrev cX11_layers : ByteArray := prog_1_method_13_code
def yX11_layers : MethodName := ⟨RX11, "layers", "(I)I"⟩
abbrev cX11_layer : ByteArray := prog_1_method_14_code
def yX11_layer : MethodName := ⟨RX11, "layer", "(III)I"⟩
abbrev cX11_move : ByteArray := prog_1_method_15_code
def yX11_move : MethodName := ⟨RX11, "move", "(III)I"⟩
abbrev cX11_mix : ByteArray := prog_1_method_16_code
def yX11_mix : MethodName := ⟨RX11, "mix", "(I)I"⟩
abbrev cX11_asked : ByteArray := prog_1_method_17_code
def yX11_asked : MethodName := ⟨RX11, "asked", "(III)I"⟩
abbrev cX11_best : ByteArray := prog_1_method_18_code
def yX11_best : MethodName := ⟨RX11, "best", "(I)I"⟩
abbrev cX11_charge : ByteArray := prog_1_method_19_code
def yX11_charge : MethodName := ⟨RX11, "charge", "(II)I"⟩
abbrev cX11_melt : ByteArray := prog_1_method_20_code
def yX11_melt : MethodName := ⟨RX11, "melt", "(I)I"⟩
abbrev cX11_portions : ByteArray := prog_1_method_21_code
def yX11_portions : MethodName := ⟨RX11, "portions", "(I)I"⟩
abbrev cX11_portion : ByteArray := prog_1_method_22_code
def yX11_portion : MethodName := ⟨RX11, "portion", "(III)I"⟩
abbrev cX11_prove : ByteArray := prog_1_method_23_code
def yX11_prove : MethodName := ⟨RX11, "prove", "(IIII)I"⟩
abbrev cX11_money : ByteArray := prog_1_method_24_code
def yX11_money : MethodName := ⟨RX11, "money", "(I)J"⟩
abbrev cX11_day : ByteArray := prog_1_method_25_code
def yX11_day : MethodName := ⟨RX11, "day", "(I)I"⟩
abbrev cX11_count : ByteArray := prog_1_method_26_code
def yX11_count : MethodName := ⟨RX11, "count", "(I)I"⟩
abbrev cX11_kindOf : ByteArray := prog_1_method_27_code
def yX11_kindOf : MethodName := ⟨RX11, "kindOf", "(I)LScrapYard$Kind;"⟩
abbrev cX11_sellerOf : ByteArray := prog_1_method_28_code
def yX11_sellerOf : MethodName := ⟨RX11, "sellerOf", "(I)LScrapYard$Seller;"⟩
abbrev cX11_loadOf : ByteArray := prog_1_method_29_code
def yX11_loadOf : MethodName := ⟨RX11, "loadOf", "(I)LScrapYard$Load;"⟩
abbrev cX11_meltOf : ByteArray := prog_1_method_30_code
def yX11_meltOf : MethodName := ⟨RX11, "meltOf", "(I)LScrapYard$Melt;"⟩
abbrev cX11_heapOf : ByteArray := prog_1_method_31_code
def yX11_heapOf : MethodName := ⟨RX11, "heapOf", "(I)LScrapYard$Heap;"⟩
abbrev cX11_needHeap : ByteArray := prog_1_method_32_code
def yX11_needHeap : MethodName := ⟨RX11, "needHeap", "(I)V"⟩
abbrev cX11_needMetal : ByteArray := prog_1_method_33_code
def yX11_needMetal : MethodName := ⟨RX11, "needMetal", "(I)V"⟩
abbrev cX11_needSpan : ByteArray := prog_1_method_34_code
def yX11_needSpan : MethodName := ⟨RX11, "needSpan", "(II)V"⟩
abbrev cX11_needChargeTons : ByteArray := prog_1_method_35_code
def yX11_needChargeTons : MethodName := ⟨RX11, "needChargeTons", "(I)V"⟩
abbrev cX11_putOnTape : ByteArray := prog_1_method_36_code
def yX11_putOnTape : MethodName := ⟨RX11, "putOnTape", "(I)V"⟩
abbrev cX11_inForce : ByteArray := prog_1_method_37_code
def yX11_inForce : MethodName := ⟨RX11, "inForce", "(LScrapYard$Seller;I)LScrapYard$Contract;"⟩
abbrev cX11_layersInAll : ByteArray := prog_1_method_38_code
def yX11_layersInAll : MethodName := ⟨RX11, "layersInAll", "()I"⟩
abbrev cX11_tonsInHeaps : ByteArray := prog_1_method_39_code
def yX11_tonsInHeaps : MethodName := ⟨RX11, "tonsInHeaps", "()I"⟩
abbrev cX11_tonsInMelts : ByteArray := prog_1_method_40_code
def yX11_tonsInMelts : MethodName := ⟨RX11, "tonsInMelts", "()I"⟩
abbrev cX11_tonsOf : ByteArray := prog_1_method_41_code
def yX11_tonsOf : MethodName := ⟨RX11, "tonsOf", "(Ljava/util/ArrayList;)I"⟩
abbrev cX11_sumOf : ByteArray := prog_1_method_42_code
def yX11_sumOf : MethodName := ⟨RX11, "sumOf", "(Ljava/util/ArrayList;I)I"⟩
abbrev cX11_cut : ByteArray := prog_1_method_43_code
def yX11_cut : MethodName := ⟨RX11, "cut", "(II)I"⟩
abbrev cX11_roundedUp : ByteArray := prog_1_method_44_code
def yX11_roundedUp : MethodName := ⟨RX11, "roundedUp", "(II)I"⟩
def RX12 : String := "ScrapYardModel"
def TX12 : u_T := fun k => match k with
  | 0 => ("ScrapYardModel", "thrown", "I", false)
  | 1 => ("ScrapYardModel", "kinds", "I", false)
  | 2 => ("ScrapYardModel", "sellers", "I", false)
  | 3 => ("ScrapYardModel", "day", "I", false)
  | 4 => ("ScrapYardModel", "kindLow", "[I", true)
  | 5 => ("ScrapYardModel", "kindHigh", "[I", true)
  | 6 => ("ScrapYardModel", "usualLow", "[I", true)
  | 7 => ("ScrapYardModel", "usualHigh", "[I", true)
  | 8 => ("ScrapYardModel", "isRight", "[Z", true)
  | 9 => ("ScrapYardModel", "paid", "[J", true)
  | 10 => ("ScrapYardModel", "taped", "I", false)
  | 11 => ("ScrapYardModel", "contracts", "I", false)
  | 12 => ("ScrapYardModel", "size", "I", false)
  | 13 => ("ScrapYardModel", "at", "I", false)
  | 14 => ("ScrapYardModel", "bad", "I", false)
  | 15 => ("ScrapYardModel", "tests", "I", false)
  | 16 => ("ScrapYardModel", "tape", "[I", true)
  | 17 => ("ScrapYardModel", "contractOf", "[I", true)
  | 18 => ("ScrapYardModel", "contractDay", "[I", true)
  | 19 => ("ScrapYardModel", "gradeMany", "[I", true)
  | 20 => ("ScrapYardModel", "elsePay", "[I", true)
  | 21 => ("ScrapYardModel", "gradePay", "[I", true)
  | 22 => ("ScrapYardModel", "testFrom", "[I", true)
  | 23 => ("ScrapYardModel", "testMetal", "[I", true)
  | 24 => ("ScrapYardModel", "testSign", "[I", true)
  | 25 => ("ScrapYardModel", "testNumber", "[I", true)
  | 26 => ("ScrapYardModel", "loads", "I", false)
  | 27 => ("ScrapYardModel", "lSeller", "[I", true)
  | 28 => ("ScrapYardModel", "lKind", "[I", true)
  | 29 => ("ScrapYardModel", "lTons", "[I", true)
  | 30 => ("ScrapYardModel", "lDay", "[I", true)
  | 31 => ("ScrapYardModel", "lContract", "[I", true)
  | 32 => ("ScrapYardModel", "lGrade", "[I", true)
  | 33 => ("ScrapYardModel", "lPay", "[I", true)
  | 34 => ("ScrapYardModel", "lLow", "[I", true)
  | 35 => ("ScrapYardModel", "lHigh", "[I", true)
  | 36 => ("ScrapYardModel", "grade", "I", false)
  | 37 => ("ScrapYardModel", "gradesPay", "I", false)
  | 38 => ("ScrapYardModel", "many", "[I", true)
  | 39 => ("ScrapYardModel", "yTons", "[I", true)
  | 40 => ("ScrapYardModel", "yLoad", "[I", true)
  | 41 => ("ScrapYardModel", "yCost", "[I", true)
  | 42 => ("ScrapYardModel", "yLow", "[I", true)
  | 43 => ("ScrapYardModel", "yHigh", "[I", true)
  | 44 => ("ScrapYardModel", "mixLow", "[I", true)
  | 45 => ("ScrapYardModel", "mixHigh", "[I", true)
  | 46 => ("ScrapYardModel", "askedLow", "[I", true)
  | 47 => ("ScrapYardModel", "askedHigh", "[I", true)
  | 48 => ("ScrapYardModel", "heapTons", "[I", true)
  | 49 => ("ScrapYardModel", "tried", "[I", true)
  | 50 => ("ScrapYardModel", "bestTons", "[I", true)
  | 51 => ("ScrapYardModel", "sums", "[J", true)
  | 52 => ("ScrapYardModel", "melts", "I", false)
  | 53 => ("ScrapYardModel", "portionMany", "[I", true)
  | 54 => ("ScrapYardModel", "pTons", "[I", true)
  | 55 => ("ScrapYardModel", "pLoad", "[I", true)
  | 56 => ("ScrapYardModel", "pLow", "[I", true)
  | 57 => ("ScrapYardModel", "pHigh", "[I", true)
  | 58 => ("ScrapYardModel", "newLow", "[I", true)
  | _ => ("ScrapYardModel", "newHigh", "[I", true)
def tyX12 : Nat → FieldType := fun k => match k with
  | 0 => .int
  | 1 => .int
  | 2 => .int
  | 3 => .int
  | 4 => .array .int
  | 5 => .array .int
  | 6 => .array .int
  | 7 => .array .int
  | 8 => .array .boolean
  | 9 => .array .long
  | 10 => .int
  | 11 => .int
  | 12 => .int
  | 13 => .int
  | 14 => .int
  | 15 => .int
  | 16 => .array .int
  | 17 => .array .int
  | 18 => .array .int
  | 19 => .array .int
  | 20 => .array .int
  | 21 => .array .int
  | 22 => .array .int
  | 23 => .array .int
  | 24 => .array .int
  | 25 => .array .int
  | 26 => .int
  | 27 => .array .int
  | 28 => .array .int
  | 29 => .array .int
  | 30 => .array .int
  | 31 => .array .int
  | 32 => .array .int
  | 33 => .array .int
  | 34 => .array .int
  | 35 => .array .int
  | 36 => .int
  | 37 => .int
  | 38 => .array .int
  | 39 => .array .int
  | 40 => .array .int
  | 41 => .array .int
  | 42 => .array .int
  | 43 => .array .int
  | 44 => .array .int
  | 45 => .array .int
  | 46 => .array .int
  | 47 => .array .int
  | 48 => .array .int
  | 49 => .array .int
  | 50 => .array .int
  | 51 => .array .long
  | 52 => .int
  | 53 => .array .int
  | 54 => .array .int
  | 55 => .array .int
  | 56 => .array .int
  | 57 => .array .int
  | 58 => .array .int
  | _ => .array .int
theorem nmX12 : ∀ a, a < 60 → ∀ b, b < 60 → a ≠ b → (TX12 a).2.1 ≠ (TX12 b).2.1 := by decide +kernel
theorem tyX12_ok : ∀ k, k < 60 → parseFieldDescriptor (TX12 k).2.2.1 = some (tyX12 k) := by decide +kernel
abbrev cX12_thrown : ByteArray := prog_14_method_1_code
def yX12_thrown : MethodName := ⟨RX12, "thrown", "()I"⟩
abbrev cX12_may : ByteArray := prog_14_method_2_code
def yX12_may : MethodName := ⟨RX12, "may", "(ZI)Z"⟩
abbrev cX12_init : ByteArray := prog_14_method_3_code
def yX12_init : MethodName := ⟨RX12, "<init>", "()V"⟩
abbrev cX12_kind : ByteArray := prog_14_method_4_code
def yX12_kind : MethodName := ⟨RX12, "kind", "()I"⟩
abbrev cX12_isMetal : ByteArray := prog_14_method_5_code
def yX12_isMetal : MethodName := ⟨RX12, "isMetal", "(I)Z"⟩
abbrev cX12_isSpan : ByteArray := prog_14_method_6_code
def yX12_isSpan : MethodName := ⟨RX12, "isSpan", "(III)Z"⟩
abbrev cX12_span : ByteArray := prog_14_method_7_code
def yX12_span : MethodName := ⟨RX12, "span", "(IIII)I"⟩
abbrev cX12_seller : ByteArray := prog_14_method_8_code
def yX12_seller : MethodName := ⟨RX12, "seller", "()I"⟩
abbrev cX12_isSeller : ByteArray := prog_14_method_9_code
def yX12_isSeller : MethodName := ⟨RX12, "isSeller", "(I)Z"⟩
abbrev cX12_usualAt : ByteArray := prog_14_method_10_code
def yX12_usualAt : MethodName := ⟨RX12, "usualAt", "(III)I"⟩
abbrev cX12_lowOf : ByteArray := prog_14_method_11_code
def yX12_lowOf : MethodName := ⟨RX12, "lowOf", "(III)I"⟩
abbrev cX12_highOf : ByteArray := prog_14_method_12_code
def yX12_highOf : MethodName := ⟨RX12, "highOf", "(III)I"⟩
abbrev cX12_usual : ByteArray := prog_14_method_13_code
def yX12_usual : MethodName := ⟨RX12, "usual", "(IIII)I"⟩
abbrev cX12_feed : ByteArray := prog_14_method_14_code
def yX12_feed : MethodName := ⟨RX12, "feed", "(IIIII)I"⟩
abbrev cX12_fine : ByteArray := prog_14_method_15_code
def yX12_fine : MethodName := ⟨RX12, "fine", "()Z"⟩
abbrev cX12_wrong : ByteArray := prog_14_method_16_code
def yX12_wrong : MethodName := ⟨RX12, "wrong", "(I)V"⟩
abbrev cX12_here : ByteArray := prog_14_method_17_code
def yX12_here : MethodName := ⟨RX12, "here", "()I"⟩
abbrev cX12_isSmall : ByteArray := prog_14_method_18_code
def yX12_isSmall : MethodName := ⟨RX12, "isSmall", "(I)Z"⟩
abbrev cX12_isDigit : ByteArray := prog_14_method_19_code
def yX12_isDigit : MethodName := ⟨RX12, "isDigit", "(I)Z"⟩
abbrev cX12_word : ByteArray := prog_14_method_20_code
def yX12_word : MethodName := ⟨RX12, "word", "()J"⟩
abbrev cX12_pass : ByteArray := prog_14_method_21_code
def yX12_pass : MethodName := ⟨RX12, "pass", "()V"⟩
abbrev cX12_needWord : ByteArray := prog_14_method_22_code
def yX12_needWord : MethodName := ⟨RX12, "needWord", "(J)V"⟩
abbrev cX12_need : ByteArray := prog_14_method_23_code
def yX12_need : MethodName := ⟨RX12, "need", "(I)V"⟩
abbrev cX12_digits : ByteArray := prog_14_method_24_code
def yX12_digits : MethodName := ⟨RX12, "digits", "()I"⟩
abbrev cX12_metalOf : ByteArray := prog_14_method_25_code
def yX12_metalOf : MethodName := ⟨RX12, "metalOf", "(J)I"⟩
abbrev cX12_test : ByteArray := prog_14_method_26_code
def yX12_test : MethodName := ⟨RX12, "test", "()V"⟩
abbrev cX12_pay : ByteArray := prog_14_method_27_code
def yX12_pay : MethodName := ⟨RX12, "pay", "()I"⟩
abbrev cX12_contract : ByteArray := prog_14_method_28_code
def yX12_contract : MethodName := ⟨RX12, "contract", "(III)I"⟩
abbrev cX12_inForce : ByteArray := prog_14_method_29_code
def yX12_inForce : MethodName := ⟨RX12, "inForce", "(II)I"⟩
abbrev cX12_force : ByteArray := prog_14_method_30_code
def yX12_force : MethodName := ⟨RX12, "force", "(II)I"⟩
abbrev cX12_isSure : ByteArray := prog_14_method_31_code
def yX12_isSure : MethodName := ⟨RX12, "isSure", "(III)Z"⟩
abbrev cX12_findGrade : ByteArray := prog_14_method_32_code
def yX12_findGrade : MethodName := ⟨RX12, "findGrade", "(II)V"⟩
abbrev cX12_load : ByteArray := prog_14_method_33_code
def yX12_load : MethodName := ⟨RX12, "load", "(IIII)I"⟩
abbrev cX12_isLoad : ByteArray := prog_14_method_34_code
def yX12_isLoad : MethodName := ⟨RX12, "isLoad", "(I)Z"⟩
abbrev cX12_told : ByteArray := prog_14_method_35_code
def yX12_told : MethodName := ⟨RX12, "told", "(II)I"⟩
abbrev cX12_sample : ByteArray := prog_14_method_36_code
def yX12_sample : MethodName := ⟨RX12, "sample", "(IIII)I"⟩
abbrev cX12_layersInAll : ByteArray := prog_14_method_37_code
def yX12_layersInAll : MethodName := ⟨RX12, "layersInAll", "()I"⟩
abbrev cX12_lowOfLayer : ByteArray := prog_14_method_38_code
def yX12_lowOfLayer : MethodName := ⟨RX12, "lowOfLayer", "(II)I"⟩
abbrev cX12_highOfLayer : ByteArray := prog_14_method_39_code
def yX12_highOfLayer : MethodName := ⟨RX12, "highOfLayer", "(II)I"⟩
abbrev cX12_put : ByteArray := prog_14_method_40_code
def yX12_put : MethodName := ⟨RX12, "put", "(IIIII)V"⟩
abbrev cX12_tonsOf : ByteArray := prog_14_method_41_code
def yX12_tonsOf : MethodName := ⟨RX12, "tonsOf", "(I)I"⟩
abbrev cX12_isHeap : ByteArray := prog_14_method_42_code
def yX12_isHeap : MethodName := ⟨RX12, "isHeap", "(I)Z"⟩
abbrev cX12_tons : ByteArray := prog_14_method_43_code
def yX12_tons : MethodName := ⟨RX12, "tons", "(I)I"⟩
abbrev cX12_layers : ByteArray := prog_14_method_44_code
def yX12_layers : MethodName := ⟨RX12, "layers", "(I)I"⟩
abbrev cX12_layer : ByteArray := prog_14_method_45_code
def yX12_layer : MethodName := ⟨RX12, "layer", "(III)I"⟩
abbrev cX12_move : ByteArray := prog_14_method_46_code
def yX12_move : MethodName := ⟨RX12, "move", "(III)I"⟩
abbrev cX12_mix : ByteArray := prog_14_method_47_code
def yX12_mix : MethodName := ⟨RX12, "mix", "(I)I"⟩
abbrev cX12_asked : ByteArray := prog_14_method_48_code
def yX12_asked : MethodName := ⟨RX12, "asked", "(III)I"⟩
abbrev cX12_sumAt : ByteArray := prog_14_method_49_code
def yX12_sumAt : MethodName := ⟨RX12, "sumAt", "(II)I"⟩
abbrev cX12_findSums : ByteArray := prog_14_method_50_code
def yX12_findSums : MethodName := ⟨RX12, "findSums", "(I)V"⟩
abbrev cX12_total : ByteArray := prog_14_method_51_code
def yX12_total : MethodName := ⟨RX12, "total", "(I)J"⟩
abbrev cX12_findBest : ByteArray := prog_14_method_52_code
def yX12_findBest : MethodName := ⟨RX12, "findBest", "(I)J"⟩
abbrev cX12_isGood : ByteArray := prog_14_method_53_code
def yX12_isGood : MethodName := ⟨RX12, "isGood", "(I)Z"⟩
abbrev cX12_best : ByteArray := prog_14_method_54_code
def yX12_best : MethodName := ⟨RX12, "best", "(I)I"⟩
abbrev cX12_charge : ByteArray := prog_14_method_55_code
def yX12_charge : MethodName := ⟨RX12, "charge", "(II)I"⟩
abbrev cX12_melt : ByteArray := prog_14_method_56_code
def yX12_melt : MethodName := ⟨RX12, "melt", "(I)I"⟩
abbrev cX12_isMelt : ByteArray := prog_14_method_57_code
def yX12_isMelt : MethodName := ⟨RX12, "isMelt", "(I)Z"⟩
abbrev cX12_portions : ByteArray := prog_14_method_58_code
def yX12_portions : MethodName := ⟨RX12, "portions", "(I)I"⟩
abbrev cX12_portion : ByteArray := prog_14_method_59_code
def yX12_portion : MethodName := ⟨RX12, "portion", "(III)I"⟩
abbrev cX12_floor : ByteArray := prog_14_method_60_code
def yX12_floor : MethodName := ⟨RX12, "floor", "(JJ)J"⟩
abbrev cX12_prove : ByteArray := prog_14_method_61_code
def yX12_prove : MethodName := ⟨RX12, "prove", "(IIII)I"⟩
abbrev cX12_putRight : ByteArray := prog_14_method_62_code
def yX12_putRight : MethodName := ⟨RX12, "putRight", "(IIIII)V"⟩
abbrev cX12_money : ByteArray := prog_14_method_63_code
def yX12_money : MethodName := ⟨RX12, "money", "(I)J"⟩
abbrev cX12_day : ByteArray := prog_14_method_64_code
def yX12_day : MethodName := ⟨RX12, "day", "(I)I"⟩
abbrev cX12_count : ByteArray := prog_14_method_65_code
def yX12_count : MethodName := ⟨RX12, "count", "(I)I"⟩
def RJx145de : String := "java/io/Serializable"
def TJx145de : u_T := fun k => match k with
  | _ => ("", "", "", false)
def tyJx145de : Nat → FieldType := fun k => match k with
  | _ => .int
theorem nmJx145de : ∀ a, a < 0 → ∀ b, b < 0 → a ≠ b → (TJx145de a).2.1 ≠ (TJx145de b).2.1 := by decide +kernel
theorem tyJx145de_ok : ∀ k, k < 0 → parseFieldDescriptor (TJx145de k).2.2.1 = some (tyJx145de k) := by decide +kernel
def RJ5 : String := "java/lang/AbstractStringBuilder"
def TJ5 : u_T := fun k => match k with
  | _ => ("", "", "", false)
def tyJ5 : Nat → FieldType := fun k => match k with
  | _ => .int
theorem nmJ5 : ∀ a, a < 0 → ∀ b, b < 0 → a ≠ b → (TJ5 a).2.1 ≠ (TJ5 b).2.1 := by decide +kernel
theorem tyJ5_ok : ∀ k, k < 0 → parseFieldDescriptor (TJ5 k).2.2.1 = some (tyJ5 k) := by decide +kernel
abbrev cJ5_init_d00df : ByteArray := prog_16_method_2_code
def yJ5_init_d00df : MethodName := ⟨RJ5, "<init>", "(I)V"⟩
abbrev cJ5_length_8abf5 : ByteArray := prog_16_method_6_code
def yJ5_length_8abf5 : MethodName := ⟨RJ5, "length", "()I"⟩
abbrev cJ5_ensureCapacityInternal_d00df : ByteArray := prog_16_method_9_code
def yJ5_ensureCapacityInternal_d00df : MethodName := ⟨RJ5, "ensureCapacityInternal", "(I)V"⟩
abbrev cJ5_newCapacity_0f7a4 : ByteArray := prog_16_method_10_code
def yJ5_newCapacity_0f7a4 : MethodName := ⟨RJ5, "newCapacity", "(I)I"⟩
abbrev cJ5_inflate_da8c8 : ByteArray := prog_16_method_11_code
def yJ5_inflate_da8c8 : MethodName := ⟨RJ5, "inflate", "()V"⟩
abbrev cJ5_setLength_d00df : ByteArray := prog_16_method_13_code
def yJ5_setLength_d00df : MethodName := ⟨RJ5, "setLength", "(I)V"⟩
abbrev cJ5_append_cf1ce : ByteArray := prog_16_method_22_code
def yJ5_append_cf1ce : MethodName := ⟨RJ5, "append", "(Ljava/lang/String;)Ljava/lang/AbstractStringBuilder;"⟩
abbrev cJ5_appendNull_278bc : ByteArray := prog_16_method_26_code
def yJ5_appendNull_278bc : MethodName := ⟨RJ5, "appendNull", "()Ljava/lang/AbstractStringBuilder;"⟩
abbrev cJ5_append_3fe6f : ByteArray := prog_16_method_31_code
def yJ5_append_3fe6f : MethodName := ⟨RJ5, "append", "(C)Ljava/lang/AbstractStringBuilder;"⟩
abbrev cJ5_append_c97b9 : ByteArray := prog_16_method_32_code
def yJ5_append_c97b9 : MethodName := ⟨RJ5, "append", "(I)Ljava/lang/AbstractStringBuilder;"⟩
abbrev cJ5_getValue_6d5f1 : ByteArray := prog_16_method_64_code
def yJ5_getValue_6d5f1 : MethodName := ⟨RJ5, "getValue", "()[B"⟩
abbrev cJ5_isLatin1_aae02 : ByteArray := prog_16_method_68_code
def yJ5_isLatin1_aae02 : MethodName := ⟨RJ5, "isLatin1", "()Z"⟩
abbrev cJ5_inflateIfNeededFor_a7421 : ByteArray := prog_16_method_71_code
def yJ5_inflateIfNeededFor_a7421 : MethodName := ⟨RJ5, "inflateIfNeededFor", "(Ljava/lang/String;)V"⟩
abbrev cJ5_putStringAt_47b60 : ByteArray := prog_16_method_73_code
def yJ5_putStringAt_47b60 : MethodName := ⟨RJ5, "putStringAt", "(ILjava/lang/String;)V"⟩
def RJx8e188 : String := "java/lang/Cloneable"
def TJx8e188 : u_T := fun k => match k with
  | _ => ("", "", "", false)
def tyJx8e188 : Nat → FieldType := fun k => match k with
  | _ => .int
theorem nmJx8e188 : ∀ a, a < 0 → ∀ b, b < 0 → a ≠ b → (TJx8e188 a).2.1 ≠ (TJx8e188 b).2.1 := by decide +kernel
theorem tyJx8e188_ok : ∀ k, k < 0 → parseFieldDescriptor (TJx8e188 k).2.2.1 = some (tyJx8e188 k) := by decide +kernel
def RJ6 : String := "java/lang/Integer"
def TJ6 : u_T := fun k => match k with
  | _ => ("", "", "", false)
def tyJ6 : Nat → FieldType := fun k => match k with
  | _ => .int
theorem nmJ6 : ∀ a, a < 0 → ∀ b, b < 0 → a ≠ b → (TJ6 a).2.1 ≠ (TJ6 b).2.1 := by decide +kernel
theorem tyJ6_ok : ∀ k, k < 0 → parseFieldDescriptor (TJ6 k).2.2.1 = some (tyJ6 k) := by decide +kernel
abbrev cJ6_getChars_ba4f3 : ByteArray := prog_21_method_12_code
def yJ6_getChars_ba4f3 : MethodName := ⟨RJ6, "getChars", "(II[B)I"⟩
abbrev cJ6_stringSize_0f7a4 : ByteArray := prog_21_method_13_code
def yJ6_stringSize_0f7a4 : MethodName := ⟨RJ6, "stringSize", "(I)I"⟩
def RJxab1ab : String := "java/lang/Iterable"
def TJxab1ab : u_T := fun k => match k with
  | _ => ("", "", "", false)
def tyJxab1ab : Nat → FieldType := fun k => match k with
  | _ => .int
theorem nmJxab1ab : ∀ a, a < 0 → ∀ b, b < 0 → a ≠ b → (TJxab1ab a).2.1 ≠ (TJxab1ab b).2.1 := by decide +kernel
theorem tyJxab1ab_ok : ∀ k, k < 0 → parseFieldDescriptor (TJxab1ab k).2.2.1 = some (tyJxab1ab k) := by decide +kernel
def RJ9 : String := "java/lang/Math"
def TJ9 : u_T := fun k => match k with
  | _ => ("", "", "", false)
def tyJ9 : Nat → FieldType := fun k => match k with
  | _ => .int
theorem nmJ9 : ∀ a, a < 0 → ∀ b, b < 0 → a ≠ b → (TJ9 a).2.1 ≠ (TJ9 b).2.1 := by decide +kernel
theorem tyJ9_ok : ∀ k, k < 0 → parseFieldDescriptor (TJ9 k).2.2.1 = some (tyJ9 k) := by decide +kernel
abbrev cJ9_floorDiv_7cf53 : ByteArray := prog_23_method_47_code
def yJ9_floorDiv_7cf53 : MethodName := ⟨RJ9, "floorDiv", "(II)I"⟩
abbrev cJ9_max_7cf53 : ByteArray := prog_23_method_65_code
def yJ9_max_7cf53 : MethodName := ⟨RJ9, "max", "(II)I"⟩
abbrev cJ9_min_7cf53 : ByteArray := prog_23_method_69_code
def yJ9_min_7cf53 : MethodName := ⟨RJ9, "min", "(II)I"⟩
def RJ0 : String := "java/lang/String"
def TJ0 : u_T := fun k => match k with
  | 0 => ("java/lang/String", "value", "[B", true)
  | 1 => ("java/lang/String", "coder", "B", true)
  | 2 => ("java/lang/String", "hash", "I", false)
  | _ => ("java/lang/String", "hashIsZero", "Z", false)
def tyJ0 : Nat → FieldType := fun k => match k with
  | 0 => .array .byte
  | 1 => .byte
  | 2 => .int
  | _ => .boolean
theorem nmJ0 : ∀ a, a < 2 → ∀ b, b < 2 → a ≠ b → (TJ0 a).2.1 ≠ (TJ0 b).2.1 := by decide +kernel
theorem tyJ0_ok : ∀ k, k < 2 → parseFieldDescriptor (TJ0 k).2.2.1 = some (tyJ0 k) := by decide +kernel
abbrev cJ0_init_81219 : ByteArray := prog_25_method_53_code
def yJ0_init_81219 : MethodName := ⟨RJ0, "<init>", "(Ljava/lang/StringBuilder;)V"⟩
abbrev cJ0_length_8abf5 : ByteArray := prog_25_method_54_code
def yJ0_length_8abf5 : MethodName := ⟨RJ0, "length", "()I"⟩
abbrev cJ0_charAt_5068e : ByteArray := prog_25_method_56_code
def yJ0_charAt_5068e : MethodName := ⟨RJ0, "charAt", "(I)C"⟩
abbrev cJ0_equals_9ea2d : ByteArray := prog_25_method_66_code
def yJ0_equals_9ea2d : MethodName := ⟨RJ0, "equals", "(Ljava/lang/Object;)Z"⟩
abbrev cJ0_substring_37a41 : ByteArray := prog_25_method_92_code
def yJ0_substring_37a41 : MethodName := ⟨RJ0, "substring", "(II)Ljava/lang/String;"⟩
abbrev cJ0_getBytes_840e7 : ByteArray := prog_25_method_147_code
def yJ0_getBytes_840e7 : MethodName := ⟨RJ0, "getBytes", "([BIB)V"⟩
abbrev cJ0_init_db425 : ByteArray := prog_25_method_150_code
def yJ0_init_db425 : MethodName := ⟨RJ0, "<init>", "(Ljava/lang/AbstractStringBuilder;Ljava/lang/Void;)V"⟩
abbrev cJ0_init_031fb : ByteArray := prog_25_method_151_code
def yJ0_init_031fb : MethodName := ⟨RJ0, "<init>", "([BB)V"⟩
abbrev cJ0_coder_7d493 : ByteArray := prog_25_method_152_code
def yJ0_coder_7d493 : MethodName := ⟨RJ0, "coder", "()B"⟩
abbrev cJ0_isLatin1_aae02 : ByteArray := prog_25_method_154_code
def yJ0_isLatin1_aae02 : MethodName := ⟨RJ0, "isLatin1", "()Z"⟩
abbrev cJ0_checkIndex_df160 : ByteArray := prog_25_method_155_code
def yJ0_checkIndex_df160 : MethodName := ⟨RJ0, "checkIndex", "(II)V"⟩
abbrev cJ0_checkBoundsOffCount_cabcc : ByteArray := prog_25_method_157_code
def yJ0_checkBoundsOffCount_cabcc : MethodName := ⟨RJ0, "checkBoundsOffCount", "(III)I"⟩
abbrev cJ0_checkBoundsBeginEnd_23922 : ByteArray := prog_25_method_158_code
def yJ0_checkBoundsBeginEnd_23922 : MethodName := ⟨RJ0, "checkBoundsBeginEnd", "(III)V"⟩
def RJ4 : String := "java/lang/StringBuilder"
def TJ4 : u_T := fun k => match k with
  | 0 => ("java/lang/AbstractStringBuilder", "value", "[B", false)
  | 1 => ("java/lang/AbstractStringBuilder", "coder", "B", false)
  | 2 => ("java/lang/AbstractStringBuilder", "maybeLatin1", "Z", false)
  | _ => ("java/lang/AbstractStringBuilder", "count", "I", false)
def tyJ4 : Nat → FieldType := fun k => match k with
  | 0 => .array .byte
  | 1 => .byte
  | 2 => .boolean
  | _ => .int
theorem nmJ4 : ∀ a, a < 4 → ∀ b, b < 4 → a ≠ b → (TJ4 a).2.1 ≠ (TJ4 b).2.1 := by decide +kernel
theorem tyJ4_ok : ∀ k, k < 4 → parseFieldDescriptor (TJ4 k).2.2.1 = some (tyJ4 k) := by decide +kernel
abbrev cJ4_init_da8c8 : ByteArray := prog_26_method_1_code
def yJ4_init_da8c8 : MethodName := ⟨RJ4, "<init>", "()V"⟩
abbrev cJ4_append_15ec4 : ByteArray := prog_26_method_7_code
def yJ4_append_15ec4 : MethodName := ⟨RJ4, "append", "(Ljava/lang/String;)Ljava/lang/StringBuilder;"⟩
abbrev cJ4_append_cf468 : ByteArray := prog_26_method_14_code
def yJ4_append_cf468 : MethodName := ⟨RJ4, "append", "(C)Ljava/lang/StringBuilder;"⟩
abbrev cJ4_append_bf812 : ByteArray := prog_26_method_15_code
def yJ4_append_bf812 : MethodName := ⟨RJ4, "append", "(I)Ljava/lang/StringBuilder;"⟩
abbrev cJ4_toString_0e30d : ByteArray := prog_26_method_42_code
def yJ4_toString_0e30d : MethodName := ⟨RJ4, "toString", "()Ljava/lang/String;"⟩
abbrev cJ4_setLength_d00df : ByteArray := prog_26_method_89_code
def yJ4_setLength_d00df : MethodName := ⟨RJ4, "setLength", "(I)V"⟩
abbrev cJ4_length_8abf5 : ByteArray := prog_26_method_93_code
def yJ4_length_8abf5 : MethodName := ⟨RJ4, "length", "()I"⟩
def RJ1 : String := "java/lang/StringLatin1"
def TJ1 : u_T := fun k => match k with
  | _ => ("", "", "", false)
def tyJ1 : Nat → FieldType := fun k => match k with
  | _ => .int
theorem nmJ1 : ∀ a, a < 0 → ∀ b, b < 0 → a ≠ b → (TJ1 a).2.1 ≠ (TJ1 b).2.1 := by decide +kernel
theorem tyJ1_ok : ∀ k, k < 0 → parseFieldDescriptor (TJ1 k).2.2.1 = some (tyJ1 k) := by decide +kernel
abbrev cJ1_charAt_3b067 : ByteArray := prog_27_method_2_code
def yJ1_charAt_3b067 : MethodName := ⟨RJ1, "charAt", "([BI)C"⟩
abbrev cJ1_canEncode_fc78d : ByteArray := prog_27_method_3_code
def yJ1_canEncode_fc78d : MethodName := ⟨RJ1, "canEncode", "(C)Z"⟩
abbrev cJ1_equals_b5fdf : ByteArray := prog_27_method_13_code
def yJ1_equals_b5fdf : MethodName := ⟨RJ1, "equals", "([B[B)Z"⟩
abbrev cJ1_newString_b4f7a : ByteArray := prog_27_method_47_code
def yJ1_newString_b4f7a : MethodName := ⟨RJ1, "newString", "([BII)Ljava/lang/String;"⟩
abbrev cJ1_fillNull_b72d1 : ByteArray := prog_27_method_48_code
def yJ1_fillNull_b72d1 : MethodName := ⟨RJ1, "fillNull", "([BII)V"⟩
abbrev cJ1_inflate_0e8fd : ByteArray := prog_27_method_50_code
def yJ1_inflate_0e8fd : MethodName := ⟨RJ1, "inflate", "([BI[BII)V"⟩
def RJ2 : String := "java/lang/StringUTF16"
def TJ2 : u_T := fun k => match k with
  | _ => ("", "", "", false)
def tyJ2 : Nat → FieldType := fun k => match k with
  | _ => .int
theorem nmJ2 : ∀ a, a < 0 → ∀ b, b < 0 → a ≠ b → (TJ2 a).2.1 ≠ (TJ2 b).2.1 := by decide +kernel
theorem tyJ2_ok : ∀ k, k < 0 → parseFieldDescriptor (TJ2 k).2.2.1 = some (tyJ2 k) := by decide +kernel
abbrev cJ2_newBytesFor_77867 : ByteArray := prog_28_method_2_code
def yJ2_newBytesFor_77867 : MethodName := ⟨RJ2, "newBytesFor", "(I)[B"⟩
abbrev cJ2_newBytesLength_0f7a4 : ByteArray := prog_28_method_3_code
def yJ2_newBytesLength_0f7a4 : MethodName := ⟨RJ2, "newBytesLength", "(I)I"⟩
abbrev cJ2_putChar_b72d1 : ByteArray := prog_28_method_4_code
def yJ2_putChar_b72d1 : MethodName := ⟨RJ2, "putChar", "([BII)V"⟩
abbrev cJ2_getChar_3b067 : ByteArray := prog_28_method_5_code
def yJ2_getChar_3b067 : MethodName := ⟨RJ2, "getChar", "([BI)C"⟩
abbrev cJ2_length_9d52b : ByteArray := prog_28_method_6_code
def yJ2_length_9d52b : MethodName := ⟨RJ2, "length", "([B)I"⟩
abbrev cJ2_coderFromArrayLen_85cad : ByteArray := prog_28_method_15_code
def yJ2_coderFromArrayLen_85cad : MethodName := ⟨RJ2, "coderFromArrayLen", "([BI)B"⟩
abbrev cJ2_compress_39247 : ByteArray := prog_28_method_17_code
def yJ2_compress_39247 : MethodName := ⟨RJ2, "compress", "([BII)[B"⟩
abbrev cJ2_compress_5af95 : ByteArray := prog_28_method_22_code
def yJ2_compress_5af95 : MethodName := ⟨RJ2, "compress", "([BI[BII)I"⟩
abbrev cJ2_newString_b4f7a : ByteArray := prog_28_method_69_code
def yJ2_newString_b4f7a : MethodName := ⟨RJ2, "newString", "([BII)Ljava/lang/String;"⟩
abbrev cJ2_fillNull_b72d1 : ByteArray := prog_28_method_70_code
def yJ2_fillNull_b72d1 : MethodName := ⟨RJ2, "fillNull", "([BII)V"⟩
abbrev cJ2_putCharSB_b72d1 : ByteArray := prog_28_method_71_code
def yJ2_putCharSB_b72d1 : MethodName := ⟨RJ2, "putCharSB", "([BII)V"⟩
abbrev cJ2_getChars_46870 : ByteArray := prog_28_method_77_code
def yJ2_getChars_46870 : MethodName := ⟨RJ2, "getChars", "(III[B)I"⟩
abbrev cJ2_putCharsAt_cd4e5 : ByteArray := prog_28_method_81_code
def yJ2_putCharsAt_cd4e5 : MethodName := ⟨RJ2, "putCharsAt", "([BICCCC)I"⟩
abbrev cJ2_charAt_3b067 : ByteArray := prog_28_method_83_code
def yJ2_charAt_3b067 : MethodName := ⟨RJ2, "charAt", "([BI)C"⟩
abbrev cJ2_inflate_0e8fd : ByteArray := prog_28_method_86_code
def yJ2_inflate_0e8fd : MethodName := ⟨RJ2, "inflate", "([BI[BII)V"⟩
abbrev cJ2_getChars_ba4f3 : ByteArray := prog_28_method_89_code
def yJ2_getChars_ba4f3 : MethodName := ⟨RJ2, "getChars", "(II[B)I"⟩
abbrev cJ2_checkIndex_2214a : ByteArray := prog_28_method_91_code
def yJ2_checkIndex_2214a : MethodName := ⟨RJ2, "checkIndex", "(I[B)V"⟩
abbrev cJ2_checkBoundsBeginEnd_d044e : ByteArray := prog_28_method_93_code
def yJ2_checkBoundsBeginEnd_d044e : MethodName := ⟨RJ2, "checkBoundsBeginEnd", "(II[B)V"⟩
abbrev cJ2_checkBoundsOffCount_d044e : ByteArray := prog_28_method_94_code
def yJ2_checkBoundsOffCount_d044e : MethodName := ⟨RJ2, "checkBoundsOffCount", "(II[B)V"⟩
def RJ10 : String := "java/lang/System"
def TJ10 : u_T := fun k => match k with
  | _ => ("", "", "", false)
def tyJ10 : Nat → FieldType := fun k => match k with
  | _ => .int
theorem nmJ10 : ∀ a, a < 0 → ∀ b, b < 0 → a ≠ b → (TJ10 a).2.1 ≠ (TJ10 b).2.1 := by decide +kernel
theorem tyJ10_ok : ∀ k, k < 0 → parseFieldDescriptor (TJ10 k).2.2.1 = some (tyJ10 k) := by decide +kernel
def RJxa1e45 : String := "java/util/AbstractCollection"
def TJxa1e45 : u_T := fun k => match k with
  | _ => ("", "", "", false)
def tyJxa1e45 : Nat → FieldType := fun k => match k with
  | _ => .int
theorem nmJxa1e45 : ∀ a, a < 0 → ∀ b, b < 0 → a ≠ b → (TJxa1e45 a).2.1 ≠ (TJxa1e45 b).2.1 := by decide +kernel
theorem tyJxa1e45_ok : ∀ k, k < 0 → parseFieldDescriptor (TJxa1e45 k).2.2.1 = some (tyJxa1e45 k) := by decide +kernel
abbrev cJxa1e45_init_da8c8 : ByteArray := prog_31_method_1_code
def yJxa1e45_init_da8c8 : MethodName := ⟨RJxa1e45, "<init>", "()V"⟩
def RJxc12de : String := "java/util/AbstractList"
def TJxc12de : u_T := fun k => match k with
  | _ => ("", "", "", false)
def tyJxc12de : Nat → FieldType := fun k => match k with
  | _ => .int
theorem nmJxc12de : ∀ a, a < 0 → ∀ b, b < 0 → a ≠ b → (TJxc12de a).2.1 ≠ (TJxc12de b).2.1 := by decide +kernel
theorem tyJxc12de_ok : ∀ k, k < 0 → parseFieldDescriptor (TJxc12de k).2.2.1 = some (tyJxc12de k) := by decide +kernel
abbrev cJxc12de_init_da8c8 : ByteArray := prog_32_method_1_code
def yJxc12de_init_da8c8 : MethodName := ⟨RJxc12de, "<init>", "()V"⟩
def RJx4a65c : String := "java/util/ArrayList"
def TJx4a65c : u_T := fun k => match k with
  | 0 => ("java/util/AbstractList", "modCount", "I", false)
  | 1 => ("java/util/ArrayList", "elementData", "[Ljava/lang/Object;", false)
  | _ => ("java/util/ArrayList", "size", "I", false)
def tyJx4a65c : Nat → FieldType := fun k => match k with
  | 0 => .int
  | 1 => .array (.object "java/lang/Object")
  | _ => .int
theorem nmJx4a65c : ∀ a, a < 3 → ∀ b, b < 3 → a ≠ b → (TJx4a65c a).2.1 ≠ (TJx4a65c b).2.1 := by decide +kernel
theorem tyJx4a65c_ok : ∀ k, k < 3 → parseFieldDescriptor (TJx4a65c k).2.2.1 = some (tyJx4a65c k) := by decide +kernel
abbrev cJx4a65c_init_da8c8 : ByteArray := prog_33_method_2_code
def yJx4a65c_init_da8c8 : MethodName := ⟨RJx4a65c, "<init>", "()V"⟩
abbrev cJx4a65c_grow_92f84 : ByteArray := prog_33_method_6_code
def yJx4a65c_grow_92f84 : MethodName := ⟨RJx4a65c, "grow", "(I)[Ljava/lang/Object;"⟩
abbrev cJx4a65c_grow_d5877 : ByteArray := prog_33_method_7_code
def yJx4a65c_grow_d5877 : MethodName := ⟨RJx4a65c, "grow", "()[Ljava/lang/Object;"⟩
abbrev cJx4a65c_size_8abf5 : ByteArray := prog_33_method_8_code
def yJx4a65c_size_8abf5 : MethodName := ⟨RJx4a65c, "size", "()I"⟩
abbrev cJx4a65c_elementData_915e3 : ByteArray := prog_33_method_18_code
def yJx4a65c_elementData_915e3 : MethodName := ⟨RJx4a65c, "elementData", "(I)Ljava/lang/Object;"⟩
abbrev cJx4a65c_get_915e3 : ByteArray := prog_33_method_20_code
def yJx4a65c_get_915e3 : MethodName := ⟨RJx4a65c, "get", "(I)Ljava/lang/Object;"⟩
abbrev cJx4a65c_add_72be8 : ByteArray := prog_33_method_24_code
def yJx4a65c_add_72be8 : MethodName := ⟨RJx4a65c, "add", "(Ljava/lang/Object;[Ljava/lang/Object;I)V"⟩
abbrev cJx4a65c_add_9ea2d : ByteArray := prog_33_method_25_code
def yJx4a65c_add_9ea2d : MethodName := ⟨RJx4a65c, "add", "(Ljava/lang/Object;)Z"⟩
abbrev cJx4a65c_remove_915e3 : ByteArray := prog_33_method_29_code
def yJx4a65c_remove_915e3 : MethodName := ⟨RJx4a65c, "remove", "(I)Ljava/lang/Object;"⟩
abbrev cJx4a65c_fastRemove_b59b0 : ByteArray := prog_33_method_39_code
def yJx4a65c_fastRemove_b59b0 : MethodName := ⟨RJx4a65c, "fastRemove", "([Ljava/lang/Object;I)V"⟩
abbrev cJx4a65c_clear_da8c8 : ByteArray := prog_33_method_40_code
def yJx4a65c_clear_da8c8 : MethodName := ⟨RJx4a65c, "clear", "()V"⟩
def RJ7 : String := "java/util/Arrays"
def TJ7 : u_T := fun k => match k with
  | _ => ("", "", "", false)
def tyJ7 : Nat → FieldType := fun k => match k with
  | _ => .int
theorem nmJ7 : ∀ a, a < 0 → ∀ b, b < 0 → a ≠ b → (TJ7 a).2.1 ≠ (TJ7 b).2.1 := by decide +kernel
theorem tyJ7_ok : ∀ k, k < 0 → parseFieldDescriptor (TJ7 k).2.2.1 = some (tyJ7 k) := by decide +kernel
abbrev cJ7_rangeCheck_23922 : ByteArray := prog_34_method_30_code
def yJ7_rangeCheck_23922 : MethodName := ⟨RJ7, "rangeCheck", "(III)V"⟩
abbrev cJ7_fill_eb02e : ByteArray := prog_34_method_110_code
def yJ7_fill_eb02e : MethodName := ⟨RJ7, "fill", "([BIIB)V"⟩
abbrev cJ7_copyOf_1904c : ByteArray := prog_34_method_119_code
def yJ7_copyOf_1904c : MethodName := ⟨RJ7, "copyOf", "([Ljava/lang/Object;I)[Ljava/lang/Object;"⟩
abbrev cJ7_copyOf_6403c : ByteArray := prog_34_method_120_code
def yJ7_copyOf_6403c : MethodName := ⟨RJ7, "copyOf", "([Ljava/lang/Object;ILjava/lang/Class;)[Ljava/lang/Object;"⟩
abbrev cJ7_copyOf_9075b : ByteArray := prog_34_method_121_code
def yJ7_copyOf_9075b : MethodName := ⟨RJ7, "copyOf", "([BI)[B"⟩
abbrev cJ7_checkLength_df160 : ByteArray := prog_34_method_131_code
def yJ7_checkLength_df160 : MethodName := ⟨RJ7, "checkLength", "(II)V"⟩
abbrev cJ7_copyOfRange_39247 : ByteArray := prog_34_method_132_code
def yJ7_copyOfRange_39247 : MethodName := ⟨RJ7, "copyOfRange", "([BII)[B"⟩
abbrev cJ7_copyOfRangeByte_39247 : ByteArray := prog_34_method_133_code
def yJ7_copyOfRangeByte_39247 : MethodName := ⟨RJ7, "copyOfRangeByte", "([BII)[B"⟩
def RJx5ef63 : String := "java/util/Collection"
def TJx5ef63 : u_T := fun k => match k with
  | _ => ("", "", "", false)
def tyJx5ef63 : Nat → FieldType := fun k => match k with
  | _ => .int
theorem nmJx5ef63 : ∀ a, a < 0 → ∀ b, b < 0 → a ≠ b → (TJx5ef63 a).2.1 ≠ (TJx5ef63 b).2.1 := by decide +kernel
theorem tyJx5ef63_ok : ∀ k, k < 0 → parseFieldDescriptor (TJx5ef63 k).2.2.1 = some (tyJx5ef63 k) := by decide +kernel
def RJxbd725 : String := "java/util/List"
def TJxbd725 : u_T := fun k => match k with
  | _ => ("", "", "", false)
def tyJxbd725 : Nat → FieldType := fun k => match k with
  | _ => .int
theorem nmJxbd725 : ∀ a, a < 0 → ∀ b, b < 0 → a ≠ b → (TJxbd725 a).2.1 ≠ (TJxbd725 b).2.1 := by decide +kernel
theorem tyJxbd725_ok : ∀ k, k < 0 → parseFieldDescriptor (TJxbd725 k).2.2.1 = some (tyJxbd725 k) := by decide +kernel
def RJ15 : String := "java/util/Objects"
def TJ15 : u_T := fun k => match k with
  | _ => ("", "", "", false)
def tyJ15 : Nat → FieldType := fun k => match k with
  | _ => .int
theorem nmJ15 : ∀ a, a < 0 → ∀ b, b < 0 → a ≠ b → (TJ15 a).2.1 ≠ (TJ15 b).2.1 := by decide +kernel
theorem tyJ15_ok : ∀ k, k < 0 → parseFieldDescriptor (TJ15 k).2.2.1 = some (tyJ15 k) := by decide +kernel
abbrev cJ15_checkIndex_7cf53 : ByteArray := prog_38_method_17_code
def yJ15_checkIndex_7cf53 : MethodName := ⟨RJ15, "checkIndex", "(II)I"⟩
def RJxf0a74 : String := "java/util/RandomAccess"
def TJxf0a74 : u_T := fun k => match k with
  | _ => ("", "", "", false)
def tyJxf0a74 : Nat → FieldType := fun k => match k with
  | _ => .int
theorem nmJxf0a74 : ∀ a, a < 0 → ∀ b, b < 0 → a ≠ b → (TJxf0a74 a).2.1 ≠ (TJxf0a74 b).2.1 := by decide +kernel
theorem tyJxf0a74_ok : ∀ k, k < 0 → parseFieldDescriptor (TJxf0a74 k).2.2.1 = some (tyJxf0a74 k) := by decide +kernel
def RJxa66e6 : String := "java/util/SequencedCollection"
def TJxa66e6 : u_T := fun k => match k with
  | _ => ("", "", "", false)
def tyJxa66e6 : Nat → FieldType := fun k => match k with
  | _ => .int
theorem nmJxa66e6 : ∀ a, a < 0 → ∀ b, b < 0 → a ≠ b → (TJxa66e6 a).2.1 ≠ (TJxa66e6 b).2.1 := by decide +kernel
theorem tyJxa66e6_ok : ∀ k, k < 0 → parseFieldDescriptor (TJxa66e6 k).2.2.1 = some (tyJxa66e6 k) := by decide +kernel
def RJ8 : String := "jdk/internal/util/ArraysSupport"
def TJ8 : u_T := fun k => match k with
  | _ => ("", "", "", false)
def tyJ8 : Nat → FieldType := fun k => match k with
  | _ => .int
theorem nmJ8 : ∀ a, a < 0 → ∀ b, b < 0 → a ≠ b → (TJ8 a).2.1 ≠ (TJ8 b).2.1 := by decide +kernel
theorem tyJ8_ok : ∀ k, k < 0 → parseFieldDescriptor (TJ8 k).2.2.1 = some (tyJ8 k) := by decide +kernel
abbrev cJ8_newLength_cabcc : ByteArray := prog_41_method_27_code
def yJ8_newLength_cabcc : MethodName := ⟨RJ8, "newLength", "(III)I"⟩
abbrev cJ8_hugeLength_7cf53 : ByteArray := prog_41_method_28_code
def yJ8_hugeLength_7cf53 : MethodName := ⟨RJ8, "hugeLength", "(II)I"⟩
def RJ3 : String := "jdk/internal/util/Preconditions"
def TJ3 : u_T := fun k => match k with
  | _ => ("", "", "", false)
def tyJ3 : Nat → FieldType := fun k => match k with
  | _ => .int
theorem nmJ3 : ∀ a, a < 0 → ∀ b, b < 0 → a ≠ b → (TJ3 a).2.1 ≠ (TJ3 b).2.1 := by decide +kernel
theorem tyJ3_ok : ∀ k, k < 0 → parseFieldDescriptor (TJ3 k).2.2.1 = some (tyJ3 k) := by decide +kernel
abbrev cJ3_checkIndex_8e157 : ByteArray := prog_42_method_11_code
def yJ3_checkIndex_8e157 : MethodName := ⟨RJ3, "checkIndex", "(IILjava/util/function/BiFunction;)I"⟩
abbrev cJ3_checkFromToIndex_8c36e : ByteArray := prog_42_method_12_code
def yJ3_checkFromToIndex_8c36e : MethodName := ⟨RJ3, "checkFromToIndex", "(IIILjava/util/function/BiFunction;)I"⟩
abbrev cJ3_checkFromIndexSize_8c36e : ByteArray := prog_42_method_13_code
def yJ3_checkFromIndexSize_8c36e : MethodName := ⟨RJ3, "checkFromIndexSize", "(IIILjava/util/function/BiFunction;)I"⟩
def RL : String := "ScrapYardLaw"
abbrev cL_span : ByteArray := method_3_code
def yL_span : MethodName := ⟨RL, "span", "(LScrapYard;IIII[J)I"⟩
abbrev cL_contract : ByteArray := method_4_code
def yL_contract : MethodName := ⟨RL, "contract", "(LScrapYard;III[J)I"⟩
abbrev cL_force : ByteArray := method_5_code
def yL_force : MethodName := ⟨RL, "force", "(LScrapYard;II[J)I"⟩
abbrev cL_usual : ByteArray := method_6_code
def yL_usual : MethodName := ⟨RL, "usual", "(LScrapYard;IIII[J)I"⟩
abbrev cL_load : ByteArray := method_7_code
def yL_load : MethodName := ⟨RL, "load", "(LScrapYard;IIII[J)I"⟩
abbrev cL_told : ByteArray := method_8_code
def yL_told : MethodName := ⟨RL, "told", "(LScrapYard;II[J)I"⟩
abbrev cL_sample : ByteArray := method_9_code
def yL_sample : MethodName := ⟨RL, "sample", "(LScrapYard;IIII[J)I"⟩
abbrev cL_tons : ByteArray := method_10_code
def yL_tons : MethodName := ⟨RL, "tons", "(LScrapYard;I[J)I"⟩
abbrev cL_layers : ByteArray := method_11_code
def yL_layers : MethodName := ⟨RL, "layers", "(LScrapYard;I[J)I"⟩
abbrev cL_layer : ByteArray := method_12_code
def yL_layer : MethodName := ⟨RL, "layer", "(LScrapYard;III[J)I"⟩
abbrev cL_move : ByteArray := method_13_code
def yL_move : MethodName := ⟨RL, "move", "(LScrapYard;III[J)I"⟩
abbrev cL_mix : ByteArray := method_14_code
def yL_mix : MethodName := ⟨RL, "mix", "(LScrapYard;I[J)I"⟩
abbrev cL_asked : ByteArray := method_15_code
def yL_asked : MethodName := ⟨RL, "asked", "(LScrapYard;III[J)I"⟩
abbrev cL_best : ByteArray := method_16_code
def yL_best : MethodName := ⟨RL, "best", "(LScrapYard;I[J)I"⟩
abbrev cL_charge : ByteArray := method_17_code
def yL_charge : MethodName := ⟨RL, "charge", "(LScrapYard;II[J)I"⟩
abbrev cL_melt : ByteArray := method_18_code
def yL_melt : MethodName := ⟨RL, "melt", "(LScrapYard;I[J)I"⟩
abbrev cL_portions : ByteArray := method_19_code
def yL_portions : MethodName := ⟨RL, "portions", "(LScrapYard;I[J)I"⟩
abbrev cL_portion : ByteArray := method_20_code
def yL_portion : MethodName := ⟨RL, "portion", "(LScrapYard;III[J)I"⟩
abbrev cL_prove : ByteArray := method_21_code
def yL_prove : MethodName := ⟨RL, "prove", "(LScrapYard;IIII[J)I"⟩
abbrev cL_money : ByteArray := method_22_code
def yL_money : MethodName := ⟨RL, "money", "(LScrapYard;I[J)I"⟩
abbrev cL_day : ByteArray := method_23_code
def yL_day : MethodName := ⟨RL, "day", "(LScrapYard;I[J)I"⟩
abbrev cL_law : ByteArray := code
def yL_law : MethodName := ⟨RL, "law", "([I)Z"⟩
abbrev vwCl : List vw_C := [(RJ0, TJ0, 2), (RJ4, TJ4, 4), (RJx4a65c, TJx4a65c, 3), (RX0, TX0, 7), (RX1, TX1, 5), (RX2, TX2, 5), (RX3, TX3, 3), (RX4, TX4, 1), (RX5, TX5, 2), (RX6, TX6, 4), (RX7, TX7, 9), (RX8, TX8, 2), (RX9, TX9, 3), (RX10, TX10, 1), (RX11, TX11, 10), (RX12, TX12, 60)]
