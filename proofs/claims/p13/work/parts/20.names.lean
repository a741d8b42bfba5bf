/-! the printed names of the claim: classes, fields, methods' names and codes (by the program gentab.py out of the task's names) -/
def RX0 : String := "Tuninghouse$ContinuedFraction"
def TX0 : u_T := fun k => match k with
  | 0 => ("Tuninghouse$ContinuedFraction", "rest", "LTuninghouse$Whole;", false)
  | _ => ("Tuninghouse$ContinuedFraction", "divisor", "LTuninghouse$Whole;", false)
def tyX0 : Nat → FieldType := fun k => match k with
  | 0 => .object "Tuninghouse$Whole"
  | _ => .object "Tuninghouse$Whole"
theorem nmX0 : ∀ a, a < 2 → ∀ b, b < 2 → a ≠ b → (TX0 a).2.1 ≠ (TX0 b).2.1 := by decide +kernel
theorem tyX0_ok : ∀ k, k < 2 → parseFieldDescriptor (TX0 k).2.2.1 = some (tyX0 k) := by decide +kernel
abbrev cX0_init : ByteArray := prog_2_method_1_code
def yX0_init : MethodName := ⟨RX0, "<init>", "()V"⟩
abbrev cX0_start : ByteArray := prog_2_method_2_code
def yX0_start : MethodName := ⟨RX0, "start", "(LTuninghouse$Interval;LTuninghouse$Sizes;)V"⟩
abbrev cX0_hasEnded : ByteArray := prog_2_method_3_code
def yX0_hasEnded : MethodName := ⟨RX0, "hasEnded", "()Z"⟩
abbrev cX0_next : ByteArray := prog_2_method_4_code
def yX0_next : MethodName := ⟨RX0, "next", "()J"⟩
def RX1 : String := "Tuninghouse$Fixed"
def TX1 : u_T := fun k => match k with
  | 0 => ("Tuninghouse$Fixed", "behind", "[I", true)
  | _ => ("Tuninghouse$Fixed", "whole", "J", false)
def tyX1 : Nat → FieldType := fun k => match k with
  | 0 => .array .int
  | _ => .long
theorem nmX1 : ∀ a, a < 2 → ∀ b, b < 2 → a ≠ b → (TX1 a).2.1 ≠ (TX1 b).2.1 := by decide +kernel
theorem tyX1_ok : ∀ k, k < 2 → parseFieldDescriptor (TX1 k).2.2.1 = some (tyX1 k) := by decide +kernel
abbrev cX1_init : ByteArray := prog_3_method_1_code
def yX1_init : MethodName := ⟨RX1, "<init>", "(I)V"⟩
def RX2 : String := "Tuninghouse$Interval"
def TX2 : u_T := fun k => match k with
  | 0 => ("Tuninghouse$Interval", "exponent", "[J", true)
  | _ => ("Tuninghouse$Interval", "root", "J", true)
def tyX2 : Nat → FieldType := fun k => match k with
  | 0 => .array .long
  | _ => .long
theorem nmX2 : ∀ a, a < 2 → ∀ b, b < 2 → a ≠ b → (TX2 a).2.1 ≠ (TX2 b).2.1 := by decide +kernel
theorem tyX2_ok : ∀ k, k < 2 → parseFieldDescriptor (TX2 k).2.2.1 = some (tyX2 k) := by decide +kernel
abbrev cX2_init : ByteArray := prog_4_method_1_code
def yX2_init : MethodName := ⟨RX2, "<init>", "([JJ)V"⟩
abbrev cX2_ofOctaves : ByteArray := prog_4_method_2_code
def yX2_ofOctaves : MethodName := ⟨RX2, "ofOctaves", "(JJ)LTuninghouse$Interval;"⟩
def RX3 : String := "Tuninghouse$Names"
def TX3 : u_T := fun k => match k with
  | 0 => ("Tuninghouse$Names", "rising", "[LTuninghouse$Interval;", true)
  | _ => ("Tuninghouse$Names", "names", "[I", true)
def tyX3 : Nat → FieldType := fun k => match k with
  | 0 => .array (.object "Tuninghouse$Interval")
  | _ => .array .int
theorem nmX3 : ∀ a, a < 2 → ∀ b, b < 2 → a ≠ b → (TX3 a).2.1 ≠ (TX3 b).2.1 := by decide +kernel
theorem tyX3_ok : ∀ k, k < 2 → parseFieldDescriptor (TX3 k).2.2.1 = some (tyX3 k) := by decide +kernel
abbrev cX3_init : ByteArray := prog_5_method_1_code
def yX3_init : MethodName := ⟨RX3, "<init>", "([LTuninghouse$Interval;[I)V"⟩
def RX4 : String := "Tuninghouse$PowerOfTwo"
def TX4 : u_T := fun k => match k with
  | 0 => ("Tuninghouse$PowerOfTwo", "given", "[I", true)
  | 1 => ("Tuninghouse$PowerOfTwo", "power", "[I", true)
  | 2 => ("Tuninghouse$PowerOfTwo", "product", "[I", true)
  | _ => ("Tuninghouse$PowerOfTwo", "raised", "LTuninghouse$Fixed;", true)
def tyX4 : Nat → FieldType := fun k => match k with
  | 0 => .array .int
  | 1 => .array .int
  | 2 => .array .int
  | _ => .object "Tuninghouse$Fixed"
theorem nmX4 : ∀ a, a < 4 → ∀ b, b < 4 → a ≠ b → (TX4 a).2.1 ≠ (TX4 b).2.1 := by decide +kernel
theorem tyX4_ok : ∀ k, k < 4 → parseFieldDescriptor (TX4 k).2.2.1 = some (tyX4 k) := by decide +kernel
abbrev cX4_init : ByteArray := prog_6_method_1_code
def yX4_init : MethodName := ⟨RX4, "<init>", "()V"⟩
def RX5 : String := "Tuninghouse$Scale"
def TX5 : u_T := fun k => match k with
  | 0 => ("Tuninghouse$Scale", "rising", "[LTuninghouse$Interval;", true)
  | 1 => ("Tuninghouse$Scale", "gaps", "[LTuninghouse$Interval;", false)
  | _ => ("Tuninghouse$Scale", "sorts", "[I", false)
def tyX5 : Nat → FieldType := fun k => match k with
  | 0 => .array (.object "Tuninghouse$Interval")
  | 1 => .array (.object "Tuninghouse$Interval")
  | _ => .array .int
theorem nmX5 : ∀ a, a < 3 → ∀ b, b < 3 → a ≠ b → (TX5 a).2.1 ≠ (TX5 b).2.1 := by decide +kernel
theorem tyX5_ok : ∀ k, k < 3 → parseFieldDescriptor (TX5 k).2.2.1 = some (tyX5 k) := by decide +kernel
abbrev cX5_init : ByteArray := prog_7_method_1_code
def yX5_init : MethodName := ⟨RX5, "<init>", "([LTuninghouse$Interval;)V"⟩
abbrev cX5_of : ByteArray := prog_7_method_2_code
def yX5_of : MethodName := ⟨RX5, "of", "([LTuninghouse$Interval;I)LTuninghouse$Scale;"⟩
def RX6 : String := "Tuninghouse$Sizes"
def TX6 : u_T := fun k => match k with
  | 0 => ("Tuninghouse$Sizes", "measured", "LTuninghouse$Fixed;", true)
  | _ => ("Tuninghouse$Sizes", "form", "[J", true)
def tyX6 : Nat → FieldType := fun k => match k with
  | 0 => .object "Tuninghouse$Fixed"
  | _ => .array .long
theorem nmX6 : ∀ a, a < 2 → ∀ b, b < 2 → a ≠ b → (TX6 a).2.1 ≠ (TX6 b).2.1 := by decide +kernel
theorem tyX6_ok : ∀ k, k < 2 → parseFieldDescriptor (TX6 k).2.2.1 = some (tyX6 k) := by decide +kernel
abbrev cX6_init : ByteArray := prog_8_method_1_code
def yX6_init : MethodName := ⟨RX6, "<init>", "()V"⟩
abbrev cX6_sign : ByteArray := prog_8_method_2_code
def yX6_sign : MethodName := ⟨RX6, "sign", "([J)I"⟩
abbrev cX6_putAmount : ByteArray := prog_8_method_9_code
def yX6_putAmount : MethodName := ⟨RX6, "putAmount", "(LTuninghouse$Interval;LTuninghouse$Whole;)V"⟩
abbrev cX6_slackOf : ByteArray := prog_8_method_12_code
def yX6_slackOf : MethodName := ⟨RX6, "slackOf", "([J)J"⟩
abbrev cX6_isShort : ByteArray := prog_8_method_13_code
def yX6_isShort : MethodName := ⟨RX6, "isShort", "([JJ)Z"⟩
abbrev cX6_nearOf : ByteArray := prog_8_method_14_code
def yX6_nearOf : MethodName := ⟨RX6, "nearOf", "([J)J"⟩
abbrev cX6_measure : ByteArray := prog_8_method_15_code
def yX6_measure : MethodName := ⟨RX6, "measure", "([J)V"⟩
def RX7 : String := "Tuninghouse$State"
def TX7 : u_T := fun k => match k with
  | 0 => ("Tuninghouse$State", "registers", "[LTuninghouse$Interval;", true)
  | 1 => ("Tuninghouse$State", "scales", "[LTuninghouse$Scale;", true)
  | 2 => ("Tuninghouse$State", "names", "LTuninghouse$Names;", true)
  | 3 => ("Tuninghouse$State", "fifths", "[I", true)
  | _ => ("Tuninghouse$State", "tune", "[LTuninghouse$Interval;", true)
def tyX7 : Nat → FieldType := fun k => match k with
  | 0 => .array (.object "Tuninghouse$Interval")
  | 1 => .array (.object "Tuninghouse$Scale")
  | 2 => .object "Tuninghouse$Names"
  | 3 => .array .int
  | _ => .array (.object "Tuninghouse$Interval")
theorem nmX7 : ∀ a, a < 5 → ∀ b, b < 5 → a ≠ b → (TX7 a).2.1 ≠ (TX7 b).2.1 := by decide +kernel
theorem tyX7_ok : ∀ k, k < 5 → parseFieldDescriptor (TX7 k).2.2.1 = some (tyX7 k) := by decide +kernel
abbrev cX7_init : ByteArray := prog_9_method_1_code
def yX7_init : MethodName := ⟨RX7, "<init>", "([LTuninghouse$Interval;[LTuninghouse$Scale;LTuninghouse$Names;[I[LTuninghouse$Interval;)V"⟩
abbrev cX7_first : ByteArray := prog_9_method_2_code
def yX7_first : MethodName := ⟨RX7, "first", "()LTuninghouse$State;"⟩
abbrev cX7_register : ByteArray := prog_9_method_3_code
def yX7_register : MethodName := ⟨RX7, "register", "(I)LTuninghouse$Interval;"⟩
def RX8 : String := "Tuninghouse$Term"
def TX8 : u_T := fun k => match k with
  | 0 => ("Tuninghouse$Term", "isLess", "Z", false)
  | 1 => ("Tuninghouse$Term", "many", "I", false)
  | 2 => ("Tuninghouse$Term", "register", "I", false)
  | 3 => ("Tuninghouse$Term", "over", "I", false)
  | 4 => ("Tuninghouse$Term", "under", "I", false)
  | _ => ("Tuninghouse$Term", "divisor", "I", false)
def tyX8 : Nat → FieldType := fun k => match k with
  | 0 => .boolean
  | 1 => .int
  | 2 => .int
  | 3 => .int
  | 4 => .int
  | _ => .int
theorem nmX8 : ∀ a, a < 6 → ∀ b, b < 6 → a ≠ b → (TX8 a).2.1 ≠ (TX8 b).2.1 := by decide +kernel
theorem tyX8_ok : ∀ k, k < 6 → parseFieldDescriptor (TX8 k).2.2.1 = some (tyX8 k) := by decide +kernel
abbrev cX8_init : ByteArray := prog_10_method_1_code
def yX8_init : MethodName := ⟨RX8, "<init>", "()V"⟩
def RX9 : String := "Tuninghouse$Text"
def TX9 : u_T := fun k => match k with
  | 0 => ("Tuninghouse$Text", "bytes", "[I", true)
  | 1 => ("Tuninghouse$Text", "terms", "[LTuninghouse$Term;", true)
  | 2 => ("Tuninghouse$Text", "length", "I", false)
  | 3 => ("Tuninghouse$Text", "count", "I", false)
  | 4 => ("Tuninghouse$Text", "at", "I", false)
  | _ => ("Tuninghouse$Text", "error", "I", false)
def tyX9 : Nat → FieldType := fun k => match k with
  | 0 => .array .int
  | 1 => .array (.object "Tuninghouse$Term")
  | 2 => .int
  | 3 => .int
  | 4 => .int
  | _ => .int
theorem nmX9 : ∀ a, a < 6 → ∀ b, b < 6 → a ≠ b → (TX9 a).2.1 ≠ (TX9 b).2.1 := by decide +kernel
theorem tyX9_ok : ∀ k, k < 6 → parseFieldDescriptor (TX9 k).2.2.1 = some (tyX9 k) := by decide +kernel
abbrev cX9_init : ByteArray := prog_11_method_1_code
def yX9_init : MethodName := ⟨RX9, "<init>", "()V"⟩
def RX10 : String := "Tuninghouse$Whole"
def TX10 : u_T := fun k => match k with
  | 0 => ("Tuninghouse$Whole", "limb", "[I", true)
  | _ => ("Tuninghouse$Whole", "length", "I", false)
def tyX10 : Nat → FieldType := fun k => match k with
  | 0 => .array .int
  | _ => .int
theorem nmX10 : ∀ a, a < 2 → ∀ b, b < 2 → a ≠ b → (TX10 a).2.1 ≠ (TX10 b).2.1 := by decide +kernel
theorem tyX10_ok : ∀ k, k < 2 → parseFieldDescriptor (TX10 k).2.2.1 = some (tyX10 k) := by decide +kernel
abbrev cX10_init : ByteArray := prog_12_method_1_code
def yX10_init : MethodName := ⟨RX10, "<init>", "()V"⟩
abbrev cX10_become : ByteArray := prog_12_method_2_code
def yX10_become : MethodName := ⟨RX10, "become", "(J)V"⟩
abbrev cX10_isZero : ByteArray := prog_12_method_4_code
def yX10_isZero : MethodName := ⟨RX10, "isZero", "()Z"⟩
abbrev cX10_shift : ByteArray := prog_12_method_5_code
def yX10_shift : MethodName := ⟨RX10, "shift", "(I[I)V"⟩
abbrev cX10_multiply : ByteArray := prog_12_method_6_code
def yX10_multiply : MethodName := ⟨RX10, "multiply", "(I)V"⟩
abbrev cX10_order : ByteArray := prog_12_method_9_code
def yX10_order : MethodName := ⟨RX10, "order", "(LTuninghouse$Whole;)I"⟩
abbrev cX10_becomeDifference : ByteArray := prog_12_method_10_code
def yX10_becomeDifference : MethodName := ⟨RX10, "becomeDifference", "(LTuninghouse$Whole;)V"⟩
abbrev cX10_leave : ByteArray := prog_12_method_11_code
def yX10_leave : MethodName := ⟨RX10, "leave", "(LTuninghouse$Whole;J)J"⟩
abbrev cX10_binaryDigits : ByteArray := prog_12_method_12_code
def yX10_binaryDigits : MethodName := ⟨RX10, "binaryDigits", "()I"⟩
abbrev cX10_shiftBits : ByteArray := prog_12_method_14_code
def yX10_shiftBits : MethodName := ⟨RX10, "shiftBits", "(I)V"⟩
abbrev cX10_halve : ByteArray := prog_12_method_15_code
def yX10_halve : MethodName := ⟨RX10, "halve", "()V"⟩
abbrev cX10_trim : ByteArray := prog_12_method_16_code
def yX10_trim : MethodName := ⟨RX10, "trim", "()V"⟩
def RX11 : String := "Tuninghouse"
def TX11 : u_T := fun k => match k with
  | 0 => ("Tuninghouse", "sizes", "LTuninghouse$Sizes;", true)
  | 1 => ("Tuninghouse", "continued", "LTuninghouse$ContinuedFraction;", true)
  | 2 => ("Tuninghouse", "power", "LTuninghouse$PowerOfTwo;", true)
  | 3 => ("Tuninghouse", "text", "LTuninghouse$Text;", true)
  | 4 => ("Tuninghouse", "toldOver", "LTuninghouse$Whole;", true)
  | 5 => ("Tuninghouse", "toldUnder", "LTuninghouse$Whole;", true)
  | 6 => ("Tuninghouse", "spare", "LTuninghouse$Whole;", true)
  | 7 => ("Tuninghouse", "form", "[J", true)
  | 8 => ("Tuninghouse", "steps", "[J", true)
  | 9 => ("Tuninghouse", "past", "[LTuninghouse$State;", true)
  | 10 => ("Tuninghouse", "changes", "I", false)
  | 11 => ("Tuninghouse", "state", "LTuninghouse$State;", false)
  | _ => ("Tuninghouse", "isTold", "Z", false)
def tyX11 : Nat → FieldType := fun k => match k with
  | 0 => .object "Tuninghouse$Sizes"
  | 1 => .object "Tuninghouse$ContinuedFraction"
  | 2 => .object "Tuninghouse$PowerOfTwo"
  | 3 => .object "Tuninghouse$Text"
  | 4 => .object "Tuninghouse$Whole"
  | 5 => .object "Tuninghouse$Whole"
  | 6 => .object "Tuninghouse$Whole"
  | 7 => .array .long
  | 8 => .array .long
  | 9 => .array (.object "Tuninghouse$State")
  | 10 => .int
  | 11 => .object "Tuninghouse$State"
  | _ => .boolean
theorem nmX11 : ∀ a, a < 13 → ∀ b, b < 13 → a ≠ b → (TX11 a).2.1 ≠ (TX11 b).2.1 := by decide +kernel
theorem tyX11_ok : ∀ k, k < 13 → parseFieldDescriptor (TX11 k).2.2.1 = some (tyX11 k) := by decide +kernel
abbrev cX11_init : ByteArray := prog_1_method_1_code
def yX11_init : MethodName := ⟨RX11, "<init>", "()V"⟩
abbrev cX11_nearest : ByteArray := prog_1_method_36_code
def yX11_nearest : MethodName := ⟨RX11, "nearest", "(III)I"⟩
abbrev cX11_needIndex : ByteArray := prog_1_method_56_code
def yX11_needIndex : MethodName := ⟨RX11, "needIndex", "(II)V"⟩
abbrev cX11_needRange : ByteArray := prog_1_method_57_code
def yX11_needRange : MethodName := ⟨RX11, "needRange", "(III)V"⟩
abbrev cX11_nearestMiss : ByteArray := prog_1_method_64_code
def yX11_nearestMiss : MethodName := ⟨RX11, "nearestMiss", "(LTuninghouse$Interval;II)J"⟩
abbrev cX11_divisorOf : ByteArray := prog_1_method_77_code
def yX11_divisorOf : MethodName := ⟨RX11, "divisorOf", "(JJ)J"⟩
abbrev cX11_reduce : ByteArray := prog_1_method_78_code
def yX11_reduce : MethodName := ⟨RX11, "reduce", "([JJ)J"⟩
def RX12 : String := "TuninghouseModel"
def TX12 : u_T := fun k => match k with
  | 0 => ("TuninghouseModel", "thrown", "I", false)
  | 1 => ("TuninghouseModel", "s", "[I", true)
  | 2 => ("TuninghouseModel", "names", "[I", false)
  | 3 => ("TuninghouseModel", "ahead", "[[I", true)
  | 4 => ("TuninghouseModel", "aheadNames", "[[I", true)
  | 5 => ("TuninghouseModel", "changes", "I", false)
  | 6 => ("TuninghouseModel", "told", "[[I", true)
  | 7 => ("TuninghouseModel", "toldMany", "I", false)
  | 8 => ("TuninghouseModel", "logarithm", "[[I", true)
  | 9 => ("TuninghouseModel", "over", "[J", true)
  | 10 => ("TuninghouseModel", "under", "J", false)
  | 11 => ("TuninghouseModel", "gathered", "[I", true)
  | 12 => ("TuninghouseModel", "many", "I", false)
  | 13 => ("TuninghouseModel", "text", "[I", true)
  | 14 => ("TuninghouseModel", "textLength", "I", false)
  | 15 => ("TuninghouseModel", "at", "I", false)
  | 16 => ("TuninghouseModel", "from", "I", false)
  | 17 => ("TuninghouseModel", "sort", "I", false)
  | 18 => ("TuninghouseModel", "figure", "I", false)
  | 19 => ("TuninghouseModel", "digits", "I", false)
  | 20 => ("TuninghouseModel", "error", "I", false)
  | 21 => ("TuninghouseModel", "isLess", "[I", true)
  | 22 => ("TuninghouseModel", "times", "[I", true)
  | 23 => ("TuninghouseModel", "overOf", "[I", true)
  | 24 => ("TuninghouseModel", "underOf", "[I", true)
  | 25 => ("TuninghouseModel", "registerOf", "[I", true)
  | 26 => ("TuninghouseModel", "partsOf", "[I", true)
  | _ => ("TuninghouseModel", "terms", "I", false)
def tyX12 : Nat → FieldType := fun k => match k with
  | 0 => .int
  | 1 => .array .int
  | 2 => .array .int
  | 3 => .array (.array .int)
  | 4 => .array (.array .int)
  | 5 => .int
  | 6 => .array (.array .int)
  | 7 => .int
  | 8 => .array (.array .int)
  | 9 => .array .long
  | 10 => .long
  | 11 => .array .int
  | 12 => .int
  | 13 => .array .int
  | 14 => .int
  | 15 => .int
  | 16 => .int
  | 17 => .int
  | 18 => .int
  | 19 => .int
  | 20 => .int
  | 21 => .array .int
  | 22 => .array .int
  | 23 => .array .int
  | 24 => .array .int
  | 25 => .array .int
  | 26 => .array .int
  | _ => .int
theorem nmX12 : ∀ a, a < 28 → ∀ b, b < 28 → a ≠ b → (TX12 a).2.1 ≠ (TX12 b).2.1 := by decide +kernel
theorem tyX12_ok : ∀ k, k < 28 → parseFieldDescriptor (TX12 k).2.2.1 = some (tyX12 k) := by decide +kernel
abbrev cX12_init : ByteArray := prog_14_method_1_code
def yX12_init : MethodName := ⟨RX12, "<init>", "()V"⟩
abbrev cX12_no : ByteArray := prog_14_method_3_code
def yX12_no : MethodName := ⟨RX12, "no", "(ZI)Z"⟩
abbrev cX12_lacks : ByteArray := prog_14_method_4_code
def yX12_lacks : MethodName := ⟨RX12, "lacks", "(Z)Z"⟩
abbrev cX12_in : ByteArray := prog_14_method_5_code
def yX12_in : MethodName := ⟨RX12, "in", "(JJJ)Z"⟩
abbrev cX12_isRegister : ByteArray := prog_14_method_6_code
def yX12_isRegister : MethodName := ⟨RX12, "isRegister", "(I)Z"⟩
abbrev cX12_big : ByteArray := prog_14_method_9_code
def yX12_big : MethodName := ⟨RX12, "big", "(J)[I"⟩
abbrev cX12_comparesAmounts : ByteArray := prog_14_method_10_code
def yX12_comparesAmounts : MethodName := ⟨RX12, "comparesAmounts", "([I[I)I"⟩
abbrev cX12_copied : ByteArray := prog_14_method_11_code
def yX12_copied : MethodName := ⟨RX12, "copied", "([I)[I"⟩
abbrev cX12_negative : ByteArray := prog_14_method_12_code
def yX12_negative : MethodName := ⟨RX12, "negative", "([I)[I"⟩
abbrev cX12_trims : ByteArray := prog_14_method_14_code
def yX12_trims : MethodName := ⟨RX12, "trims", "([II)V"⟩
abbrev cX12_added : ByteArray := prog_14_method_15_code
def yX12_added : MethodName := ⟨RX12, "added", "([I[I)[I"⟩
abbrev cX12_doubled : ByteArray := prog_14_method_16_code
def yX12_doubled : MethodName := ⟨RX12, "doubled", "([I)[I"⟩
abbrev cX12_product : ByteArray := prog_14_method_17_code
def yX12_product : MethodName := ⟨RX12, "product", "([I[I)[I"⟩
abbrev cX12_divided : ByteArray := prog_14_method_18_code
def yX12_divided : MethodName := ⟨RX12, "divided", "([II)[I"⟩
abbrev cX12_atanh : ByteArray := prog_14_method_22_code
def yX12_atanh : MethodName := ⟨RX12, "atanh", "(II)[I"⟩
abbrev cX12_logarithmOf_ : ByteArray := prog_14_method_24_code
def yX12_logarithmOf_ : MethodName := ⟨RX12, "logarithmOf", "([J)[I"⟩
abbrev cX12_isNothing : ByteArray := prog_14_method_25_code
def yX12_isNothing : MethodName := ⟨RX12, "isNothing", "([J)Z"⟩
abbrev cX12_signOf : ByteArray := prog_14_method_26_code
def yX12_signOf : MethodName := ⟨RX12, "signOf", "([J)I"⟩
abbrev cX12_signWithout : ByteArray := prog_14_method_27_code
def yX12_signWithout : MethodName := ⟨RX12, "signWithout", "([JJ)I"⟩
abbrev cX12_roughly : ByteArray := prog_14_method_28_code
def yX12_roughly : MethodName := ⟨RX12, "roughly", "([J)D"⟩
abbrev cX12_piecesOf : ByteArray := prog_14_method_29_code
def yX12_piecesOf : MethodName := ⟨RX12, "piecesOf", "([JJ)J"⟩
abbrev cX12_nearestOf : ByteArray := prog_14_method_30_code
def yX12_nearestOf : MethodName := ⟨RX12, "nearestOf", "([JJ)J"⟩
abbrev cX12_timesOf : ByteArray := prog_14_method_31_code
def yX12_timesOf : MethodName := ⟨RX12, "timesOf", "(J)[J"⟩
abbrev cX12_comparesAmounts_ : ByteArray := prog_14_method_32_code
def yX12_comparesAmounts_ : MethodName := ⟨RX12, "comparesAmounts", "([J[J)I"⟩
abbrev cX12_takes : ByteArray := prog_14_method_34_code
def yX12_takes : MethodName := ⟨RX12, "takes", "([II)V"⟩
abbrev cX12_takes_ : ByteArray := prog_14_method_35_code
def yX12_takes_ : MethodName := ⟨RX12, "takes", "(I)V"⟩
abbrev cX12_nearest : ByteArray := prog_14_method_103_code
def yX12_nearest : MethodName := ⟨RX12, "nearest", "(III)I"⟩
def RJx00060 : String := "java/lang/ArrayIndexOutOfBoundsException"
def TJx00060 : u_T := fun k => match k with
  | 0 => ("java/lang/Throwable", "backtrace", "Ljava/lang/Object;", false)
  | 1 => ("java/lang/Throwable", "detailMessage", "Ljava/lang/String;", false)
  | 2 => ("java/lang/Throwable", "cause", "Ljava/lang/Throwable;", false)
  | 3 => ("java/lang/Throwable", "stackTrace", "[Ljava/lang/StackTraceElement;", false)
  | 4 => ("java/lang/Throwable", "depth", "I", false)
  | _ => ("java/lang/Throwable", "suppressedExceptions", "Ljava/util/List;", false)
def RJ13 : String := "java/lang/Long"
abbrev cJ13_compare_74951 : ByteArray := prog_25_method_42_code
def yJ13_compare_74951 : MethodName := ⟨RJ13, "compare", "(JJ)I"⟩
abbrev cJ13_signum_95d88 : ByteArray := prog_25_method_57_code
def yJ13_signum_95d88 : MethodName := ⟨RJ13, "signum", "(J)I"⟩
def RJ9 : String := "java/lang/Math"
def RJ0 : String := "java/lang/String"
def TJ0 : u_T := fun k => match k with
  | 0 => ("java/lang/String", "value", "[B", true)
  | _ => ("java/lang/String", "coder", "B", true)
def RL : String := "TuninghouseLaw"
abbrev cL_nearest : ByteArray := method_35_code
def yL_nearest : MethodName := ⟨RL, "nearest", "(LTuninghouse;III[J)I"⟩
abbrev cL_law : ByteArray := code
abbrev vwCl : List vw_C := [(RJ0, TJ0, 2), (RJx00060, TJx00060, 6), (RX0, TX0, 2), (RX1, TX1, 2), (RX2, TX2, 2), (RX3, TX3, 2), (RX4, TX4, 4), (RX5, TX5, 3), (RX6, TX6, 2), (RX7, TX7, 5), (RX8, TX8, 6), (RX9, TX9, 6), (RX10, TX10, 2), (RX11, TX11, 13), (RX12, TX12, 28)]
