-- names, fields and decode rows: printed by TURN (claim/NAMES.whole.lean.txt), those that p1 needs
def RX0 : String := "WordFoundry$Counts"
def TX0 : u_T := fun k => match k with
  | _ => ("WordFoundry$Counts", "limbs", "[I", true)
def tyX0 : Nat → FieldType := fun k => match k with
  | _ => .array .int
theorem nmX0 : ∀ a, a < 1 → ∀ b, b < 1 → a ≠ b → (TX0 a).2.1 ≠ (TX0 b).2.1 := by decide +kernel
theorem tyX0_ok : ∀ k, k < 1 → parseFieldDescriptor (TX0 k).2.2.1 = some (tyX0 k) := by decide +kernel
abbrev cX0_init : ByteArray := prog_2_method_1_code
def yX0_init : MethodName := ⟨RX0, "<init>", "()V"⟩
abbrev cX0_set : ByteArray := prog_2_method_2_code
def yX0_set : MethodName := ⟨RX0, "set", "(II)V"⟩
def RX1 : String := "WordFoundry$Dictionary"
def TX1 : u_T := fun k => match k with
  | 0 => ("WordFoundry$Dictionary", "names", "[I", true)
  | 1 => ("WordFoundry$Dictionary", "vocabularies", "[I", true)
  | 2 => ("WordFoundry$Dictionary", "kinds", "[I", true)
  | 3 => ("WordFoundry$Dictionary", "immediates", "[Z", true)
  | 4 => ("WordFoundry$Dictionary", "values", "[I", true)
  | 5 => ("WordFoundry$Dictionary", "doingEntries", "[I", true)
  | 6 => ("WordFoundry$Dictionary", "doingStarts", "[I", true)
  | 7 => ("WordFoundry$Dictionary", "opCounts", "[I", true)
  | 8 => ("WordFoundry$Dictionary", "opKinds", "[I", true)
  | 9 => ("WordFoundry$Dictionary", "opNumbers", "[I", true)
  | 10 => ("WordFoundry$Dictionary", "size", "I", false)
  | 11 => ("WordFoundry$Dictionary", "newVocabulary", "I", false)
  | _ => ("WordFoundry$Dictionary", "searchedVocabulary", "I", false)
def tyX1 : Nat → FieldType := fun k => match k with
  | 0 => .array .int
  | 1 => .array .int
  | 2 => .array .int
  | 3 => .array .boolean
  | 4 => .array .int
  | 5 => .array .int
  | 6 => .array .int
  | 7 => .array .int
  | 8 => .array .int
  | 9 => .array .int
  | 10 => .int
  | 11 => .int
  | _ => .int
theorem nmX1 : ∀ a, a < 13 → ∀ b, b < 13 → a ≠ b → (TX1 a).2.1 ≠ (TX1 b).2.1 := by decide +kernel
theorem tyX1_ok : ∀ k, k < 13 → parseFieldDescriptor (TX1 k).2.2.1 = some (tyX1 k) := by decide +kernel
abbrev cX1_init : ByteArray := prog_3_method_1_code
def yX1_init : MethodName := ⟨RX1, "<init>", "()V"⟩
abbrev cX1_has : ByteArray := prog_3_method_2_code
def yX1_has : MethodName := ⟨RX1, "has", "(I)Z"⟩
abbrev cX1_hasOp : ByteArray := prog_3_method_3_code
def yX1_hasOp : MethodName := ⟨RX1, "hasOp", "(II)Z"⟩
abbrev cX1_search : ByteArray := prog_3_method_8_code
def yX1_search : MethodName := ⟨RX1, "search", "(I)I"⟩
def RX2 : String := "WordFoundry$Draft"
def TX2 : u_T := fun k => match k with
  | 0 => ("WordFoundry$Draft", "opKinds", "[I", true)
  | 1 => ("WordFoundry$Draft", "opNumbers", "[I", true)
  | 2 => ("WordFoundry$Draft", "owners", "[I", true)
  | 3 => ("WordFoundry$Draft", "markKinds", "[I", true)
  | 4 => ("WordFoundry$Draft", "markPlaces", "[I", true)
  | 5 => ("WordFoundry$Draft", "markCounts", "[I", true)
  | 6 => ("WordFoundry$Draft", "making", "Z", false)
  | 7 => ("WordFoundry$Draft", "name", "I", false)
  | 8 => ("WordFoundry$Draft", "vocabulary", "I", false)
  | 9 => ("WordFoundry$Draft", "opCount", "I", false)
  | _ => ("WordFoundry$Draft", "markRows", "I", false)
def tyX2 : Nat → FieldType := fun k => match k with
  | 0 => .array .int
  | 1 => .array .int
  | 2 => .array .int
  | 3 => .array .int
  | 4 => .array .int
  | 5 => .array .int
  | 6 => .boolean
  | 7 => .int
  | 8 => .int
  | 9 => .int
  | _ => .int
theorem nmX2 : ∀ a, a < 11 → ∀ b, b < 11 → a ≠ b → (TX2 a).2.1 ≠ (TX2 b).2.1 := by decide +kernel
theorem tyX2_ok : ∀ k, k < 11 → parseFieldDescriptor (TX2 k).2.2.1 = some (tyX2 k) := by decide +kernel
abbrev cX2_init : ByteArray := prog_4_method_1_code
def yX2_init : MethodName := ⟨RX2, "<init>", "()V"⟩
def RX3 : String := "WordFoundry$Effects"
def TX3 : u_T := fun k => match k with
  | 0 => ("WordFoundry$Effects", "dictionary", "LWordFoundry$Dictionary;", true)
  | 1 => ("WordFoundry$Effects", "known", "[Z", true)
  | 2 => ("WordFoundry$Effects", "counts", "LWordFoundry$Counts;", true)
  | 3 => ("WordFoundry$Effects", "reached", "[Z", true)
  | 4 => ("WordFoundry$Effects", "ahead", "[I", true)
  | 5 => ("WordFoundry$Effects", "aheadCount", "I", false)
  | 6 => ("WordFoundry$Effects", "opCount", "I", false)
  | 7 => ("WordFoundry$Effects", "takes", "I", false)
  | _ => ("WordFoundry$Effects", "gives", "I", false)
def tyX3 : Nat → FieldType := fun k => match k with
  | 0 => .object "WordFoundry$Dictionary"
  | 1 => .array .boolean
  | 2 => .object "WordFoundry$Counts"
  | 3 => .array .boolean
  | 4 => .array .int
  | 5 => .int
  | 6 => .int
  | 7 => .int
  | _ => .int
theorem nmX3 : ∀ a, a < 9 → ∀ b, b < 9 → a ≠ b → (TX3 a).2.1 ≠ (TX3 b).2.1 := by decide +kernel
theorem tyX3_ok : ∀ k, k < 9 → parseFieldDescriptor (TX3 k).2.2.1 = some (tyX3 k) := by decide +kernel
abbrev cX3_init : ByteArray := prog_5_method_1_code
def yX3_init : MethodName := ⟨RX3, "<init>", "(LWordFoundry$Dictionary;)V"⟩
abbrev cX3_measureThrough : ByteArray := prog_5_method_4_code
def yX3_measureThrough : MethodName := ⟨RX3, "measureThrough", "(I)V"⟩
def RX4 : String := "WordFoundry$FrameRunner"
def TX4 : u_T := fun k => match k with
  | 0 => ("WordFoundry$FrameRunner", "machine", "LWordFoundry$Machine;", true)
  | 1 => ("WordFoundry$FrameRunner", "codes", "[I", true)
  | 2 => ("WordFoundry$FrameRunner", "places", "[I", true)
  | _ => ("WordFoundry$FrameRunner", "waiting", "[Z", true)
def tyX4 : Nat → FieldType := fun k => match k with
  | 0 => .object "WordFoundry$Machine"
  | 1 => .array .int
  | 2 => .array .int
  | _ => .array .boolean
theorem nmX4 : ∀ a, a < 4 → ∀ b, b < 4 → a ≠ b → (TX4 a).2.1 ≠ (TX4 b).2.1 := by decide +kernel
theorem tyX4_ok : ∀ k, k < 4 → parseFieldDescriptor (TX4 k).2.2.1 = some (tyX4 k) := by decide +kernel
abbrev cX4_init : ByteArray := prog_6_method_1_code
def yX4_init : MethodName := ⟨RX4, "<init>", "(LWordFoundry$Machine;)V"⟩
def RX5 : String := "WordFoundry$Line"
def TX5 : u_T := fun k => match k with
  | 0 => ("WordFoundry$Line", "sorts", "[I", true)
  | 1 => ("WordFoundry$Line", "values", "[I", true)
  | 2 => ("WordFoundry$Line", "length", "I", false)
  | _ => ("WordFoundry$Line", "place", "I", false)
def tyX5 : Nat → FieldType := fun k => match k with
  | 0 => .array .int
  | 1 => .array .int
  | 2 => .int
  | _ => .int
theorem nmX5 : ∀ a, a < 4 → ∀ b, b < 4 → a ≠ b → (TX5 a).2.1 ≠ (TX5 b).2.1 := by decide +kernel
theorem tyX5_ok : ∀ k, k < 4 → parseFieldDescriptor (TX5 k).2.2.1 = some (tyX5 k) := by decide +kernel
abbrev cX5_init : ByteArray := prog_7_method_1_code
def yX5_init : MethodName := ⟨RX5, "<init>", "()V"⟩
abbrev cX5_isFull : ByteArray := prog_7_method_2_code
def yX5_isFull : MethodName := ⟨RX5, "isFull", "()Z"⟩
abbrev cX5_add : ByteArray := prog_7_method_3_code
def yX5_add : MethodName := ⟨RX5, "add", "(II)I"⟩
abbrev cX5_hasMore : ByteArray := prog_7_method_4_code
def yX5_hasMore : MethodName := ⟨RX5, "hasMore", "()Z"⟩
abbrev cX5_clear : ByteArray := prog_7_method_8_code
def yX5_clear : MethodName := ⟨RX5, "clear", "()V"⟩
def RX6 : String := "WordFoundry$Machine"
def TX6 : u_T := fun k => match k with
  | 0 => ("WordFoundry$Machine", "first", "LWordFoundry$Stack;", true)
  | 1 => ("WordFoundry$Machine", "second", "LWordFoundry$Stack;", true)
  | 2 => ("WordFoundry$Machine", "cells", "[I", true)
  | 3 => ("WordFoundry$Machine", "printed", "LWordFoundry$Printed;", true)
  | 4 => ("WordFoundry$Machine", "dictionary", "LWordFoundry$Dictionary;", true)
  | 5 => ("WordFoundry$Machine", "draft", "LWordFoundry$Draft;", true)
  | 6 => ("WordFoundry$Machine", "line", "LWordFoundry$Line;", true)
  | 7 => ("WordFoundry$Machine", "running", "[I", true)
  | 8 => ("WordFoundry$Machine", "bases", "[I", true)
  | 9 => ("WordFoundry$Machine", "mostSteps", "I", true)
  | 10 => ("WordFoundry$Machine", "used", "I", false)
  | 11 => ("WordFoundry$Machine", "level", "I", false)
  | 12 => ("WordFoundry$Machine", "stepCount", "I", false)
  | 13 => ("WordFoundry$Machine", "exhausted", "Z", false)
  | 14 => ("WordFoundry$Machine", "compiling", "Z", false)
  | _ => ("WordFoundry$Machine", "target", "I", false)
def tyX6 : Nat → FieldType := fun k => match k with
  | 0 => .object "WordFoundry$Stack"
  | 1 => .object "WordFoundry$Stack"
  | 2 => .array .int
  | 3 => .object "WordFoundry$Printed"
  | 4 => .object "WordFoundry$Dictionary"
  | 5 => .object "WordFoundry$Draft"
  | 6 => .object "WordFoundry$Line"
  | 7 => .array .int
  | 8 => .array .int
  | 9 => .int
  | 10 => .int
  | 11 => .int
  | 12 => .int
  | 13 => .boolean
  | 14 => .boolean
  | _ => .int
theorem nmX6 : ∀ a, a < 16 → ∀ b, b < 16 → a ≠ b → (TX6 a).2.1 ≠ (TX6 b).2.1 := by decide +kernel
theorem tyX6_ok : ∀ k, k < 16 → parseFieldDescriptor (TX6 k).2.2.1 = some (tyX6 k) := by decide +kernel
abbrev cX6_init : ByteArray := prog_8_method_1_code
def yX6_init : MethodName := ⟨RX6, "<init>", "(I)V"⟩
def RX7 : String := "WordFoundry$Printed"
def TX7 : u_T := fun k => match k with
  | 0 => ("WordFoundry$Printed", "numbers", "[I", false)
  | _ => ("WordFoundry$Printed", "count", "I", false)
def tyX7 : Nat → FieldType := fun k => match k with
  | 0 => .array .int
  | _ => .int
theorem nmX7 : ∀ a, a < 2 → ∀ b, b < 2 → a ≠ b → (TX7 a).2.1 ≠ (TX7 b).2.1 := by decide +kernel
theorem tyX7_ok : ∀ k, k < 2 → parseFieldDescriptor (TX7 k).2.2.1 = some (tyX7 k) := by decide +kernel
abbrev cX7_init : ByteArray := prog_9_method_1_code
def yX7_init : MethodName := ⟨RX7, "<init>", "()V"⟩
def RX8 : String := "WordFoundry$RecursiveRunner"
def TX8 : u_T := fun k => match k with
  | _ => ("WordFoundry$RecursiveRunner", "machine", "LWordFoundry$Machine;", true)
def tyX8 : Nat → FieldType := fun k => match k with
  | _ => .object "WordFoundry$Machine"
theorem nmX8 : ∀ a, a < 1 → ∀ b, b < 1 → a ≠ b → (TX8 a).2.1 ≠ (TX8 b).2.1 := by decide +kernel
theorem tyX8_ok : ∀ k, k < 1 → parseFieldDescriptor (TX8 k).2.2.1 = some (tyX8 k) := by decide +kernel
abbrev cX8_init : ByteArray := prog_10_method_1_code
def yX8_init : MethodName := ⟨RX8, "<init>", "(LWordFoundry$Machine;)V"⟩
def RX9 : String := "WordFoundry$SoundCheck"
def TX9 : u_T := fun k => match k with
  | 0 => ("WordFoundry$SoundCheck", "framed", "LWordFoundry$Machine;", true)
  | 1 => ("WordFoundry$SoundCheck", "frames", "LWordFoundry$FrameRunner;", true)
  | 2 => ("WordFoundry$SoundCheck", "recursed", "LWordFoundry$Machine;", true)
  | _ => ("WordFoundry$SoundCheck", "recursion", "LWordFoundry$RecursiveRunner;", true)
def tyX9 : Nat → FieldType := fun k => match k with
  | 0 => .object "WordFoundry$Machine"
  | 1 => .object "WordFoundry$FrameRunner"
  | 2 => .object "WordFoundry$Machine"
  | _ => .object "WordFoundry$RecursiveRunner"
theorem nmX9 : ∀ a, a < 4 → ∀ b, b < 4 → a ≠ b → (TX9 a).2.1 ≠ (TX9 b).2.1 := by decide +kernel
theorem tyX9_ok : ∀ k, k < 4 → parseFieldDescriptor (TX9 k).2.2.1 = some (tyX9 k) := by decide +kernel
abbrev cX9_init : ByteArray := prog_11_method_1_code
def yX9_init : MethodName := ⟨RX9, "<init>", "()V"⟩
def RX10 : String := "WordFoundry$Stack"
def TX10 : u_T := fun k => match k with
  | 0 => ("WordFoundry$Stack", "numbers", "[I", true)
  | 1 => ("WordFoundry$Stack", "kept", "[I", true)
  | 2 => ("WordFoundry$Stack", "keptSizes", "[I", true)
  | _ => ("WordFoundry$Stack", "size", "I", false)
def tyX10 : Nat → FieldType := fun k => match k with
  | 0 => .array .int
  | 1 => .array .int
  | 2 => .array .int
  | _ => .int
theorem nmX10 : ∀ a, a < 4 → ∀ b, b < 4 → a ≠ b → (TX10 a).2.1 ≠ (TX10 b).2.1 := by decide +kernel
theorem tyX10_ok : ∀ k, k < 4 → parseFieldDescriptor (TX10 k).2.2.1 = some (tyX10 k) := by decide +kernel
abbrev cX10_init : ByteArray := prog_12_method_1_code
def yX10_init : MethodName := ⟨RX10, "<init>", "()V"⟩
def RX11 : String := "WordFoundry"
def TX11 : u_T := fun k => match k with
  | 0 => ("WordFoundry", "machine", "LWordFoundry$Machine;", true)
  | 1 => ("WordFoundry", "runner", "LWordFoundry$FrameRunner;", true)
  | 2 => ("WordFoundry", "effects", "LWordFoundry$Effects;", true)
  | 3 => ("WordFoundry", "check", "LWordFoundry$SoundCheck;", true)
  | 4 => ("WordFoundry", "trail", "[I", true)
  | 5 => ("WordFoundry", "trailLength", "I", false)
  | 6 => ("WordFoundry", "failure", "I", false)
  | 7 => ("WordFoundry", "lineCount", "I", false)
  | 8 => ("WordFoundry", "failureCount", "I", false)
  | _ => ("WordFoundry", "stepTotal", "J", false)
def tyX11 : Nat → FieldType := fun k => match k with
  | 0 => .object "WordFoundry$Machine"
  | 1 => .object "WordFoundry$FrameRunner"
  | 2 => .object "WordFoundry$Effects"
  | 3 => .object "WordFoundry$SoundCheck"
  | 4 => .array .int
  | 5 => .int
  | 6 => .int
  | 7 => .int
  | 8 => .int
  | _ => .long
theorem nmX11 : ∀ a, a < 10 → ∀ b, b < 10 → a ≠ b → (TX11 a).2.1 ≠ (TX11 b).2.1 := by decide +kernel
theorem tyX11_ok : ∀ k, k < 10 → parseFieldDescriptor (TX11 k).2.2.1 = some (tyX11 k) := by decide +kernel
abbrev cX11_init : ByteArray := prog_1_method_1_code
def yX11_init : MethodName := ⟨RX11, "<init>", "()V"⟩
abbrev cX11_word : ByteArray := prog_1_method_2_code
def yX11_word : MethodName := ⟨RX11, "word", "(C)I"⟩
abbrev cX11_name : ByteArray := prog_1_method_3_code
def yX11_name : MethodName := ⟨RX11, "name", "(I)I"⟩
abbrev cX11_number : ByteArray := prog_1_method_4_code
def yX11_number : MethodName := ⟨RX11, "number", "(I)I"⟩
abbrev cX11_enter : ByteArray := prog_1_method_5_code
def yX11_enter : MethodName := ⟨RX11, "enter", "()C"⟩
abbrev cX11_error : ByteArray := prog_1_method_7_code
def yX11_error : MethodName := ⟨RX11, "error", "()I"⟩
abbrev cX11_trace : ByteArray := prog_1_method_8_code
def yX11_trace : MethodName := ⟨RX11, "trace", "()I"⟩
abbrev cX11_traceAt : ByteArray := prog_1_method_9_code
def yX11_traceAt : MethodName := ⟨RX11, "traceAt", "(I)I"⟩
abbrev cX11_depth : ByteArray := prog_1_method_10_code
def yX11_depth : MethodName := ⟨RX11, "depth", "()I"⟩
abbrev cX11_at : ByteArray := prog_1_method_11_code
def yX11_at : MethodName := ⟨RX11, "at", "(I)I"⟩
abbrev cX11_second : ByteArray := prog_1_method_12_code
def yX11_second : MethodName := ⟨RX11, "second", "()I"⟩
abbrev cX11_here : ByteArray := prog_1_method_13_code
def yX11_here : MethodName := ⟨RX11, "here", "()I"⟩
abbrev cX11_cell : ByteArray := prog_1_method_14_code
def yX11_cell : MethodName := ⟨RX11, "cell", "(I)I"⟩
abbrev cX11_outs : ByteArray := prog_1_method_15_code
def yX11_outs : MethodName := ⟨RX11, "outs", "()I"⟩
abbrev cX11_outAt : ByteArray := prog_1_method_16_code
def yX11_outAt : MethodName := ⟨RX11, "outAt", "(I)I"⟩
abbrev cX11_entries : ByteArray := prog_1_method_17_code
def yX11_entries : MethodName := ⟨RX11, "entries", "()I"⟩
abbrev cX11_nameOf : ByteArray := prog_1_method_18_code
def yX11_nameOf : MethodName := ⟨RX11, "nameOf", "(I)I"⟩
abbrev cX11_kindOf : ByteArray := prog_1_method_19_code
def yX11_kindOf : MethodName := ⟨RX11, "kindOf", "(I)C"⟩
abbrev cX11_isImmediate : ByteArray := prog_1_method_20_code
def yX11_isImmediate : MethodName := ⟨RX11, "isImmediate", "(I)Z"⟩
abbrev cX11_vocabularyOf : ByteArray := prog_1_method_21_code
def yX11_vocabularyOf : MethodName := ⟨RX11, "vocabularyOf", "(I)I"⟩
abbrev cX11_find : ByteArray := prog_1_method_22_code
def yX11_find : MethodName := ⟨RX11, "find", "(I)I"⟩
abbrev cX11_ops : ByteArray := prog_1_method_23_code
def yX11_ops : MethodName := ⟨RX11, "ops", "(I)I"⟩
abbrev cX11_opAt : ByteArray := prog_1_method_24_code
def yX11_opAt : MethodName := ⟨RX11, "opAt", "(II)C"⟩
abbrev cX11_opNumber : ByteArray := prog_1_method_25_code
def yX11_opNumber : MethodName := ⟨RX11, "opNumber", "(II)I"⟩
abbrev cX11_effect : ByteArray := prog_1_method_26_code
def yX11_effect : MethodName := ⟨RX11, "effect", "(I)I"⟩
abbrev cX11_isMaking : ByteArray := prog_1_method_27_code
def yX11_isMaking : MethodName := ⟨RX11, "isMaking", "()Z"⟩
abbrev cX11_steps : ByteArray := prog_1_method_28_code
def yX11_steps : MethodName := ⟨RX11, "steps", "()J"⟩
abbrev cX11_lines : ByteArray := prog_1_method_29_code
def yX11_lines : MethodName := ⟨RX11, "lines", "()I"⟩
abbrev cX11_errorShare : ByteArray := prog_1_method_30_code
def yX11_errorShare : MethodName := ⟨RX11, "errorShare", "()F"⟩
abbrev cX11_meanSteps : ByteArray := prog_1_method_31_code
def yX11_meanSteps : MethodName := ⟨RX11, "meanSteps", "()D"⟩
abbrev cX11_isSound : ByteArray := prog_1_method_32_code
def yX11_isSound : MethodName := ⟨RX11, "isSound", "()Z"⟩
def RX12 : String := "WordFoundryModel$Entry"
def RX13 : String := "WordFoundryModel$Mark"
def RX14 : String := "WordFoundryModel$Op"
def TX14 : u_T := fun k => match k with
  | 0 => ("WordFoundryModel$Op", "kind", "C", true)
  | _ => ("WordFoundryModel$Op", "number", "I", false)
def tyX14 : Nat → FieldType := fun k => match k with
  | 0 => .char
  | _ => .int
theorem nmX14 : ∀ a, a < 2 → ∀ b, b < 2 → a ≠ b → (TX14 a).2.1 ≠ (TX14 b).2.1 := by decide +kernel
theorem tyX14_ok : ∀ k, k < 2 → parseFieldDescriptor (TX14 k).2.2.1 = some (tyX14 k) := by decide +kernel
abbrev cX14_init : ByteArray := prog_17_method_1_code
def yX14_init : MethodName := ⟨RX14, "<init>", "(CI)V"⟩
def RX15 : String := "WordFoundryModel$Stopped"
def RX16 : String := "WordFoundryModel$Thrown"
def RX17 : String := "WordFoundryModel"
def TX17 : u_T := fun k => match k with
  | 0 => ("WordFoundryModel", "line", "Ljava/util/ArrayList;", true)
  | 1 => ("WordFoundryModel", "entries", "Ljava/util/ArrayList;", true)
  | 2 => ("WordFoundryModel", "stack", "Ljava/util/ArrayList;", true)
  | 3 => ("WordFoundryModel", "second", "Ljava/util/ArrayList;", true)
  | 4 => ("WordFoundryModel", "outs", "Ljava/util/ArrayList;", true)
  | 5 => ("WordFoundryModel", "running", "Ljava/util/ArrayList;", true)
  | 6 => ("WordFoundryModel", "parts", "Ljava/util/ArrayList;", true)
  | 7 => ("WordFoundryModel", "trace", "Ljava/util/ArrayList;", true)
  | 8 => ("WordFoundryModel", "marks", "Ljava/util/ArrayList;", true)
  | 9 => ("WordFoundryModel", "cells", "[I", true)
  | 10 => ("WordFoundryModel", "making", "LWordFoundryModel$Entry;", false)
  | 11 => ("WordFoundryModel", "isCompiling", "Z", false)
  | 12 => ("WordFoundryModel", "hasError", "Z", false)
  | 13 => ("WordFoundryModel", "thrown", "I", false)
  | 14 => ("WordFoundryModel", "here", "I", false)
  | 15 => ("WordFoundryModel", "vocabulary", "I", false)
  | 16 => ("WordFoundryModel", "searched", "I", false)
  | 17 => ("WordFoundryModel", "at", "I", false)
  | 18 => ("WordFoundryModel", "base", "I", false)
  | 19 => ("WordFoundryModel", "spent", "I", false)
  | 20 => ("WordFoundryModel", "lines", "I", false)
  | 21 => ("WordFoundryModel", "errors", "I", false)
  | 22 => ("WordFoundryModel", "error", "I", false)
  | 23 => ("WordFoundryModel", "steps", "J", false)
  | 24 => ("WordFoundryModel", "needs", "[I", true)
  | 25 => ("WordFoundryModel", "there", "[I", true)
  | 26 => ("WordFoundryModel", "heights", "[I", true)
  | 27 => ("WordFoundryModel", "hasEffect", "[Z", true)
  | 28 => ("WordFoundryModel", "isReached", "[Z", true)
  | 29 => ("WordFoundryModel", "taken", "I", false)
  | _ => ("WordFoundryModel", "given", "I", false)
def tyX17 : Nat → FieldType := fun k => match k with
  | 0 => .object "java/util/ArrayList"
  | 1 => .object "java/util/ArrayList"
  | 2 => .object "java/util/ArrayList"
  | 3 => .object "java/util/ArrayList"
  | 4 => .object "java/util/ArrayList"
  | 5 => .object "java/util/ArrayList"
  | 6 => .object "java/util/ArrayList"
  | 7 => .object "java/util/ArrayList"
  | 8 => .object "java/util/ArrayList"
  | 9 => .array .int
  | 10 => .object "WordFoundryModel$Entry"
  | 11 => .boolean
  | 12 => .boolean
  | 13 => .int
  | 14 => .int
  | 15 => .int
  | 16 => .int
  | 17 => .int
  | 18 => .int
  | 19 => .int
  | 20 => .int
  | 21 => .int
  | 22 => .int
  | 23 => .long
  | 24 => .array .int
  | 25 => .array .int
  | 26 => .array .int
  | 27 => .array .boolean
  | 28 => .array .boolean
  | 29 => .int
  | _ => .int
theorem nmX17 : ∀ a, a < 31 → ∀ b, b < 31 → a ≠ b → (TX17 a).2.1 ≠ (TX17 b).2.1 := by decide +kernel
theorem tyX17_ok : ∀ k, k < 31 → parseFieldDescriptor (TX17 k).2.2.1 = some (tyX17 k) := by decide +kernel
abbrev cX17_init : ByteArray := prog_14_method_1_code
def yX17_init : MethodName := ⟨RX17, "<init>", "()V"⟩
abbrev cX17_thrown : ByteArray := prog_14_method_2_code
def yX17_thrown : MethodName := ⟨RX17, "thrown", "()I"⟩
abbrev cX17_fails : ByteArray := prog_14_method_3_code
def yX17_fails : MethodName := ⟨RX17, "fails", "(I)I"⟩
abbrev cX17_tell : ByteArray := prog_14_method_4_code
def yX17_tell : MethodName := ⟨RX17, "tell", "(I)I"⟩
abbrev cX17_in : ByteArray := prog_14_method_5_code
def yX17_in : MethodName := ⟨RX17, "in", "(III)Z"⟩
abbrev cX17_foundIn : ByteArray := prog_14_method_13_code
def yX17_foundIn : MethodName := ⟨RX17, "foundIn", "(II)I"⟩
abbrev cX17_found : ByteArray := prog_14_method_14_code
def yX17_found : MethodName := ⟨RX17, "found", "(I)I"⟩
abbrev cX17_puts : ByteArray := prog_14_method_44_code
def yX17_puts : MethodName := ⟨RX17, "puts", "(CI)I"⟩
abbrev cX17_word : ByteArray := prog_14_method_45_code
def yX17_word : MethodName := ⟨RX17, "word", "(C)I"⟩
abbrev cX17_name : ByteArray := prog_14_method_46_code
def yX17_name : MethodName := ⟨RX17, "name", "(I)I"⟩
abbrev cX17_number : ByteArray := prog_14_method_47_code
def yX17_number : MethodName := ⟨RX17, "number", "(I)I"⟩
abbrev cX17_enter : ByteArray := prog_14_method_50_code
def yX17_enter : MethodName := ⟨RX17, "enter", "()C"⟩
abbrev cX17_error_ : ByteArray := prog_14_method_51_code
def yX17_error_ : MethodName := ⟨RX17, "error", "()I"⟩
abbrev cX17_trace : ByteArray := prog_14_method_52_code
def yX17_trace : MethodName := ⟨RX17, "trace", "()I"⟩
abbrev cX17_traceAt : ByteArray := prog_14_method_53_code
def yX17_traceAt : MethodName := ⟨RX17, "traceAt", "(I)I"⟩
abbrev cX17_depth : ByteArray := prog_14_method_54_code
def yX17_depth : MethodName := ⟨RX17, "depth", "()I"⟩
abbrev cX17_at : ByteArray := prog_14_method_55_code
def yX17_at : MethodName := ⟨RX17, "at", "(I)I"⟩
abbrev cX17_second : ByteArray := prog_14_method_56_code
def yX17_second : MethodName := ⟨RX17, "second", "()I"⟩
abbrev cX17_here : ByteArray := prog_14_method_57_code
def yX17_here : MethodName := ⟨RX17, "here", "()I"⟩
abbrev cX17_cell : ByteArray := prog_14_method_58_code
def yX17_cell : MethodName := ⟨RX17, "cell", "(I)I"⟩
abbrev cX17_outs : ByteArray := prog_14_method_59_code
def yX17_outs : MethodName := ⟨RX17, "outs", "()I"⟩
abbrev cX17_outAt : ByteArray := prog_14_method_60_code
def yX17_outAt : MethodName := ⟨RX17, "outAt", "(I)I"⟩
abbrev cX17_entries : ByteArray := prog_14_method_61_code
def yX17_entries : MethodName := ⟨RX17, "entries", "()I"⟩
abbrev cX17_isEntry : ByteArray := prog_14_method_62_code
def yX17_isEntry : MethodName := ⟨RX17, "isEntry", "(I)Z"⟩
abbrev cX17_nameOf : ByteArray := prog_14_method_63_code
def yX17_nameOf : MethodName := ⟨RX17, "nameOf", "(I)I"⟩
abbrev cX17_kindOf : ByteArray := prog_14_method_64_code
def yX17_kindOf : MethodName := ⟨RX17, "kindOf", "(I)C"⟩
abbrev cX17_isImmediate : ByteArray := prog_14_method_65_code
def yX17_isImmediate : MethodName := ⟨RX17, "isImmediate", "(I)Z"⟩
abbrev cX17_vocabularyOf : ByteArray := prog_14_method_66_code
def yX17_vocabularyOf : MethodName := ⟨RX17, "vocabularyOf", "(I)I"⟩
abbrev cX17_find : ByteArray := prog_14_method_67_code
def yX17_find : MethodName := ⟨RX17, "find", "(I)I"⟩
abbrev cX17_ops : ByteArray := prog_14_method_68_code
def yX17_ops : MethodName := ⟨RX17, "ops", "(I)I"⟩
abbrev cX17_isOp : ByteArray := prog_14_method_69_code
def yX17_isOp : MethodName := ⟨RX17, "isOp", "(II)Z"⟩
abbrev cX17_opAt : ByteArray := prog_14_method_70_code
def yX17_opAt : MethodName := ⟨RX17, "opAt", "(II)C"⟩
abbrev cX17_opNumber : ByteArray := prog_14_method_71_code
def yX17_opNumber : MethodName := ⟨RX17, "opNumber", "(II)I"⟩
abbrev cX17_effect : ByteArray := prog_14_method_77_code
def yX17_effect : MethodName := ⟨RX17, "effect", "(I)I"⟩
abbrev cX17_isMaking : ByteArray := prog_14_method_78_code
def yX17_isMaking : MethodName := ⟨RX17, "isMaking", "()Z"⟩
abbrev cX17_steps : ByteArray := prog_14_method_79_code
def yX17_steps : MethodName := ⟨RX17, "steps", "()J"⟩
abbrev cX17_lines : ByteArray := prog_14_method_80_code
def yX17_lines : MethodName := ⟨RX17, "lines", "()I"⟩
abbrev cX17_errorShare : ByteArray := prog_14_method_81_code
def yX17_errorShare : MethodName := ⟨RX17, "errorShare", "()F"⟩
abbrev cX17_meanSteps : ByteArray := prog_14_method_82_code
def yX17_meanSteps : MethodName := ⟨RX17, "meanSteps", "()D"⟩
abbrev cX17_isSound : ByteArray := prog_14_method_83_code
def yX17_isSound : MethodName := ⟨RX17, "isSound", "()Z"⟩
def RJx145de : String := "java/io/Serializable"
def RJ5 : String := "java/lang/AbstractStringBuilder"
def RJx2cfe8 : String := "java/lang/Appendable"
def RJx00060 : String := "java/lang/ArrayIndexOutOfBoundsException"
def RJx9f9b0 : String := "java/lang/CharSequence"
def RJ11 : String := "java/lang/Character"
def RJx8e188 : String := "java/lang/Cloneable"
def RJxb160c : String := "java/lang/Comparable"
def RJxabbfe : String := "java/lang/Integer$IntegerCache"
def RJ6 : String := "java/lang/Integer"
def RJxab1ab : String := "java/lang/Iterable"
def RJ9 : String := "java/lang/Math"
def RJxd2413 : String := "java/lang/Number"
def RJ0 : String := "java/lang/String"
abbrev cJ0_length_8abf5 : ByteArray := prog_39_method_54_code
def yJ0_length_8abf5 : MethodName := ⟨RJ0, "length", "()I"⟩
abbrev cJ0_indexOf_0f7a4 : ByteArray := prog_39_method_79_code
def yJ0_indexOf_0f7a4 : MethodName := ⟨RJ0, "indexOf", "(I)I"⟩
abbrev cJ0_indexOf_7cf53 : ByteArray := prog_39_method_80_code
def yJ0_indexOf_7cf53 : MethodName := ⟨RJ0, "indexOf", "(II)I"⟩
abbrev cJ0_coder_7d493 : ByteArray := prog_39_method_152_code
def yJ0_coder_7d493 : MethodName := ⟨RJ0, "coder", "()B"⟩
abbrev cJ0_isLatin1_aae02 : ByteArray := prog_39_method_154_code
def yJ0_isLatin1_aae02 : MethodName := ⟨RJ0, "isLatin1", "()Z"⟩
def RJ4 : String := "java/lang/StringBuilder"
def RJ1 : String := "java/lang/StringLatin1"
abbrev cJ1_canEncode_9a6ad : ByteArray := prog_41_method_4_code
def yJ1_canEncode_9a6ad : MethodName := ⟨RJ1, "canEncode", "(I)Z"⟩
abbrev cJ1_indexOf_4cfef : ByteArray := prog_41_method_22_code
def yJ1_indexOf_4cfef : MethodName := ⟨RJ1, "indexOf", "([BIII)I"⟩
abbrev cJ1_indexOfChar_4cfef : ByteArray := prog_41_method_23_code
def yJ1_indexOfChar_4cfef : MethodName := ⟨RJ1, "indexOfChar", "([BIII)I"⟩
def RJ2 : String := "java/lang/StringUTF16"
def RJ10 : String := "java/lang/System"
def RJxfd54e : String := "java/lang/constant/Constable"
def RJx3cf43 : String := "java/lang/constant/ConstantDesc"
def RJxa1e45 : String := "java/util/AbstractCollection"
abbrev cJxa1e45_init_da8c8 : ByteArray := prog_48_method_1_code
def yJxa1e45_init_da8c8 : MethodName := ⟨RJxa1e45, "<init>", "()V"⟩
def RJxc12de : String := "java/util/AbstractList"
abbrev cJxc12de_init_da8c8 : ByteArray := prog_49_method_1_code
def yJxc12de_init_da8c8 : MethodName := ⟨RJxc12de, "<init>", "()V"⟩
def RJx35411 : String := "java/util/ArrayList$Itr"
def RJx4a65c : String := "java/util/ArrayList"
def TJx4a65c : u_T := fun k => match k with
  | 0 => ("java/util/AbstractList", "modCount", "I", false)
  | 1 => ("java/util/ArrayList", "elementData", "[Ljava/lang/Object;", false)
  | _ => ("java/util/ArrayList", "size", "I", false)
def tyJx4a65c : Nat → FieldType := fun k => match k with
  | 0 => .int
  | 1 => .array (.object "java/lang/Object")
  | _ => .int
theorem nmJx4a65c : ∀ a, a < 3 → ∀ b, b < 3 → a ≠ b → (TJx4a65c a).2.1 ≠ (TJx4a65c b).2.1 := by decide +kernel
theorem tyJx4a65c_ok : ∀ k, k < 3 → parseFieldDescriptor (TJx4a65c k).2.2.1 = some (tyJx4a65c k) := by decide +kernel
abbrev cJx4a65c_init_da8c8 : ByteArray := prog_50_method_2_code
def yJx4a65c_init_da8c8 : MethodName := ⟨RJx4a65c, "<init>", "()V"⟩
abbrev cJx4a65c_grow_92f84 : ByteArray := prog_50_method_6_code
def yJx4a65c_grow_92f84 : MethodName := ⟨RJx4a65c, "grow", "(I)[Ljava/lang/Object;"⟩
abbrev cJx4a65c_grow_d5877 : ByteArray := prog_50_method_7_code
def yJx4a65c_grow_d5877 : MethodName := ⟨RJx4a65c, "grow", "()[Ljava/lang/Object;"⟩
abbrev cJx4a65c_size_8abf5 : ByteArray := prog_50_method_8_code
def yJx4a65c_size_8abf5 : MethodName := ⟨RJx4a65c, "size", "()I"⟩
abbrev cJx4a65c_add_72be8 : ByteArray := prog_50_method_24_code
def yJx4a65c_add_72be8 : MethodName := ⟨RJx4a65c, "add", "(Ljava/lang/Object;[Ljava/lang/Object;I)V"⟩
abbrev cJx4a65c_add_9ea2d : ByteArray := prog_50_method_25_code
def yJx4a65c_add_9ea2d : MethodName := ⟨RJx4a65c, "add", "(Ljava/lang/Object;)Z"⟩
abbrev cJx4a65c_clear_da8c8 : ByteArray := prog_50_method_40_code
def yJx4a65c_clear_da8c8 : MethodName := ⟨RJx4a65c, "clear", "()V"⟩
def RJ7 : String := "java/util/Arrays"
def RJx5ef63 : String := "java/util/Collection"
def RJx4d0d8 : String := "java/util/Iterator"
def RJxbd725 : String := "java/util/List"
def RJ15 : String := "java/util/Objects"
def RJxf0a74 : String := "java/util/RandomAccess"
def RJxa66e6 : String := "java/util/SequencedCollection"
def RJ8 : String := "jdk/internal/util/ArraysSupport"
def RJ3 : String := "jdk/internal/util/Preconditions"
def RL : String := "WordFoundryLaw"
abbrev cL_word : ByteArray := method_3_code
def yL_word : MethodName := ⟨RL, "word", "(LWordFoundry;C[J)I"⟩
abbrev cL_name : ByteArray := method_4_code
def yL_name : MethodName := ⟨RL, "name", "(LWordFoundry;I[J)I"⟩
abbrev cL_number : ByteArray := method_5_code
def yL_number : MethodName := ⟨RL, "number", "(LWordFoundry;I[J)I"⟩
abbrev cL_error : ByteArray := method_6_code
def yL_error : MethodName := ⟨RL, "error", "(LWordFoundry;[J)I"⟩
abbrev cL_traceAt : ByteArray := method_7_code
def yL_traceAt : MethodName := ⟨RL, "traceAt", "(LWordFoundry;I[J)I"⟩
abbrev cL_at : ByteArray := method_8_code
def yL_at : MethodName := ⟨RL, "at", "(LWordFoundry;I[J)I"⟩
abbrev cL_cell : ByteArray := method_9_code
def yL_cell : MethodName := ⟨RL, "cell", "(LWordFoundry;I[J)I"⟩
abbrev cL_outAt : ByteArray := method_10_code
def yL_outAt : MethodName := ⟨RL, "outAt", "(LWordFoundry;I[J)I"⟩
abbrev cL_nameOf : ByteArray := method_11_code
def yL_nameOf : MethodName := ⟨RL, "nameOf", "(LWordFoundry;I[J)I"⟩
abbrev cL_kindOf : ByteArray := method_12_code
def yL_kindOf : MethodName := ⟨RL, "kindOf", "(LWordFoundry;I[J)I"⟩
abbrev cL_isImmediate : ByteArray := method_13_code
def yL_isImmediate : MethodName := ⟨RL, "isImmediate", "(LWordFoundry;I[J)I"⟩
abbrev cL_vocabularyOf : ByteArray := method_14_code
def yL_vocabularyOf : MethodName := ⟨RL, "vocabularyOf", "(LWordFoundry;I[J)I"⟩
abbrev cL_find : ByteArray := method_15_code
def yL_find : MethodName := ⟨RL, "find", "(LWordFoundry;I[J)I"⟩
abbrev cL_ops : ByteArray := method_16_code
def yL_ops : MethodName := ⟨RL, "ops", "(LWordFoundry;I[J)I"⟩
abbrev cL_opAt : ByteArray := method_17_code
def yL_opAt : MethodName := ⟨RL, "opAt", "(LWordFoundry;II[J)I"⟩
abbrev cL_opNumber : ByteArray := method_18_code
def yL_opNumber : MethodName := ⟨RL, "opNumber", "(LWordFoundry;II[J)I"⟩
abbrev cL_effect : ByteArray := method_19_code
def yL_effect : MethodName := ⟨RL, "effect", "(LWordFoundry;I[J)I"⟩
abbrev cL_errorShare : ByteArray := method_20_code
def yL_errorShare : MethodName := ⟨RL, "errorShare", "(LWordFoundry;[D)I"⟩
abbrev cL_meanSteps : ByteArray := method_21_code
def yL_meanSteps : MethodName := ⟨RL, "meanSteps", "(LWordFoundry;[D)I"⟩
abbrev cL_law : ByteArray := code
def yL_law : MethodName := ⟨RL, "law", "([I)Z"⟩
theorem dX0_init_0 : decode cX0_init 0 = .ok (.aload_n 0, 1) := by decide +kernel
theorem dX0_init_1 : decode cX0_init 1 = .ok (.invokespecial 1, 3) := by decide +kernel
theorem dX0_init_4 : decode cX0_init 4 = .ok (.aload_n 0, 1) := by decide +kernel
theorem dX0_init_5 : decode cX0_init 5 = .ok (.sipush 864, 3) := by decide +kernel
theorem dX0_init_8 : decode cX0_init 8 = .ok (.newarray .int, 2) := by decide +kernel
theorem dX0_init_10 : decode cX0_init 10 = .ok (.putfield 11, 3) := by decide +kernel
theorem dX0_init_13 : decode cX0_init 13 = .ok (.return_, 1) := by decide +kernel
theorem dX0_set_0 : decode cX0_set 0 = .ok (.aload_n 0, 1) := by decide +kernel
theorem dX0_set_1 : decode cX0_set 1 = .ok (.getfield 11, 3) := by decide +kernel
theorem dX0_set_4 : decode cX0_set 4 = .ok (.iload_n 1, 1) := by decide +kernel
theorem dX0_set_5 : decode cX0_set 5 = .ok (.bipush 8, 2) := by decide +kernel
theorem dX0_set_7 : decode cX0_set 7 = .ok (.imul, 1) := by decide +kernel
theorem dX0_set_8 : decode cX0_set 8 = .ok (.iload_n 2, 1) := by decide +kernel
theorem dX0_set_9 : decode cX0_set 9 = .ok (.iastore, 1) := by decide +kernel
theorem dX0_set_10 : decode cX0_set 10 = .ok (.iconst 1, 1) := by decide +kernel
theorem dX0_set_11 : decode cX0_set 11 = .ok (.istore_n 3, 1) := by decide +kernel
theorem dX0_set_12 : decode cX0_set 12 = .ok (.iload_n 3, 1) := by decide +kernel
theorem dX0_set_13 : decode cX0_set 13 = .ok (.bipush 8, 2) := by decide +kernel
theorem dX0_set_15 : decode cX0_set 15 = .ok (.if_icmp .ge 29, 3) := by decide +kernel
theorem dX0_set_18 : decode cX0_set 18 = .ok (.aload_n 0, 1) := by decide +kernel
theorem dX0_set_19 : decode cX0_set 19 = .ok (.getfield 11, 3) := by decide +kernel
theorem dX0_set_22 : decode cX0_set 22 = .ok (.iload_n 1, 1) := by decide +kernel
theorem dX0_set_23 : decode cX0_set 23 = .ok (.bipush 8, 2) := by decide +kernel
theorem dX0_set_25 : decode cX0_set 25 = .ok (.imul, 1) := by decide +kernel
theorem dX0_set_26 : decode cX0_set 26 = .ok (.iload_n 3, 1) := by decide +kernel
theorem dX0_set_27 : decode cX0_set 27 = .ok (.iadd, 1) := by decide +kernel
theorem dX0_set_28 : decode cX0_set 28 = .ok (.iload_n 2, 1) := by decide +kernel
theorem dX0_set_29 : decode cX0_set 29 = .ok (.ifCond .ge 7, 3) := by decide +kernel
theorem dX0_set_32 : decode cX0_set 32 = .ok (.iconst (-1), 1) := by decide +kernel
theorem dX0_set_33 : decode cX0_set 33 = .ok (.goto 4, 3) := by decide +kernel
theorem dX0_set_36 : decode cX0_set 36 = .ok (.iconst 0, 1) := by decide +kernel
theorem dX0_set_37 : decode cX0_set 37 = .ok (.iastore, 1) := by decide +kernel
theorem dX0_set_38 : decode cX0_set 38 = .ok (.iinc 3 1, 3) := by decide +kernel
theorem dX0_set_41 : decode cX0_set 41 = .ok (.goto (-29), 3) := by decide +kernel
theorem dX0_set_44 : decode cX0_set 44 = .ok (.return_, 1) := by decide +kernel
theorem dX1_init_0 : decode cX1_init 0 = .ok (.aload_n 0, 1) := by decide +kernel
theorem dX1_init_1 : decode cX1_init 1 = .ok (.invokespecial 3, 3) := by decide +kernel
theorem dX1_init_4 : decode cX1_init 4 = .ok (.aload_n 0, 1) := by decide +kernel
theorem dX1_init_5 : decode cX1_init 5 = .ok (.bipush 30, 2) := by decide +kernel
theorem dX1_init_7 : decode cX1_init 7 = .ok (.newarray .int, 2) := by decide +kernel
theorem dX1_init_9 : decode cX1_init 9 = .ok (.putfield 9, 3) := by decide +kernel
theorem dX1_init_12 : decode cX1_init 12 = .ok (.aload_n 0, 1) := by decide +kernel
theorem dX1_init_13 : decode cX1_init 13 = .ok (.bipush 30, 2) := by decide +kernel
theorem dX1_init_15 : decode cX1_init 15 = .ok (.newarray .int, 2) := by decide +kernel
theorem dX1_init_17 : decode cX1_init 17 = .ok (.putfield 15, 3) := by decide +kernel
theorem dX1_init_20 : decode cX1_init 20 = .ok (.aload_n 0, 1) := by decide +kernel
theorem dX1_init_21 : decode cX1_init 21 = .ok (.bipush 30, 2) := by decide +kernel
theorem dX1_init_23 : decode cX1_init 23 = .ok (.newarray .int, 2) := by decide +kernel
theorem dX1_init_25 : decode cX1_init 25 = .ok (.putfield 18, 3) := by decide +kernel
theorem dX1_init_28 : decode cX1_init 28 = .ok (.aload_n 0, 1) := by decide +kernel
theorem dX1_init_29 : decode cX1_init 29 = .ok (.bipush 30, 2) := by decide +kernel
theorem dX1_init_31 : decode cX1_init 31 = .ok (.newarray .boolean, 2) := by decide +kernel
theorem dX1_init_33 : decode cX1_init 33 = .ok (.putfield 21, 3) := by decide +kernel
theorem dX1_init_36 : decode cX1_init 36 = .ok (.aload_n 0, 1) := by decide +kernel
theorem dX1_init_37 : decode cX1_init 37 = .ok (.bipush 30, 2) := by decide +kernel
theorem dX1_init_39 : decode cX1_init 39 = .ok (.newarray .int, 2) := by decide +kernel
theorem dX1_init_41 : decode cX1_init 41 = .ok (.putfield 25, 3) := by decide +kernel
theorem dX1_init_44 : decode cX1_init 44 = .ok (.aload_n 0, 1) := by decide +kernel
theorem dX1_init_45 : decode cX1_init 45 = .ok (.bipush 30, 2) := by decide +kernel
theorem dX1_init_47 : decode cX1_init 47 = .ok (.newarray .int, 2) := by decide +kernel
theorem dX1_init_49 : decode cX1_init 49 = .ok (.putfield 28, 3) := by decide +kernel
theorem dX1_init_52 : decode cX1_init 52 = .ok (.aload_n 0, 1) := by decide +kernel
theorem dX1_init_53 : decode cX1_init 53 = .ok (.bipush 30, 2) := by decide +kernel
theorem dX1_init_55 : decode cX1_init 55 = .ok (.newarray .int, 2) := by decide +kernel
theorem dX1_init_57 : decode cX1_init 57 = .ok (.putfield 31, 3) := by decide +kernel
theorem dX1_init_60 : decode cX1_init 60 = .ok (.aload_n 0, 1) := by decide +kernel
theorem dX1_init_61 : decode cX1_init 61 = .ok (.bipush 30, 2) := by decide +kernel
theorem dX1_init_63 : decode cX1_init 63 = .ok (.newarray .int, 2) := by decide +kernel
theorem dX1_init_65 : decode cX1_init 65 = .ok (.putfield 34, 3) := by decide +kernel
theorem dX1_init_68 : decode cX1_init 68 = .ok (.aload_n 0, 1) := by decide +kernel
theorem dX1_init_69 : decode cX1_init 69 = .ok (.sipush 1200, 3) := by decide +kernel
theorem dX1_init_72 : decode cX1_init 72 = .ok (.newarray .int, 2) := by decide +kernel
theorem dX1_init_74 : decode cX1_init 74 = .ok (.putfield 37, 3) := by decide +kernel
theorem dX1_init_77 : decode cX1_init 77 = .ok (.aload_n 0, 1) := by decide +kernel
theorem dX1_init_78 : decode cX1_init 78 = .ok (.sipush 1200, 3) := by decide +kernel
theorem dX1_init_81 : decode cX1_init 81 = .ok (.newarray .int, 2) := by decide +kernel
theorem dX1_init_83 : decode cX1_init 83 = .ok (.putfield 40, 3) := by decide +kernel
theorem dX1_init_86 : decode cX1_init 86 = .ok (.return_, 1) := by decide +kernel
theorem dX1_has_0 : decode cX1_has 0 = .ok (.iload_n 1, 1) := by decide +kernel
theorem dX1_has_1 : decode cX1_has 1 = .ok (.ifCond .lt 15, 3) := by decide +kernel
theorem dX1_has_4 : decode cX1_has 4 = .ok (.iload_n 1, 1) := by decide +kernel
theorem dX1_has_5 : decode cX1_has 5 = .ok (.aload_n 0, 1) := by decide +kernel
theorem dX1_has_6 : decode cX1_has 6 = .ok (.getfield 43, 3) := by decide +kernel
theorem dX1_has_9 : decode cX1_has 9 = .ok (.if_icmp .ge 7, 3) := by decide +kernel
theorem dX1_has_12 : decode cX1_has 12 = .ok (.iconst 1, 1) := by decide +kernel
theorem dX1_has_13 : decode cX1_has 13 = .ok (.goto 4, 3) := by decide +kernel
theorem dX1_has_16 : decode cX1_has 16 = .ok (.iconst 0, 1) := by decide +kernel
theorem dX1_has_17 : decode cX1_has 17 = .ok (.ireturn, 1) := by decide +kernel
theorem dX1_hasOp_0 : decode cX1_hasOp 0 = .ok (.aload_n 0, 1) := by decide +kernel
theorem dX1_hasOp_1 : decode cX1_hasOp 1 = .ok (.iload_n 1, 1) := by decide +kernel
theorem dX1_hasOp_2 : decode cX1_hasOp 2 = .ok (.invokevirtual 47, 3) := by decide +kernel
theorem dX1_hasOp_5 : decode cX1_hasOp 5 = .ok (.ifCond .eq 21, 3) := by decide +kernel
theorem dX1_hasOp_8 : decode cX1_hasOp 8 = .ok (.iload_n 2, 1) := by decide +kernel
theorem dX1_hasOp_9 : decode cX1_hasOp 9 = .ok (.ifCond .lt 17, 3) := by decide +kernel
theorem dX1_hasOp_12 : decode cX1_hasOp 12 = .ok (.iload_n 2, 1) := by decide +kernel
theorem dX1_hasOp_13 : decode cX1_hasOp 13 = .ok (.aload_n 0, 1) := by decide +kernel
theorem dX1_hasOp_14 : decode cX1_hasOp 14 = .ok (.getfield 34, 3) := by decide +kernel
theorem dX1_hasOp_17 : decode cX1_hasOp 17 = .ok (.iload_n 1, 1) := by decide +kernel
theorem dX1_hasOp_18 : decode cX1_hasOp 18 = .ok (.iaload, 1) := by decide +kernel
theorem dX1_hasOp_19 : decode cX1_hasOp 19 = .ok (.if_icmp .ge 7, 3) := by decide +kernel
theorem dX1_hasOp_22 : decode cX1_hasOp 22 = .ok (.iconst 1, 1) := by decide +kernel
theorem dX1_hasOp_23 : decode cX1_hasOp 23 = .ok (.goto 4, 3) := by decide +kernel
theorem dX1_hasOp_26 : decode cX1_hasOp 26 = .ok (.iconst 0, 1) := by decide +kernel
theorem dX1_hasOp_27 : decode cX1_hasOp 27 = .ok (.ireturn, 1) := by decide +kernel
theorem dX1_search_0 : decode cX1_search 0 = .ok (.iconst (-1), 1) := by decide +kernel
theorem dX1_search_1 : decode cX1_search 1 = .ok (.istore_n 2, 1) := by decide +kernel
theorem dX1_search_2 : decode cX1_search 2 = .ok (.aload_n 0, 1) := by decide +kernel
theorem dX1_search_3 : decode cX1_search 3 = .ok (.getfield 43, 3) := by decide +kernel
theorem dX1_search_6 : decode cX1_search 6 = .ok (.iconst 1, 1) := by decide +kernel
theorem dX1_search_7 : decode cX1_search 7 = .ok (.isub, 1) := by decide +kernel
theorem dX1_search_8 : decode cX1_search 8 = .ok (.istore_n 3, 1) := by decide +kernel
theorem dX1_search_9 : decode cX1_search 9 = .ok (.iload_n 3, 1) := by decide +kernel
theorem dX1_search_10 : decode cX1_search 10 = .ok (.ifCond .lt 60, 3) := by decide +kernel
theorem dX1_search_13 : decode cX1_search 13 = .ok (.aload_n 0, 1) := by decide +kernel
theorem dX1_search_14 : decode cX1_search 14 = .ok (.getfield 9, 3) := by decide +kernel
theorem dX1_search_17 : decode cX1_search 17 = .ok (.iload_n 3, 1) := by decide +kernel
theorem dX1_search_18 : decode cX1_search 18 = .ok (.iaload, 1) := by decide +kernel
theorem dX1_search_19 : decode cX1_search 19 = .ok (.iload_n 1, 1) := by decide +kernel
theorem dX1_search_20 : decode cX1_search 20 = .ok (.if_icmp .ne 18, 3) := by decide +kernel
theorem dX1_search_23 : decode cX1_search 23 = .ok (.aload_n 0, 1) := by decide +kernel
theorem dX1_search_24 : decode cX1_search 24 = .ok (.getfield 15, 3) := by decide +kernel
theorem dX1_search_27 : decode cX1_search 27 = .ok (.iload_n 3, 1) := by decide +kernel
theorem dX1_search_28 : decode cX1_search 28 = .ok (.iaload, 1) := by decide +kernel
theorem dX1_search_29 : decode cX1_search 29 = .ok (.aload_n 0, 1) := by decide +kernel
theorem dX1_search_30 : decode cX1_search 30 = .ok (.getfield 68, 3) := by decide +kernel
theorem dX1_search_33 : decode cX1_search 33 = .ok (.if_icmp .ne 5, 3) := by decide +kernel
theorem dX1_search_36 : decode cX1_search 36 = .ok (.iload_n 3, 1) := by decide +kernel
theorem dX1_search_37 : decode cX1_search 37 = .ok (.ireturn, 1) := by decide +kernel
theorem dX1_search_38 : decode cX1_search 38 = .ok (.aload_n 0, 1) := by decide +kernel
theorem dX1_search_39 : decode cX1_search 39 = .ok (.getfield 9, 3) := by decide +kernel
theorem dX1_search_42 : decode cX1_search 42 = .ok (.iload_n 3, 1) := by decide +kernel
theorem dX1_search_43 : decode cX1_search 43 = .ok (.iaload, 1) := by decide +kernel
theorem dX1_search_44 : decode cX1_search 44 = .ok (.iload_n 1, 1) := by decide +kernel
theorem dX1_search_45 : decode cX1_search 45 = .ok (.if_icmp .ne 19, 3) := by decide +kernel
theorem dX1_search_48 : decode cX1_search 48 = .ok (.aload_n 0, 1) := by decide +kernel
theorem dX1_search_49 : decode cX1_search 49 = .ok (.getfield 15, 3) := by decide +kernel
theorem dX1_search_52 : decode cX1_search 52 = .ok (.iload_n 3, 1) := by decide +kernel
theorem dX1_search_53 : decode cX1_search 53 = .ok (.iaload, 1) := by decide +kernel
theorem dX1_search_54 : decode cX1_search 54 = .ok (.ifCond .ne 10, 3) := by decide +kernel
theorem dX1_search_57 : decode cX1_search 57 = .ok (.iload_n 2, 1) := by decide +kernel
theorem dX1_search_58 : decode cX1_search 58 = .ok (.iconst (-1), 1) := by decide +kernel
theorem dX1_search_59 : decode cX1_search 59 = .ok (.if_icmp .ne 5, 3) := by decide +kernel
theorem dX1_search_62 : decode cX1_search 62 = .ok (.iload_n 3, 1) := by decide +kernel
theorem dX1_search_63 : decode cX1_search 63 = .ok (.istore_n 2, 1) := by decide +kernel
theorem dX1_search_64 : decode cX1_search 64 = .ok (.iinc 3 (-1), 3) := by decide +kernel
theorem dX1_search_67 : decode cX1_search 67 = .ok (.goto (-58), 3) := by decide +kernel
theorem dX1_search_70 : decode cX1_search 70 = .ok (.iload_n 2, 1) := by decide +kernel
theorem dX1_search_71 : decode cX1_search 71 = .ok (.ireturn, 1) := by decide +kernel
theorem dX2_init_0 : decode cX2_init 0 = .ok (.aload_n 0, 1) := by decide +kernel
theorem dX2_init_1 : decode cX2_init 1 = .ok (.invokespecial 3, 3) := by decide +kernel
theorem dX2_init_4 : decode cX2_init 4 = .ok (.aload_n 0, 1) := by decide +kernel
theorem dX2_init_5 : decode cX2_init 5 = .ok (.bipush 40, 2) := by decide +kernel
theorem dX2_init_7 : decode cX2_init 7 = .ok (.newarray .int, 2) := by decide +kernel
theorem dX2_init_9 : decode cX2_init 9 = .ok (.putfield 9, 3) := by decide +kernel
theorem dX2_init_12 : decode cX2_init 12 = .ok (.aload_n 0, 1) := by decide +kernel
theorem dX2_init_13 : decode cX2_init 13 = .ok (.bipush 40, 2) := by decide +kernel
theorem dX2_init_15 : decode cX2_init 15 = .ok (.newarray .int, 2) := by decide +kernel
theorem dX2_init_17 : decode cX2_init 17 = .ok (.putfield 15, 3) := by decide +kernel
theorem dX2_init_20 : decode cX2_init 20 = .ok (.aload_n 0, 1) := by decide +kernel
theorem dX2_init_21 : decode cX2_init 21 = .ok (.bipush 40, 2) := by decide +kernel
theorem dX2_init_23 : decode cX2_init 23 = .ok (.newarray .int, 2) := by decide +kernel
theorem dX2_init_25 : decode cX2_init 25 = .ok (.putfield 18, 3) := by decide +kernel
theorem dX2_init_28 : decode cX2_init 28 = .ok (.aload_n 0, 1) := by decide +kernel
theorem dX2_init_29 : decode cX2_init 29 = .ok (.sipush 160, 3) := by decide +kernel
theorem dX2_init_32 : decode cX2_init 32 = .ok (.newarray .int, 2) := by decide +kernel
theorem dX2_init_34 : decode cX2_init 34 = .ok (.putfield 21, 3) := by decide +kernel
theorem dX2_init_37 : decode cX2_init 37 = .ok (.aload_n 0, 1) := by decide +kernel
theorem dX2_init_38 : decode cX2_init 38 = .ok (.sipush 160, 3) := by decide +kernel
theorem dX2_init_41 : decode cX2_init 41 = .ok (.newarray .int, 2) := by decide +kernel
theorem dX2_init_43 : decode cX2_init 43 = .ok (.putfield 24, 3) := by decide +kernel
theorem dX2_init_46 : decode cX2_init 46 = .ok (.aload_n 0, 1) := by decide +kernel
theorem dX2_init_47 : decode cX2_init 47 = .ok (.sipush 160, 3) := by decide +kernel
theorem dX2_init_50 : decode cX2_init 50 = .ok (.newarray .int, 2) := by decide +kernel
theorem dX2_init_52 : decode cX2_init 52 = .ok (.putfield 27, 3) := by decide +kernel
theorem dX2_init_55 : decode cX2_init 55 = .ok (.return_, 1) := by decide +kernel
theorem dX3_init_0 : decode cX3_init 0 = .ok (.aload_n 0, 1) := by decide +kernel
theorem dX3_init_1 : decode cX3_init 1 = .ok (.invokespecial 5, 3) := by decide +kernel
theorem dX3_init_4 : decode cX3_init 4 = .ok (.aload_n 0, 1) := by decide +kernel
theorem dX3_init_5 : decode cX3_init 5 = .ok (.bipush 30, 2) := by decide +kernel
theorem dX3_init_7 : decode cX3_init 7 = .ok (.newarray .boolean, 2) := by decide +kernel
theorem dX3_init_9 : decode cX3_init 9 = .ok (.putfield 11, 3) := by decide +kernel
theorem dX3_init_12 : decode cX3_init 12 = .ok (.aload_n 0, 1) := by decide +kernel
theorem dX3_init_13 : decode cX3_init 13 = .ok (.new 15, 3) := by decide +kernel
theorem dX3_init_16 : decode cX3_init 16 = .ok (.dup, 1) := by decide +kernel
theorem dX3_init_17 : decode cX3_init 17 = .ok (.invokespecial 17, 3) := by decide +kernel
theorem dX3_init_20 : decode cX3_init 20 = .ok (.putfield 18, 3) := by decide +kernel
theorem dX3_init_23 : decode cX3_init 23 = .ok (.aload_n 0, 1) := by decide +kernel
theorem dX3_init_24 : decode cX3_init 24 = .ok (.bipush 41, 2) := by decide +kernel
theorem dX3_init_26 : decode cX3_init 26 = .ok (.newarray .boolean, 2) := by decide +kernel
theorem dX3_init_28 : decode cX3_init 28 = .ok (.putfield 22, 3) := by decide +kernel
theorem dX3_init_31 : decode cX3_init 31 = .ok (.aload_n 0, 1) := by decide +kernel
theorem dX3_init_32 : decode cX3_init 32 = .ok (.bipush 41, 2) := by decide +kernel
theorem dX3_init_34 : decode cX3_init 34 = .ok (.newarray .int, 2) := by decide +kernel
theorem dX3_init_36 : decode cX3_init 36 = .ok (.putfield 25, 3) := by decide +kernel
theorem dX3_init_39 : decode cX3_init 39 = .ok (.aload_n 0, 1) := by decide +kernel
theorem dX3_init_40 : decode cX3_init 40 = .ok (.aload_n 1, 1) := by decide +kernel
theorem dX3_init_41 : decode cX3_init 41 = .ok (.putfield 29, 3) := by decide +kernel
theorem dX3_init_44 : decode cX3_init 44 = .ok (.iconst 0, 1) := by decide +kernel
theorem dX3_init_45 : decode cX3_init 45 = .ok (.istore_n 2, 1) := by decide +kernel
theorem dX3_init_46 : decode cX3_init 46 = .ok (.iload_n 2, 1) := by decide +kernel
theorem dX3_init_47 : decode cX3_init 47 = .ok (.iconst 4, 1) := by decide +kernel
theorem dX3_init_48 : decode cX3_init 48 = .ok (.if_icmp .ge 21, 3) := by decide +kernel
theorem dX3_init_51 : decode cX3_init 51 = .ok (.aload_n 0, 1) := by decide +kernel
theorem dX3_init_52 : decode cX3_init 52 = .ok (.getfield 18, 3) := by decide +kernel
theorem dX3_init_55 : decode cX3_init 55 = .ok (.bipush 101, 2) := by decide +kernel
theorem dX3_init_57 : decode cX3_init 57 = .ok (.iload_n 2, 1) := by decide +kernel
theorem dX3_init_58 : decode cX3_init 58 = .ok (.iadd, 1) := by decide +kernel
theorem dX3_init_59 : decode cX3_init 59 = .ok (.iload_n 2, 1) := by decide +kernel
theorem dX3_init_60 : decode cX3_init 60 = .ok (.invokevirtual 33, 3) := by decide +kernel
theorem dX3_init_63 : decode cX3_init 63 = .ok (.iinc 2 1, 3) := by decide +kernel
theorem dX3_init_66 : decode cX3_init 66 = .ok (.goto (-20), 3) := by decide +kernel
theorem dX3_init_69 : decode cX3_init 69 = .ok (.return_, 1) := by decide +kernel
theorem dX3_measureThrough_0 : decode cX3_measureThrough 0 = .ok (.iconst 0, 1) := by decide +kernel
theorem dX3_measureThrough_1 : decode cX3_measureThrough 1 = .ok (.istore_n 2, 1) := by decide +kernel
theorem dX3_measureThrough_2 : decode cX3_measureThrough 2 = .ok (.iload_n 2, 1) := by decide +kernel
theorem dX3_measureThrough_3 : decode cX3_measureThrough 3 = .ok (.iload_n 1, 1) := by decide +kernel
theorem dX3_measureThrough_4 : decode cX3_measureThrough 4 = .ok (.if_icmp .gt 31, 3) := by decide +kernel
theorem dX3_measureThrough_7 : decode cX3_measureThrough 7 = .ok (.iload_n 2, 1) := by decide +kernel
theorem dX3_measureThrough_8 : decode cX3_measureThrough 8 = .ok (.aload_n 0, 1) := by decide +kernel
theorem dX3_measureThrough_9 : decode cX3_measureThrough 9 = .ok (.getfield 29, 3) := by decide +kernel
theorem dX3_measureThrough_12 : decode cX3_measureThrough 12 = .ok (.getfield 48, 3) := by decide +kernel
theorem dX3_measureThrough_15 : decode cX3_measureThrough 15 = .ok (.if_icmp .ge 20, 3) := by decide +kernel
theorem dX3_measureThrough_18 : decode cX3_measureThrough 18 = .ok (.aload_n 0, 1) := by decide +kernel
theorem dX3_measureThrough_19 : decode cX3_measureThrough 19 = .ok (.getfield 11, 3) := by decide +kernel
theorem dX3_measureThrough_22 : decode cX3_measureThrough 22 = .ok (.iload_n 2, 1) := by decide +kernel
theorem dX3_measureThrough_23 : decode cX3_measureThrough 23 = .ok (.aload_n 0, 1) := by decide +kernel
theorem dX3_measureThrough_24 : decode cX3_measureThrough 24 = .ok (.iload_n 2, 1) := by decide +kernel
theorem dX3_measureThrough_25 : decode cX3_measureThrough 25 = .ok (.invokevirtual 54, 3) := by decide +kernel
theorem dX3_measureThrough_28 : decode cX3_measureThrough 28 = .ok (.bastore, 1) := by decide +kernel
theorem dX3_measureThrough_29 : decode cX3_measureThrough 29 = .ok (.iinc 2 1, 3) := by decide +kernel
theorem dX3_measureThrough_32 : decode cX3_measureThrough 32 = .ok (.goto (-30), 3) := by decide +kernel
theorem dX3_measureThrough_35 : decode cX3_measureThrough 35 = .ok (.return_, 1) := by decide +kernel
theorem dX4_init_0 : decode cX4_init 0 = .ok (.aload_n 0, 1) := by decide +kernel
theorem dX4_init_1 : decode cX4_init 1 = .ok (.invokespecial 3, 3) := by decide +kernel
theorem dX4_init_4 : decode cX4_init 4 = .ok (.aload_n 0, 1) := by decide +kernel
theorem dX4_init_5 : decode cX4_init 5 = .ok (.bipush 30, 2) := by decide +kernel
theorem dX4_init_7 : decode cX4_init 7 = .ok (.newarray .int, 2) := by decide +kernel
theorem dX4_init_9 : decode cX4_init 9 = .ok (.putfield 9, 3) := by decide +kernel
theorem dX4_init_12 : decode cX4_init 12 = .ok (.aload_n 0, 1) := by decide +kernel
theorem dX4_init_13 : decode cX4_init 13 = .ok (.bipush 30, 2) := by decide +kernel
theorem dX4_init_15 : decode cX4_init 15 = .ok (.newarray .int, 2) := by decide +kernel
theorem dX4_init_17 : decode cX4_init 17 = .ok (.putfield 15, 3) := by decide +kernel
theorem dX4_init_20 : decode cX4_init 20 = .ok (.aload_n 0, 1) := by decide +kernel
theorem dX4_init_21 : decode cX4_init 21 = .ok (.bipush 31, 2) := by decide +kernel
theorem dX4_init_23 : decode cX4_init 23 = .ok (.newarray .boolean, 2) := by decide +kernel
theorem dX4_init_25 : decode cX4_init 25 = .ok (.putfield 18, 3) := by decide +kernel
theorem dX4_init_28 : decode cX4_init 28 = .ok (.aload_n 0, 1) := by decide +kernel
theorem dX4_init_29 : decode cX4_init 29 = .ok (.aload_n 1, 1) := by decide +kernel
theorem dX4_init_30 : decode cX4_init 30 = .ok (.putfield 22, 3) := by decide +kernel
theorem dX4_init_33 : decode cX4_init 33 = .ok (.return_, 1) := by decide +kernel
theorem dX5_init_0 : decode cX5_init 0 = .ok (.aload_n 0, 1) := by decide +kernel
theorem dX5_init_1 : decode cX5_init 1 = .ok (.invokespecial 3, 3) := by decide +kernel
theorem dX5_init_4 : decode cX5_init 4 = .ok (.aload_n 0, 1) := by decide +kernel
theorem dX5_init_5 : decode cX5_init 5 = .ok (.bipush 40, 2) := by decide +kernel
theorem dX5_init_7 : decode cX5_init 7 = .ok (.newarray .int, 2) := by decide +kernel
theorem dX5_init_9 : decode cX5_init 9 = .ok (.putfield 9, 3) := by decide +kernel
theorem dX5_init_12 : decode cX5_init 12 = .ok (.aload_n 0, 1) := by decide +kernel
theorem dX5_init_13 : decode cX5_init 13 = .ok (.bipush 40, 2) := by decide +kernel
theorem dX5_init_15 : decode cX5_init 15 = .ok (.newarray .int, 2) := by decide +kernel
theorem dX5_init_17 : decode cX5_init 17 = .ok (.putfield 15, 3) := by decide +kernel
theorem dX5_init_20 : decode cX5_init 20 = .ok (.return_, 1) := by decide +kernel
theorem dX5_isFull_0 : decode cX5_isFull 0 = .ok (.aload_n 0, 1) := by decide +kernel
theorem dX5_isFull_1 : decode cX5_isFull 1 = .ok (.getfield 18, 3) := by decide +kernel
theorem dX5_isFull_4 : decode cX5_isFull 4 = .ok (.bipush 40, 2) := by decide +kernel
theorem dX5_isFull_6 : decode cX5_isFull 6 = .ok (.if_icmp .lt 7, 3) := by decide +kernel
theorem dX5_isFull_9 : decode cX5_isFull 9 = .ok (.iconst 1, 1) := by decide +kernel
theorem dX5_isFull_10 : decode cX5_isFull 10 = .ok (.goto 4, 3) := by decide +kernel
theorem dX5_isFull_13 : decode cX5_isFull 13 = .ok (.iconst 0, 1) := by decide +kernel
theorem dX5_isFull_14 : decode cX5_isFull 14 = .ok (.ireturn, 1) := by decide +kernel
theorem dX5_add_0 : decode cX5_add 0 = .ok (.aload_n 0, 1) := by decide +kernel
theorem dX5_add_1 : decode cX5_add 1 = .ok (.getfield 18, 3) := by decide +kernel
theorem dX5_add_4 : decode cX5_add 4 = .ok (.bipush 40, 2) := by decide +kernel
theorem dX5_add_6 : decode cX5_add 6 = .ok (.if_icmp .ge 33, 3) := by decide +kernel
theorem dX5_add_9 : decode cX5_add 9 = .ok (.aload_n 0, 1) := by decide +kernel
theorem dX5_add_10 : decode cX5_add 10 = .ok (.getfield 9, 3) := by decide +kernel
theorem dX5_add_13 : decode cX5_add 13 = .ok (.aload_n 0, 1) := by decide +kernel
theorem dX5_add_14 : decode cX5_add 14 = .ok (.getfield 18, 3) := by decide +kernel
theorem dX5_add_17 : decode cX5_add 17 = .ok (.iload_n 1, 1) := by decide +kernel
theorem dX5_add_18 : decode cX5_add 18 = .ok (.iastore, 1) := by decide +kernel
theorem dX5_add_19 : decode cX5_add 19 = .ok (.aload_n 0, 1) := by decide +kernel
theorem dX5_add_20 : decode cX5_add 20 = .ok (.getfield 15, 3) := by decide +kernel
theorem dX5_add_23 : decode cX5_add 23 = .ok (.aload_n 0, 1) := by decide +kernel
theorem dX5_add_24 : decode cX5_add 24 = .ok (.getfield 18, 3) := by decide +kernel
theorem dX5_add_27 : decode cX5_add 27 = .ok (.iload_n 2, 1) := by decide +kernel
theorem dX5_add_28 : decode cX5_add 28 = .ok (.iastore, 1) := by decide +kernel
theorem dX5_add_29 : decode cX5_add 29 = .ok (.aload_n 0, 1) := by decide +kernel
theorem dX5_add_30 : decode cX5_add 30 = .ok (.dup, 1) := by decide +kernel
theorem dX5_add_31 : decode cX5_add 31 = .ok (.getfield 18, 3) := by decide +kernel
theorem dX5_add_34 : decode cX5_add 34 = .ok (.iconst 1, 1) := by decide +kernel
theorem dX5_add_35 : decode cX5_add 35 = .ok (.iadd, 1) := by decide +kernel
theorem dX5_add_36 : decode cX5_add 36 = .ok (.putfield 18, 3) := by decide +kernel
theorem dX5_add_39 : decode cX5_add 39 = .ok (.aload_n 0, 1) := by decide +kernel
theorem dX5_add_40 : decode cX5_add 40 = .ok (.getfield 18, 3) := by decide +kernel
theorem dX5_add_43 : decode cX5_add 43 = .ok (.ireturn, 1) := by decide +kernel
theorem dX5_hasMore_0 : decode cX5_hasMore 0 = .ok (.aload_n 0, 1) := by decide +kernel
theorem dX5_hasMore_1 : decode cX5_hasMore 1 = .ok (.getfield 22, 3) := by decide +kernel
theorem dX5_hasMore_4 : decode cX5_hasMore 4 = .ok (.aload_n 0, 1) := by decide +kernel
theorem dX5_hasMore_5 : decode cX5_hasMore 5 = .ok (.getfield 18, 3) := by decide +kernel
theorem dX5_hasMore_8 : decode cX5_hasMore 8 = .ok (.if_icmp .ge 7, 3) := by decide +kernel
theorem dX5_hasMore_11 : decode cX5_hasMore 11 = .ok (.iconst 1, 1) := by decide +kernel
theorem dX5_hasMore_12 : decode cX5_hasMore 12 = .ok (.goto 4, 3) := by decide +kernel
theorem dX5_hasMore_15 : decode cX5_hasMore 15 = .ok (.iconst 0, 1) := by decide +kernel
theorem dX5_hasMore_16 : decode cX5_hasMore 16 = .ok (.ireturn, 1) := by decide +kernel
theorem dX5_clear_0 : decode cX5_clear 0 = .ok (.aload_n 0, 1) := by decide +kernel
theorem dX5_clear_1 : decode cX5_clear 1 = .ok (.iconst 0, 1) := by decide +kernel
theorem dX5_clear_2 : decode cX5_clear 2 = .ok (.putfield 18, 3) := by decide +kernel
theorem dX5_clear_5 : decode cX5_clear 5 = .ok (.aload_n 0, 1) := by decide +kernel
theorem dX5_clear_6 : decode cX5_clear 6 = .ok (.iconst 0, 1) := by decide +kernel
theorem dX5_clear_7 : decode cX5_clear 7 = .ok (.putfield 22, 3) := by decide +kernel
theorem dX5_clear_10 : decode cX5_clear 10 = .ok (.return_, 1) := by decide +kernel
theorem dX6_init_0 : decode cX6_init 0 = .ok (.aload_n 0, 1) := by decide +kernel
theorem dX6_init_1 : decode cX6_init 1 = .ok (.invokespecial 3, 3) := by decide +kernel
theorem dX6_init_4 : decode cX6_init 4 = .ok (.aload_n 0, 1) := by decide +kernel
theorem dX6_init_5 : decode cX6_init 5 = .ok (.new 9, 3) := by decide +kernel
theorem dX6_init_8 : decode cX6_init 8 = .ok (.dup, 1) := by decide +kernel
theorem dX6_init_9 : decode cX6_init 9 = .ok (.invokespecial 11, 3) := by decide +kernel
theorem dX6_init_12 : decode cX6_init 12 = .ok (.putfield 12, 3) := by decide +kernel
theorem dX6_init_15 : decode cX6_init 15 = .ok (.aload_n 0, 1) := by decide +kernel
theorem dX6_init_16 : decode cX6_init 16 = .ok (.new 9, 3) := by decide +kernel
theorem dX6_init_19 : decode cX6_init 19 = .ok (.dup, 1) := by decide +kernel
theorem dX6_init_20 : decode cX6_init 20 = .ok (.invokespecial 11, 3) := by decide +kernel
theorem dX6_init_23 : decode cX6_init 23 = .ok (.putfield 18, 3) := by decide +kernel
theorem dX6_init_26 : decode cX6_init 26 = .ok (.aload_n 0, 1) := by decide +kernel
theorem dX6_init_27 : decode cX6_init 27 = .ok (.bipush 100, 2) := by decide +kernel
theorem dX6_init_29 : decode cX6_init 29 = .ok (.newarray .int, 2) := by decide +kernel
theorem dX6_init_31 : decode cX6_init 31 = .ok (.putfield 21, 3) := by decide +kernel
theorem dX6_init_34 : decode cX6_init 34 = .ok (.aload_n 0, 1) := by decide +kernel
theorem dX6_init_35 : decode cX6_init 35 = .ok (.new 25, 3) := by decide +kernel
theorem dX6_init_38 : decode cX6_init 38 = .ok (.dup, 1) := by decide +kernel
theorem dX6_init_39 : decode cX6_init 39 = .ok (.invokespecial 27, 3) := by decide +kernel
theorem dX6_init_42 : decode cX6_init 42 = .ok (.putfield 28, 3) := by decide +kernel
theorem dX6_init_45 : decode cX6_init 45 = .ok (.aload_n 0, 1) := by decide +kernel
theorem dX6_init_46 : decode cX6_init 46 = .ok (.new 32, 3) := by decide +kernel
theorem dX6_init_49 : decode cX6_init 49 = .ok (.dup, 1) := by decide +kernel
theorem dX6_init_50 : decode cX6_init 50 = .ok (.invokespecial 34, 3) := by decide +kernel
theorem dX6_init_53 : decode cX6_init 53 = .ok (.putfield 35, 3) := by decide +kernel
theorem dX6_init_56 : decode cX6_init 56 = .ok (.aload_n 0, 1) := by decide +kernel
theorem dX6_init_57 : decode cX6_init 57 = .ok (.new 39, 3) := by decide +kernel
theorem dX6_init_60 : decode cX6_init 60 = .ok (.dup, 1) := by decide +kernel
theorem dX6_init_61 : decode cX6_init 61 = .ok (.invokespecial 41, 3) := by decide +kernel
theorem dX6_init_64 : decode cX6_init 64 = .ok (.putfield 42, 3) := by decide +kernel
theorem dX6_init_67 : decode cX6_init 67 = .ok (.aload_n 0, 1) := by decide +kernel
theorem dX6_init_68 : decode cX6_init 68 = .ok (.new 46, 3) := by decide +kernel
theorem dX6_init_71 : decode cX6_init 71 = .ok (.dup, 1) := by decide +kernel
theorem dX6_init_72 : decode cX6_init 72 = .ok (.invokespecial 48, 3) := by decide +kernel
theorem dX6_init_75 : decode cX6_init 75 = .ok (.putfield 49, 3) := by decide +kernel
theorem dX6_init_78 : decode cX6_init 78 = .ok (.aload_n 0, 1) := by decide +kernel
theorem dX6_init_79 : decode cX6_init 79 = .ok (.bipush 30, 2) := by decide +kernel
theorem dX6_init_81 : decode cX6_init 81 = .ok (.newarray .int, 2) := by decide +kernel
theorem dX6_init_83 : decode cX6_init 83 = .ok (.putfield 53, 3) := by decide +kernel
theorem dX6_init_86 : decode cX6_init 86 = .ok (.aload_n 0, 1) := by decide +kernel
theorem dX6_init_87 : decode cX6_init 87 = .ok (.bipush 30, 2) := by decide +kernel
theorem dX6_init_89 : decode cX6_init 89 = .ok (.newarray .int, 2) := by decide +kernel
theorem dX6_init_91 : decode cX6_init 91 = .ok (.putfield 56, 3) := by decide +kernel
theorem dX6_init_94 : decode cX6_init 94 = .ok (.aload_n 0, 1) := by decide +kernel
theorem dX6_init_95 : decode cX6_init 95 = .ok (.iload_n 1, 1) := by decide +kernel
theorem dX6_init_96 : decode cX6_init 96 = .ok (.putfield 59, 3) := by decide +kernel
theorem dX6_init_99 : decode cX6_init 99 = .ok (.return_, 1) := by decide +kernel
theorem dX7_init_0 : decode cX7_init 0 = .ok (.aload_n 0, 1) := by decide +kernel
theorem dX7_init_1 : decode cX7_init 1 = .ok (.invokespecial 3, 3) := by decide +kernel
theorem dX7_init_4 : decode cX7_init 4 = .ok (.aload_n 0, 1) := by decide +kernel
theorem dX7_init_5 : decode cX7_init 5 = .ok (.sipush 160, 3) := by decide +kernel
theorem dX7_init_8 : decode cX7_init 8 = .ok (.newarray .int, 2) := by decide +kernel
theorem dX7_init_10 : decode cX7_init 10 = .ok (.putfield 9, 3) := by decide +kernel
theorem dX7_init_13 : decode cX7_init 13 = .ok (.return_, 1) := by decide +kernel
theorem dX8_init_0 : decode cX8_init 0 = .ok (.aload_n 0, 1) := by decide +kernel
theorem dX8_init_1 : decode cX8_init 1 = .ok (.invokespecial 3, 3) := by decide +kernel
theorem dX8_init_4 : decode cX8_init 4 = .ok (.aload_n 0, 1) := by decide +kernel
theorem dX8_init_5 : decode cX8_init 5 = .ok (.aload_n 1, 1) := by decide +kernel
theorem dX8_init_6 : decode cX8_init 6 = .ok (.putfield 9, 3) := by decide +kernel
theorem dX8_init_9 : decode cX8_init 9 = .ok (.return_, 1) := by decide +kernel
theorem dX9_init_0 : decode cX9_init 0 = .ok (.aload_n 0, 1) := by decide +kernel
theorem dX9_init_1 : decode cX9_init 1 = .ok (.invokespecial 3, 3) := by decide +kernel
theorem dX9_init_4 : decode cX9_init 4 = .ok (.aload_n 0, 1) := by decide +kernel
theorem dX9_init_5 : decode cX9_init 5 = .ok (.new 9, 3) := by decide +kernel
theorem dX9_init_8 : decode cX9_init 8 = .ok (.dup, 1) := by decide +kernel
theorem dX9_init_9 : decode cX9_init 9 = .ok (.sipush 150, 3) := by decide +kernel
theorem dX9_init_12 : decode cX9_init 12 = .ok (.invokespecial 11, 3) := by decide +kernel
theorem dX9_init_15 : decode cX9_init 15 = .ok (.putfield 14, 3) := by decide +kernel
theorem dX9_init_18 : decode cX9_init 18 = .ok (.aload_n 0, 1) := by decide +kernel
theorem dX9_init_19 : decode cX9_init 19 = .ok (.new 20, 3) := by decide +kernel
theorem dX9_init_22 : decode cX9_init 22 = .ok (.dup, 1) := by decide +kernel
theorem dX9_init_23 : decode cX9_init 23 = .ok (.aload_n 0, 1) := by decide +kernel
theorem dX9_init_24 : decode cX9_init 24 = .ok (.getfield 14, 3) := by decide +kernel
theorem dX9_init_27 : decode cX9_init 27 = .ok (.invokespecial 22, 3) := by decide +kernel
theorem dX9_init_30 : decode cX9_init 30 = .ok (.putfield 25, 3) := by decide +kernel
theorem dX9_init_33 : decode cX9_init 33 = .ok (.aload_n 0, 1) := by decide +kernel
theorem dX9_init_34 : decode cX9_init 34 = .ok (.new 9, 3) := by decide +kernel
theorem dX9_init_37 : decode cX9_init 37 = .ok (.dup, 1) := by decide +kernel
theorem dX9_init_38 : decode cX9_init 38 = .ok (.sipush 150, 3) := by decide +kernel
theorem dX9_init_41 : decode cX9_init 41 = .ok (.invokespecial 11, 3) := by decide +kernel
theorem dX9_init_44 : decode cX9_init 44 = .ok (.putfield 29, 3) := by decide +kernel
theorem dX9_init_47 : decode cX9_init 47 = .ok (.aload_n 0, 1) := by decide +kernel
theorem dX9_init_48 : decode cX9_init 48 = .ok (.new 32, 3) := by decide +kernel
theorem dX9_init_51 : decode cX9_init 51 = .ok (.dup, 1) := by decide +kernel
theorem dX9_init_52 : decode cX9_init 52 = .ok (.aload_n 0, 1) := by decide +kernel
theorem dX9_init_53 : decode cX9_init 53 = .ok (.getfield 29, 3) := by decide +kernel
theorem dX9_init_56 : decode cX9_init 56 = .ok (.invokespecial 34, 3) := by decide +kernel
theorem dX9_init_59 : decode cX9_init 59 = .ok (.putfield 35, 3) := by decide +kernel
theorem dX9_init_62 : decode cX9_init 62 = .ok (.return_, 1) := by decide +kernel
theorem dX10_init_0 : decode cX10_init 0 = .ok (.aload_n 0, 1) := by decide +kernel
theorem dX10_init_1 : decode cX10_init 1 = .ok (.invokespecial 3, 3) := by decide +kernel
theorem dX10_init_4 : decode cX10_init 4 = .ok (.aload_n 0, 1) := by decide +kernel
theorem dX10_init_5 : decode cX10_init 5 = .ok (.bipush 40, 2) := by decide +kernel
theorem dX10_init_7 : decode cX10_init 7 = .ok (.newarray .int, 2) := by decide +kernel
theorem dX10_init_9 : decode cX10_init 9 = .ok (.putfield 9, 3) := by decide +kernel
theorem dX10_init_12 : decode cX10_init 12 = .ok (.aload_n 0, 1) := by decide +kernel
theorem dX10_init_13 : decode cX10_init 13 = .ok (.sipush 1240, 3) := by decide +kernel
theorem dX10_init_16 : decode cX10_init 16 = .ok (.newarray .int, 2) := by decide +kernel
theorem dX10_init_18 : decode cX10_init 18 = .ok (.putfield 15, 3) := by decide +kernel
theorem dX10_init_21 : decode cX10_init 21 = .ok (.aload_n 0, 1) := by decide +kernel
theorem dX10_init_22 : decode cX10_init 22 = .ok (.bipush 31, 2) := by decide +kernel
theorem dX10_init_24 : decode cX10_init 24 = .ok (.newarray .int, 2) := by decide +kernel
theorem dX10_init_26 : decode cX10_init 26 = .ok (.putfield 18, 3) := by decide +kernel
theorem dX10_init_29 : decode cX10_init 29 = .ok (.return_, 1) := by decide +kernel
theorem dX11_init_0 : decode cX11_init 0 = .ok (.aload_n 0, 1) := by decide +kernel
theorem dX11_init_1 : decode cX11_init 1 = .ok (.invokespecial 1, 3) := by decide +kernel
theorem dX11_init_4 : decode cX11_init 4 = .ok (.aload_n 0, 1) := by decide +kernel
theorem dX11_init_5 : decode cX11_init 5 = .ok (.new 7, 3) := by decide +kernel
theorem dX11_init_8 : decode cX11_init 8 = .ok (.dup, 1) := by decide +kernel
theorem dX11_init_9 : decode cX11_init 9 = .ok (.sipush 1000, 3) := by decide +kernel
theorem dX11_init_12 : decode cX11_init 12 = .ok (.invokespecial 11, 3) := by decide +kernel
theorem dX11_init_15 : decode cX11_init 15 = .ok (.putfield 14, 3) := by decide +kernel
theorem dX11_init_18 : decode cX11_init 18 = .ok (.aload_n 0, 1) := by decide +kernel
theorem dX11_init_19 : decode cX11_init 19 = .ok (.new 18, 3) := by decide +kernel
theorem dX11_init_22 : decode cX11_init 22 = .ok (.dup, 1) := by decide +kernel
theorem dX11_init_23 : decode cX11_init 23 = .ok (.aload_n 0, 1) := by decide +kernel
theorem dX11_init_24 : decode cX11_init 24 = .ok (.getfield 14, 3) := by decide +kernel
theorem dX11_init_27 : decode cX11_init 27 = .ok (.invokespecial 20, 3) := by decide +kernel
theorem dX11_init_30 : decode cX11_init 30 = .ok (.putfield 23, 3) := by decide +kernel
theorem dX11_init_33 : decode cX11_init 33 = .ok (.aload_n 0, 1) := by decide +kernel
theorem dX11_init_34 : decode cX11_init 34 = .ok (.new 27, 3) := by decide +kernel
theorem dX11_init_37 : decode cX11_init 37 = .ok (.dup, 1) := by decide +kernel
theorem dX11_init_38 : decode cX11_init 38 = .ok (.aload_n 0, 1) := by decide +kernel
theorem dX11_init_39 : decode cX11_init 39 = .ok (.getfield 14, 3) := by decide +kernel
theorem dX11_init_42 : decode cX11_init 42 = .ok (.getfield 29, 3) := by decide +kernel
theorem dX11_init_45 : decode cX11_init 45 = .ok (.invokespecial 33, 3) := by decide +kernel
theorem dX11_init_48 : decode cX11_init 48 = .ok (.putfield 36, 3) := by decide +kernel
theorem dX11_init_51 : decode cX11_init 51 = .ok (.aload_n 0, 1) := by decide +kernel
theorem dX11_init_52 : decode cX11_init 52 = .ok (.new 40, 3) := by decide +kernel
theorem dX11_init_55 : decode cX11_init 55 = .ok (.dup, 1) := by decide +kernel
theorem dX11_init_56 : decode cX11_init 56 = .ok (.invokespecial 42, 3) := by decide +kernel
theorem dX11_init_59 : decode cX11_init 59 = .ok (.putfield 43, 3) := by decide +kernel
theorem dX11_init_62 : decode cX11_init 62 = .ok (.aload_n 0, 1) := by decide +kernel
theorem dX11_init_63 : decode cX11_init 63 = .ok (.bipush 30, 2) := by decide +kernel
theorem dX11_init_65 : decode cX11_init 65 = .ok (.newarray .int, 2) := by decide +kernel
theorem dX11_init_67 : decode cX11_init 67 = .ok (.putfield 47, 3) := by decide +kernel
theorem dX11_init_70 : decode cX11_init 70 = .ok (.return_, 1) := by decide +kernel
theorem dX11_word_0 : decode cX11_word 0 = .ok (.ldc 51, 2) := by decide +kernel
theorem dX11_word_2 : decode cX11_word 2 = .ok (.iload_n 1, 1) := by decide +kernel
theorem dX11_word_3 : decode cX11_word 3 = .ok (.invokevirtual 53, 3) := by decide +kernel
theorem dX11_word_6 : decode cX11_word 6 = .ok (.ifCond .ge 22, 3) := by decide +kernel
theorem dX11_word_9 : decode cX11_word 9 = .ok (.ldc 59, 2) := by decide +kernel
theorem dX11_word_11 : decode cX11_word 11 = .ok (.iload_n 1, 1) := by decide +kernel
theorem dX11_word_12 : decode cX11_word 12 = .ok (.invokevirtual 53, 3) := by decide +kernel
theorem dX11_word_15 : decode cX11_word 15 = .ok (.ifCond .ge 13, 3) := by decide +kernel
theorem dX11_word_18 : decode cX11_word 18 = .ok (.new 61, 3) := by decide +kernel
theorem dX11_word_21 : decode cX11_word 21 = .ok (.dup, 1) := by decide +kernel
theorem dX11_word_22 : decode cX11_word 22 = .ok (.ldc 63, 2) := by decide +kernel
theorem dX11_word_24 : decode cX11_word 24 = .ok (.invokespecial 65, 3) := by decide +kernel
theorem dX11_word_27 : decode cX11_word 27 = .ok (.athrow, 1) := by decide +kernel
theorem dX11_word_28 : decode cX11_word 28 = .ok (.aload_n 0, 1) := by decide +kernel
theorem dX11_word_29 : decode cX11_word 29 = .ok (.getfield 14, 3) := by decide +kernel
theorem dX11_word_32 : decode cX11_word 32 = .ok (.getfield 68, 3) := by decide +kernel
theorem dX11_word_35 : decode cX11_word 35 = .ok (.invokevirtual 72, 3) := by decide +kernel
theorem dX11_word_38 : decode cX11_word 38 = .ok (.ifCond .eq 13, 3) := by decide +kernel
theorem dX11_word_41 : decode cX11_word 41 = .ok (.new 78, 3) := by decide +kernel
theorem dX11_word_44 : decode cX11_word 44 = .ok (.dup, 1) := by decide +kernel
theorem dX11_word_45 : decode cX11_word 45 = .ok (.ldc 80, 2) := by decide +kernel
theorem dX11_word_47 : decode cX11_word 47 = .ok (.invokespecial 82, 3) := by decide +kernel
theorem dX11_word_50 : decode cX11_word 50 = .ok (.athrow, 1) := by decide +kernel
theorem dX11_word_51 : decode cX11_word 51 = .ok (.aload_n 0, 1) := by decide +kernel
theorem dX11_word_52 : decode cX11_word 52 = .ok (.getfield 14, 3) := by decide +kernel
theorem dX11_word_55 : decode cX11_word 55 = .ok (.getfield 68, 3) := by decide +kernel
theorem dX11_word_58 : decode cX11_word 58 = .ok (.iconst 1, 1) := by decide +kernel
theorem dX11_word_59 : decode cX11_word 59 = .ok (.iload_n 1, 1) := by decide +kernel
theorem dX11_word_60 : decode cX11_word 60 = .ok (.invokevirtual 83, 3) := by decide +kernel
theorem dX11_word_63 : decode cX11_word 63 = .ok (.ireturn, 1) := by decide +kernel
theorem dX11_name_0 : decode cX11_name 0 = .ok (.iload_n 1, 1) := by decide +kernel
theorem dX11_name_1 : decode cX11_name 1 = .ok (.ifCond .lt 9, 3) := by decide +kernel
theorem dX11_name_4 : decode cX11_name 4 = .ok (.iload_n 1, 1) := by decide +kernel
theorem dX11_name_5 : decode cX11_name 5 = .ok (.bipush 16, 2) := by decide +kernel
theorem dX11_name_7 : decode cX11_name 7 = .ok (.if_icmp .lt 13, 3) := by decide +kernel
theorem dX11_name_10 : decode cX11_name 10 = .ok (.new 61, 3) := by decide +kernel
theorem dX11_name_13 : decode cX11_name 13 = .ok (.dup, 1) := by decide +kernel
theorem dX11_name_14 : decode cX11_name 14 = .ok (.ldc 87, 2) := by decide +kernel
theorem dX11_name_16 : decode cX11_name 16 = .ok (.invokespecial 65, 3) := by decide +kernel
theorem dX11_name_19 : decode cX11_name 19 = .ok (.athrow, 1) := by decide +kernel
theorem dX11_name_20 : decode cX11_name 20 = .ok (.aload_n 0, 1) := by decide +kernel
theorem dX11_name_21 : decode cX11_name 21 = .ok (.getfield 14, 3) := by decide +kernel
theorem dX11_name_24 : decode cX11_name 24 = .ok (.getfield 68, 3) := by decide +kernel
theorem dX11_name_27 : decode cX11_name 27 = .ok (.invokevirtual 72, 3) := by decide +kernel
theorem dX11_name_30 : decode cX11_name 30 = .ok (.ifCond .eq 13, 3) := by decide +kernel
theorem dX11_name_33 : decode cX11_name 33 = .ok (.new 78, 3) := by decide +kernel
theorem dX11_name_36 : decode cX11_name 36 = .ok (.dup, 1) := by decide +kernel
theorem dX11_name_37 : decode cX11_name 37 = .ok (.ldc 80, 2) := by decide +kernel
theorem dX11_name_39 : decode cX11_name 39 = .ok (.invokespecial 82, 3) := by decide +kernel
theorem dX11_name_42 : decode cX11_name 42 = .ok (.athrow, 1) := by decide +kernel
theorem dX11_name_43 : decode cX11_name 43 = .ok (.aload_n 0, 1) := by decide +kernel
theorem dX11_name_44 : decode cX11_name 44 = .ok (.getfield 14, 3) := by decide +kernel
theorem dX11_name_47 : decode cX11_name 47 = .ok (.getfield 68, 3) := by decide +kernel
theorem dX11_name_50 : decode cX11_name 50 = .ok (.iconst 2, 1) := by decide +kernel
theorem dX11_name_51 : decode cX11_name 51 = .ok (.iload_n 1, 1) := by decide +kernel
theorem dX11_name_52 : decode cX11_name 52 = .ok (.invokevirtual 83, 3) := by decide +kernel
theorem dX11_name_55 : decode cX11_name 55 = .ok (.ireturn, 1) := by decide +kernel
theorem dX11_number_0 : decode cX11_number 0 = .ok (.aload_n 0, 1) := by decide +kernel
theorem dX11_number_1 : decode cX11_number 1 = .ok (.getfield 14, 3) := by decide +kernel
theorem dX11_number_4 : decode cX11_number 4 = .ok (.getfield 68, 3) := by decide +kernel
theorem dX11_number_7 : decode cX11_number 7 = .ok (.invokevirtual 72, 3) := by decide +kernel
theorem dX11_number_10 : decode cX11_number 10 = .ok (.ifCond .eq 13, 3) := by decide +kernel
theorem dX11_number_13 : decode cX11_number 13 = .ok (.new 78, 3) := by decide +kernel
theorem dX11_number_16 : decode cX11_number 16 = .ok (.dup, 1) := by decide +kernel
theorem dX11_number_17 : decode cX11_number 17 = .ok (.ldc 80, 2) := by decide +kernel
theorem dX11_number_19 : decode cX11_number 19 = .ok (.invokespecial 82, 3) := by decide +kernel
theorem dX11_number_22 : decode cX11_number 22 = .ok (.athrow, 1) := by decide +kernel
theorem dX11_number_23 : decode cX11_number 23 = .ok (.aload_n 0, 1) := by decide +kernel
theorem dX11_number_24 : decode cX11_number 24 = .ok (.getfield 14, 3) := by decide +kernel
theorem dX11_number_27 : decode cX11_number 27 = .ok (.getfield 68, 3) := by decide +kernel
theorem dX11_number_30 : decode cX11_number 30 = .ok (.iconst 0, 1) := by decide +kernel
theorem dX11_number_31 : decode cX11_number 31 = .ok (.iload_n 1, 1) := by decide +kernel
theorem dX11_number_32 : decode cX11_number 32 = .ok (.invokevirtual 83, 3) := by decide +kernel
theorem dX11_number_35 : decode cX11_number 35 = .ok (.ireturn, 1) := by decide +kernel
theorem dX11_enter_0 : decode cX11_enter 0 = .ok (.aload_n 0, 1) := by decide +kernel
theorem dX11_enter_1 : decode cX11_enter 1 = .ok (.getfield 14, 3) := by decide +kernel
theorem dX11_enter_4 : decode cX11_enter 4 = .ok (.iconst 0, 1) := by decide +kernel
theorem dX11_enter_5 : decode cX11_enter 5 = .ok (.putfield 89, 3) := by decide +kernel
theorem dX11_enter_8 : decode cX11_enter 8 = .ok (.iconst 0, 1) := by decide +kernel
theorem dX11_enter_9 : decode cX11_enter 9 = .ok (.istore_n 1, 1) := by decide +kernel
theorem dX11_enter_10 : decode cX11_enter 10 = .ok (.iconst 0, 1) := by decide +kernel
theorem dX11_enter_11 : decode cX11_enter 11 = .ok (.istore_n 2, 1) := by decide +kernel
theorem dX11_enter_12 : decode cX11_enter 12 = .ok (.iload_n 2, 1) := by decide +kernel
theorem dX11_enter_13 : decode cX11_enter 13 = .ok (.bipush 40, 2) := by decide +kernel
theorem dX11_enter_15 : decode cX11_enter 15 = .ok (.if_icmp .ge 41, 3) := by decide +kernel
theorem dX11_enter_18 : decode cX11_enter 18 = .ok (.iload_n 1, 1) := by decide +kernel
theorem dX11_enter_19 : decode cX11_enter 19 = .ok (.ifCond .ne 37, 3) := by decide +kernel
theorem dX11_enter_22 : decode cX11_enter 22 = .ok (.aload_n 0, 1) := by decide +kernel
theorem dX11_enter_23 : decode cX11_enter 23 = .ok (.getfield 14, 3) := by decide +kernel
theorem dX11_enter_26 : decode cX11_enter 26 = .ok (.getfield 68, 3) := by decide +kernel
theorem dX11_enter_29 : decode cX11_enter 29 = .ok (.invokevirtual 93, 3) := by decide +kernel
theorem dX11_enter_32 : decode cX11_enter 32 = .ok (.ifCond .eq 24, 3) := by decide +kernel
theorem dX11_enter_35 : decode cX11_enter 35 = .ok (.aload_n 0, 1) := by decide +kernel
theorem dX11_enter_36 : decode cX11_enter 36 = .ok (.getfield 23, 3) := by decide +kernel
theorem dX11_enter_39 : decode cX11_enter 39 = .ok (.aload_n 0, 1) := by decide +kernel
theorem dX11_enter_40 : decode cX11_enter 40 = .ok (.getfield 23, 3) := by decide +kernel
theorem dX11_enter_43 : decode cX11_enter 43 = .ok (.invokevirtual 96, 3) := by decide +kernel
theorem dX11_enter_46 : decode cX11_enter 46 = .ok (.invokevirtual 100, 3) := by decide +kernel
theorem dX11_enter_49 : decode cX11_enter 49 = .ok (.istore_n 1, 1) := by decide +kernel
theorem dX11_enter_50 : decode cX11_enter 50 = .ok (.iinc 2 1, 3) := by decide +kernel
theorem dX11_enter_53 : decode cX11_enter 53 = .ok (.goto (-41), 3) := by decide +kernel
theorem dX11_enter_56 : decode cX11_enter 56 = .ok (.aload_n 0, 1) := by decide +kernel
theorem dX11_enter_57 : decode cX11_enter 57 = .ok (.getfield 14, 3) := by decide +kernel
theorem dX11_enter_60 : decode cX11_enter 60 = .ok (.getfield 68, 3) := by decide +kernel
theorem dX11_enter_63 : decode cX11_enter 63 = .ok (.invokevirtual 103, 3) := by decide +kernel
theorem dX11_enter_66 : decode cX11_enter 66 = .ok (.aload_n 0, 1) := by decide +kernel
theorem dX11_enter_67 : decode cX11_enter 67 = .ok (.dup, 1) := by decide +kernel
theorem dX11_enter_68 : decode cX11_enter 68 = .ok (.getfield 106, 3) := by decide +kernel
theorem dX11_enter_71 : decode cX11_enter 71 = .ok (.iconst 1, 1) := by decide +kernel
theorem dX11_enter_72 : decode cX11_enter 72 = .ok (.iadd, 1) := by decide +kernel
theorem dX11_enter_73 : decode cX11_enter 73 = .ok (.putfield 106, 3) := by decide +kernel
theorem dX11_enter_76 : decode cX11_enter 76 = .ok (.aload_n 0, 1) := by decide +kernel
theorem dX11_enter_77 : decode cX11_enter 77 = .ok (.dup, 1) := by decide +kernel
theorem dX11_enter_78 : decode cX11_enter 78 = .ok (.getfield 109, 3) := by decide +kernel
theorem dX11_enter_81 : decode cX11_enter 81 = .ok (.aload_n 0, 1) := by decide +kernel
theorem dX11_enter_82 : decode cX11_enter 82 = .ok (.getfield 14, 3) := by decide +kernel
theorem dX11_enter_85 : decode cX11_enter 85 = .ok (.getfield 89, 3) := by decide +kernel
theorem dX11_enter_88 : decode cX11_enter 88 = .ok (.i2l, 1) := by decide +kernel
theorem dX11_enter_89 : decode cX11_enter 89 = .ok (.ladd, 1) := by decide +kernel
theorem dX11_enter_90 : decode cX11_enter 90 = .ok (.putfield 109, 3) := by decide +kernel
theorem dX11_enter_93 : decode cX11_enter 93 = .ok (.aload_n 0, 1) := by decide +kernel
theorem dX11_enter_94 : decode cX11_enter 94 = .ok (.iload_n 1, 1) := by decide +kernel
theorem dX11_enter_95 : decode cX11_enter 95 = .ok (.putfield 113, 3) := by decide +kernel
theorem dX11_enter_98 : decode cX11_enter 98 = .ok (.aload_n 0, 1) := by decide +kernel
theorem dX11_enter_99 : decode cX11_enter 99 = .ok (.iconst 0, 1) := by decide +kernel
theorem dX11_enter_100 : decode cX11_enter 100 = .ok (.putfield 116, 3) := by decide +kernel
theorem dX11_enter_103 : decode cX11_enter 103 = .ok (.iload_n 1, 1) := by decide +kernel
theorem dX11_enter_104 : decode cX11_enter 104 = .ok (.ifCond .eq 35, 3) := by decide +kernel
theorem dX11_enter_107 : decode cX11_enter 107 = .ok (.aload_n 0, 1) := by decide +kernel
theorem dX11_enter_108 : decode cX11_enter 108 = .ok (.dup, 1) := by decide +kernel
theorem dX11_enter_109 : decode cX11_enter 109 = .ok (.getfield 119, 3) := by decide +kernel
theorem dX11_enter_112 : decode cX11_enter 112 = .ok (.iconst 1, 1) := by decide +kernel
theorem dX11_enter_113 : decode cX11_enter 113 = .ok (.iadd, 1) := by decide +kernel
theorem dX11_enter_114 : decode cX11_enter 114 = .ok (.putfield 119, 3) := by decide +kernel
theorem dX11_enter_117 : decode cX11_enter 117 = .ok (.aload_n 0, 1) := by decide +kernel
theorem dX11_enter_118 : decode cX11_enter 118 = .ok (.iload_n 1, 1) := by decide +kernel
theorem dX11_enter_119 : decode cX11_enter 119 = .ok (.invokevirtual 122, 3) := by decide +kernel
theorem dX11_enter_122 : decode cX11_enter 122 = .ok (.aload_n 0, 1) := by decide +kernel
theorem dX11_enter_123 : decode cX11_enter 123 = .ok (.getfield 14, 3) := by decide +kernel
theorem dX11_enter_126 : decode cX11_enter 126 = .ok (.invokevirtual 125, 3) := by decide +kernel
theorem dX11_enter_129 : decode cX11_enter 129 = .ok (.aload_n 0, 1) := by decide +kernel
theorem dX11_enter_130 : decode cX11_enter 130 = .ok (.getfield 23, 3) := by decide +kernel
theorem dX11_enter_133 : decode cX11_enter 133 = .ok (.invokevirtual 128, 3) := by decide +kernel
theorem dX11_enter_136 : decode cX11_enter 136 = .ok (.bipush 101, 2) := by decide +kernel
theorem dX11_enter_138 : decode cX11_enter 138 = .ok (.ireturn, 1) := by decide +kernel
theorem dX11_enter_139 : decode cX11_enter 139 = .ok (.aload_n 0, 1) := by decide +kernel
theorem dX11_enter_140 : decode cX11_enter 140 = .ok (.getfield 14, 3) := by decide +kernel
theorem dX11_enter_143 : decode cX11_enter 143 = .ok (.getfield 129, 3) := by decide +kernel
theorem dX11_enter_146 : decode cX11_enter 146 = .ok (.ifCond .eq 8, 3) := by decide +kernel
theorem dX11_enter_149 : decode cX11_enter 149 = .ok (.bipush 99, 2) := by decide +kernel
theorem dX11_enter_151 : decode cX11_enter 151 = .ok (.goto 5, 3) := by decide +kernel
theorem dX11_enter_154 : decode cX11_enter 154 = .ok (.bipush 111, 2) := by decide +kernel
theorem dX11_enter_156 : decode cX11_enter 156 = .ok (.ireturn, 1) := by decide +kernel
theorem dX11_error_0 : decode cX11_error 0 = .ok (.aload_n 0, 1) := by decide +kernel
theorem dX11_error_1 : decode cX11_error 1 = .ok (.getfield 113, 3) := by decide +kernel
theorem dX11_error_4 : decode cX11_error 4 = .ok (.ifCond .ne 13, 3) := by decide +kernel
theorem dX11_error_7 : decode cX11_error 7 = .ok (.new 144, 3) := by decide +kernel
theorem dX11_error_10 : decode cX11_error 10 = .ok (.dup, 1) := by decide +kernel
theorem dX11_error_11 : decode cX11_error 11 = .ok (.ldc 146, 2) := by decide +kernel
theorem dX11_error_13 : decode cX11_error 13 = .ok (.invokespecial 148, 3) := by decide +kernel
theorem dX11_error_16 : decode cX11_error 16 = .ok (.athrow, 1) := by decide +kernel
theorem dX11_error_17 : decode cX11_error 17 = .ok (.aload_n 0, 1) := by decide +kernel
theorem dX11_error_18 : decode cX11_error 18 = .ok (.getfield 113, 3) := by decide +kernel
theorem dX11_error_21 : decode cX11_error 21 = .ok (.ireturn, 1) := by decide +kernel
theorem dX11_trace_0 : decode cX11_trace 0 = .ok (.aload_n 0, 1) := by decide +kernel
theorem dX11_trace_1 : decode cX11_trace 1 = .ok (.getfield 116, 3) := by decide +kernel
theorem dX11_trace_4 : decode cX11_trace 4 = .ok (.ireturn, 1) := by decide +kernel
theorem dX11_traceAt_0 : decode cX11_traceAt 0 = .ok (.iload_n 1, 1) := by decide +kernel
theorem dX11_traceAt_1 : decode cX11_traceAt 1 = .ok (.ifCond .lt 11, 3) := by decide +kernel
theorem dX11_traceAt_4 : decode cX11_traceAt 4 = .ok (.iload_n 1, 1) := by decide +kernel
theorem dX11_traceAt_5 : decode cX11_traceAt 5 = .ok (.aload_n 0, 1) := by decide +kernel
theorem dX11_traceAt_6 : decode cX11_traceAt 6 = .ok (.getfield 116, 3) := by decide +kernel
theorem dX11_traceAt_9 : decode cX11_traceAt 9 = .ok (.if_icmp .lt 13, 3) := by decide +kernel
theorem dX11_traceAt_12 : decode cX11_traceAt 12 = .ok (.new 149, 3) := by decide +kernel
theorem dX11_traceAt_15 : decode cX11_traceAt 15 = .ok (.dup, 1) := by decide +kernel
theorem dX11_traceAt_16 : decode cX11_traceAt 16 = .ok (.ldc 151, 2) := by decide +kernel
theorem dX11_traceAt_18 : decode cX11_traceAt 18 = .ok (.invokespecial 153, 3) := by decide +kernel
theorem dX11_traceAt_21 : decode cX11_traceAt 21 = .ok (.athrow, 1) := by decide +kernel
theorem dX11_traceAt_22 : decode cX11_traceAt 22 = .ok (.aload_n 0, 1) := by decide +kernel
theorem dX11_traceAt_23 : decode cX11_traceAt 23 = .ok (.getfield 47, 3) := by decide +kernel
theorem dX11_traceAt_26 : decode cX11_traceAt 26 = .ok (.iload_n 1, 1) := by decide +kernel
theorem dX11_traceAt_27 : decode cX11_traceAt 27 = .ok (.iaload, 1) := by decide +kernel
theorem dX11_traceAt_28 : decode cX11_traceAt 28 = .ok (.ireturn, 1) := by decide +kernel
theorem dX11_depth_0 : decode cX11_depth 0 = .ok (.aload_n 0, 1) := by decide +kernel
theorem dX11_depth_1 : decode cX11_depth 1 = .ok (.getfield 14, 3) := by decide +kernel
theorem dX11_depth_4 : decode cX11_depth 4 = .ok (.getfield 154, 3) := by decide +kernel
theorem dX11_depth_7 : decode cX11_depth 7 = .ok (.getfield 158, 3) := by decide +kernel
theorem dX11_depth_10 : decode cX11_depth 10 = .ok (.ireturn, 1) := by decide +kernel
theorem dX11_at_0 : decode cX11_at 0 = .ok (.iload_n 1, 1) := by decide +kernel
theorem dX11_at_1 : decode cX11_at 1 = .ok (.ifCond .lt 17, 3) := by decide +kernel
theorem dX11_at_4 : decode cX11_at 4 = .ok (.iload_n 1, 1) := by decide +kernel
theorem dX11_at_5 : decode cX11_at 5 = .ok (.aload_n 0, 1) := by decide +kernel
theorem dX11_at_6 : decode cX11_at 6 = .ok (.getfield 14, 3) := by decide +kernel
theorem dX11_at_9 : decode cX11_at 9 = .ok (.getfield 154, 3) := by decide +kernel
theorem dX11_at_12 : decode cX11_at 12 = .ok (.getfield 158, 3) := by decide +kernel
theorem dX11_at_15 : decode cX11_at 15 = .ok (.if_icmp .lt 13, 3) := by decide +kernel
theorem dX11_at_18 : decode cX11_at 18 = .ok (.new 149, 3) := by decide +kernel
theorem dX11_at_21 : decode cX11_at 21 = .ok (.dup, 1) := by decide +kernel
theorem dX11_at_22 : decode cX11_at 22 = .ok (.ldc 163, 2) := by decide +kernel
theorem dX11_at_24 : decode cX11_at 24 = .ok (.invokespecial 153, 3) := by decide +kernel
theorem dX11_at_27 : decode cX11_at 27 = .ok (.athrow, 1) := by decide +kernel
theorem dX11_at_28 : decode cX11_at 28 = .ok (.aload_n 0, 1) := by decide +kernel
theorem dX11_at_29 : decode cX11_at 29 = .ok (.getfield 14, 3) := by decide +kernel
theorem dX11_at_32 : decode cX11_at 32 = .ok (.getfield 154, 3) := by decide +kernel
theorem dX11_at_35 : decode cX11_at 35 = .ok (.iload_n 1, 1) := by decide +kernel
theorem dX11_at_36 : decode cX11_at 36 = .ok (.invokevirtual 165, 3) := by decide +kernel
theorem dX11_at_39 : decode cX11_at 39 = .ok (.ireturn, 1) := by decide +kernel
theorem dX11_second_0 : decode cX11_second 0 = .ok (.aload_n 0, 1) := by decide +kernel
theorem dX11_second_1 : decode cX11_second 1 = .ok (.getfield 14, 3) := by decide +kernel
theorem dX11_second_4 : decode cX11_second 4 = .ok (.getfield 168, 3) := by decide +kernel
theorem dX11_second_7 : decode cX11_second 7 = .ok (.getfield 158, 3) := by decide +kernel
theorem dX11_second_10 : decode cX11_second 10 = .ok (.ireturn, 1) := by decide +kernel
theorem dX11_here_0 : decode cX11_here 0 = .ok (.aload_n 0, 1) := by decide +kernel
theorem dX11_here_1 : decode cX11_here 1 = .ok (.getfield 14, 3) := by decide +kernel
theorem dX11_here_4 : decode cX11_here 4 = .ok (.getfield 171, 3) := by decide +kernel
theorem dX11_here_7 : decode cX11_here 7 = .ok (.ireturn, 1) := by decide +kernel
theorem dX11_cell_0 : decode cX11_cell 0 = .ok (.iload_n 1, 1) := by decide +kernel
theorem dX11_cell_1 : decode cX11_cell 1 = .ok (.ifCond .lt 9, 3) := by decide +kernel
theorem dX11_cell_4 : decode cX11_cell 4 = .ok (.iload_n 1, 1) := by decide +kernel
theorem dX11_cell_5 : decode cX11_cell 5 = .ok (.bipush 100, 2) := by decide +kernel
theorem dX11_cell_7 : decode cX11_cell 7 = .ok (.if_icmp .lt 13, 3) := by decide +kernel
theorem dX11_cell_10 : decode cX11_cell 10 = .ok (.new 149, 3) := by decide +kernel
theorem dX11_cell_13 : decode cX11_cell 13 = .ok (.dup, 1) := by decide +kernel
theorem dX11_cell_14 : decode cX11_cell 14 = .ok (.ldc 174, 2) := by decide +kernel
theorem dX11_cell_16 : decode cX11_cell 16 = .ok (.invokespecial 153, 3) := by decide +kernel
theorem dX11_cell_19 : decode cX11_cell 19 = .ok (.athrow, 1) := by decide +kernel
theorem dX11_cell_20 : decode cX11_cell 20 = .ok (.aload_n 0, 1) := by decide +kernel
theorem dX11_cell_21 : decode cX11_cell 21 = .ok (.getfield 14, 3) := by decide +kernel
theorem dX11_cell_24 : decode cX11_cell 24 = .ok (.getfield 176, 3) := by decide +kernel
theorem dX11_cell_27 : decode cX11_cell 27 = .ok (.iload_n 1, 1) := by decide +kernel
theorem dX11_cell_28 : decode cX11_cell 28 = .ok (.iaload, 1) := by decide +kernel
theorem dX11_cell_29 : decode cX11_cell 29 = .ok (.ireturn, 1) := by decide +kernel
theorem dX11_outs_0 : decode cX11_outs 0 = .ok (.aload_n 0, 1) := by decide +kernel
theorem dX11_outs_1 : decode cX11_outs 1 = .ok (.getfield 14, 3) := by decide +kernel
theorem dX11_outs_4 : decode cX11_outs 4 = .ok (.getfield 179, 3) := by decide +kernel
theorem dX11_outs_7 : decode cX11_outs 7 = .ok (.getfield 183, 3) := by decide +kernel
theorem dX11_outs_10 : decode cX11_outs 10 = .ok (.ireturn, 1) := by decide +kernel
theorem dX11_outAt_0 : decode cX11_outAt 0 = .ok (.iload_n 1, 1) := by decide +kernel
theorem dX11_outAt_1 : decode cX11_outAt 1 = .ok (.ifCond .lt 17, 3) := by decide +kernel
theorem dX11_outAt_4 : decode cX11_outAt 4 = .ok (.iload_n 1, 1) := by decide +kernel
theorem dX11_outAt_5 : decode cX11_outAt 5 = .ok (.aload_n 0, 1) := by decide +kernel
theorem dX11_outAt_6 : decode cX11_outAt 6 = .ok (.getfield 14, 3) := by decide +kernel
theorem dX11_outAt_9 : decode cX11_outAt 9 = .ok (.getfield 179, 3) := by decide +kernel
theorem dX11_outAt_12 : decode cX11_outAt 12 = .ok (.getfield 183, 3) := by decide +kernel
theorem dX11_outAt_15 : decode cX11_outAt 15 = .ok (.if_icmp .lt 13, 3) := by decide +kernel
theorem dX11_outAt_18 : decode cX11_outAt 18 = .ok (.new 149, 3) := by decide +kernel
theorem dX11_outAt_21 : decode cX11_outAt 21 = .ok (.dup, 1) := by decide +kernel
theorem dX11_outAt_22 : decode cX11_outAt 22 = .ok (.ldc 188, 2) := by decide +kernel
theorem dX11_outAt_24 : decode cX11_outAt 24 = .ok (.invokespecial 153, 3) := by decide +kernel
theorem dX11_outAt_27 : decode cX11_outAt 27 = .ok (.athrow, 1) := by decide +kernel
theorem dX11_outAt_28 : decode cX11_outAt 28 = .ok (.aload_n 0, 1) := by decide +kernel
theorem dX11_outAt_29 : decode cX11_outAt 29 = .ok (.getfield 14, 3) := by decide +kernel
theorem dX11_outAt_32 : decode cX11_outAt 32 = .ok (.getfield 179, 3) := by decide +kernel
theorem dX11_outAt_35 : decode cX11_outAt 35 = .ok (.getfield 190, 3) := by decide +kernel
theorem dX11_outAt_38 : decode cX11_outAt 38 = .ok (.iload_n 1, 1) := by decide +kernel
theorem dX11_outAt_39 : decode cX11_outAt 39 = .ok (.iaload, 1) := by decide +kernel
theorem dX11_outAt_40 : decode cX11_outAt 40 = .ok (.ireturn, 1) := by decide +kernel
theorem dX11_entries_0 : decode cX11_entries 0 = .ok (.aload_n 0, 1) := by decide +kernel
theorem dX11_entries_1 : decode cX11_entries 1 = .ok (.getfield 14, 3) := by decide +kernel
theorem dX11_entries_4 : decode cX11_entries 4 = .ok (.getfield 29, 3) := by decide +kernel
theorem dX11_entries_7 : decode cX11_entries 7 = .ok (.getfield 193, 3) := by decide +kernel
theorem dX11_entries_10 : decode cX11_entries 10 = .ok (.ireturn, 1) := by decide +kernel
theorem dX11_nameOf_0 : decode cX11_nameOf 0 = .ok (.aload_n 0, 1) := by decide +kernel
theorem dX11_nameOf_1 : decode cX11_nameOf 1 = .ok (.getfield 14, 3) := by decide +kernel
theorem dX11_nameOf_4 : decode cX11_nameOf 4 = .ok (.getfield 29, 3) := by decide +kernel
theorem dX11_nameOf_7 : decode cX11_nameOf 7 = .ok (.iload_n 1, 1) := by decide +kernel
theorem dX11_nameOf_8 : decode cX11_nameOf 8 = .ok (.invokevirtual 196, 3) := by decide +kernel
theorem dX11_nameOf_11 : decode cX11_nameOf 11 = .ok (.ifCond .ne 13, 3) := by decide +kernel
theorem dX11_nameOf_14 : decode cX11_nameOf 14 = .ok (.new 149, 3) := by decide +kernel
theorem dX11_nameOf_17 : decode cX11_nameOf 17 = .ok (.dup, 1) := by decide +kernel
theorem dX11_nameOf_18 : decode cX11_nameOf 18 = .ok (.ldc 200, 2) := by decide +kernel
theorem dX11_nameOf_20 : decode cX11_nameOf 20 = .ok (.invokespecial 153, 3) := by decide +kernel
theorem dX11_nameOf_23 : decode cX11_nameOf 23 = .ok (.athrow, 1) := by decide +kernel
theorem dX11_nameOf_24 : decode cX11_nameOf 24 = .ok (.aload_n 0, 1) := by decide +kernel
theorem dX11_nameOf_25 : decode cX11_nameOf 25 = .ok (.getfield 14, 3) := by decide +kernel
theorem dX11_nameOf_28 : decode cX11_nameOf 28 = .ok (.getfield 29, 3) := by decide +kernel
theorem dX11_nameOf_31 : decode cX11_nameOf 31 = .ok (.getfield 202, 3) := by decide +kernel
theorem dX11_nameOf_34 : decode cX11_nameOf 34 = .ok (.iload_n 1, 1) := by decide +kernel
theorem dX11_nameOf_35 : decode cX11_nameOf 35 = .ok (.iaload, 1) := by decide +kernel
theorem dX11_nameOf_36 : decode cX11_nameOf 36 = .ok (.ireturn, 1) := by decide +kernel
theorem dX11_kindOf_0 : decode cX11_kindOf 0 = .ok (.aload_n 0, 1) := by decide +kernel
theorem dX11_kindOf_1 : decode cX11_kindOf 1 = .ok (.getfield 14, 3) := by decide +kernel
theorem dX11_kindOf_4 : decode cX11_kindOf 4 = .ok (.getfield 29, 3) := by decide +kernel
theorem dX11_kindOf_7 : decode cX11_kindOf 7 = .ok (.iload_n 1, 1) := by decide +kernel
theorem dX11_kindOf_8 : decode cX11_kindOf 8 = .ok (.invokevirtual 196, 3) := by decide +kernel
theorem dX11_kindOf_11 : decode cX11_kindOf 11 = .ok (.ifCond .ne 13, 3) := by decide +kernel
theorem dX11_kindOf_14 : decode cX11_kindOf 14 = .ok (.new 149, 3) := by decide +kernel
theorem dX11_kindOf_17 : decode cX11_kindOf 17 = .ok (.dup, 1) := by decide +kernel
theorem dX11_kindOf_18 : decode cX11_kindOf 18 = .ok (.ldc 200, 2) := by decide +kernel
theorem dX11_kindOf_20 : decode cX11_kindOf 20 = .ok (.invokespecial 153, 3) := by decide +kernel
theorem dX11_kindOf_23 : decode cX11_kindOf 23 = .ok (.athrow, 1) := by decide +kernel
theorem dX11_kindOf_24 : decode cX11_kindOf 24 = .ok (.aload_n 0, 1) := by decide +kernel
theorem dX11_kindOf_25 : decode cX11_kindOf 25 = .ok (.getfield 14, 3) := by decide +kernel
theorem dX11_kindOf_28 : decode cX11_kindOf 28 = .ok (.getfield 29, 3) := by decide +kernel
theorem dX11_kindOf_31 : decode cX11_kindOf 31 = .ok (.getfield 205, 3) := by decide +kernel
theorem dX11_kindOf_34 : decode cX11_kindOf 34 = .ok (.iload_n 1, 1) := by decide +kernel
theorem dX11_kindOf_35 : decode cX11_kindOf 35 = .ok (.iaload, 1) := by decide +kernel
theorem dX11_kindOf_36 : decode cX11_kindOf 36 = .ok (.i2c, 1) := by decide +kernel
theorem dX11_kindOf_37 : decode cX11_kindOf 37 = .ok (.ireturn, 1) := by decide +kernel
theorem dX11_isImmediate_0 : decode cX11_isImmediate 0 = .ok (.aload_n 0, 1) := by decide +kernel
theorem dX11_isImmediate_1 : decode cX11_isImmediate 1 = .ok (.getfield 14, 3) := by decide +kernel
theorem dX11_isImmediate_4 : decode cX11_isImmediate 4 = .ok (.getfield 29, 3) := by decide +kernel
theorem dX11_isImmediate_7 : decode cX11_isImmediate 7 = .ok (.iload_n 1, 1) := by decide +kernel
theorem dX11_isImmediate_8 : decode cX11_isImmediate 8 = .ok (.invokevirtual 196, 3) := by decide +kernel
theorem dX11_isImmediate_11 : decode cX11_isImmediate 11 = .ok (.ifCond .ne 13, 3) := by decide +kernel
theorem dX11_isImmediate_14 : decode cX11_isImmediate 14 = .ok (.new 149, 3) := by decide +kernel
theorem dX11_isImmediate_17 : decode cX11_isImmediate 17 = .ok (.dup, 1) := by decide +kernel
theorem dX11_isImmediate_18 : decode cX11_isImmediate 18 = .ok (.ldc 200, 2) := by decide +kernel
theorem dX11_isImmediate_20 : decode cX11_isImmediate 20 = .ok (.invokespecial 153, 3) := by decide +kernel
theorem dX11_isImmediate_23 : decode cX11_isImmediate 23 = .ok (.athrow, 1) := by decide +kernel
theorem dX11_isImmediate_24 : decode cX11_isImmediate 24 = .ok (.aload_n 0, 1) := by decide +kernel
theorem dX11_isImmediate_25 : decode cX11_isImmediate 25 = .ok (.getfield 14, 3) := by decide +kernel
theorem dX11_isImmediate_28 : decode cX11_isImmediate 28 = .ok (.getfield 29, 3) := by decide +kernel
theorem dX11_isImmediate_31 : decode cX11_isImmediate 31 = .ok (.getfield 208, 3) := by decide +kernel
theorem dX11_isImmediate_34 : decode cX11_isImmediate 34 = .ok (.iload_n 1, 1) := by decide +kernel
theorem dX11_isImmediate_35 : decode cX11_isImmediate 35 = .ok (.baload, 1) := by decide +kernel
theorem dX11_isImmediate_36 : decode cX11_isImmediate 36 = .ok (.ireturn, 1) := by decide +kernel
theorem dX11_vocabularyOf_0 : decode cX11_vocabularyOf 0 = .ok (.aload_n 0, 1) := by decide +kernel
theorem dX11_vocabularyOf_1 : decode cX11_vocabularyOf 1 = .ok (.getfield 14, 3) := by decide +kernel
theorem dX11_vocabularyOf_4 : decode cX11_vocabularyOf 4 = .ok (.getfield 29, 3) := by decide +kernel
theorem dX11_vocabularyOf_7 : decode cX11_vocabularyOf 7 = .ok (.iload_n 1, 1) := by decide +kernel
theorem dX11_vocabularyOf_8 : decode cX11_vocabularyOf 8 = .ok (.invokevirtual 196, 3) := by decide +kernel
theorem dX11_vocabularyOf_11 : decode cX11_vocabularyOf 11 = .ok (.ifCond .ne 13, 3) := by decide +kernel
theorem dX11_vocabularyOf_14 : decode cX11_vocabularyOf 14 = .ok (.new 149, 3) := by decide +kernel
theorem dX11_vocabularyOf_17 : decode cX11_vocabularyOf 17 = .ok (.dup, 1) := by decide +kernel
theorem dX11_vocabularyOf_18 : decode cX11_vocabularyOf 18 = .ok (.ldc 200, 2) := by decide +kernel
theorem dX11_vocabularyOf_20 : decode cX11_vocabularyOf 20 = .ok (.invokespecial 153, 3) := by decide +kernel
theorem dX11_vocabularyOf_23 : decode cX11_vocabularyOf 23 = .ok (.athrow, 1) := by decide +kernel
theorem dX11_vocabularyOf_24 : decode cX11_vocabularyOf 24 = .ok (.aload_n 0, 1) := by decide +kernel
theorem dX11_vocabularyOf_25 : decode cX11_vocabularyOf 25 = .ok (.getfield 14, 3) := by decide +kernel
theorem dX11_vocabularyOf_28 : decode cX11_vocabularyOf 28 = .ok (.getfield 29, 3) := by decide +kernel
theorem dX11_vocabularyOf_31 : decode cX11_vocabularyOf 31 = .ok (.getfield 212, 3) := by decide +kernel
theorem dX11_vocabularyOf_34 : decode cX11_vocabularyOf 34 = .ok (.iload_n 1, 1) := by decide +kernel
theorem dX11_vocabularyOf_35 : decode cX11_vocabularyOf 35 = .ok (.iaload, 1) := by decide +kernel
theorem dX11_vocabularyOf_36 : decode cX11_vocabularyOf 36 = .ok (.ireturn, 1) := by decide +kernel
theorem dX11_find_0 : decode cX11_find 0 = .ok (.iload_n 1, 1) := by decide +kernel
theorem dX11_find_1 : decode cX11_find 1 = .ok (.ifCond .lt 9, 3) := by decide +kernel
theorem dX11_find_4 : decode cX11_find 4 = .ok (.iload_n 1, 1) := by decide +kernel
theorem dX11_find_5 : decode cX11_find 5 = .ok (.bipush 16, 2) := by decide +kernel
theorem dX11_find_7 : decode cX11_find 7 = .ok (.if_icmp .lt 13, 3) := by decide +kernel
theorem dX11_find_10 : decode cX11_find 10 = .ok (.new 61, 3) := by decide +kernel
theorem dX11_find_13 : decode cX11_find 13 = .ok (.dup, 1) := by decide +kernel
theorem dX11_find_14 : decode cX11_find 14 = .ok (.ldc 87, 2) := by decide +kernel
theorem dX11_find_16 : decode cX11_find 16 = .ok (.invokespecial 65, 3) := by decide +kernel
theorem dX11_find_19 : decode cX11_find 19 = .ok (.athrow, 1) := by decide +kernel
theorem dX11_find_20 : decode cX11_find 20 = .ok (.aload_n 0, 1) := by decide +kernel
theorem dX11_find_21 : decode cX11_find 21 = .ok (.getfield 14, 3) := by decide +kernel
theorem dX11_find_24 : decode cX11_find 24 = .ok (.getfield 29, 3) := by decide +kernel
theorem dX11_find_27 : decode cX11_find 27 = .ok (.iload_n 1, 1) := by decide +kernel
theorem dX11_find_28 : decode cX11_find 28 = .ok (.invokevirtual 215, 3) := by decide +kernel
theorem dX11_find_31 : decode cX11_find 31 = .ok (.istore_n 2, 1) := by decide +kernel
theorem dX11_find_32 : decode cX11_find 32 = .ok (.iload_n 2, 1) := by decide +kernel
theorem dX11_find_33 : decode cX11_find 33 = .ok (.iconst (-1), 1) := by decide +kernel
theorem dX11_find_34 : decode cX11_find 34 = .ok (.if_icmp .ne 13, 3) := by decide +kernel
theorem dX11_find_37 : decode cX11_find 37 = .ok (.new 144, 3) := by decide +kernel
theorem dX11_find_40 : decode cX11_find 40 = .ok (.dup, 1) := by decide +kernel
theorem dX11_find_41 : decode cX11_find 41 = .ok (.ldc 218, 2) := by decide +kernel
theorem dX11_find_43 : decode cX11_find 43 = .ok (.invokespecial 148, 3) := by decide +kernel
theorem dX11_find_46 : decode cX11_find 46 = .ok (.athrow, 1) := by decide +kernel
theorem dX11_find_47 : decode cX11_find 47 = .ok (.iload_n 2, 1) := by decide +kernel
theorem dX11_find_48 : decode cX11_find 48 = .ok (.ireturn, 1) := by decide +kernel
theorem dX11_ops_0 : decode cX11_ops 0 = .ok (.aload_n 0, 1) := by decide +kernel
theorem dX11_ops_1 : decode cX11_ops 1 = .ok (.getfield 14, 3) := by decide +kernel
theorem dX11_ops_4 : decode cX11_ops 4 = .ok (.getfield 29, 3) := by decide +kernel
theorem dX11_ops_7 : decode cX11_ops 7 = .ok (.iload_n 1, 1) := by decide +kernel
theorem dX11_ops_8 : decode cX11_ops 8 = .ok (.invokevirtual 196, 3) := by decide +kernel
theorem dX11_ops_11 : decode cX11_ops 11 = .ok (.ifCond .ne 13, 3) := by decide +kernel
theorem dX11_ops_14 : decode cX11_ops 14 = .ok (.new 149, 3) := by decide +kernel
theorem dX11_ops_17 : decode cX11_ops 17 = .ok (.dup, 1) := by decide +kernel
theorem dX11_ops_18 : decode cX11_ops 18 = .ok (.ldc 200, 2) := by decide +kernel
theorem dX11_ops_20 : decode cX11_ops 20 = .ok (.invokespecial 153, 3) := by decide +kernel
theorem dX11_ops_23 : decode cX11_ops 23 = .ok (.athrow, 1) := by decide +kernel
theorem dX11_ops_24 : decode cX11_ops 24 = .ok (.aload_n 0, 1) := by decide +kernel
theorem dX11_ops_25 : decode cX11_ops 25 = .ok (.getfield 14, 3) := by decide +kernel
theorem dX11_ops_28 : decode cX11_ops 28 = .ok (.getfield 29, 3) := by decide +kernel
theorem dX11_ops_31 : decode cX11_ops 31 = .ok (.getfield 220, 3) := by decide +kernel
theorem dX11_ops_34 : decode cX11_ops 34 = .ok (.iload_n 1, 1) := by decide +kernel
theorem dX11_ops_35 : decode cX11_ops 35 = .ok (.iaload, 1) := by decide +kernel
theorem dX11_ops_36 : decode cX11_ops 36 = .ok (.ireturn, 1) := by decide +kernel
theorem dX11_opAt_0 : decode cX11_opAt 0 = .ok (.aload_n 0, 1) := by decide +kernel
theorem dX11_opAt_1 : decode cX11_opAt 1 = .ok (.getfield 14, 3) := by decide +kernel
theorem dX11_opAt_4 : decode cX11_opAt 4 = .ok (.getfield 29, 3) := by decide +kernel
theorem dX11_opAt_7 : decode cX11_opAt 7 = .ok (.iload_n 1, 1) := by decide +kernel
theorem dX11_opAt_8 : decode cX11_opAt 8 = .ok (.iload_n 2, 1) := by decide +kernel
theorem dX11_opAt_9 : decode cX11_opAt 9 = .ok (.invokevirtual 223, 3) := by decide +kernel
theorem dX11_opAt_12 : decode cX11_opAt 12 = .ok (.ifCond .ne 13, 3) := by decide +kernel
theorem dX11_opAt_15 : decode cX11_opAt 15 = .ok (.new 149, 3) := by decide +kernel
theorem dX11_opAt_18 : decode cX11_opAt 18 = .ok (.dup, 1) := by decide +kernel
theorem dX11_opAt_19 : decode cX11_opAt 19 = .ok (.ldc 227, 2) := by decide +kernel
theorem dX11_opAt_21 : decode cX11_opAt 21 = .ok (.invokespecial 153, 3) := by decide +kernel
theorem dX11_opAt_24 : decode cX11_opAt 24 = .ok (.athrow, 1) := by decide +kernel
theorem dX11_opAt_25 : decode cX11_opAt 25 = .ok (.aload_n 0, 1) := by decide +kernel
theorem dX11_opAt_26 : decode cX11_opAt 26 = .ok (.getfield 14, 3) := by decide +kernel
theorem dX11_opAt_29 : decode cX11_opAt 29 = .ok (.getfield 29, 3) := by decide +kernel
theorem dX11_opAt_32 : decode cX11_opAt 32 = .ok (.iload_n 1, 1) := by decide +kernel
theorem dX11_opAt_33 : decode cX11_opAt 33 = .ok (.iload_n 2, 1) := by decide +kernel
theorem dX11_opAt_34 : decode cX11_opAt 34 = .ok (.invokevirtual 229, 3) := by decide +kernel
theorem dX11_opAt_37 : decode cX11_opAt 37 = .ok (.ireturn, 1) := by decide +kernel
theorem dX11_opNumber_0 : decode cX11_opNumber 0 = .ok (.aload_n 0, 1) := by decide +kernel
theorem dX11_opNumber_1 : decode cX11_opNumber 1 = .ok (.getfield 14, 3) := by decide +kernel
theorem dX11_opNumber_4 : decode cX11_opNumber 4 = .ok (.getfield 29, 3) := by decide +kernel
theorem dX11_opNumber_7 : decode cX11_opNumber 7 = .ok (.iload_n 1, 1) := by decide +kernel
theorem dX11_opNumber_8 : decode cX11_opNumber 8 = .ok (.iload_n 2, 1) := by decide +kernel
theorem dX11_opNumber_9 : decode cX11_opNumber 9 = .ok (.invokevirtual 223, 3) := by decide +kernel
theorem dX11_opNumber_12 : decode cX11_opNumber 12 = .ok (.ifCond .ne 13, 3) := by decide +kernel
theorem dX11_opNumber_15 : decode cX11_opNumber 15 = .ok (.new 149, 3) := by decide +kernel
theorem dX11_opNumber_18 : decode cX11_opNumber 18 = .ok (.dup, 1) := by decide +kernel
theorem dX11_opNumber_19 : decode cX11_opNumber 19 = .ok (.ldc 227, 2) := by decide +kernel
theorem dX11_opNumber_21 : decode cX11_opNumber 21 = .ok (.invokespecial 153, 3) := by decide +kernel
theorem dX11_opNumber_24 : decode cX11_opNumber 24 = .ok (.athrow, 1) := by decide +kernel
theorem dX11_opNumber_25 : decode cX11_opNumber 25 = .ok (.aload_n 0, 1) := by decide +kernel
theorem dX11_opNumber_26 : decode cX11_opNumber 26 = .ok (.getfield 14, 3) := by decide +kernel
theorem dX11_opNumber_29 : decode cX11_opNumber 29 = .ok (.getfield 29, 3) := by decide +kernel
theorem dX11_opNumber_32 : decode cX11_opNumber 32 = .ok (.iload_n 1, 1) := by decide +kernel
theorem dX11_opNumber_33 : decode cX11_opNumber 33 = .ok (.iload_n 2, 1) := by decide +kernel
theorem dX11_opNumber_34 : decode cX11_opNumber 34 = .ok (.invokevirtual 233, 3) := by decide +kernel
theorem dX11_opNumber_37 : decode cX11_opNumber 37 = .ok (.ireturn, 1) := by decide +kernel
theorem dX11_effect_0 : decode cX11_effect 0 = .ok (.aload_n 0, 1) := by decide +kernel
theorem dX11_effect_1 : decode cX11_effect 1 = .ok (.getfield 14, 3) := by decide +kernel
theorem dX11_effect_4 : decode cX11_effect 4 = .ok (.getfield 29, 3) := by decide +kernel
theorem dX11_effect_7 : decode cX11_effect 7 = .ok (.iload_n 1, 1) := by decide +kernel
theorem dX11_effect_8 : decode cX11_effect 8 = .ok (.invokevirtual 196, 3) := by decide +kernel
theorem dX11_effect_11 : decode cX11_effect 11 = .ok (.ifCond .ne 13, 3) := by decide +kernel
theorem dX11_effect_14 : decode cX11_effect 14 = .ok (.new 149, 3) := by decide +kernel
theorem dX11_effect_17 : decode cX11_effect 17 = .ok (.dup, 1) := by decide +kernel
theorem dX11_effect_18 : decode cX11_effect 18 = .ok (.ldc 200, 2) := by decide +kernel
theorem dX11_effect_20 : decode cX11_effect 20 = .ok (.invokespecial 153, 3) := by decide +kernel
theorem dX11_effect_23 : decode cX11_effect 23 = .ok (.athrow, 1) := by decide +kernel
theorem dX11_effect_24 : decode cX11_effect 24 = .ok (.aload_n 0, 1) := by decide +kernel
theorem dX11_effect_25 : decode cX11_effect 25 = .ok (.getfield 36, 3) := by decide +kernel
theorem dX11_effect_28 : decode cX11_effect 28 = .ok (.iload_n 1, 1) := by decide +kernel
theorem dX11_effect_29 : decode cX11_effect 29 = .ok (.invokevirtual 236, 3) := by decide +kernel
theorem dX11_effect_32 : decode cX11_effect 32 = .ok (.aload_n 0, 1) := by decide +kernel
theorem dX11_effect_33 : decode cX11_effect 33 = .ok (.getfield 36, 3) := by decide +kernel
theorem dX11_effect_36 : decode cX11_effect 36 = .ok (.getfield 239, 3) := by decide +kernel
theorem dX11_effect_39 : decode cX11_effect 39 = .ok (.iload_n 1, 1) := by decide +kernel
theorem dX11_effect_40 : decode cX11_effect 40 = .ok (.baload, 1) := by decide +kernel
theorem dX11_effect_41 : decode cX11_effect 41 = .ok (.ifCond .ne 13, 3) := by decide +kernel
theorem dX11_effect_44 : decode cX11_effect 44 = .ok (.new 242, 3) := by decide +kernel
theorem dX11_effect_47 : decode cX11_effect 47 = .ok (.dup, 1) := by decide +kernel
theorem dX11_effect_48 : decode cX11_effect 48 = .ok (.ldc 244, 2) := by decide +kernel
theorem dX11_effect_50 : decode cX11_effect 50 = .ok (.invokespecial 246, 3) := by decide +kernel
theorem dX11_effect_53 : decode cX11_effect 53 = .ok (.athrow, 1) := by decide +kernel
theorem dX11_effect_54 : decode cX11_effect 54 = .ok (.aload_n 0, 1) := by decide +kernel
theorem dX11_effect_55 : decode cX11_effect 55 = .ok (.getfield 36, 3) := by decide +kernel
theorem dX11_effect_58 : decode cX11_effect 58 = .ok (.iload_n 1, 1) := by decide +kernel
theorem dX11_effect_59 : decode cX11_effect 59 = .ok (.invokevirtual 247, 3) := by decide +kernel
theorem dX11_effect_62 : decode cX11_effect 62 = .ok (.ireturn, 1) := by decide +kernel
theorem dX11_isMaking_0 : decode cX11_isMaking 0 = .ok (.aload_n 0, 1) := by decide +kernel
theorem dX11_isMaking_1 : decode cX11_isMaking 1 = .ok (.getfield 14, 3) := by decide +kernel
theorem dX11_isMaking_4 : decode cX11_isMaking 4 = .ok (.getfield 250, 3) := by decide +kernel
theorem dX11_isMaking_7 : decode cX11_isMaking 7 = .ok (.getfield 254, 3) := by decide +kernel
theorem dX11_isMaking_10 : decode cX11_isMaking 10 = .ok (.ireturn, 1) := by decide +kernel
theorem dX11_steps_0 : decode cX11_steps 0 = .ok (.aload_n 0, 1) := by decide +kernel
theorem dX11_steps_1 : decode cX11_steps 1 = .ok (.getfield 109, 3) := by decide +kernel
theorem dX11_steps_4 : decode cX11_steps 4 = .ok (.lreturn, 1) := by decide +kernel
theorem dX11_lines_0 : decode cX11_lines 0 = .ok (.aload_n 0, 1) := by decide +kernel
theorem dX11_lines_1 : decode cX11_lines 1 = .ok (.getfield 106, 3) := by decide +kernel
theorem dX11_lines_4 : decode cX11_lines 4 = .ok (.ireturn, 1) := by decide +kernel
theorem dX11_errorShare_0 : decode cX11_errorShare 0 = .ok (.aload_n 0, 1) := by decide +kernel
theorem dX11_errorShare_1 : decode cX11_errorShare 1 = .ok (.getfield 106, 3) := by decide +kernel
theorem dX11_errorShare_4 : decode cX11_errorShare 4 = .ok (.ifCond .ne 14, 3) := by decide +kernel
theorem dX11_errorShare_7 : decode cX11_errorShare 7 = .ok (.new 259, 3) := by decide +kernel
theorem dX11_errorShare_10 : decode cX11_errorShare 10 = .ok (.dup, 1) := by decide +kernel
theorem dX11_errorShare_11 : decode cX11_errorShare 11 = .ok (.ldc_w 261, 3) := by decide +kernel
theorem dX11_errorShare_14 : decode cX11_errorShare 14 = .ok (.invokespecial 263, 3) := by decide +kernel
theorem dX11_errorShare_17 : decode cX11_errorShare 17 = .ok (.athrow, 1) := by decide +kernel
theorem dX11_errorShare_18 : decode cX11_errorShare 18 = .ok (.aload_n 0, 1) := by decide +kernel
theorem dX11_errorShare_19 : decode cX11_errorShare 19 = .ok (.getfield 119, 3) := by decide +kernel
theorem dX11_errorShare_22 : decode cX11_errorShare 22 = .ok (.i2f, 1) := by decide +kernel
theorem dX11_errorShare_23 : decode cX11_errorShare 23 = .ok (.aload_n 0, 1) := by decide +kernel
theorem dX11_errorShare_24 : decode cX11_errorShare 24 = .ok (.getfield 106, 3) := by decide +kernel
theorem dX11_errorShare_27 : decode cX11_errorShare 27 = .ok (.i2f, 1) := by decide +kernel
theorem dX11_errorShare_28 : decode cX11_errorShare 28 = .ok (.fdiv, 1) := by decide +kernel
theorem dX11_errorShare_29 : decode cX11_errorShare 29 = .ok (.freturn, 1) := by decide +kernel
theorem dX11_meanSteps_0 : decode cX11_meanSteps 0 = .ok (.aload_n 0, 1) := by decide +kernel
theorem dX11_meanSteps_1 : decode cX11_meanSteps 1 = .ok (.getfield 106, 3) := by decide +kernel
theorem dX11_meanSteps_4 : decode cX11_meanSteps 4 = .ok (.ifCond .ne 14, 3) := by decide +kernel
theorem dX11_meanSteps_7 : decode cX11_meanSteps 7 = .ok (.new 259, 3) := by decide +kernel
theorem dX11_meanSteps_10 : decode cX11_meanSteps 10 = .ok (.dup, 1) := by decide +kernel
theorem dX11_meanSteps_11 : decode cX11_meanSteps 11 = .ok (.ldc_w 261, 3) := by decide +kernel
theorem dX11_meanSteps_14 : decode cX11_meanSteps 14 = .ok (.invokespecial 263, 3) := by decide +kernel
theorem dX11_meanSteps_17 : decode cX11_meanSteps 17 = .ok (.athrow, 1) := by decide +kernel
theorem dX11_meanSteps_18 : decode cX11_meanSteps 18 = .ok (.aload_n 0, 1) := by decide +kernel
theorem dX11_meanSteps_19 : decode cX11_meanSteps 19 = .ok (.getfield 109, 3) := by decide +kernel
theorem dX11_meanSteps_22 : decode cX11_meanSteps 22 = .ok (.l2d, 1) := by decide +kernel
theorem dX11_meanSteps_23 : decode cX11_meanSteps 23 = .ok (.aload_n 0, 1) := by decide +kernel
theorem dX11_meanSteps_24 : decode cX11_meanSteps 24 = .ok (.getfield 106, 3) := by decide +kernel
theorem dX11_meanSteps_27 : decode cX11_meanSteps 27 = .ok (.i2d, 1) := by decide +kernel
theorem dX11_meanSteps_28 : decode cX11_meanSteps 28 = .ok (.ddiv, 1) := by decide +kernel
theorem dX11_meanSteps_29 : decode cX11_meanSteps 29 = .ok (.dreturn, 1) := by decide +kernel
theorem dX11_isSound_0 : decode cX11_isSound 0 = .ok (.aload_n 0, 1) := by decide +kernel
theorem dX11_isSound_1 : decode cX11_isSound 1 = .ok (.getfield 14, 3) := by decide +kernel
theorem dX11_isSound_4 : decode cX11_isSound 4 = .ok (.getfield 29, 3) := by decide +kernel
theorem dX11_isSound_7 : decode cX11_isSound 7 = .ok (.astore_n 1, 1) := by decide +kernel
theorem dX11_isSound_8 : decode cX11_isSound 8 = .ok (.aload_n 0, 1) := by decide +kernel
theorem dX11_isSound_9 : decode cX11_isSound 9 = .ok (.getfield 36, 3) := by decide +kernel
theorem dX11_isSound_12 : decode cX11_isSound 12 = .ok (.aload_n 1, 1) := by decide +kernel
theorem dX11_isSound_13 : decode cX11_isSound 13 = .ok (.getfield 193, 3) := by decide +kernel
theorem dX11_isSound_16 : decode cX11_isSound 16 = .ok (.iconst 1, 1) := by decide +kernel
theorem dX11_isSound_17 : decode cX11_isSound 17 = .ok (.isub, 1) := by decide +kernel
theorem dX11_isSound_18 : decode cX11_isSound 18 = .ok (.invokevirtual 236, 3) := by decide +kernel
theorem dX11_isSound_21 : decode cX11_isSound 21 = .ok (.iconst 0, 1) := by decide +kernel
theorem dX11_isSound_22 : decode cX11_isSound 22 = .ok (.istore_n 2, 1) := by decide +kernel
theorem dX11_isSound_23 : decode cX11_isSound 23 = .ok (.iload_n 2, 1) := by decide +kernel
theorem dX11_isSound_24 : decode cX11_isSound 24 = .ok (.aload_n 1, 1) := by decide +kernel
theorem dX11_isSound_25 : decode cX11_isSound 25 = .ok (.getfield 193, 3) := by decide +kernel
theorem dX11_isSound_28 : decode cX11_isSound 28 = .ok (.if_icmp .ge 95, 3) := by decide +kernel
theorem dX11_isSound_31 : decode cX11_isSound 31 = .ok (.aload_n 1, 1) := by decide +kernel
theorem dX11_isSound_32 : decode cX11_isSound 32 = .ok (.getfield 208, 3) := by decide +kernel
theorem dX11_isSound_35 : decode cX11_isSound 35 = .ok (.iload_n 2, 1) := by decide +kernel
theorem dX11_isSound_36 : decode cX11_isSound 36 = .ok (.baload, 1) := by decide +kernel
theorem dX11_isSound_37 : decode cX11_isSound 37 = .ok (.ifCond .eq 6, 3) := by decide +kernel
theorem dX11_isSound_40 : decode cX11_isSound 40 = .ok (.goto 77, 3) := by decide +kernel
theorem dX11_isSound_43 : decode cX11_isSound 43 = .ok (.aload_n 0, 1) := by decide +kernel
theorem dX11_isSound_44 : decode cX11_isSound 44 = .ok (.getfield 43, 3) := by decide +kernel
theorem dX11_isSound_47 : decode cX11_isSound 47 = .ok (.aload_n 0, 1) := by decide +kernel
theorem dX11_isSound_48 : decode cX11_isSound 48 = .ok (.getfield 14, 3) := by decide +kernel
theorem dX11_isSound_51 : decode cX11_isSound 51 = .ok (.invokevirtual 264, 3) := by decide +kernel
theorem dX11_isSound_54 : decode cX11_isSound 54 = .ok (.aload_n 0, 1) := by decide +kernel
theorem dX11_isSound_55 : decode cX11_isSound 55 = .ok (.getfield 43, 3) := by decide +kernel
theorem dX11_isSound_58 : decode cX11_isSound 58 = .ok (.getfield 267, 3) := by decide +kernel
theorem dX11_isSound_61 : decode cX11_isSound 61 = .ok (.aload_n 0, 1) := by decide +kernel
theorem dX11_isSound_62 : decode cX11_isSound 62 = .ok (.getfield 43, 3) := by decide +kernel
theorem dX11_isSound_65 : decode cX11_isSound 65 = .ok (.getfield 267, 3) := by decide +kernel
theorem dX11_isSound_68 : decode cX11_isSound 68 = .ok (.iload_n 2, 1) := by decide +kernel
theorem dX11_isSound_69 : decode cX11_isSound 69 = .ok (.invokevirtual 270, 3) := by decide +kernel
theorem dX11_isSound_72 : decode cX11_isSound 72 = .ok (.invokevirtual 100, 3) := by decide +kernel
theorem dX11_isSound_75 : decode cX11_isSound 75 = .ok (.istore_n 3, 1) := by decide +kernel
theorem dX11_isSound_76 : decode cX11_isSound 76 = .ok (.aload_n 0, 1) := by decide +kernel
theorem dX11_isSound_77 : decode cX11_isSound 77 = .ok (.getfield 43, 3) := by decide +kernel
theorem dX11_isSound_80 : decode cX11_isSound 80 = .ok (.getfield 273, 3) := by decide +kernel
theorem dX11_isSound_83 : decode cX11_isSound 83 = .ok (.iload_n 2, 1) := by decide +kernel
theorem dX11_isSound_84 : decode cX11_isSound 84 = .ok (.iconst 0, 1) := by decide +kernel
theorem dX11_isSound_85 : decode cX11_isSound 85 = .ok (.invokevirtual 277, 3) := by decide +kernel
theorem dX11_isSound_88 : decode cX11_isSound 88 = .ok (.istore 4, 2) := by decide +kernel
theorem dX11_isSound_90 : decode cX11_isSound 90 = .ok (.aload_n 0, 1) := by decide +kernel
theorem dX11_isSound_91 : decode cX11_isSound 91 = .ok (.getfield 43, 3) := by decide +kernel
theorem dX11_isSound_94 : decode cX11_isSound 94 = .ok (.iload_n 3, 1) := by decide +kernel
theorem dX11_isSound_95 : decode cX11_isSound 95 = .ok (.iload 4, 2) := by decide +kernel
theorem dX11_isSound_97 : decode cX11_isSound 97 = .ok (.invokevirtual 282, 3) := by decide +kernel
theorem dX11_isSound_100 : decode cX11_isSound 100 = .ok (.ifCond .eq 15, 3) := by decide +kernel
theorem dX11_isSound_103 : decode cX11_isSound 103 = .ok (.iload_n 3, 1) := by decide +kernel
theorem dX11_isSound_104 : decode cX11_isSound 104 = .ok (.ifCond .ne 13, 3) := by decide +kernel
theorem dX11_isSound_107 : decode cX11_isSound 107 = .ok (.aload_n 0, 1) := by decide +kernel
theorem dX11_isSound_108 : decode cX11_isSound 108 = .ok (.iload_n 2, 1) := by decide +kernel
theorem dX11_isSound_109 : decode cX11_isSound 109 = .ok (.invokevirtual 285, 3) := by decide +kernel
theorem dX11_isSound_112 : decode cX11_isSound 112 = .ok (.ifCond .ne 5, 3) := by decide +kernel
theorem dX11_isSound_115 : decode cX11_isSound 115 = .ok (.iconst 0, 1) := by decide +kernel
theorem dX11_isSound_116 : decode cX11_isSound 116 = .ok (.ireturn, 1) := by decide +kernel
theorem dX11_isSound_117 : decode cX11_isSound 117 = .ok (.iinc 2 1, 3) := by decide +kernel
theorem dX11_isSound_120 : decode cX11_isSound 120 = .ok (.goto (-97), 3) := by decide +kernel
theorem dX11_isSound_123 : decode cX11_isSound 123 = .ok (.iconst 1, 1) := by decide +kernel
theorem dX11_isSound_124 : decode cX11_isSound 124 = .ok (.ireturn, 1) := by decide +kernel
theorem dX14_init_0 : decode cX14_init 0 = .ok (.aload_n 0, 1) := by decide +kernel
theorem dX14_init_1 : decode cX14_init 1 = .ok (.invokespecial 1, 3) := by decide +kernel
theorem dX14_init_4 : decode cX14_init 4 = .ok (.aload_n 0, 1) := by decide +kernel
theorem dX14_init_5 : decode cX14_init 5 = .ok (.iload_n 1, 1) := by decide +kernel
theorem dX14_init_6 : decode cX14_init 6 = .ok (.putfield 7, 3) := by decide +kernel
theorem dX14_init_9 : decode cX14_init 9 = .ok (.aload_n 0, 1) := by decide +kernel
theorem dX14_init_10 : decode cX14_init 10 = .ok (.iload_n 2, 1) := by decide +kernel
theorem dX14_init_11 : decode cX14_init 11 = .ok (.putfield 13, 3) := by decide +kernel
theorem dX14_init_14 : decode cX14_init 14 = .ok (.return_, 1) := by decide +kernel
theorem dX17_init_0 : decode cX17_init 0 = .ok (.aload_n 0, 1) := by decide +kernel
theorem dX17_init_1 : decode cX17_init 1 = .ok (.invokespecial 1, 3) := by decide +kernel
theorem dX17_init_4 : decode cX17_init 4 = .ok (.aload_n 0, 1) := by decide +kernel
theorem dX17_init_5 : decode cX17_init 5 = .ok (.new 7, 3) := by decide +kernel
theorem dX17_init_8 : decode cX17_init 8 = .ok (.dup, 1) := by decide +kernel
theorem dX17_init_9 : decode cX17_init 9 = .ok (.invokespecial 9, 3) := by decide +kernel
theorem dX17_init_12 : decode cX17_init 12 = .ok (.putfield 10, 3) := by decide +kernel
theorem dX17_init_15 : decode cX17_init 15 = .ok (.aload_n 0, 1) := by decide +kernel
theorem dX17_init_16 : decode cX17_init 16 = .ok (.new 7, 3) := by decide +kernel
theorem dX17_init_19 : decode cX17_init 19 = .ok (.dup, 1) := by decide +kernel
theorem dX17_init_20 : decode cX17_init 20 = .ok (.invokespecial 9, 3) := by decide +kernel
theorem dX17_init_23 : decode cX17_init 23 = .ok (.putfield 16, 3) := by decide +kernel
theorem dX17_init_26 : decode cX17_init 26 = .ok (.aload_n 0, 1) := by decide +kernel
theorem dX17_init_27 : decode cX17_init 27 = .ok (.new 7, 3) := by decide +kernel
theorem dX17_init_30 : decode cX17_init 30 = .ok (.dup, 1) := by decide +kernel
theorem dX17_init_31 : decode cX17_init 31 = .ok (.invokespecial 9, 3) := by decide +kernel
theorem dX17_init_34 : decode cX17_init 34 = .ok (.putfield 19, 3) := by decide +kernel
theorem dX17_init_37 : decode cX17_init 37 = .ok (.aload_n 0, 1) := by decide +kernel
theorem dX17_init_38 : decode cX17_init 38 = .ok (.new 7, 3) := by decide +kernel
theorem dX17_init_41 : decode cX17_init 41 = .ok (.dup, 1) := by decide +kernel
theorem dX17_init_42 : decode cX17_init 42 = .ok (.invokespecial 9, 3) := by decide +kernel
theorem dX17_init_45 : decode cX17_init 45 = .ok (.putfield 22, 3) := by decide +kernel
theorem dX17_init_48 : decode cX17_init 48 = .ok (.aload_n 0, 1) := by decide +kernel
theorem dX17_init_49 : decode cX17_init 49 = .ok (.new 7, 3) := by decide +kernel
theorem dX17_init_52 : decode cX17_init 52 = .ok (.dup, 1) := by decide +kernel
theorem dX17_init_53 : decode cX17_init 53 = .ok (.invokespecial 9, 3) := by decide +kernel
theorem dX17_init_56 : decode cX17_init 56 = .ok (.putfield 25, 3) := by decide +kernel
theorem dX17_init_59 : decode cX17_init 59 = .ok (.aload_n 0, 1) := by decide +kernel
theorem dX17_init_60 : decode cX17_init 60 = .ok (.new 7, 3) := by decide +kernel
theorem dX17_init_63 : decode cX17_init 63 = .ok (.dup, 1) := by decide +kernel
theorem dX17_init_64 : decode cX17_init 64 = .ok (.invokespecial 9, 3) := by decide +kernel
theorem dX17_init_67 : decode cX17_init 67 = .ok (.putfield 28, 3) := by decide +kernel
theorem dX17_init_70 : decode cX17_init 70 = .ok (.aload_n 0, 1) := by decide +kernel
theorem dX17_init_71 : decode cX17_init 71 = .ok (.new 7, 3) := by decide +kernel
theorem dX17_init_74 : decode cX17_init 74 = .ok (.dup, 1) := by decide +kernel
theorem dX17_init_75 : decode cX17_init 75 = .ok (.invokespecial 9, 3) := by decide +kernel
theorem dX17_init_78 : decode cX17_init 78 = .ok (.putfield 31, 3) := by decide +kernel
theorem dX17_init_81 : decode cX17_init 81 = .ok (.aload_n 0, 1) := by decide +kernel
theorem dX17_init_82 : decode cX17_init 82 = .ok (.new 7, 3) := by decide +kernel
theorem dX17_init_85 : decode cX17_init 85 = .ok (.dup, 1) := by decide +kernel
theorem dX17_init_86 : decode cX17_init 86 = .ok (.invokespecial 9, 3) := by decide +kernel
theorem dX17_init_89 : decode cX17_init 89 = .ok (.putfield 34, 3) := by decide +kernel
theorem dX17_init_92 : decode cX17_init 92 = .ok (.aload_n 0, 1) := by decide +kernel
theorem dX17_init_93 : decode cX17_init 93 = .ok (.new 7, 3) := by decide +kernel
theorem dX17_init_96 : decode cX17_init 96 = .ok (.dup, 1) := by decide +kernel
theorem dX17_init_97 : decode cX17_init 97 = .ok (.invokespecial 9, 3) := by decide +kernel
theorem dX17_init_100 : decode cX17_init 100 = .ok (.putfield 37, 3) := by decide +kernel
theorem dX17_init_103 : decode cX17_init 103 = .ok (.aload_n 0, 1) := by decide +kernel
theorem dX17_init_104 : decode cX17_init 104 = .ok (.bipush 100, 2) := by decide +kernel
theorem dX17_init_106 : decode cX17_init 106 = .ok (.newarray .int, 2) := by decide +kernel
theorem dX17_init_108 : decode cX17_init 108 = .ok (.putfield 40, 3) := by decide +kernel
theorem dX17_init_111 : decode cX17_init 111 = .ok (.aload_n 0, 1) := by decide +kernel
theorem dX17_init_112 : decode cX17_init 112 = .ok (.bipush 30, 2) := by decide +kernel
theorem dX17_init_114 : decode cX17_init 114 = .ok (.newarray .int, 2) := by decide +kernel
theorem dX17_init_116 : decode cX17_init 116 = .ok (.putfield 44, 3) := by decide +kernel
theorem dX17_init_119 : decode cX17_init 119 = .ok (.aload_n 0, 1) := by decide +kernel
theorem dX17_init_120 : decode cX17_init 120 = .ok (.bipush 30, 2) := by decide +kernel
theorem dX17_init_122 : decode cX17_init 122 = .ok (.newarray .int, 2) := by decide +kernel
theorem dX17_init_124 : decode cX17_init 124 = .ok (.putfield 47, 3) := by decide +kernel
theorem dX17_init_127 : decode cX17_init 127 = .ok (.aload_n 0, 1) := by decide +kernel
theorem dX17_init_128 : decode cX17_init 128 = .ok (.bipush 41, 2) := by decide +kernel
theorem dX17_init_130 : decode cX17_init 130 = .ok (.newarray .int, 2) := by decide +kernel
theorem dX17_init_132 : decode cX17_init 132 = .ok (.putfield 50, 3) := by decide +kernel
theorem dX17_init_135 : decode cX17_init 135 = .ok (.aload_n 0, 1) := by decide +kernel
theorem dX17_init_136 : decode cX17_init 136 = .ok (.bipush 30, 2) := by decide +kernel
theorem dX17_init_138 : decode cX17_init 138 = .ok (.newarray .boolean, 2) := by decide +kernel
theorem dX17_init_140 : decode cX17_init 140 = .ok (.putfield 53, 3) := by decide +kernel
theorem dX17_init_143 : decode cX17_init 143 = .ok (.aload_n 0, 1) := by decide +kernel
theorem dX17_init_144 : decode cX17_init 144 = .ok (.bipush 41, 2) := by decide +kernel
theorem dX17_init_146 : decode cX17_init 146 = .ok (.newarray .boolean, 2) := by decide +kernel
theorem dX17_init_148 : decode cX17_init 148 = .ok (.putfield 57, 3) := by decide +kernel
theorem dX17_init_151 : decode cX17_init 151 = .ok (.return_, 1) := by decide +kernel
theorem dX17_thrown_0 : decode cX17_thrown 0 = .ok (.aload_n 0, 1) := by decide +kernel
theorem dX17_thrown_1 : decode cX17_thrown 1 = .ok (.getfield 60, 3) := by decide +kernel
theorem dX17_thrown_4 : decode cX17_thrown 4 = .ok (.ireturn, 1) := by decide +kernel
theorem dX17_fails_0 : decode cX17_fails 0 = .ok (.aload_n 0, 1) := by decide +kernel
theorem dX17_fails_1 : decode cX17_fails 1 = .ok (.iload_n 1, 1) := by decide +kernel
theorem dX17_fails_2 : decode cX17_fails 2 = .ok (.putfield 60, 3) := by decide +kernel
theorem dX17_fails_5 : decode cX17_fails 5 = .ok (.iconst 0, 1) := by decide +kernel
theorem dX17_fails_6 : decode cX17_fails 6 = .ok (.ireturn, 1) := by decide +kernel
theorem dX17_tell_0 : decode cX17_tell 0 = .ok (.aload_n 0, 1) := by decide +kernel
theorem dX17_tell_1 : decode cX17_tell 1 = .ok (.iconst 0, 1) := by decide +kernel
theorem dX17_tell_2 : decode cX17_tell 2 = .ok (.putfield 60, 3) := by decide +kernel
theorem dX17_tell_5 : decode cX17_tell 5 = .ok (.iload_n 1, 1) := by decide +kernel
theorem dX17_tell_6 : decode cX17_tell 6 = .ok (.ireturn, 1) := by decide +kernel
theorem dX17_in_0 : decode cX17_in 0 = .ok (.iload_n 0, 1) := by decide +kernel
theorem dX17_in_1 : decode cX17_in 1 = .ok (.iload_n 1, 1) := by decide +kernel
theorem dX17_in_2 : decode cX17_in 2 = .ok (.if_icmp .lt 12, 3) := by decide +kernel
theorem dX17_in_5 : decode cX17_in 5 = .ok (.iload_n 0, 1) := by decide +kernel
theorem dX17_in_6 : decode cX17_in 6 = .ok (.iload_n 2, 1) := by decide +kernel
theorem dX17_in_7 : decode cX17_in 7 = .ok (.if_icmp .gt 7, 3) := by decide +kernel
theorem dX17_in_10 : decode cX17_in 10 = .ok (.iconst 1, 1) := by decide +kernel
theorem dX17_in_11 : decode cX17_in 11 = .ok (.goto 4, 3) := by decide +kernel
theorem dX17_in_14 : decode cX17_in 14 = .ok (.iconst 0, 1) := by decide +kernel
theorem dX17_in_15 : decode cX17_in 15 = .ok (.ireturn, 1) := by decide +kernel
theorem dX17_foundIn_0 : decode cX17_foundIn 0 = .ok (.aload_n 0, 1) := by decide +kernel
theorem dX17_foundIn_1 : decode cX17_foundIn 1 = .ok (.getfield 16, 3) := by decide +kernel
theorem dX17_foundIn_4 : decode cX17_foundIn 4 = .ok (.invokevirtual 67, 3) := by decide +kernel
theorem dX17_foundIn_7 : decode cX17_foundIn 7 = .ok (.iconst 1, 1) := by decide +kernel
theorem dX17_foundIn_8 : decode cX17_foundIn 8 = .ok (.isub, 1) := by decide +kernel
theorem dX17_foundIn_9 : decode cX17_foundIn 9 = .ok (.istore_n 3, 1) := by decide +kernel
theorem dX17_foundIn_10 : decode cX17_foundIn 10 = .ok (.iload_n 3, 1) := by decide +kernel
theorem dX17_foundIn_11 : decode cX17_foundIn 11 = .ok (.ifCond .lt 47, 3) := by decide +kernel
theorem dX17_foundIn_14 : decode cX17_foundIn 14 = .ok (.aload_n 0, 1) := by decide +kernel
theorem dX17_foundIn_15 : decode cX17_foundIn 15 = .ok (.getfield 16, 3) := by decide +kernel
theorem dX17_foundIn_18 : decode cX17_foundIn 18 = .ok (.iload_n 3, 1) := by decide +kernel
theorem dX17_foundIn_19 : decode cX17_foundIn 19 = .ok (.invokevirtual 71, 3) := by decide +kernel
theorem dX17_foundIn_22 : decode cX17_foundIn 22 = .ok (.checkcast 122, 3) := by decide +kernel
theorem dX17_foundIn_25 : decode cX17_foundIn 25 = .ok (.getfield 124, 3) := by decide +kernel
theorem dX17_foundIn_28 : decode cX17_foundIn 28 = .ok (.iload_n 1, 1) := by decide +kernel
theorem dX17_foundIn_29 : decode cX17_foundIn 29 = .ok (.if_icmp .ne 23, 3) := by decide +kernel
theorem dX17_foundIn_32 : decode cX17_foundIn 32 = .ok (.aload_n 0, 1) := by decide +kernel
theorem dX17_foundIn_33 : decode cX17_foundIn 33 = .ok (.getfield 16, 3) := by decide +kernel
theorem dX17_foundIn_36 : decode cX17_foundIn 36 = .ok (.iload_n 3, 1) := by decide +kernel
theorem dX17_foundIn_37 : decode cX17_foundIn 37 = .ok (.invokevirtual 71, 3) := by decide +kernel
theorem dX17_foundIn_40 : decode cX17_foundIn 40 = .ok (.checkcast 122, 3) := by decide +kernel
theorem dX17_foundIn_43 : decode cX17_foundIn 43 = .ok (.getfield 127, 3) := by decide +kernel
theorem dX17_foundIn_46 : decode cX17_foundIn 46 = .ok (.iload_n 2, 1) := by decide +kernel
theorem dX17_foundIn_47 : decode cX17_foundIn 47 = .ok (.if_icmp .ne 5, 3) := by decide +kernel
theorem dX17_foundIn_50 : decode cX17_foundIn 50 = .ok (.iload_n 3, 1) := by decide +kernel
theorem dX17_foundIn_51 : decode cX17_foundIn 51 = .ok (.ireturn, 1) := by decide +kernel
theorem dX17_foundIn_52 : decode cX17_foundIn 52 = .ok (.iinc 3 (-1), 3) := by decide +kernel
theorem dX17_foundIn_55 : decode cX17_foundIn 55 = .ok (.goto (-45), 3) := by decide +kernel
theorem dX17_foundIn_58 : decode cX17_foundIn 58 = .ok (.iconst (-1), 1) := by decide +kernel
theorem dX17_foundIn_59 : decode cX17_foundIn 59 = .ok (.ireturn, 1) := by decide +kernel
theorem dX17_found_0 : decode cX17_found 0 = .ok (.aload_n 0, 1) := by decide +kernel
theorem dX17_found_1 : decode cX17_found 1 = .ok (.iload_n 1, 1) := by decide +kernel
theorem dX17_found_2 : decode cX17_found 2 = .ok (.aload_n 0, 1) := by decide +kernel
theorem dX17_found_3 : decode cX17_found 3 = .ok (.getfield 130, 3) := by decide +kernel
theorem dX17_found_6 : decode cX17_found 6 = .ok (.invokevirtual 133, 3) := by decide +kernel
theorem dX17_found_9 : decode cX17_found 9 = .ok (.istore_n 2, 1) := by decide +kernel
theorem dX17_found_10 : decode cX17_found 10 = .ok (.iload_n 2, 1) := by decide +kernel
theorem dX17_found_11 : decode cX17_found 11 = .ok (.iconst (-1), 1) := by decide +kernel
theorem dX17_found_12 : decode cX17_found 12 = .ok (.if_icmp .ne 12, 3) := by decide +kernel
theorem dX17_found_15 : decode cX17_found 15 = .ok (.aload_n 0, 1) := by decide +kernel
theorem dX17_found_16 : decode cX17_found 16 = .ok (.iload_n 1, 1) := by decide +kernel
theorem dX17_found_17 : decode cX17_found 17 = .ok (.iconst 0, 1) := by decide +kernel
theorem dX17_found_18 : decode cX17_found 18 = .ok (.invokevirtual 133, 3) := by decide +kernel
theorem dX17_found_21 : decode cX17_found 21 = .ok (.goto 4, 3) := by decide +kernel
theorem dX17_found_24 : decode cX17_found 24 = .ok (.iload_n 2, 1) := by decide +kernel
theorem dX17_found_25 : decode cX17_found 25 = .ok (.ireturn, 1) := by decide +kernel
theorem dX17_puts_0 : decode cX17_puts 0 = .ok (.aload_n 0, 1) := by decide +kernel
theorem dX17_puts_1 : decode cX17_puts 1 = .ok (.getfield 10, 3) := by decide +kernel
theorem dX17_puts_4 : decode cX17_puts 4 = .ok (.invokevirtual 67, 3) := by decide +kernel
theorem dX17_puts_7 : decode cX17_puts 7 = .ok (.bipush 40, 2) := by decide +kernel
theorem dX17_puts_9 : decode cX17_puts 9 = .ok (.if_icmp .ne 19, 3) := by decide +kernel
theorem dX17_puts_12 : decode cX17_puts 12 = .ok (.aload_n 0, 1) := by decide +kernel
theorem dX17_puts_13 : decode cX17_puts 13 = .ok (.iload_n 1, 1) := by decide +kernel
theorem dX17_puts_14 : decode cX17_puts 14 = .ok (.bipush 110, 2) := by decide +kernel
theorem dX17_puts_16 : decode cX17_puts 16 = .ok (.if_icmp .ne 7, 3) := by decide +kernel
theorem dX17_puts_19 : decode cX17_puts 19 = .ok (.iconst 1, 1) := by decide +kernel
theorem dX17_puts_20 : decode cX17_puts 20 = .ok (.goto 4, 3) := by decide +kernel
theorem dX17_puts_23 : decode cX17_puts 23 = .ok (.iconst 2, 1) := by decide +kernel
theorem dX17_puts_24 : decode cX17_puts 24 = .ok (.invokevirtual 366, 3) := by decide +kernel
theorem dX17_puts_27 : decode cX17_puts 27 = .ok (.ireturn, 1) := by decide +kernel
theorem dX17_puts_28 : decode cX17_puts 28 = .ok (.aload_n 0, 1) := by decide +kernel
theorem dX17_puts_29 : decode cX17_puts 29 = .ok (.getfield 10, 3) := by decide +kernel
theorem dX17_puts_32 : decode cX17_puts 32 = .ok (.new 113, 3) := by decide +kernel
theorem dX17_puts_35 : decode cX17_puts 35 = .ok (.dup, 1) := by decide +kernel
theorem dX17_puts_36 : decode cX17_puts 36 = .ok (.iload_n 1, 1) := by decide +kernel
theorem dX17_puts_37 : decode cX17_puts 37 = .ok (.iload_n 2, 1) := by decide +kernel
theorem dX17_puts_38 : decode cX17_puts 38 = .ok (.invokespecial 152, 3) := by decide +kernel
theorem dX17_puts_41 : decode cX17_puts 41 = .ok (.invokevirtual 77, 3) := by decide +kernel
theorem dX17_puts_44 : decode cX17_puts 44 = .ok (.pop, 1) := by decide +kernel
theorem dX17_puts_45 : decode cX17_puts 45 = .ok (.aload_n 0, 1) := by decide +kernel
theorem dX17_puts_46 : decode cX17_puts 46 = .ok (.aload_n 0, 1) := by decide +kernel
theorem dX17_puts_47 : decode cX17_puts 47 = .ok (.getfield 10, 3) := by decide +kernel
theorem dX17_puts_50 : decode cX17_puts 50 = .ok (.invokevirtual 67, 3) := by decide +kernel
theorem dX17_puts_53 : decode cX17_puts 53 = .ok (.invokevirtual 369, 3) := by decide +kernel
theorem dX17_puts_56 : decode cX17_puts 56 = .ok (.ireturn, 1) := by decide +kernel
theorem dX17_word_0 : decode cX17_word 0 = .ok (.ldc_w 372, 3) := by decide +kernel
theorem dX17_word_3 : decode cX17_word 3 = .ok (.iload_n 1, 1) := by decide +kernel
theorem dX17_word_4 : decode cX17_word 4 = .ok (.invokevirtual 234, 3) := by decide +kernel
theorem dX17_word_7 : decode cX17_word 7 = .ok (.ifCond .ge 21, 3) := by decide +kernel
theorem dX17_word_10 : decode cX17_word 10 = .ok (.ldc_w 364, 3) := by decide +kernel
theorem dX17_word_13 : decode cX17_word 13 = .ok (.iload_n 1, 1) := by decide +kernel
theorem dX17_word_14 : decode cX17_word 14 = .ok (.invokevirtual 234, 3) := by decide +kernel
theorem dX17_word_17 : decode cX17_word 17 = .ok (.ifCond .ge 11, 3) := by decide +kernel
theorem dX17_word_20 : decode cX17_word 20 = .ok (.aload_n 0, 1) := by decide +kernel
theorem dX17_word_21 : decode cX17_word 21 = .ok (.iconst 1, 1) := by decide +kernel
theorem dX17_word_22 : decode cX17_word 22 = .ok (.invokevirtual 366, 3) := by decide +kernel
theorem dX17_word_25 : decode cX17_word 25 = .ok (.goto 10, 3) := by decide +kernel
theorem dX17_word_28 : decode cX17_word 28 = .ok (.aload_n 0, 1) := by decide +kernel
theorem dX17_word_29 : decode cX17_word 29 = .ok (.bipush 119, 2) := by decide +kernel
theorem dX17_word_31 : decode cX17_word 31 = .ok (.iload_n 1, 1) := by decide +kernel
theorem dX17_word_32 : decode cX17_word 32 = .ok (.invokevirtual 374, 3) := by decide +kernel
theorem dX17_word_35 : decode cX17_word 35 = .ok (.ireturn, 1) := by decide +kernel
theorem dX17_name_0 : decode cX17_name 0 = .ok (.iload_n 1, 1) := by decide +kernel
theorem dX17_name_1 : decode cX17_name 1 = .ok (.iconst 0, 1) := by decide +kernel
theorem dX17_name_2 : decode cX17_name 2 = .ok (.bipush 15, 2) := by decide +kernel
theorem dX17_name_4 : decode cX17_name 4 = .ok (.invokestatic 278, 3) := by decide +kernel
theorem dX17_name_7 : decode cX17_name 7 = .ok (.ifCond .eq 13, 3) := by decide +kernel
theorem dX17_name_10 : decode cX17_name 10 = .ok (.aload_n 0, 1) := by decide +kernel
theorem dX17_name_11 : decode cX17_name 11 = .ok (.bipush 120, 2) := by decide +kernel
theorem dX17_name_13 : decode cX17_name 13 = .ok (.iload_n 1, 1) := by decide +kernel
theorem dX17_name_14 : decode cX17_name 14 = .ok (.invokevirtual 374, 3) := by decide +kernel
theorem dX17_name_17 : decode cX17_name 17 = .ok (.goto 8, 3) := by decide +kernel
theorem dX17_name_20 : decode cX17_name 20 = .ok (.aload_n 0, 1) := by decide +kernel
theorem dX17_name_21 : decode cX17_name 21 = .ok (.iconst 1, 1) := by decide +kernel
theorem dX17_name_22 : decode cX17_name 22 = .ok (.invokevirtual 366, 3) := by decide +kernel
theorem dX17_name_25 : decode cX17_name 25 = .ok (.ireturn, 1) := by decide +kernel
theorem dX17_number_0 : decode cX17_number 0 = .ok (.aload_n 0, 1) := by decide +kernel
theorem dX17_number_1 : decode cX17_number 1 = .ok (.bipush 110, 2) := by decide +kernel
theorem dX17_number_3 : decode cX17_number 3 = .ok (.iload_n 1, 1) := by decide +kernel
theorem dX17_number_4 : decode cX17_number 4 = .ok (.invokevirtual 374, 3) := by decide +kernel
theorem dX17_number_7 : decode cX17_number 7 = .ok (.ireturn, 1) := by decide +kernel
theorem dX17_enter_0 : decode cX17_enter 0 = .ok (.aload_n 0, 1) := by decide +kernel
theorem dX17_enter_1 : decode cX17_enter 1 = .ok (.iconst 0, 1) := by decide +kernel
theorem dX17_enter_2 : decode cX17_enter 2 = .ok (.putfield 60, 3) := by decide +kernel
theorem dX17_enter_5 : decode cX17_enter 5 = .ok (.aload_n 0, 1) := by decide +kernel
theorem dX17_enter_6 : decode cX17_enter 6 = .ok (.dup, 1) := by decide +kernel
theorem dX17_enter_7 : decode cX17_enter 7 = .ok (.getfield 386, 3) := by decide +kernel
theorem dX17_enter_10 : decode cX17_enter 10 = .ok (.iconst 1, 1) := by decide +kernel
theorem dX17_enter_11 : decode cX17_enter 11 = .ok (.iadd, 1) := by decide +kernel
theorem dX17_enter_12 : decode cX17_enter 12 = .ok (.putfield 386, 3) := by decide +kernel
theorem dX17_enter_15 : decode cX17_enter 15 = .ok (.aload_n 0, 1) := by decide +kernel
theorem dX17_enter_16 : decode cX17_enter 16 = .ok (.iconst 0, 1) := by decide +kernel
theorem dX17_enter_17 : decode cX17_enter 17 = .ok (.putfield 110, 3) := by decide +kernel
theorem dX17_enter_20 : decode cX17_enter 20 = .ok (.aload_n 0, 1) := by decide +kernel
theorem dX17_enter_21 : decode cX17_enter 21 = .ok (.iconst 0, 1) := by decide +kernel
theorem dX17_enter_22 : decode cX17_enter 22 = .ok (.putfield 155, 3) := by decide +kernel
theorem dX17_enter_25 : decode cX17_enter 25 = .ok (.aload_n 0, 1) := by decide +kernel
theorem dX17_enter_26 : decode cX17_enter 26 = .ok (.iconst 0, 1) := by decide +kernel
theorem dX17_enter_27 : decode cX17_enter 27 = .ok (.putfield 86, 3) := by decide +kernel
theorem dX17_enter_30 : decode cX17_enter 30 = .ok (.aload_n 0, 1) := by decide +kernel
theorem dX17_enter_31 : decode cX17_enter 31 = .ok (.iconst 0, 1) := by decide +kernel
theorem dX17_enter_32 : decode cX17_enter 32 = .ok (.putfield 380, 3) := by decide +kernel
theorem dX17_enter_35 : decode cX17_enter 35 = .ok (.aload_n 0, 1) := by decide +kernel
theorem dX17_enter_36 : decode cX17_enter 36 = .ok (.getfield 110, 3) := by decide +kernel
theorem dX17_enter_39 : decode cX17_enter 39 = .ok (.aload_n 0, 1) := by decide +kernel
theorem dX17_enter_40 : decode cX17_enter 40 = .ok (.getfield 10, 3) := by decide +kernel
theorem dX17_enter_43 : decode cX17_enter 43 = .ok (.invokevirtual 67, 3) := by decide +kernel
theorem dX17_enter_46 : decode cX17_enter 46 = .ok (.if_icmp .ge 36, 3) := by decide +kernel
theorem dX17_enter_49 : decode cX17_enter 49 = .ok (.aload_n 0, 1) := by decide +kernel
theorem dX17_enter_50 : decode cX17_enter 50 = .ok (.dup, 1) := by decide +kernel
theorem dX17_enter_51 : decode cX17_enter 51 = .ok (.getfield 110, 3) := by decide +kernel
theorem dX17_enter_54 : decode cX17_enter 54 = .ok (.iconst 1, 1) := by decide +kernel
theorem dX17_enter_55 : decode cX17_enter 55 = .ok (.iadd, 1) := by decide +kernel
theorem dX17_enter_56 : decode cX17_enter 56 = .ok (.putfield 110, 3) := by decide +kernel
theorem dX17_enter_59 : decode cX17_enter 59 = .ok (.aload_n 0, 1) := by decide +kernel
theorem dX17_enter_60 : decode cX17_enter 60 = .ok (.aload_n 0, 1) := by decide +kernel
theorem dX17_enter_61 : decode cX17_enter 61 = .ok (.getfield 10, 3) := by decide +kernel
theorem dX17_enter_64 : decode cX17_enter 64 = .ok (.aload_n 0, 1) := by decide +kernel
theorem dX17_enter_65 : decode cX17_enter 65 = .ok (.getfield 110, 3) := by decide +kernel
theorem dX17_enter_68 : decode cX17_enter 68 = .ok (.iconst 1, 1) := by decide +kernel
theorem dX17_enter_69 : decode cX17_enter 69 = .ok (.isub, 1) := by decide +kernel
theorem dX17_enter_70 : decode cX17_enter 70 = .ok (.invokevirtual 71, 3) := by decide +kernel
theorem dX17_enter_73 : decode cX17_enter 73 = .ok (.checkcast 113, 3) := by decide +kernel
theorem dX17_enter_76 : decode cX17_enter 76 = .ok (.invokevirtual 389, 3) := by decide +kernel
theorem dX17_enter_79 : decode cX17_enter 79 = .ok (.goto (-44), 3) := by decide +kernel
theorem dX17_enter_82 : decode cX17_enter 82 = .ok (.aload_n 0, 1) := by decide +kernel
theorem dX17_enter_83 : decode cX17_enter 83 = .ok (.getfield 34, 3) := by decide +kernel
theorem dX17_enter_86 : decode cX17_enter 86 = .ok (.invokevirtual 64, 3) := by decide +kernel
theorem dX17_enter_89 : decode cX17_enter 89 = .ok (.goto 29, 3) := by decide +kernel
theorem dX17_enter_92 : decode cX17_enter 92 = .ok (.astore_n 1, 1) := by decide +kernel
theorem dX17_enter_93 : decode cX17_enter 93 = .ok (.aload_n 0, 1) := by decide +kernel
theorem dX17_enter_94 : decode cX17_enter 94 = .ok (.aload_n 1, 1) := by decide +kernel
theorem dX17_enter_95 : decode cX17_enter 95 = .ok (.getfield 298, 3) := by decide +kernel
theorem dX17_enter_98 : decode cX17_enter 98 = .ok (.invokevirtual 393, 3) := by decide +kernel
theorem dX17_enter_101 : decode cX17_enter 101 = .ok (.goto 17, 3) := by decide +kernel
theorem dX17_enter_104 : decode cX17_enter 104 = .ok (.astore_n 1, 1) := by decide +kernel
theorem dX17_enter_105 : decode cX17_enter 105 = .ok (.aload_n 0, 1) := by decide +kernel
theorem dX17_enter_106 : decode cX17_enter 106 = .ok (.getfield 34, 3) := by decide +kernel
theorem dX17_enter_109 : decode cX17_enter 109 = .ok (.invokevirtual 64, 3) := by decide +kernel
theorem dX17_enter_112 : decode cX17_enter 112 = .ok (.aload_n 0, 1) := by decide +kernel
theorem dX17_enter_113 : decode cX17_enter 113 = .ok (.bipush (-90), 2) := by decide +kernel
theorem dX17_enter_115 : decode cX17_enter 115 = .ok (.invokevirtual 393, 3) := by decide +kernel
theorem dX17_enter_118 : decode cX17_enter 118 = .ok (.aload_n 0, 1) := by decide +kernel
theorem dX17_enter_119 : decode cX17_enter 119 = .ok (.getfield 10, 3) := by decide +kernel
theorem dX17_enter_122 : decode cX17_enter 122 = .ok (.invokevirtual 64, 3) := by decide +kernel
theorem dX17_enter_125 : decode cX17_enter 125 = .ok (.aload_n 0, 1) := by decide +kernel
theorem dX17_enter_126 : decode cX17_enter 126 = .ok (.getfield 380, 3) := by decide +kernel
theorem dX17_enter_129 : decode cX17_enter 129 = .ok (.ifCond .eq 8, 3) := by decide +kernel
theorem dX17_enter_132 : decode cX17_enter 132 = .ok (.bipush 101, 2) := by decide +kernel
theorem dX17_enter_134 : decode cX17_enter 134 = .ok (.goto 17, 3) := by decide +kernel
theorem dX17_enter_137 : decode cX17_enter 137 = .ok (.aload_n 0, 1) := by decide +kernel
theorem dX17_enter_138 : decode cX17_enter 138 = .ok (.getfield 303, 3) := by decide +kernel
theorem dX17_enter_141 : decode cX17_enter 141 = .ok (.ifCond .eq 8, 3) := by decide +kernel
theorem dX17_enter_144 : decode cX17_enter 144 = .ok (.bipush 99, 2) := by decide +kernel
theorem dX17_enter_146 : decode cX17_enter 146 = .ok (.goto 5, 3) := by decide +kernel
theorem dX17_enter_149 : decode cX17_enter 149 = .ok (.bipush 111, 2) := by decide +kernel
theorem dX17_enter_151 : decode cX17_enter 151 = .ok (.ireturn, 1) := by decide +kernel
theorem dX17_error__0 : decode cX17_error_ 0 = .ok (.aload_n 0, 1) := by decide +kernel
theorem dX17_error__1 : decode cX17_error_ 1 = .ok (.getfield 380, 3) := by decide +kernel
theorem dX17_error__4 : decode cX17_error_ 4 = .ok (.ifCond .eq 14, 3) := by decide +kernel
theorem dX17_error__7 : decode cX17_error_ 7 = .ok (.aload_n 0, 1) := by decide +kernel
theorem dX17_error__8 : decode cX17_error_ 8 = .ok (.aload_n 0, 1) := by decide +kernel
theorem dX17_error__9 : decode cX17_error_ 9 = .ok (.getfield 378, 3) := by decide +kernel
theorem dX17_error__12 : decode cX17_error_ 12 = .ok (.invokevirtual 369, 3) := by decide +kernel
theorem dX17_error__15 : decode cX17_error_ 15 = .ok (.goto 8, 3) := by decide +kernel
theorem dX17_error__18 : decode cX17_error_ 18 = .ok (.aload_n 0, 1) := by decide +kernel
theorem dX17_error__19 : decode cX17_error_ 19 = .ok (.iconst 1, 1) := by decide +kernel
theorem dX17_error__20 : decode cX17_error_ 20 = .ok (.invokevirtual 366, 3) := by decide +kernel
theorem dX17_error__23 : decode cX17_error_ 23 = .ok (.ireturn, 1) := by decide +kernel
theorem dX17_trace_0 : decode cX17_trace 0 = .ok (.aload_n 0, 1) := by decide +kernel
theorem dX17_trace_1 : decode cX17_trace 1 = .ok (.aload_n 0, 1) := by decide +kernel
theorem dX17_trace_2 : decode cX17_trace 2 = .ok (.getfield 34, 3) := by decide +kernel
theorem dX17_trace_5 : decode cX17_trace 5 = .ok (.invokevirtual 67, 3) := by decide +kernel
theorem dX17_trace_8 : decode cX17_trace 8 = .ok (.invokevirtual 369, 3) := by decide +kernel
theorem dX17_trace_11 : decode cX17_trace 11 = .ok (.ireturn, 1) := by decide +kernel
theorem dX17_traceAt_0 : decode cX17_traceAt 0 = .ok (.iload_n 1, 1) := by decide +kernel
theorem dX17_traceAt_1 : decode cX17_traceAt 1 = .ok (.iconst 0, 1) := by decide +kernel
theorem dX17_traceAt_2 : decode cX17_traceAt 2 = .ok (.aload_n 0, 1) := by decide +kernel
theorem dX17_traceAt_3 : decode cX17_traceAt 3 = .ok (.getfield 34, 3) := by decide +kernel
theorem dX17_traceAt_6 : decode cX17_traceAt 6 = .ok (.invokevirtual 67, 3) := by decide +kernel
theorem dX17_traceAt_9 : decode cX17_traceAt 9 = .ok (.iconst 1, 1) := by decide +kernel
theorem dX17_traceAt_10 : decode cX17_traceAt 10 = .ok (.isub, 1) := by decide +kernel
theorem dX17_traceAt_11 : decode cX17_traceAt 11 = .ok (.invokestatic 278, 3) := by decide +kernel
theorem dX17_traceAt_14 : decode cX17_traceAt 14 = .ok (.ifCond .eq 24, 3) := by decide +kernel
theorem dX17_traceAt_17 : decode cX17_traceAt 17 = .ok (.aload_n 0, 1) := by decide +kernel
theorem dX17_traceAt_18 : decode cX17_traceAt 18 = .ok (.aload_n 0, 1) := by decide +kernel
theorem dX17_traceAt_19 : decode cX17_traceAt 19 = .ok (.getfield 34, 3) := by decide +kernel
theorem dX17_traceAt_22 : decode cX17_traceAt 22 = .ok (.iload_n 1, 1) := by decide +kernel
theorem dX17_traceAt_23 : decode cX17_traceAt 23 = .ok (.invokevirtual 71, 3) := by decide +kernel
theorem dX17_traceAt_26 : decode cX17_traceAt 26 = .ok (.checkcast 75, 3) := by decide +kernel
theorem dX17_traceAt_29 : decode cX17_traceAt 29 = .ok (.invokevirtual 103, 3) := by decide +kernel
theorem dX17_traceAt_32 : decode cX17_traceAt 32 = .ok (.invokevirtual 369, 3) := by decide +kernel
theorem dX17_traceAt_35 : decode cX17_traceAt 35 = .ok (.goto 8, 3) := by decide +kernel
theorem dX17_traceAt_38 : decode cX17_traceAt 38 = .ok (.aload_n 0, 1) := by decide +kernel
theorem dX17_traceAt_39 : decode cX17_traceAt 39 = .ok (.iconst 1, 1) := by decide +kernel
theorem dX17_traceAt_40 : decode cX17_traceAt 40 = .ok (.invokevirtual 366, 3) := by decide +kernel
theorem dX17_traceAt_43 : decode cX17_traceAt 43 = .ok (.ireturn, 1) := by decide +kernel
theorem dX17_depth_0 : decode cX17_depth 0 = .ok (.aload_n 0, 1) := by decide +kernel
theorem dX17_depth_1 : decode cX17_depth 1 = .ok (.aload_n 0, 1) := by decide +kernel
theorem dX17_depth_2 : decode cX17_depth 2 = .ok (.getfield 19, 3) := by decide +kernel
theorem dX17_depth_5 : decode cX17_depth 5 = .ok (.invokevirtual 67, 3) := by decide +kernel
theorem dX17_depth_8 : decode cX17_depth 8 = .ok (.invokevirtual 369, 3) := by decide +kernel
theorem dX17_depth_11 : decode cX17_depth 11 = .ok (.ireturn, 1) := by decide +kernel
theorem dX17_at_0 : decode cX17_at 0 = .ok (.iload_n 1, 1) := by decide +kernel
theorem dX17_at_1 : decode cX17_at 1 = .ok (.iconst 0, 1) := by decide +kernel
theorem dX17_at_2 : decode cX17_at 2 = .ok (.aload_n 0, 1) := by decide +kernel
theorem dX17_at_3 : decode cX17_at 3 = .ok (.getfield 19, 3) := by decide +kernel
theorem dX17_at_6 : decode cX17_at 6 = .ok (.invokevirtual 67, 3) := by decide +kernel
theorem dX17_at_9 : decode cX17_at 9 = .ok (.iconst 1, 1) := by decide +kernel
theorem dX17_at_10 : decode cX17_at 10 = .ok (.isub, 1) := by decide +kernel
theorem dX17_at_11 : decode cX17_at 11 = .ok (.invokestatic 278, 3) := by decide +kernel
theorem dX17_at_14 : decode cX17_at 14 = .ok (.ifCond .eq 15, 3) := by decide +kernel
theorem dX17_at_17 : decode cX17_at 17 = .ok (.aload_n 0, 1) := by decide +kernel
theorem dX17_at_18 : decode cX17_at 18 = .ok (.aload_n 0, 1) := by decide +kernel
theorem dX17_at_19 : decode cX17_at 19 = .ok (.iload_n 1, 1) := by decide +kernel
theorem dX17_at_20 : decode cX17_at 20 = .ok (.invokevirtual 265, 3) := by decide +kernel
theorem dX17_at_23 : decode cX17_at 23 = .ok (.invokevirtual 369, 3) := by decide +kernel
theorem dX17_at_26 : decode cX17_at 26 = .ok (.goto 8, 3) := by decide +kernel
theorem dX17_at_29 : decode cX17_at 29 = .ok (.aload_n 0, 1) := by decide +kernel
theorem dX17_at_30 : decode cX17_at 30 = .ok (.iconst 1, 1) := by decide +kernel
theorem dX17_at_31 : decode cX17_at 31 = .ok (.invokevirtual 366, 3) := by decide +kernel
theorem dX17_at_34 : decode cX17_at 34 = .ok (.ireturn, 1) := by decide +kernel
theorem dX17_second_0 : decode cX17_second 0 = .ok (.aload_n 0, 1) := by decide +kernel
theorem dX17_second_1 : decode cX17_second 1 = .ok (.aload_n 0, 1) := by decide +kernel
theorem dX17_second_2 : decode cX17_second 2 = .ok (.getfield 22, 3) := by decide +kernel
theorem dX17_second_5 : decode cX17_second 5 = .ok (.invokevirtual 67, 3) := by decide +kernel
theorem dX17_second_8 : decode cX17_second 8 = .ok (.invokevirtual 369, 3) := by decide +kernel
theorem dX17_second_11 : decode cX17_second 11 = .ok (.ireturn, 1) := by decide +kernel
theorem dX17_here_0 : decode cX17_here 0 = .ok (.aload_n 0, 1) := by decide +kernel
theorem dX17_here_1 : decode cX17_here 1 = .ok (.aload_n 0, 1) := by decide +kernel
theorem dX17_here_2 : decode cX17_here 2 = .ok (.getfield 188, 3) := by decide +kernel
theorem dX17_here_5 : decode cX17_here 5 = .ok (.invokevirtual 369, 3) := by decide +kernel
theorem dX17_here_8 : decode cX17_here 8 = .ok (.ireturn, 1) := by decide +kernel
theorem dX17_cell_0 : decode cX17_cell 0 = .ok (.iload_n 1, 1) := by decide +kernel
theorem dX17_cell_1 : decode cX17_cell 1 = .ok (.iconst 0, 1) := by decide +kernel
theorem dX17_cell_2 : decode cX17_cell 2 = .ok (.bipush 99, 2) := by decide +kernel
theorem dX17_cell_4 : decode cX17_cell 4 = .ok (.invokestatic 278, 3) := by decide +kernel
theorem dX17_cell_7 : decode cX17_cell 7 = .ok (.ifCond .eq 16, 3) := by decide +kernel
theorem dX17_cell_10 : decode cX17_cell 10 = .ok (.aload_n 0, 1) := by decide +kernel
theorem dX17_cell_11 : decode cX17_cell 11 = .ok (.aload_n 0, 1) := by decide +kernel
theorem dX17_cell_12 : decode cX17_cell 12 = .ok (.getfield 40, 3) := by decide +kernel
theorem dX17_cell_15 : decode cX17_cell 15 = .ok (.iload_n 1, 1) := by decide +kernel
theorem dX17_cell_16 : decode cX17_cell 16 = .ok (.iaload, 1) := by decide +kernel
theorem dX17_cell_17 : decode cX17_cell 17 = .ok (.invokevirtual 369, 3) := by decide +kernel
theorem dX17_cell_20 : decode cX17_cell 20 = .ok (.goto 8, 3) := by decide +kernel
theorem dX17_cell_23 : decode cX17_cell 23 = .ok (.aload_n 0, 1) := by decide +kernel
theorem dX17_cell_24 : decode cX17_cell 24 = .ok (.iconst 1, 1) := by decide +kernel
theorem dX17_cell_25 : decode cX17_cell 25 = .ok (.invokevirtual 366, 3) := by decide +kernel
theorem dX17_cell_28 : decode cX17_cell 28 = .ok (.ireturn, 1) := by decide +kernel
theorem dX17_outs_0 : decode cX17_outs 0 = .ok (.aload_n 0, 1) := by decide +kernel
theorem dX17_outs_1 : decode cX17_outs 1 = .ok (.aload_n 0, 1) := by decide +kernel
theorem dX17_outs_2 : decode cX17_outs 2 = .ok (.getfield 25, 3) := by decide +kernel
theorem dX17_outs_5 : decode cX17_outs 5 = .ok (.invokevirtual 67, 3) := by decide +kernel
theorem dX17_outs_8 : decode cX17_outs 8 = .ok (.invokevirtual 369, 3) := by decide +kernel
theorem dX17_outs_11 : decode cX17_outs 11 = .ok (.ireturn, 1) := by decide +kernel
theorem dX17_outAt_0 : decode cX17_outAt 0 = .ok (.iload_n 1, 1) := by decide +kernel
theorem dX17_outAt_1 : decode cX17_outAt 1 = .ok (.iconst 0, 1) := by decide +kernel
theorem dX17_outAt_2 : decode cX17_outAt 2 = .ok (.aload_n 0, 1) := by decide +kernel
theorem dX17_outAt_3 : decode cX17_outAt 3 = .ok (.getfield 25, 3) := by decide +kernel
theorem dX17_outAt_6 : decode cX17_outAt 6 = .ok (.invokevirtual 67, 3) := by decide +kernel
theorem dX17_outAt_9 : decode cX17_outAt 9 = .ok (.iconst 1, 1) := by decide +kernel
theorem dX17_outAt_10 : decode cX17_outAt 10 = .ok (.isub, 1) := by decide +kernel
theorem dX17_outAt_11 : decode cX17_outAt 11 = .ok (.invokestatic 278, 3) := by decide +kernel
theorem dX17_outAt_14 : decode cX17_outAt 14 = .ok (.ifCond .eq 24, 3) := by decide +kernel
theorem dX17_outAt_17 : decode cX17_outAt 17 = .ok (.aload_n 0, 1) := by decide +kernel
theorem dX17_outAt_18 : decode cX17_outAt 18 = .ok (.aload_n 0, 1) := by decide +kernel
theorem dX17_outAt_19 : decode cX17_outAt 19 = .ok (.getfield 25, 3) := by decide +kernel
theorem dX17_outAt_22 : decode cX17_outAt 22 = .ok (.iload_n 1, 1) := by decide +kernel
theorem dX17_outAt_23 : decode cX17_outAt 23 = .ok (.invokevirtual 71, 3) := by decide +kernel
theorem dX17_outAt_26 : decode cX17_outAt 26 = .ok (.checkcast 75, 3) := by decide +kernel
theorem dX17_outAt_29 : decode cX17_outAt 29 = .ok (.invokevirtual 103, 3) := by decide +kernel
theorem dX17_outAt_32 : decode cX17_outAt 32 = .ok (.invokevirtual 369, 3) := by decide +kernel
theorem dX17_outAt_35 : decode cX17_outAt 35 = .ok (.goto 8, 3) := by decide +kernel
theorem dX17_outAt_38 : decode cX17_outAt 38 = .ok (.aload_n 0, 1) := by decide +kernel
theorem dX17_outAt_39 : decode cX17_outAt 39 = .ok (.iconst 1, 1) := by decide +kernel
theorem dX17_outAt_40 : decode cX17_outAt 40 = .ok (.invokevirtual 366, 3) := by decide +kernel
theorem dX17_outAt_43 : decode cX17_outAt 43 = .ok (.ireturn, 1) := by decide +kernel
theorem dX17_entries_0 : decode cX17_entries 0 = .ok (.aload_n 0, 1) := by decide +kernel
theorem dX17_entries_1 : decode cX17_entries 1 = .ok (.aload_n 0, 1) := by decide +kernel
theorem dX17_entries_2 : decode cX17_entries 2 = .ok (.getfield 16, 3) := by decide +kernel
theorem dX17_entries_5 : decode cX17_entries 5 = .ok (.invokevirtual 67, 3) := by decide +kernel
theorem dX17_entries_8 : decode cX17_entries 8 = .ok (.invokevirtual 369, 3) := by decide +kernel
theorem dX17_entries_11 : decode cX17_entries 11 = .ok (.ireturn, 1) := by decide +kernel
theorem dX17_isEntry_0 : decode cX17_isEntry 0 = .ok (.aload_n 0, 1) := by decide +kernel
theorem dX17_isEntry_1 : decode cX17_isEntry 1 = .ok (.iload_n 1, 1) := by decide +kernel
theorem dX17_isEntry_2 : decode cX17_isEntry 2 = .ok (.iconst 0, 1) := by decide +kernel
theorem dX17_isEntry_3 : decode cX17_isEntry 3 = .ok (.aload_n 0, 1) := by decide +kernel
theorem dX17_isEntry_4 : decode cX17_isEntry 4 = .ok (.getfield 16, 3) := by decide +kernel
theorem dX17_isEntry_7 : decode cX17_isEntry 7 = .ok (.invokevirtual 67, 3) := by decide +kernel
theorem dX17_isEntry_10 : decode cX17_isEntry 10 = .ok (.iconst 1, 1) := by decide +kernel
theorem dX17_isEntry_11 : decode cX17_isEntry 11 = .ok (.isub, 1) := by decide +kernel
theorem dX17_isEntry_12 : decode cX17_isEntry 12 = .ok (.invokestatic 278, 3) := by decide +kernel
theorem dX17_isEntry_15 : decode cX17_isEntry 15 = .ok (.ifCond .eq 7, 3) := by decide +kernel
theorem dX17_isEntry_18 : decode cX17_isEntry 18 = .ok (.iconst 0, 1) := by decide +kernel
theorem dX17_isEntry_19 : decode cX17_isEntry 19 = .ok (.goto 4, 3) := by decide +kernel
theorem dX17_isEntry_22 : decode cX17_isEntry 22 = .ok (.iconst 1, 1) := by decide +kernel
theorem dX17_isEntry_23 : decode cX17_isEntry 23 = .ok (.putfield 60, 3) := by decide +kernel
theorem dX17_isEntry_26 : decode cX17_isEntry 26 = .ok (.aload_n 0, 1) := by decide +kernel
theorem dX17_isEntry_27 : decode cX17_isEntry 27 = .ok (.getfield 60, 3) := by decide +kernel
theorem dX17_isEntry_30 : decode cX17_isEntry 30 = .ok (.ifCond .ne 7, 3) := by decide +kernel
theorem dX17_isEntry_33 : decode cX17_isEntry 33 = .ok (.iconst 1, 1) := by decide +kernel
theorem dX17_isEntry_34 : decode cX17_isEntry 34 = .ok (.goto 4, 3) := by decide +kernel
theorem dX17_isEntry_37 : decode cX17_isEntry 37 = .ok (.iconst 0, 1) := by decide +kernel
theorem dX17_isEntry_38 : decode cX17_isEntry 38 = .ok (.ireturn, 1) := by decide +kernel
theorem dX17_nameOf_0 : decode cX17_nameOf 0 = .ok (.aload_n 0, 1) := by decide +kernel
theorem dX17_nameOf_1 : decode cX17_nameOf 1 = .ok (.iload_n 1, 1) := by decide +kernel
theorem dX17_nameOf_2 : decode cX17_nameOf 2 = .ok (.invokevirtual 396, 3) := by decide +kernel
theorem dX17_nameOf_5 : decode cX17_nameOf 5 = .ok (.ifCond .eq 20, 3) := by decide +kernel
theorem dX17_nameOf_8 : decode cX17_nameOf 8 = .ok (.aload_n 0, 1) := by decide +kernel
theorem dX17_nameOf_9 : decode cX17_nameOf 9 = .ok (.getfield 16, 3) := by decide +kernel
theorem dX17_nameOf_12 : decode cX17_nameOf 12 = .ok (.iload_n 1, 1) := by decide +kernel
theorem dX17_nameOf_13 : decode cX17_nameOf 13 = .ok (.invokevirtual 71, 3) := by decide +kernel
theorem dX17_nameOf_16 : decode cX17_nameOf 16 = .ok (.checkcast 122, 3) := by decide +kernel
theorem dX17_nameOf_19 : decode cX17_nameOf 19 = .ok (.getfield 124, 3) := by decide +kernel
theorem dX17_nameOf_22 : decode cX17_nameOf 22 = .ok (.goto 4, 3) := by decide +kernel
theorem dX17_nameOf_25 : decode cX17_nameOf 25 = .ok (.iconst 0, 1) := by decide +kernel
theorem dX17_nameOf_26 : decode cX17_nameOf 26 = .ok (.ireturn, 1) := by decide +kernel
theorem dX17_kindOf_0 : decode cX17_kindOf 0 = .ok (.aload_n 0, 1) := by decide +kernel
theorem dX17_kindOf_1 : decode cX17_kindOf 1 = .ok (.iload_n 1, 1) := by decide +kernel
theorem dX17_kindOf_2 : decode cX17_kindOf 2 = .ok (.invokevirtual 396, 3) := by decide +kernel
theorem dX17_kindOf_5 : decode cX17_kindOf 5 = .ok (.ifCond .eq 20, 3) := by decide +kernel
theorem dX17_kindOf_8 : decode cX17_kindOf 8 = .ok (.aload_n 0, 1) := by decide +kernel
theorem dX17_kindOf_9 : decode cX17_kindOf 9 = .ok (.getfield 16, 3) := by decide +kernel
theorem dX17_kindOf_12 : decode cX17_kindOf 12 = .ok (.iload_n 1, 1) := by decide +kernel
theorem dX17_kindOf_13 : decode cX17_kindOf 13 = .ok (.invokevirtual 71, 3) := by decide +kernel
theorem dX17_kindOf_16 : decode cX17_kindOf 16 = .ok (.checkcast 122, 3) := by decide +kernel
theorem dX17_kindOf_19 : decode cX17_kindOf 19 = .ok (.getfield 162, 3) := by decide +kernel
theorem dX17_kindOf_22 : decode cX17_kindOf 22 = .ok (.goto 4, 3) := by decide +kernel
theorem dX17_kindOf_25 : decode cX17_kindOf 25 = .ok (.iconst 0, 1) := by decide +kernel
theorem dX17_kindOf_26 : decode cX17_kindOf 26 = .ok (.ireturn, 1) := by decide +kernel
theorem dX17_isImmediate_0 : decode cX17_isImmediate 0 = .ok (.aload_n 0, 1) := by decide +kernel
theorem dX17_isImmediate_1 : decode cX17_isImmediate 1 = .ok (.iload_n 1, 1) := by decide +kernel
theorem dX17_isImmediate_2 : decode cX17_isImmediate 2 = .ok (.invokevirtual 396, 3) := by decide +kernel
theorem dX17_isImmediate_5 : decode cX17_isImmediate 5 = .ok (.ifCond .eq 24, 3) := by decide +kernel
theorem dX17_isImmediate_8 : decode cX17_isImmediate 8 = .ok (.aload_n 0, 1) := by decide +kernel
theorem dX17_isImmediate_9 : decode cX17_isImmediate 9 = .ok (.getfield 16, 3) := by decide +kernel
theorem dX17_isImmediate_12 : decode cX17_isImmediate 12 = .ok (.iload_n 1, 1) := by decide +kernel
theorem dX17_isImmediate_13 : decode cX17_isImmediate 13 = .ok (.invokevirtual 71, 3) := by decide +kernel
theorem dX17_isImmediate_16 : decode cX17_isImmediate 16 = .ok (.checkcast 122, 3) := by decide +kernel
theorem dX17_isImmediate_19 : decode cX17_isImmediate 19 = .ok (.getfield 307, 3) := by decide +kernel
theorem dX17_isImmediate_22 : decode cX17_isImmediate 22 = .ok (.ifCond .eq 7, 3) := by decide +kernel
theorem dX17_isImmediate_25 : decode cX17_isImmediate 25 = .ok (.iconst 1, 1) := by decide +kernel
theorem dX17_isImmediate_26 : decode cX17_isImmediate 26 = .ok (.goto 4, 3) := by decide +kernel
theorem dX17_isImmediate_29 : decode cX17_isImmediate 29 = .ok (.iconst 0, 1) := by decide +kernel
theorem dX17_isImmediate_30 : decode cX17_isImmediate 30 = .ok (.ireturn, 1) := by decide +kernel
theorem dX17_vocabularyOf_0 : decode cX17_vocabularyOf 0 = .ok (.aload_n 0, 1) := by decide +kernel
theorem dX17_vocabularyOf_1 : decode cX17_vocabularyOf 1 = .ok (.iload_n 1, 1) := by decide +kernel
theorem dX17_vocabularyOf_2 : decode cX17_vocabularyOf 2 = .ok (.invokevirtual 396, 3) := by decide +kernel
theorem dX17_vocabularyOf_5 : decode cX17_vocabularyOf 5 = .ok (.ifCond .eq 20, 3) := by decide +kernel
theorem dX17_vocabularyOf_8 : decode cX17_vocabularyOf 8 = .ok (.aload_n 0, 1) := by decide +kernel
theorem dX17_vocabularyOf_9 : decode cX17_vocabularyOf 9 = .ok (.getfield 16, 3) := by decide +kernel
theorem dX17_vocabularyOf_12 : decode cX17_vocabularyOf 12 = .ok (.iload_n 1, 1) := by decide +kernel
theorem dX17_vocabularyOf_13 : decode cX17_vocabularyOf 13 = .ok (.invokevirtual 71, 3) := by decide +kernel
theorem dX17_vocabularyOf_16 : decode cX17_vocabularyOf 16 = .ok (.checkcast 122, 3) := by decide +kernel
theorem dX17_vocabularyOf_19 : decode cX17_vocabularyOf 19 = .ok (.getfield 127, 3) := by decide +kernel
theorem dX17_vocabularyOf_22 : decode cX17_vocabularyOf 22 = .ok (.goto 4, 3) := by decide +kernel
theorem dX17_vocabularyOf_25 : decode cX17_vocabularyOf 25 = .ok (.iconst 0, 1) := by decide +kernel
theorem dX17_vocabularyOf_26 : decode cX17_vocabularyOf 26 = .ok (.ireturn, 1) := by decide +kernel
theorem dX17_find_0 : decode cX17_find 0 = .ok (.iload_n 1, 1) := by decide +kernel
theorem dX17_find_1 : decode cX17_find 1 = .ok (.iconst 0, 1) := by decide +kernel
theorem dX17_find_2 : decode cX17_find 2 = .ok (.bipush 15, 2) := by decide +kernel
theorem dX17_find_4 : decode cX17_find 4 = .ok (.invokestatic 278, 3) := by decide +kernel
theorem dX17_find_7 : decode cX17_find 7 = .ok (.ifCond .ne 9, 3) := by decide +kernel
theorem dX17_find_10 : decode cX17_find 10 = .ok (.aload_n 0, 1) := by decide +kernel
theorem dX17_find_11 : decode cX17_find 11 = .ok (.iconst 1, 1) := by decide +kernel
theorem dX17_find_12 : decode cX17_find 12 = .ok (.invokevirtual 366, 3) := by decide +kernel
theorem dX17_find_15 : decode cX17_find 15 = .ok (.ireturn, 1) := by decide +kernel
theorem dX17_find_16 : decode cX17_find 16 = .ok (.aload_n 0, 1) := by decide +kernel
theorem dX17_find_17 : decode cX17_find 17 = .ok (.iload_n 1, 1) := by decide +kernel
theorem dX17_find_18 : decode cX17_find 18 = .ok (.invokevirtual 137, 3) := by decide +kernel
theorem dX17_find_21 : decode cX17_find 21 = .ok (.istore_n 2, 1) := by decide +kernel
theorem dX17_find_22 : decode cX17_find 22 = .ok (.iload_n 2, 1) := by decide +kernel
theorem dX17_find_23 : decode cX17_find 23 = .ok (.iconst (-1), 1) := by decide +kernel
theorem dX17_find_24 : decode cX17_find 24 = .ok (.if_icmp .ne 11, 3) := by decide +kernel
theorem dX17_find_27 : decode cX17_find 27 = .ok (.aload_n 0, 1) := by decide +kernel
theorem dX17_find_28 : decode cX17_find 28 = .ok (.iconst 2, 1) := by decide +kernel
theorem dX17_find_29 : decode cX17_find 29 = .ok (.invokevirtual 366, 3) := by decide +kernel
theorem dX17_find_32 : decode cX17_find 32 = .ok (.goto 8, 3) := by decide +kernel
theorem dX17_find_35 : decode cX17_find 35 = .ok (.aload_n 0, 1) := by decide +kernel
theorem dX17_find_36 : decode cX17_find 36 = .ok (.iload_n 2, 1) := by decide +kernel
theorem dX17_find_37 : decode cX17_find 37 = .ok (.invokevirtual 369, 3) := by decide +kernel
theorem dX17_find_40 : decode cX17_find 40 = .ok (.ireturn, 1) := by decide +kernel
theorem dX17_ops_0 : decode cX17_ops 0 = .ok (.aload_n 0, 1) := by decide +kernel
theorem dX17_ops_1 : decode cX17_ops 1 = .ok (.iload_n 1, 1) := by decide +kernel
theorem dX17_ops_2 : decode cX17_ops 2 = .ok (.invokevirtual 396, 3) := by decide +kernel
theorem dX17_ops_5 : decode cX17_ops 5 = .ok (.ifCond .eq 23, 3) := by decide +kernel
theorem dX17_ops_8 : decode cX17_ops 8 = .ok (.aload_n 0, 1) := by decide +kernel
theorem dX17_ops_9 : decode cX17_ops 9 = .ok (.getfield 16, 3) := by decide +kernel
theorem dX17_ops_12 : decode cX17_ops 12 = .ok (.iload_n 1, 1) := by decide +kernel
theorem dX17_ops_13 : decode cX17_ops 13 = .ok (.invokevirtual 71, 3) := by decide +kernel
theorem dX17_ops_16 : decode cX17_ops 16 = .ok (.checkcast 122, 3) := by decide +kernel
theorem dX17_ops_19 : decode cX17_ops 19 = .ok (.getfield 149, 3) := by decide +kernel
theorem dX17_ops_22 : decode cX17_ops 22 = .ok (.invokevirtual 67, 3) := by decide +kernel
theorem dX17_ops_25 : decode cX17_ops 25 = .ok (.goto 4, 3) := by decide +kernel
theorem dX17_ops_28 : decode cX17_ops 28 = .ok (.iconst 0, 1) := by decide +kernel
theorem dX17_ops_29 : decode cX17_ops 29 = .ok (.ireturn, 1) := by decide +kernel
theorem dX17_isOp_0 : decode cX17_isOp 0 = .ok (.aload_n 0, 1) := by decide +kernel
theorem dX17_isOp_1 : decode cX17_isOp 1 = .ok (.iload_n 1, 1) := by decide +kernel
theorem dX17_isOp_2 : decode cX17_isOp 2 = .ok (.iconst 0, 1) := by decide +kernel
theorem dX17_isOp_3 : decode cX17_isOp 3 = .ok (.aload_n 0, 1) := by decide +kernel
theorem dX17_isOp_4 : decode cX17_isOp 4 = .ok (.getfield 16, 3) := by decide +kernel
theorem dX17_isOp_7 : decode cX17_isOp 7 = .ok (.invokevirtual 67, 3) := by decide +kernel
theorem dX17_isOp_10 : decode cX17_isOp 10 = .ok (.iconst 1, 1) := by decide +kernel
theorem dX17_isOp_11 : decode cX17_isOp 11 = .ok (.isub, 1) := by decide +kernel
theorem dX17_isOp_12 : decode cX17_isOp 12 = .ok (.invokestatic 278, 3) := by decide +kernel
theorem dX17_isOp_15 : decode cX17_isOp 15 = .ok (.ifCond .eq 34, 3) := by decide +kernel
theorem dX17_isOp_18 : decode cX17_isOp 18 = .ok (.iload_n 2, 1) := by decide +kernel
theorem dX17_isOp_19 : decode cX17_isOp 19 = .ok (.iconst 0, 1) := by decide +kernel
theorem dX17_isOp_20 : decode cX17_isOp 20 = .ok (.aload_n 0, 1) := by decide +kernel
theorem dX17_isOp_21 : decode cX17_isOp 21 = .ok (.getfield 16, 3) := by decide +kernel
theorem dX17_isOp_24 : decode cX17_isOp 24 = .ok (.iload_n 1, 1) := by decide +kernel
theorem dX17_isOp_25 : decode cX17_isOp 25 = .ok (.invokevirtual 71, 3) := by decide +kernel
theorem dX17_isOp_28 : decode cX17_isOp 28 = .ok (.checkcast 122, 3) := by decide +kernel
theorem dX17_isOp_31 : decode cX17_isOp 31 = .ok (.getfield 149, 3) := by decide +kernel
theorem dX17_isOp_34 : decode cX17_isOp 34 = .ok (.invokevirtual 67, 3) := by decide +kernel
theorem dX17_isOp_37 : decode cX17_isOp 37 = .ok (.iconst 1, 1) := by decide +kernel
theorem dX17_isOp_38 : decode cX17_isOp 38 = .ok (.isub, 1) := by decide +kernel
theorem dX17_isOp_39 : decode cX17_isOp 39 = .ok (.invokestatic 278, 3) := by decide +kernel
theorem dX17_isOp_42 : decode cX17_isOp 42 = .ok (.ifCond .eq 7, 3) := by decide +kernel
theorem dX17_isOp_45 : decode cX17_isOp 45 = .ok (.iconst 0, 1) := by decide +kernel
theorem dX17_isOp_46 : decode cX17_isOp 46 = .ok (.goto 4, 3) := by decide +kernel
theorem dX17_isOp_49 : decode cX17_isOp 49 = .ok (.iconst 1, 1) := by decide +kernel
theorem dX17_isOp_50 : decode cX17_isOp 50 = .ok (.putfield 60, 3) := by decide +kernel
theorem dX17_isOp_53 : decode cX17_isOp 53 = .ok (.aload_n 0, 1) := by decide +kernel
theorem dX17_isOp_54 : decode cX17_isOp 54 = .ok (.getfield 60, 3) := by decide +kernel
theorem dX17_isOp_57 : decode cX17_isOp 57 = .ok (.ifCond .ne 7, 3) := by decide +kernel
theorem dX17_isOp_60 : decode cX17_isOp 60 = .ok (.iconst 1, 1) := by decide +kernel
theorem dX17_isOp_61 : decode cX17_isOp 61 = .ok (.goto 4, 3) := by decide +kernel
theorem dX17_isOp_64 : decode cX17_isOp 64 = .ok (.iconst 0, 1) := by decide +kernel
theorem dX17_isOp_65 : decode cX17_isOp 65 = .ok (.ireturn, 1) := by decide +kernel
theorem dX17_opAt_0 : decode cX17_opAt 0 = .ok (.aload_n 0, 1) := by decide +kernel
theorem dX17_opAt_1 : decode cX17_opAt 1 = .ok (.iload_n 1, 1) := by decide +kernel
theorem dX17_opAt_2 : decode cX17_opAt 2 = .ok (.iload_n 2, 1) := by decide +kernel
theorem dX17_opAt_3 : decode cX17_opAt 3 = .ok (.invokevirtual 400, 3) := by decide +kernel
theorem dX17_opAt_6 : decode cX17_opAt 6 = .ok (.ifCond .eq 30, 3) := by decide +kernel
theorem dX17_opAt_9 : decode cX17_opAt 9 = .ok (.aload_n 0, 1) := by decide +kernel
theorem dX17_opAt_10 : decode cX17_opAt 10 = .ok (.getfield 16, 3) := by decide +kernel
theorem dX17_opAt_13 : decode cX17_opAt 13 = .ok (.iload_n 1, 1) := by decide +kernel
theorem dX17_opAt_14 : decode cX17_opAt 14 = .ok (.invokevirtual 71, 3) := by decide +kernel
theorem dX17_opAt_17 : decode cX17_opAt 17 = .ok (.checkcast 122, 3) := by decide +kernel
theorem dX17_opAt_20 : decode cX17_opAt 20 = .ok (.getfield 149, 3) := by decide +kernel
theorem dX17_opAt_23 : decode cX17_opAt 23 = .ok (.iload_n 2, 1) := by decide +kernel
theorem dX17_opAt_24 : decode cX17_opAt 24 = .ok (.invokevirtual 71, 3) := by decide +kernel
theorem dX17_opAt_27 : decode cX17_opAt 27 = .ok (.checkcast 113, 3) := by decide +kernel
theorem dX17_opAt_30 : decode cX17_opAt 30 = .ok (.getfield 115, 3) := by decide +kernel
theorem dX17_opAt_33 : decode cX17_opAt 33 = .ok (.goto 4, 3) := by decide +kernel
theorem dX17_opAt_36 : decode cX17_opAt 36 = .ok (.iconst 0, 1) := by decide +kernel
theorem dX17_opAt_37 : decode cX17_opAt 37 = .ok (.ireturn, 1) := by decide +kernel
theorem dX17_opNumber_0 : decode cX17_opNumber 0 = .ok (.aload_n 0, 1) := by decide +kernel
theorem dX17_opNumber_1 : decode cX17_opNumber 1 = .ok (.iload_n 1, 1) := by decide +kernel
theorem dX17_opNumber_2 : decode cX17_opNumber 2 = .ok (.iload_n 2, 1) := by decide +kernel
theorem dX17_opNumber_3 : decode cX17_opNumber 3 = .ok (.invokevirtual 400, 3) := by decide +kernel
theorem dX17_opNumber_6 : decode cX17_opNumber 6 = .ok (.ifCond .eq 30, 3) := by decide +kernel
theorem dX17_opNumber_9 : decode cX17_opNumber 9 = .ok (.aload_n 0, 1) := by decide +kernel
theorem dX17_opNumber_10 : decode cX17_opNumber 10 = .ok (.getfield 16, 3) := by decide +kernel
theorem dX17_opNumber_13 : decode cX17_opNumber 13 = .ok (.iload_n 1, 1) := by decide +kernel
theorem dX17_opNumber_14 : decode cX17_opNumber 14 = .ok (.invokevirtual 71, 3) := by decide +kernel
theorem dX17_opNumber_17 : decode cX17_opNumber 17 = .ok (.checkcast 122, 3) := by decide +kernel
theorem dX17_opNumber_20 : decode cX17_opNumber 20 = .ok (.getfield 149, 3) := by decide +kernel
theorem dX17_opNumber_23 : decode cX17_opNumber 23 = .ok (.iload_n 2, 1) := by decide +kernel
theorem dX17_opNumber_24 : decode cX17_opNumber 24 = .ok (.invokevirtual 71, 3) := by decide +kernel
theorem dX17_opNumber_27 : decode cX17_opNumber 27 = .ok (.checkcast 113, 3) := by decide +kernel
theorem dX17_opNumber_30 : decode cX17_opNumber 30 = .ok (.getfield 119, 3) := by decide +kernel
theorem dX17_opNumber_33 : decode cX17_opNumber 33 = .ok (.goto 4, 3) := by decide +kernel
theorem dX17_opNumber_36 : decode cX17_opNumber 36 = .ok (.iconst 0, 1) := by decide +kernel
theorem dX17_opNumber_37 : decode cX17_opNumber 37 = .ok (.ireturn, 1) := by decide +kernel
theorem dX17_effect_0 : decode cX17_effect 0 = .ok (.aload_n 0, 1) := by decide +kernel
theorem dX17_effect_1 : decode cX17_effect 1 = .ok (.iload_n 1, 1) := by decide +kernel
theorem dX17_effect_2 : decode cX17_effect 2 = .ok (.invokevirtual 396, 3) := by decide +kernel
theorem dX17_effect_5 : decode cX17_effect 5 = .ok (.ifCond .ne 5, 3) := by decide +kernel
theorem dX17_effect_8 : decode cX17_effect 8 = .ok (.iconst 0, 1) := by decide +kernel
theorem dX17_effect_9 : decode cX17_effect 9 = .ok (.ireturn, 1) := by decide +kernel
theorem dX17_effect_10 : decode cX17_effect 10 = .ok (.aload_n 0, 1) := by decide +kernel
theorem dX17_effect_11 : decode cX17_effect 11 = .ok (.invokevirtual 434, 3) := by decide +kernel
theorem dX17_effect_14 : decode cX17_effect 14 = .ok (.aload_n 0, 1) := by decide +kernel
theorem dX17_effect_15 : decode cX17_effect 15 = .ok (.getfield 53, 3) := by decide +kernel
theorem dX17_effect_18 : decode cX17_effect 18 = .ok (.iload_n 1, 1) := by decide +kernel
theorem dX17_effect_19 : decode cX17_effect 19 = .ok (.baload, 1) := by decide +kernel
theorem dX17_effect_20 : decode cX17_effect 20 = .ok (.ifCond .eq 22, 3) := by decide +kernel
theorem dX17_effect_23 : decode cX17_effect 23 = .ok (.bipush 100, 2) := by decide +kernel
theorem dX17_effect_25 : decode cX17_effect 25 = .ok (.aload_n 0, 1) := by decide +kernel
theorem dX17_effect_26 : decode cX17_effect 26 = .ok (.getfield 44, 3) := by decide +kernel
theorem dX17_effect_29 : decode cX17_effect 29 = .ok (.iload_n 1, 1) := by decide +kernel
theorem dX17_effect_30 : decode cX17_effect 30 = .ok (.iaload, 1) := by decide +kernel
theorem dX17_effect_31 : decode cX17_effect 31 = .ok (.imul, 1) := by decide +kernel
theorem dX17_effect_32 : decode cX17_effect 32 = .ok (.aload_n 0, 1) := by decide +kernel
theorem dX17_effect_33 : decode cX17_effect 33 = .ok (.getfield 47, 3) := by decide +kernel
theorem dX17_effect_36 : decode cX17_effect 36 = .ok (.iload_n 1, 1) := by decide +kernel
theorem dX17_effect_37 : decode cX17_effect 37 = .ok (.iaload, 1) := by decide +kernel
theorem dX17_effect_38 : decode cX17_effect 38 = .ok (.iadd, 1) := by decide +kernel
theorem dX17_effect_39 : decode cX17_effect 39 = .ok (.goto 8, 3) := by decide +kernel
theorem dX17_effect_42 : decode cX17_effect 42 = .ok (.aload_n 0, 1) := by decide +kernel
theorem dX17_effect_43 : decode cX17_effect 43 = .ok (.iconst 2, 1) := by decide +kernel
theorem dX17_effect_44 : decode cX17_effect 44 = .ok (.invokevirtual 366, 3) := by decide +kernel
theorem dX17_effect_47 : decode cX17_effect 47 = .ok (.ireturn, 1) := by decide +kernel
theorem dX17_isMaking_0 : decode cX17_isMaking 0 = .ok (.aload_n 0, 1) := by decide +kernel
theorem dX17_isMaking_1 : decode cX17_isMaking 1 = .ok (.iconst 0, 1) := by decide +kernel
theorem dX17_isMaking_2 : decode cX17_isMaking 2 = .ok (.putfield 60, 3) := by decide +kernel
theorem dX17_isMaking_5 : decode cX17_isMaking 5 = .ok (.aload_n 0, 1) := by decide +kernel
theorem dX17_isMaking_6 : decode cX17_isMaking 6 = .ok (.getfield 145, 3) := by decide +kernel
theorem dX17_isMaking_9 : decode cX17_isMaking 9 = .ok (.ifnull 7, 3) := by decide +kernel
theorem dX17_isMaking_12 : decode cX17_isMaking 12 = .ok (.iconst 1, 1) := by decide +kernel
theorem dX17_isMaking_13 : decode cX17_isMaking 13 = .ok (.goto 4, 3) := by decide +kernel
theorem dX17_isMaking_16 : decode cX17_isMaking 16 = .ok (.iconst 0, 1) := by decide +kernel
theorem dX17_isMaking_17 : decode cX17_isMaking 17 = .ok (.ireturn, 1) := by decide +kernel
theorem dX17_steps_0 : decode cX17_steps 0 = .ok (.aload_n 0, 1) := by decide +kernel
theorem dX17_steps_1 : decode cX17_steps 1 = .ok (.iconst 0, 1) := by decide +kernel
theorem dX17_steps_2 : decode cX17_steps 2 = .ok (.putfield 60, 3) := by decide +kernel
theorem dX17_steps_5 : decode cX17_steps 5 = .ok (.aload_n 0, 1) := by decide +kernel
theorem dX17_steps_6 : decode cX17_steps 6 = .ok (.getfield 92, 3) := by decide +kernel
theorem dX17_steps_9 : decode cX17_steps 9 = .ok (.lreturn, 1) := by decide +kernel
theorem dX17_lines_0 : decode cX17_lines 0 = .ok (.aload_n 0, 1) := by decide +kernel
theorem dX17_lines_1 : decode cX17_lines 1 = .ok (.aload_n 0, 1) := by decide +kernel
theorem dX17_lines_2 : decode cX17_lines 2 = .ok (.getfield 386, 3) := by decide +kernel
theorem dX17_lines_5 : decode cX17_lines 5 = .ok (.invokevirtual 369, 3) := by decide +kernel
theorem dX17_lines_8 : decode cX17_lines 8 = .ok (.ireturn, 1) := by decide +kernel
theorem dX17_errorShare_0 : decode cX17_errorShare 0 = .ok (.aload_n 0, 1) := by decide +kernel
theorem dX17_errorShare_1 : decode cX17_errorShare 1 = .ok (.aload_n 0, 1) := by decide +kernel
theorem dX17_errorShare_2 : decode cX17_errorShare 2 = .ok (.getfield 386, 3) := by decide +kernel
theorem dX17_errorShare_5 : decode cX17_errorShare 5 = .ok (.ifCond .ne 7, 3) := by decide +kernel
theorem dX17_errorShare_8 : decode cX17_errorShare 8 = .ok (.iconst 1, 1) := by decide +kernel
theorem dX17_errorShare_9 : decode cX17_errorShare 9 = .ok (.goto 4, 3) := by decide +kernel
theorem dX17_errorShare_12 : decode cX17_errorShare 12 = .ok (.iconst 0, 1) := by decide +kernel
theorem dX17_errorShare_13 : decode cX17_errorShare 13 = .ok (.putfield 60, 3) := by decide +kernel
theorem dX17_errorShare_16 : decode cX17_errorShare 16 = .ok (.aload_n 0, 1) := by decide +kernel
theorem dX17_errorShare_17 : decode cX17_errorShare 17 = .ok (.getfield 386, 3) := by decide +kernel
theorem dX17_errorShare_20 : decode cX17_errorShare 20 = .ok (.ifCond .ne 7, 3) := by decide +kernel
theorem dX17_errorShare_23 : decode cX17_errorShare 23 = .ok (.fconst 0, 1) := by decide +kernel
theorem dX17_errorShare_24 : decode cX17_errorShare 24 = .ok (.goto 14, 3) := by decide +kernel
theorem dX17_errorShare_27 : decode cX17_errorShare 27 = .ok (.aload_n 0, 1) := by decide +kernel
theorem dX17_errorShare_28 : decode cX17_errorShare 28 = .ok (.getfield 383, 3) := by decide +kernel
theorem dX17_errorShare_31 : decode cX17_errorShare 31 = .ok (.i2f, 1) := by decide +kernel
theorem dX17_errorShare_32 : decode cX17_errorShare 32 = .ok (.aload_n 0, 1) := by decide +kernel
theorem dX17_errorShare_33 : decode cX17_errorShare 33 = .ok (.getfield 386, 3) := by decide +kernel
theorem dX17_errorShare_36 : decode cX17_errorShare 36 = .ok (.i2f, 1) := by decide +kernel
theorem dX17_errorShare_37 : decode cX17_errorShare 37 = .ok (.fdiv, 1) := by decide +kernel
theorem dX17_errorShare_38 : decode cX17_errorShare 38 = .ok (.freturn, 1) := by decide +kernel
theorem dX17_meanSteps_0 : decode cX17_meanSteps 0 = .ok (.aload_n 0, 1) := by decide +kernel
theorem dX17_meanSteps_1 : decode cX17_meanSteps 1 = .ok (.aload_n 0, 1) := by decide +kernel
theorem dX17_meanSteps_2 : decode cX17_meanSteps 2 = .ok (.getfield 386, 3) := by decide +kernel
theorem dX17_meanSteps_5 : decode cX17_meanSteps 5 = .ok (.ifCond .ne 7, 3) := by decide +kernel
theorem dX17_meanSteps_8 : decode cX17_meanSteps 8 = .ok (.iconst 1, 1) := by decide +kernel
theorem dX17_meanSteps_9 : decode cX17_meanSteps 9 = .ok (.goto 4, 3) := by decide +kernel
theorem dX17_meanSteps_12 : decode cX17_meanSteps 12 = .ok (.iconst 0, 1) := by decide +kernel
theorem dX17_meanSteps_13 : decode cX17_meanSteps 13 = .ok (.putfield 60, 3) := by decide +kernel
theorem dX17_meanSteps_16 : decode cX17_meanSteps 16 = .ok (.aload_n 0, 1) := by decide +kernel
theorem dX17_meanSteps_17 : decode cX17_meanSteps 17 = .ok (.getfield 386, 3) := by decide +kernel
theorem dX17_meanSteps_20 : decode cX17_meanSteps 20 = .ok (.ifCond .ne 7, 3) := by decide +kernel
theorem dX17_meanSteps_23 : decode cX17_meanSteps 23 = .ok (.dconst 0, 1) := by decide +kernel
theorem dX17_meanSteps_24 : decode cX17_meanSteps 24 = .ok (.goto 14, 3) := by decide +kernel
theorem dX17_meanSteps_27 : decode cX17_meanSteps 27 = .ok (.aload_n 0, 1) := by decide +kernel
theorem dX17_meanSteps_28 : decode cX17_meanSteps 28 = .ok (.getfield 92, 3) := by decide +kernel
theorem dX17_meanSteps_31 : decode cX17_meanSteps 31 = .ok (.l2d, 1) := by decide +kernel
theorem dX17_meanSteps_32 : decode cX17_meanSteps 32 = .ok (.aload_n 0, 1) := by decide +kernel
theorem dX17_meanSteps_33 : decode cX17_meanSteps 33 = .ok (.getfield 386, 3) := by decide +kernel
theorem dX17_meanSteps_36 : decode cX17_meanSteps 36 = .ok (.i2d, 1) := by decide +kernel
theorem dX17_meanSteps_37 : decode cX17_meanSteps 37 = .ok (.ddiv, 1) := by decide +kernel
theorem dX17_meanSteps_38 : decode cX17_meanSteps 38 = .ok (.dreturn, 1) := by decide +kernel
theorem dX17_isSound_0 : decode cX17_isSound 0 = .ok (.aload_n 0, 1) := by decide +kernel
theorem dX17_isSound_1 : decode cX17_isSound 1 = .ok (.iconst 0, 1) := by decide +kernel
theorem dX17_isSound_2 : decode cX17_isSound 2 = .ok (.putfield 60, 3) := by decide +kernel
theorem dX17_isSound_5 : decode cX17_isSound 5 = .ok (.iconst 1, 1) := by decide +kernel
theorem dX17_isSound_6 : decode cX17_isSound 6 = .ok (.ireturn, 1) := by decide +kernel
theorem dJ0_length_8abf5_0 : decode cJ0_length_8abf5 0 = .ok (.aload_n 0, 1) := by decide +kernel
theorem dJ0_length_8abf5_1 : decode cJ0_length_8abf5 1 = .ok (.getfield 9, 3) := by decide +kernel
theorem dJ0_length_8abf5_4 : decode cJ0_length_8abf5 4 = .ok (.arraylength, 1) := by decide +kernel
theorem dJ0_length_8abf5_5 : decode cJ0_length_8abf5 5 = .ok (.aload_n 0, 1) := by decide +kernel
theorem dJ0_length_8abf5_6 : decode cJ0_length_8abf5 6 = .ok (.invokevirtual 335, 3) := by decide +kernel
theorem dJ0_length_8abf5_9 : decode cJ0_length_8abf5 9 = .ok (.ishr, 1) := by decide +kernel
theorem dJ0_length_8abf5_10 : decode cJ0_length_8abf5 10 = .ok (.ireturn, 1) := by decide +kernel
theorem dJ0_indexOf_0f7a4_0 : decode cJ0_indexOf_0f7a4 0 = .ok (.aload_n 0, 1) := by decide +kernel
theorem dJ0_indexOf_0f7a4_1 : decode cJ0_indexOf_0f7a4 1 = .ok (.iload_n 1, 1) := by decide +kernel
theorem dJ0_indexOf_0f7a4_2 : decode cJ0_indexOf_0f7a4 2 = .ok (.iconst 0, 1) := by decide +kernel
theorem dJ0_indexOf_0f7a4_3 : decode cJ0_indexOf_0f7a4 3 = .ok (.invokevirtual 633, 3) := by decide +kernel
theorem dJ0_indexOf_0f7a4_6 : decode cJ0_indexOf_0f7a4 6 = .ok (.ireturn, 1) := by decide +kernel
theorem dJ0_indexOf_7cf53_0 : decode cJ0_indexOf_7cf53 0 = .ok (.aload_n 0, 1) := by decide +kernel
theorem dJ0_indexOf_7cf53_1 : decode cJ0_indexOf_7cf53 1 = .ok (.invokevirtual 492, 3) := by decide +kernel
theorem dJ0_indexOf_7cf53_4 : decode cJ0_indexOf_7cf53 4 = .ok (.ifCond .eq 19, 3) := by decide +kernel
theorem dJ0_indexOf_7cf53_7 : decode cJ0_indexOf_7cf53 7 = .ok (.aload_n 0, 1) := by decide +kernel
theorem dJ0_indexOf_7cf53_8 : decode cJ0_indexOf_7cf53 8 = .ok (.getfield 9, 3) := by decide +kernel
theorem dJ0_indexOf_7cf53_11 : decode cJ0_indexOf_7cf53 11 = .ok (.iload_n 1, 1) := by decide +kernel
theorem dJ0_indexOf_7cf53_12 : decode cJ0_indexOf_7cf53 12 = .ok (.iload_n 2, 1) := by decide +kernel
theorem dJ0_indexOf_7cf53_13 : decode cJ0_indexOf_7cf53 13 = .ok (.aload_n 0, 1) := by decide +kernel
theorem dJ0_indexOf_7cf53_14 : decode cJ0_indexOf_7cf53 14 = .ok (.invokevirtual 505, 3) := by decide +kernel
theorem dJ0_indexOf_7cf53_17 : decode cJ0_indexOf_7cf53 17 = .ok (.invokestatic 637, 3) := by decide +kernel
theorem dJ0_indexOf_7cf53_20 : decode cJ0_indexOf_7cf53 20 = .ok (.goto 16, 3) := by decide +kernel
theorem dJ0_indexOf_7cf53_23 : decode cJ0_indexOf_7cf53 23 = .ok (.aload_n 0, 1) := by decide +kernel
theorem dJ0_indexOf_7cf53_24 : decode cJ0_indexOf_7cf53 24 = .ok (.getfield 9, 3) := by decide +kernel
theorem dJ0_indexOf_7cf53_27 : decode cJ0_indexOf_7cf53 27 = .ok (.iload_n 1, 1) := by decide +kernel
theorem dJ0_indexOf_7cf53_28 : decode cJ0_indexOf_7cf53 28 = .ok (.iload_n 2, 1) := by decide +kernel
theorem dJ0_indexOf_7cf53_29 : decode cJ0_indexOf_7cf53 29 = .ok (.aload_n 0, 1) := by decide +kernel
theorem dJ0_indexOf_7cf53_30 : decode cJ0_indexOf_7cf53 30 = .ok (.invokevirtual 505, 3) := by decide +kernel
theorem dJ0_indexOf_7cf53_33 : decode cJ0_indexOf_7cf53 33 = .ok (.invokestatic 640, 3) := by decide +kernel
theorem dJ0_indexOf_7cf53_36 : decode cJ0_indexOf_7cf53 36 = .ok (.ireturn, 1) := by decide +kernel
theorem dJ0_coder_7d493_0 : decode cJ0_coder_7d493 0 = .ok (.getstatic 38, 3) := by decide +kernel
theorem dJ0_coder_7d493_3 : decode cJ0_coder_7d493 3 = .ok (.ifCond .eq 10, 3) := by decide +kernel
theorem dJ0_coder_7d493_6 : decode cJ0_coder_7d493 6 = .ok (.aload_n 0, 1) := by decide +kernel
theorem dJ0_coder_7d493_7 : decode cJ0_coder_7d493 7 = .ok (.getfield 15, 3) := by decide +kernel
theorem dJ0_coder_7d493_10 : decode cJ0_coder_7d493 10 = .ok (.goto 4, 3) := by decide +kernel
theorem dJ0_coder_7d493_13 : decode cJ0_coder_7d493 13 = .ok (.iconst 1, 1) := by decide +kernel
theorem dJ0_coder_7d493_14 : decode cJ0_coder_7d493 14 = .ok (.ireturn, 1) := by decide +kernel
theorem dJ0_isLatin1_aae02_0 : decode cJ0_isLatin1_aae02 0 = .ok (.getstatic 38, 3) := by decide +kernel
theorem dJ0_isLatin1_aae02_3 : decode cJ0_isLatin1_aae02 3 = .ok (.ifCond .eq 14, 3) := by decide +kernel
theorem dJ0_isLatin1_aae02_6 : decode cJ0_isLatin1_aae02 6 = .ok (.aload_n 0, 1) := by decide +kernel
theorem dJ0_isLatin1_aae02_7 : decode cJ0_isLatin1_aae02 7 = .ok (.getfield 15, 3) := by decide +kernel
theorem dJ0_isLatin1_aae02_10 : decode cJ0_isLatin1_aae02 10 = .ok (.ifCond .ne 7, 3) := by decide +kernel
theorem dJ0_isLatin1_aae02_13 : decode cJ0_isLatin1_aae02 13 = .ok (.iconst 1, 1) := by decide +kernel
theorem dJ0_isLatin1_aae02_14 : decode cJ0_isLatin1_aae02 14 = .ok (.goto 4, 3) := by decide +kernel
theorem dJ0_isLatin1_aae02_17 : decode cJ0_isLatin1_aae02 17 = .ok (.iconst 0, 1) := by decide +kernel
theorem dJ0_isLatin1_aae02_18 : decode cJ0_isLatin1_aae02 18 = .ok (.ireturn, 1) := by decide +kernel
theorem dJ1_canEncode_9a6ad_0 : decode cJ1_canEncode_9a6ad 0 = .ok (.iload_n 0, 1) := by decide +kernel
theorem dJ1_canEncode_9a6ad_1 : decode cJ1_canEncode_9a6ad 1 = .ok (.ifCond .lt 14, 3) := by decide +kernel
theorem dJ1_canEncode_9a6ad_4 : decode cJ1_canEncode_9a6ad 4 = .ok (.iload_n 0, 1) := by decide +kernel
theorem dJ1_canEncode_9a6ad_5 : decode cJ1_canEncode_9a6ad 5 = .ok (.sipush 255, 3) := by decide +kernel
theorem dJ1_canEncode_9a6ad_8 : decode cJ1_canEncode_9a6ad 8 = .ok (.if_icmp .gt 7, 3) := by decide +kernel
theorem dJ1_canEncode_9a6ad_11 : decode cJ1_canEncode_9a6ad 11 = .ok (.iconst 1, 1) := by decide +kernel
theorem dJ1_canEncode_9a6ad_12 : decode cJ1_canEncode_9a6ad 12 = .ok (.goto 4, 3) := by decide +kernel
theorem dJ1_canEncode_9a6ad_15 : decode cJ1_canEncode_9a6ad 15 = .ok (.iconst 0, 1) := by decide +kernel
theorem dJ1_canEncode_9a6ad_16 : decode cJ1_canEncode_9a6ad 16 = .ok (.ireturn, 1) := by decide +kernel
theorem dJ1_indexOf_4cfef_0 : decode cJ1_indexOf_4cfef 0 = .ok (.iload_n 1, 1) := by decide +kernel
theorem dJ1_indexOf_4cfef_1 : decode cJ1_indexOf_4cfef 1 = .ok (.invokestatic 88, 3) := by decide +kernel
theorem dJ1_indexOf_4cfef_4 : decode cJ1_indexOf_4cfef 4 = .ok (.ifCond .ne 5, 3) := by decide +kernel
theorem dJ1_indexOf_4cfef_7 : decode cJ1_indexOf_4cfef 7 = .ok (.iconst (-1), 1) := by decide +kernel
theorem dJ1_indexOf_4cfef_8 : decode cJ1_indexOf_4cfef 8 = .ok (.ireturn, 1) := by decide +kernel
theorem dJ1_indexOf_4cfef_9 : decode cJ1_indexOf_4cfef 9 = .ok (.iload_n 2, 1) := by decide +kernel
theorem dJ1_indexOf_4cfef_10 : decode cJ1_indexOf_4cfef 10 = .ok (.iconst 0, 1) := by decide +kernel
theorem dJ1_indexOf_4cfef_11 : decode cJ1_indexOf_4cfef 11 = .ok (.invokestatic 92, 3) := by decide +kernel
theorem dJ1_indexOf_4cfef_14 : decode cJ1_indexOf_4cfef 14 = .ok (.istore_n 2, 1) := by decide +kernel
theorem dJ1_indexOf_4cfef_15 : decode cJ1_indexOf_4cfef 15 = .ok (.iload_n 3, 1) := by decide +kernel
theorem dJ1_indexOf_4cfef_16 : decode cJ1_indexOf_4cfef 16 = .ok (.aload_n 0, 1) := by decide +kernel
theorem dJ1_indexOf_4cfef_17 : decode cJ1_indexOf_4cfef 17 = .ok (.arraylength, 1) := by decide +kernel
theorem dJ1_indexOf_4cfef_18 : decode cJ1_indexOf_4cfef 18 = .ok (.invokestatic 38, 3) := by decide +kernel
theorem dJ1_indexOf_4cfef_21 : decode cJ1_indexOf_4cfef 21 = .ok (.istore_n 3, 1) := by decide +kernel
theorem dJ1_indexOf_4cfef_22 : decode cJ1_indexOf_4cfef 22 = .ok (.iload_n 2, 1) := by decide +kernel
theorem dJ1_indexOf_4cfef_23 : decode cJ1_indexOf_4cfef 23 = .ok (.iload_n 3, 1) := by decide +kernel
theorem dJ1_indexOf_4cfef_24 : decode cJ1_indexOf_4cfef 24 = .ok (.if_icmp .lt 5, 3) := by decide +kernel
theorem dJ1_indexOf_4cfef_27 : decode cJ1_indexOf_4cfef 27 = .ok (.iconst (-1), 1) := by decide +kernel
theorem dJ1_indexOf_4cfef_28 : decode cJ1_indexOf_4cfef 28 = .ok (.ireturn, 1) := by decide +kernel
theorem dJ1_indexOf_4cfef_29 : decode cJ1_indexOf_4cfef 29 = .ok (.aload_n 0, 1) := by decide +kernel
theorem dJ1_indexOf_4cfef_30 : decode cJ1_indexOf_4cfef 30 = .ok (.iload_n 1, 1) := by decide +kernel
theorem dJ1_indexOf_4cfef_31 : decode cJ1_indexOf_4cfef 31 = .ok (.iload_n 2, 1) := by decide +kernel
theorem dJ1_indexOf_4cfef_32 : decode cJ1_indexOf_4cfef 32 = .ok (.iload_n 3, 1) := by decide +kernel
theorem dJ1_indexOf_4cfef_33 : decode cJ1_indexOf_4cfef 33 = .ok (.invokestatic 95, 3) := by decide +kernel
theorem dJ1_indexOf_4cfef_36 : decode cJ1_indexOf_4cfef 36 = .ok (.ireturn, 1) := by decide +kernel
theorem dJ1_indexOfChar_4cfef_0 : decode cJ1_indexOfChar_4cfef 0 = .ok (.iload_n 1, 1) := by decide +kernel
theorem dJ1_indexOfChar_4cfef_1 : decode cJ1_indexOfChar_4cfef 1 = .ok (.i2b, 1) := by decide +kernel
theorem dJ1_indexOfChar_4cfef_2 : decode cJ1_indexOfChar_4cfef 2 = .ok (.istore 4, 2) := by decide +kernel
theorem dJ1_indexOfChar_4cfef_4 : decode cJ1_indexOfChar_4cfef 4 = .ok (.iload_n 2, 1) := by decide +kernel
theorem dJ1_indexOfChar_4cfef_5 : decode cJ1_indexOfChar_4cfef 5 = .ok (.istore 5, 2) := by decide +kernel
theorem dJ1_indexOfChar_4cfef_7 : decode cJ1_indexOfChar_4cfef 7 = .ok (.iload 5, 2) := by decide +kernel
theorem dJ1_indexOfChar_4cfef_9 : decode cJ1_indexOfChar_4cfef 9 = .ok (.iload_n 3, 1) := by decide +kernel
theorem dJ1_indexOfChar_4cfef_10 : decode cJ1_indexOfChar_4cfef 10 = .ok (.if_icmp .ge 21, 3) := by decide +kernel
theorem dJ1_indexOfChar_4cfef_13 : decode cJ1_indexOfChar_4cfef 13 = .ok (.aload_n 0, 1) := by decide +kernel
theorem dJ1_indexOfChar_4cfef_14 : decode cJ1_indexOfChar_4cfef 14 = .ok (.iload 5, 2) := by decide +kernel
theorem dJ1_indexOfChar_4cfef_16 : decode cJ1_indexOfChar_4cfef 16 = .ok (.baload, 1) := by decide +kernel
theorem dJ1_indexOfChar_4cfef_17 : decode cJ1_indexOfChar_4cfef 17 = .ok (.iload 4, 2) := by decide +kernel
theorem dJ1_indexOfChar_4cfef_19 : decode cJ1_indexOfChar_4cfef 19 = .ok (.if_icmp .ne 6, 3) := by decide +kernel
theorem dJ1_indexOfChar_4cfef_22 : decode cJ1_indexOfChar_4cfef 22 = .ok (.iload 5, 2) := by decide +kernel
theorem dJ1_indexOfChar_4cfef_24 : decode cJ1_indexOfChar_4cfef 24 = .ok (.ireturn, 1) := by decide +kernel
theorem dJ1_indexOfChar_4cfef_25 : decode cJ1_indexOfChar_4cfef 25 = .ok (.iinc 5 1, 3) := by decide +kernel
theorem dJ1_indexOfChar_4cfef_28 : decode cJ1_indexOfChar_4cfef 28 = .ok (.goto (-21), 3) := by decide +kernel
theorem dJ1_indexOfChar_4cfef_31 : decode cJ1_indexOfChar_4cfef 31 = .ok (.iconst (-1), 1) := by decide +kernel
theorem dJ1_indexOfChar_4cfef_32 : decode cJ1_indexOfChar_4cfef 32 = .ok (.ireturn, 1) := by decide +kernel
theorem dJxa1e45_init_da8c8_0 : decode cJxa1e45_init_da8c8 0 = .ok (.aload_n 0, 1) := by decide +kernel
theorem dJxa1e45_init_da8c8_1 : decode cJxa1e45_init_da8c8 1 = .ok (.invokespecial 1, 3) := by decide +kernel
theorem dJxa1e45_init_da8c8_4 : decode cJxa1e45_init_da8c8 4 = .ok (.return_, 1) := by decide +kernel
theorem dJxc12de_init_da8c8_0 : decode cJxc12de_init_da8c8 0 = .ok (.aload_n 0, 1) := by decide +kernel
theorem dJxc12de_init_da8c8_1 : decode cJxc12de_init_da8c8 1 = .ok (.invokespecial 1, 3) := by decide +kernel
theorem dJxc12de_init_da8c8_4 : decode cJxc12de_init_da8c8 4 = .ok (.aload_n 0, 1) := by decide +kernel
theorem dJxc12de_init_da8c8_5 : decode cJxc12de_init_da8c8 5 = .ok (.iconst 0, 1) := by decide +kernel
theorem dJxc12de_init_da8c8_6 : decode cJxc12de_init_da8c8 6 = .ok (.putfield 7, 3) := by decide +kernel
theorem dJxc12de_init_da8c8_9 : decode cJxc12de_init_da8c8 9 = .ok (.return_, 1) := by decide +kernel
theorem dJx4a65c_init_da8c8_0 : decode cJx4a65c_init_da8c8 0 = .ok (.aload_n 0, 1) := by decide +kernel
theorem dJx4a65c_init_da8c8_1 : decode cJx4a65c_init_da8c8 1 = .ok (.invokespecial 1, 3) := by decide +kernel
theorem dJx4a65c_init_da8c8_4 : decode cJx4a65c_init_da8c8 4 = .ok (.aload_n 0, 1) := by decide +kernel
theorem dJx4a65c_init_da8c8_5 : decode cJx4a65c_init_da8c8 5 = .ok (.getstatic 39, 3) := by decide +kernel
theorem dJx4a65c_init_da8c8_8 : decode cJx4a65c_init_da8c8 8 = .ok (.putfield 9, 3) := by decide +kernel
theorem dJx4a65c_init_da8c8_11 : decode cJx4a65c_init_da8c8 11 = .ok (.return_, 1) := by decide +kernel
theorem dJx4a65c_grow_92f84_0 : decode cJx4a65c_grow_92f84 0 = .ok (.aload_n 0, 1) := by decide +kernel
theorem dJx4a65c_grow_92f84_1 : decode cJx4a65c_grow_92f84 1 = .ok (.getfield 9, 3) := by decide +kernel
theorem dJx4a65c_grow_92f84_4 : decode cJx4a65c_grow_92f84 4 = .ok (.arraylength, 1) := by decide +kernel
theorem dJx4a65c_grow_92f84_5 : decode cJx4a65c_grow_92f84 5 = .ok (.istore_n 2, 1) := by decide +kernel
theorem dJx4a65c_grow_92f84_6 : decode cJx4a65c_grow_92f84 6 = .ok (.iload_n 2, 1) := by decide +kernel
theorem dJx4a65c_grow_92f84_7 : decode cJx4a65c_grow_92f84 7 = .ok (.ifCond .gt 13, 3) := by decide +kernel
theorem dJx4a65c_grow_92f84_10 : decode cJx4a65c_grow_92f84 10 = .ok (.aload_n 0, 1) := by decide +kernel
theorem dJx4a65c_grow_92f84_11 : decode cJx4a65c_grow_92f84 11 = .ok (.getfield 9, 3) := by decide +kernel
theorem dJx4a65c_grow_92f84_14 : decode cJx4a65c_grow_92f84 14 = .ok (.getstatic 39, 3) := by decide +kernel
theorem dJx4a65c_grow_92f84_17 : decode cJx4a65c_grow_92f84 17 = .ok (.if_acmp .eq 28, 3) := by decide +kernel
theorem dJx4a65c_grow_92f84_20 : decode cJx4a65c_grow_92f84 20 = .ok (.iload_n 2, 1) := by decide +kernel
theorem dJx4a65c_grow_92f84_21 : decode cJx4a65c_grow_92f84 21 = .ok (.iload_n 1, 1) := by decide +kernel
theorem dJx4a65c_grow_92f84_22 : decode cJx4a65c_grow_92f84 22 = .ok (.iload_n 2, 1) := by decide +kernel
theorem dJx4a65c_grow_92f84_23 : decode cJx4a65c_grow_92f84 23 = .ok (.isub, 1) := by decide +kernel
theorem dJx4a65c_grow_92f84_24 : decode cJx4a65c_grow_92f84 24 = .ok (.iload_n 2, 1) := by decide +kernel
theorem dJx4a65c_grow_92f84_25 : decode cJx4a65c_grow_92f84 25 = .ok (.iconst 1, 1) := by decide +kernel
theorem dJx4a65c_grow_92f84_26 : decode cJx4a65c_grow_92f84 26 = .ok (.ishr, 1) := by decide +kernel
theorem dJx4a65c_grow_92f84_27 : decode cJx4a65c_grow_92f84 27 = .ok (.invokestatic 73, 3) := by decide +kernel
theorem dJx4a65c_grow_92f84_30 : decode cJx4a65c_grow_92f84 30 = .ok (.istore_n 3, 1) := by decide +kernel
theorem dJx4a65c_grow_92f84_31 : decode cJx4a65c_grow_92f84 31 = .ok (.aload_n 0, 1) := by decide +kernel
theorem dJx4a65c_grow_92f84_32 : decode cJx4a65c_grow_92f84 32 = .ok (.aload_n 0, 1) := by decide +kernel
theorem dJx4a65c_grow_92f84_33 : decode cJx4a65c_grow_92f84 33 = .ok (.getfield 9, 3) := by decide +kernel
theorem dJx4a65c_grow_92f84_36 : decode cJx4a65c_grow_92f84 36 = .ok (.iload_n 3, 1) := by decide +kernel
theorem dJx4a65c_grow_92f84_37 : decode cJx4a65c_grow_92f84 37 = .ok (.invokestatic 66, 3) := by decide +kernel
theorem dJx4a65c_grow_92f84_40 : decode cJx4a65c_grow_92f84 40 = .ok (.dup_x1, 1) := by decide +kernel
theorem dJx4a65c_grow_92f84_41 : decode cJx4a65c_grow_92f84 41 = .ok (.putfield 9, 3) := by decide +kernel
theorem dJx4a65c_grow_92f84_44 : decode cJx4a65c_grow_92f84 44 = .ok (.areturn, 1) := by decide +kernel
theorem dJx4a65c_grow_92f84_45 : decode cJx4a65c_grow_92f84 45 = .ok (.aload_n 0, 1) := by decide +kernel
theorem dJx4a65c_grow_92f84_46 : decode cJx4a65c_grow_92f84 46 = .ok (.bipush 10, 2) := by decide +kernel
theorem dJx4a65c_grow_92f84_48 : decode cJx4a65c_grow_92f84 48 = .ok (.iload_n 1, 1) := by decide +kernel
theorem dJx4a65c_grow_92f84_49 : decode cJx4a65c_grow_92f84 49 = .ok (.invokestatic 79, 3) := by decide +kernel
theorem dJx4a65c_grow_92f84_52 : decode cJx4a65c_grow_92f84 52 = .ok (.anewarray 7, 3) := by decide +kernel
theorem dJx4a65c_grow_92f84_55 : decode cJx4a65c_grow_92f84 55 = .ok (.dup_x1, 1) := by decide +kernel
theorem dJx4a65c_grow_92f84_56 : decode cJx4a65c_grow_92f84 56 = .ok (.putfield 9, 3) := by decide +kernel
theorem dJx4a65c_grow_92f84_59 : decode cJx4a65c_grow_92f84 59 = .ok (.areturn, 1) := by decide +kernel
theorem dJx4a65c_grow_d5877_0 : decode cJx4a65c_grow_d5877 0 = .ok (.aload_n 0, 1) := by decide +kernel
theorem dJx4a65c_grow_d5877_1 : decode cJx4a65c_grow_d5877 1 = .ok (.aload_n 0, 1) := by decide +kernel
theorem dJx4a65c_grow_d5877_2 : decode cJx4a65c_grow_d5877 2 = .ok (.getfield 48, 3) := by decide +kernel
theorem dJx4a65c_grow_d5877_5 : decode cJx4a65c_grow_d5877 5 = .ok (.iconst 1, 1) := by decide +kernel
theorem dJx4a65c_grow_d5877_6 : decode cJx4a65c_grow_d5877 6 = .ok (.iadd, 1) := by decide +kernel
theorem dJx4a65c_grow_d5877_7 : decode cJx4a65c_grow_d5877 7 = .ok (.invokevirtual 69, 3) := by decide +kernel
theorem dJx4a65c_grow_d5877_10 : decode cJx4a65c_grow_d5877 10 = .ok (.areturn, 1) := by decide +kernel
theorem dJx4a65c_size_8abf5_0 : decode cJx4a65c_size_8abf5 0 = .ok (.aload_n 0, 1) := by decide +kernel
theorem dJx4a65c_size_8abf5_1 : decode cJx4a65c_size_8abf5 1 = .ok (.getfield 48, 3) := by decide +kernel
theorem dJx4a65c_size_8abf5_4 : decode cJx4a65c_size_8abf5 4 = .ok (.ireturn, 1) := by decide +kernel
theorem dJx4a65c_add_72be8_0 : decode cJx4a65c_add_72be8 0 = .ok (.iload_n 3, 1) := by decide +kernel
theorem dJx4a65c_add_72be8_1 : decode cJx4a65c_add_72be8 1 = .ok (.aload_n 2, 1) := by decide +kernel
theorem dJx4a65c_add_72be8_2 : decode cJx4a65c_add_72be8 2 = .ok (.arraylength, 1) := by decide +kernel
theorem dJx4a65c_add_72be8_3 : decode cJx4a65c_add_72be8 3 = .ok (.if_icmp .ne 8, 3) := by decide +kernel
theorem dJx4a65c_add_72be8_6 : decode cJx4a65c_add_72be8 6 = .ok (.aload_n 0, 1) := by decide +kernel
theorem dJx4a65c_add_72be8_7 : decode cJx4a65c_add_72be8 7 = .ok (.invokevirtual 129, 3) := by decide +kernel
theorem dJx4a65c_add_72be8_10 : decode cJx4a65c_add_72be8 10 = .ok (.astore_n 2, 1) := by decide +kernel
theorem dJx4a65c_add_72be8_11 : decode cJx4a65c_add_72be8 11 = .ok (.aload_n 2, 1) := by decide +kernel
theorem dJx4a65c_add_72be8_12 : decode cJx4a65c_add_72be8 12 = .ok (.iload_n 3, 1) := by decide +kernel
theorem dJx4a65c_add_72be8_13 : decode cJx4a65c_add_72be8 13 = .ok (.aload_n 1, 1) := by decide +kernel
theorem dJx4a65c_add_72be8_14 : decode cJx4a65c_add_72be8 14 = .ok (.aastore, 1) := by decide +kernel
theorem dJx4a65c_add_72be8_15 : decode cJx4a65c_add_72be8 15 = .ok (.aload_n 0, 1) := by decide +kernel
theorem dJx4a65c_add_72be8_16 : decode cJx4a65c_add_72be8 16 = .ok (.iload_n 3, 1) := by decide +kernel
theorem dJx4a65c_add_72be8_17 : decode cJx4a65c_add_72be8 17 = .ok (.iconst 1, 1) := by decide +kernel
theorem dJx4a65c_add_72be8_18 : decode cJx4a65c_add_72be8 18 = .ok (.iadd, 1) := by decide +kernel
theorem dJx4a65c_add_72be8_19 : decode cJx4a65c_add_72be8 19 = .ok (.putfield 48, 3) := by decide +kernel
theorem dJx4a65c_add_72be8_22 : decode cJx4a65c_add_72be8 22 = .ok (.return_, 1) := by decide +kernel
theorem dJx4a65c_add_9ea2d_0 : decode cJx4a65c_add_9ea2d 0 = .ok (.aload_n 0, 1) := by decide +kernel
theorem dJx4a65c_add_9ea2d_1 : decode cJx4a65c_add_9ea2d 1 = .ok (.dup, 1) := by decide +kernel
theorem dJx4a65c_add_9ea2d_2 : decode cJx4a65c_add_9ea2d 2 = .ok (.getfield 63, 3) := by decide +kernel
theorem dJx4a65c_add_9ea2d_5 : decode cJx4a65c_add_9ea2d 5 = .ok (.iconst 1, 1) := by decide +kernel
theorem dJx4a65c_add_9ea2d_6 : decode cJx4a65c_add_9ea2d 6 = .ok (.iadd, 1) := by decide +kernel
theorem dJx4a65c_add_9ea2d_7 : decode cJx4a65c_add_9ea2d 7 = .ok (.putfield 63, 3) := by decide +kernel
theorem dJx4a65c_add_9ea2d_10 : decode cJx4a65c_add_9ea2d 10 = .ok (.aload_n 0, 1) := by decide +kernel
theorem dJx4a65c_add_9ea2d_11 : decode cJx4a65c_add_9ea2d 11 = .ok (.aload_n 1, 1) := by decide +kernel
theorem dJx4a65c_add_9ea2d_12 : decode cJx4a65c_add_9ea2d 12 = .ok (.aload_n 0, 1) := by decide +kernel
theorem dJx4a65c_add_9ea2d_13 : decode cJx4a65c_add_9ea2d 13 = .ok (.getfield 9, 3) := by decide +kernel
theorem dJx4a65c_add_9ea2d_16 : decode cJx4a65c_add_9ea2d 16 = .ok (.aload_n 0, 1) := by decide +kernel
theorem dJx4a65c_add_9ea2d_17 : decode cJx4a65c_add_9ea2d 17 = .ok (.getfield 48, 3) := by decide +kernel
theorem dJx4a65c_add_9ea2d_20 : decode cJx4a65c_add_9ea2d 20 = .ok (.invokevirtual 131, 3) := by decide +kernel
theorem dJx4a65c_add_9ea2d_23 : decode cJx4a65c_add_9ea2d 23 = .ok (.iconst 1, 1) := by decide +kernel
theorem dJx4a65c_add_9ea2d_24 : decode cJx4a65c_add_9ea2d 24 = .ok (.ireturn, 1) := by decide +kernel
theorem dJx4a65c_clear_da8c8_0 : decode cJx4a65c_clear_da8c8 0 = .ok (.aload_n 0, 1) := by decide +kernel
theorem dJx4a65c_clear_da8c8_1 : decode cJx4a65c_clear_da8c8 1 = .ok (.dup, 1) := by decide +kernel
theorem dJx4a65c_clear_da8c8_2 : decode cJx4a65c_clear_da8c8 2 = .ok (.getfield 63, 3) := by decide +kernel
theorem dJx4a65c_clear_da8c8_5 : decode cJx4a65c_clear_da8c8 5 = .ok (.iconst 1, 1) := by decide +kernel
theorem dJx4a65c_clear_da8c8_6 : decode cJx4a65c_clear_da8c8 6 = .ok (.iadd, 1) := by decide +kernel
theorem dJx4a65c_clear_da8c8_7 : decode cJx4a65c_clear_da8c8 7 = .ok (.putfield 63, 3) := by decide +kernel
theorem dJx4a65c_clear_da8c8_10 : decode cJx4a65c_clear_da8c8 10 = .ok (.aload_n 0, 1) := by decide +kernel
theorem dJx4a65c_clear_da8c8_11 : decode cJx4a65c_clear_da8c8 11 = .ok (.getfield 9, 3) := by decide +kernel
theorem dJx4a65c_clear_da8c8_14 : decode cJx4a65c_clear_da8c8 14 = .ok (.astore_n 1, 1) := by decide +kernel
theorem dJx4a65c_clear_da8c8_15 : decode cJx4a65c_clear_da8c8 15 = .ok (.aload_n 0, 1) := by decide +kernel
theorem dJx4a65c_clear_da8c8_16 : decode cJx4a65c_clear_da8c8 16 = .ok (.getfield 48, 3) := by decide +kernel
theorem dJx4a65c_clear_da8c8_19 : decode cJx4a65c_clear_da8c8 19 = .ok (.istore_n 2, 1) := by decide +kernel
theorem dJx4a65c_clear_da8c8_20 : decode cJx4a65c_clear_da8c8 20 = .ok (.aload_n 0, 1) := by decide +kernel
theorem dJx4a65c_clear_da8c8_21 : decode cJx4a65c_clear_da8c8 21 = .ok (.iconst 0, 1) := by decide +kernel
theorem dJx4a65c_clear_da8c8_22 : decode cJx4a65c_clear_da8c8 22 = .ok (.dup_x1, 1) := by decide +kernel
theorem dJx4a65c_clear_da8c8_23 : decode cJx4a65c_clear_da8c8 23 = .ok (.putfield 48, 3) := by decide +kernel
theorem dJx4a65c_clear_da8c8_26 : decode cJx4a65c_clear_da8c8 26 = .ok (.istore_n 3, 1) := by decide +kernel
theorem dJx4a65c_clear_da8c8_27 : decode cJx4a65c_clear_da8c8 27 = .ok (.iload_n 3, 1) := by decide +kernel
theorem dJx4a65c_clear_da8c8_28 : decode cJx4a65c_clear_da8c8 28 = .ok (.iload_n 2, 1) := by decide +kernel
theorem dJx4a65c_clear_da8c8_29 : decode cJx4a65c_clear_da8c8 29 = .ok (.if_icmp .ge 13, 3) := by decide +kernel
theorem dJx4a65c_clear_da8c8_32 : decode cJx4a65c_clear_da8c8 32 = .ok (.aload_n 1, 1) := by decide +kernel
theorem dJx4a65c_clear_da8c8_33 : decode cJx4a65c_clear_da8c8 33 = .ok (.iload_n 3, 1) := by decide +kernel
theorem dJx4a65c_clear_da8c8_34 : decode cJx4a65c_clear_da8c8 34 = .ok (.aconst_null, 1) := by decide +kernel
theorem dJx4a65c_clear_da8c8_35 : decode cJx4a65c_clear_da8c8 35 = .ok (.aastore, 1) := by decide +kernel
theorem dJx4a65c_clear_da8c8_36 : decode cJx4a65c_clear_da8c8 36 = .ok (.iinc 3 1, 3) := by decide +kernel
theorem dJx4a65c_clear_da8c8_39 : decode cJx4a65c_clear_da8c8 39 = .ok (.goto (-12), 3) := by decide +kernel
theorem dJx4a65c_clear_da8c8_42 : decode cJx4a65c_clear_da8c8 42 = .ok (.return_, 1) := by decide +kernel
theorem dL_word_0 : decode cL_word 0 = .ok (.aload_n 2, 1) := by decide +kernel
theorem dL_word_1 : decode cL_word 1 = .ok (.iconst 0, 1) := by decide +kernel
theorem dL_word_2 : decode cL_word 2 = .ok (.aload_n 0, 1) := by decide +kernel
theorem dL_word_3 : decode cL_word 3 = .ok (.iload_n 1, 1) := by decide +kernel
theorem dL_word_4 : decode cL_word 4 = .ok (.invokevirtual 7, 3) := by decide +kernel
theorem dL_word_7 : decode cL_word 7 = .ok (.i2l, 1) := by decide +kernel
theorem dL_word_8 : decode cL_word 8 = .ok (.lastore, 1) := by decide +kernel
theorem dL_word_9 : decode cL_word 9 = .ok (.goto 9, 3) := by decide +kernel
theorem dL_word_12 : decode cL_word 12 = .ok (.astore_n 3, 1) := by decide +kernel
theorem dL_word_13 : decode cL_word 13 = .ok (.iconst 1, 1) := by decide +kernel
theorem dL_word_14 : decode cL_word 14 = .ok (.ireturn, 1) := by decide +kernel
theorem dL_word_15 : decode cL_word 15 = .ok (.astore_n 3, 1) := by decide +kernel
theorem dL_word_16 : decode cL_word 16 = .ok (.iconst 2, 1) := by decide +kernel
theorem dL_word_17 : decode cL_word 17 = .ok (.ireturn, 1) := by decide +kernel
theorem dL_word_18 : decode cL_word 18 = .ok (.iconst 0, 1) := by decide +kernel
theorem dL_word_19 : decode cL_word 19 = .ok (.ireturn, 1) := by decide +kernel
theorem dL_name_0 : decode cL_name 0 = .ok (.aload_n 2, 1) := by decide +kernel
theorem dL_name_1 : decode cL_name 1 = .ok (.iconst 0, 1) := by decide +kernel
theorem dL_name_2 : decode cL_name 2 = .ok (.aload_n 0, 1) := by decide +kernel
theorem dL_name_3 : decode cL_name 3 = .ok (.iload_n 1, 1) := by decide +kernel
theorem dL_name_4 : decode cL_name 4 = .ok (.invokevirtual 17, 3) := by decide +kernel
theorem dL_name_7 : decode cL_name 7 = .ok (.i2l, 1) := by decide +kernel
theorem dL_name_8 : decode cL_name 8 = .ok (.lastore, 1) := by decide +kernel
theorem dL_name_9 : decode cL_name 9 = .ok (.goto 9, 3) := by decide +kernel
theorem dL_name_12 : decode cL_name 12 = .ok (.astore_n 3, 1) := by decide +kernel
theorem dL_name_13 : decode cL_name 13 = .ok (.iconst 1, 1) := by decide +kernel
theorem dL_name_14 : decode cL_name 14 = .ok (.ireturn, 1) := by decide +kernel
theorem dL_name_15 : decode cL_name 15 = .ok (.astore_n 3, 1) := by decide +kernel
theorem dL_name_16 : decode cL_name 16 = .ok (.iconst 2, 1) := by decide +kernel
theorem dL_name_17 : decode cL_name 17 = .ok (.ireturn, 1) := by decide +kernel
theorem dL_name_18 : decode cL_name 18 = .ok (.iconst 0, 1) := by decide +kernel
theorem dL_name_19 : decode cL_name 19 = .ok (.ireturn, 1) := by decide +kernel
theorem dL_number_0 : decode cL_number 0 = .ok (.aload_n 2, 1) := by decide +kernel
theorem dL_number_1 : decode cL_number 1 = .ok (.iconst 0, 1) := by decide +kernel
theorem dL_number_2 : decode cL_number 2 = .ok (.aload_n 0, 1) := by decide +kernel
theorem dL_number_3 : decode cL_number 3 = .ok (.iload_n 1, 1) := by decide +kernel
theorem dL_number_4 : decode cL_number 4 = .ok (.invokevirtual 21, 3) := by decide +kernel
theorem dL_number_7 : decode cL_number 7 = .ok (.i2l, 1) := by decide +kernel
theorem dL_number_8 : decode cL_number 8 = .ok (.lastore, 1) := by decide +kernel
theorem dL_number_9 : decode cL_number 9 = .ok (.goto 6, 3) := by decide +kernel
theorem dL_number_12 : decode cL_number 12 = .ok (.astore_n 3, 1) := by decide +kernel
theorem dL_number_13 : decode cL_number 13 = .ok (.iconst 1, 1) := by decide +kernel
theorem dL_number_14 : decode cL_number 14 = .ok (.ireturn, 1) := by decide +kernel
theorem dL_number_15 : decode cL_number 15 = .ok (.iconst 0, 1) := by decide +kernel
theorem dL_number_16 : decode cL_number 16 = .ok (.ireturn, 1) := by decide +kernel
theorem dL_error_0 : decode cL_error 0 = .ok (.aload_n 1, 1) := by decide +kernel
theorem dL_error_1 : decode cL_error 1 = .ok (.iconst 0, 1) := by decide +kernel
theorem dL_error_2 : decode cL_error 2 = .ok (.aload_n 0, 1) := by decide +kernel
theorem dL_error_3 : decode cL_error 3 = .ok (.invokevirtual 24, 3) := by decide +kernel
theorem dL_error_6 : decode cL_error 6 = .ok (.i2l, 1) := by decide +kernel
theorem dL_error_7 : decode cL_error 7 = .ok (.lastore, 1) := by decide +kernel
theorem dL_error_8 : decode cL_error 8 = .ok (.goto 6, 3) := by decide +kernel
theorem dL_error_11 : decode cL_error 11 = .ok (.astore_n 2, 1) := by decide +kernel
theorem dL_error_12 : decode cL_error 12 = .ok (.iconst 1, 1) := by decide +kernel
theorem dL_error_13 : decode cL_error 13 = .ok (.ireturn, 1) := by decide +kernel
theorem dL_error_14 : decode cL_error 14 = .ok (.iconst 0, 1) := by decide +kernel
theorem dL_error_15 : decode cL_error 15 = .ok (.ireturn, 1) := by decide +kernel
theorem dL_traceAt_0 : decode cL_traceAt 0 = .ok (.aload_n 2, 1) := by decide +kernel
theorem dL_traceAt_1 : decode cL_traceAt 1 = .ok (.iconst 0, 1) := by decide +kernel
theorem dL_traceAt_2 : decode cL_traceAt 2 = .ok (.aload_n 0, 1) := by decide +kernel
theorem dL_traceAt_3 : decode cL_traceAt 3 = .ok (.iload_n 1, 1) := by decide +kernel
theorem dL_traceAt_4 : decode cL_traceAt 4 = .ok (.invokevirtual 30, 3) := by decide +kernel
theorem dL_traceAt_7 : decode cL_traceAt 7 = .ok (.i2l, 1) := by decide +kernel
theorem dL_traceAt_8 : decode cL_traceAt 8 = .ok (.lastore, 1) := by decide +kernel
theorem dL_traceAt_9 : decode cL_traceAt 9 = .ok (.goto 6, 3) := by decide +kernel
theorem dL_traceAt_12 : decode cL_traceAt 12 = .ok (.astore_n 3, 1) := by decide +kernel
theorem dL_traceAt_13 : decode cL_traceAt 13 = .ok (.iconst 1, 1) := by decide +kernel
theorem dL_traceAt_14 : decode cL_traceAt 14 = .ok (.ireturn, 1) := by decide +kernel
theorem dL_traceAt_15 : decode cL_traceAt 15 = .ok (.iconst 0, 1) := by decide +kernel
theorem dL_traceAt_16 : decode cL_traceAt 16 = .ok (.ireturn, 1) := by decide +kernel
theorem dL_at_0 : decode cL_at 0 = .ok (.aload_n 2, 1) := by decide +kernel
theorem dL_at_1 : decode cL_at 1 = .ok (.iconst 0, 1) := by decide +kernel
theorem dL_at_2 : decode cL_at 2 = .ok (.aload_n 0, 1) := by decide +kernel
theorem dL_at_3 : decode cL_at 3 = .ok (.iload_n 1, 1) := by decide +kernel
theorem dL_at_4 : decode cL_at 4 = .ok (.invokevirtual 35, 3) := by decide +kernel
theorem dL_at_7 : decode cL_at 7 = .ok (.i2l, 1) := by decide +kernel
theorem dL_at_8 : decode cL_at 8 = .ok (.lastore, 1) := by decide +kernel
theorem dL_at_9 : decode cL_at 9 = .ok (.goto 6, 3) := by decide +kernel
theorem dL_at_12 : decode cL_at 12 = .ok (.astore_n 3, 1) := by decide +kernel
theorem dL_at_13 : decode cL_at 13 = .ok (.iconst 1, 1) := by decide +kernel
theorem dL_at_14 : decode cL_at 14 = .ok (.ireturn, 1) := by decide +kernel
theorem dL_at_15 : decode cL_at 15 = .ok (.iconst 0, 1) := by decide +kernel
theorem dL_at_16 : decode cL_at 16 = .ok (.ireturn, 1) := by decide +kernel
theorem dL_cell_0 : decode cL_cell 0 = .ok (.aload_n 2, 1) := by decide +kernel
theorem dL_cell_1 : decode cL_cell 1 = .ok (.iconst 0, 1) := by decide +kernel
theorem dL_cell_2 : decode cL_cell 2 = .ok (.aload_n 0, 1) := by decide +kernel
theorem dL_cell_3 : decode cL_cell 3 = .ok (.iload_n 1, 1) := by decide +kernel
theorem dL_cell_4 : decode cL_cell 4 = .ok (.invokevirtual 38, 3) := by decide +kernel
theorem dL_cell_7 : decode cL_cell 7 = .ok (.i2l, 1) := by decide +kernel
theorem dL_cell_8 : decode cL_cell 8 = .ok (.lastore, 1) := by decide +kernel
theorem dL_cell_9 : decode cL_cell 9 = .ok (.goto 6, 3) := by decide +kernel
theorem dL_cell_12 : decode cL_cell 12 = .ok (.astore_n 3, 1) := by decide +kernel
theorem dL_cell_13 : decode cL_cell 13 = .ok (.iconst 1, 1) := by decide +kernel
theorem dL_cell_14 : decode cL_cell 14 = .ok (.ireturn, 1) := by decide +kernel
theorem dL_cell_15 : decode cL_cell 15 = .ok (.iconst 0, 1) := by decide +kernel
theorem dL_cell_16 : decode cL_cell 16 = .ok (.ireturn, 1) := by decide +kernel
theorem dL_outAt_0 : decode cL_outAt 0 = .ok (.aload_n 2, 1) := by decide +kernel
theorem dL_outAt_1 : decode cL_outAt 1 = .ok (.iconst 0, 1) := by decide +kernel
theorem dL_outAt_2 : decode cL_outAt 2 = .ok (.aload_n 0, 1) := by decide +kernel
theorem dL_outAt_3 : decode cL_outAt 3 = .ok (.iload_n 1, 1) := by decide +kernel
theorem dL_outAt_4 : decode cL_outAt 4 = .ok (.invokevirtual 41, 3) := by decide +kernel
theorem dL_outAt_7 : decode cL_outAt 7 = .ok (.i2l, 1) := by decide +kernel
theorem dL_outAt_8 : decode cL_outAt 8 = .ok (.lastore, 1) := by decide +kernel
theorem dL_outAt_9 : decode cL_outAt 9 = .ok (.goto 6, 3) := by decide +kernel
theorem dL_outAt_12 : decode cL_outAt 12 = .ok (.astore_n 3, 1) := by decide +kernel
theorem dL_outAt_13 : decode cL_outAt 13 = .ok (.iconst 1, 1) := by decide +kernel
theorem dL_outAt_14 : decode cL_outAt 14 = .ok (.ireturn, 1) := by decide +kernel
theorem dL_outAt_15 : decode cL_outAt 15 = .ok (.iconst 0, 1) := by decide +kernel
theorem dL_outAt_16 : decode cL_outAt 16 = .ok (.ireturn, 1) := by decide +kernel
theorem dL_nameOf_0 : decode cL_nameOf 0 = .ok (.aload_n 2, 1) := by decide +kernel
theorem dL_nameOf_1 : decode cL_nameOf 1 = .ok (.iconst 0, 1) := by decide +kernel
theorem dL_nameOf_2 : decode cL_nameOf 2 = .ok (.aload_n 0, 1) := by decide +kernel
theorem dL_nameOf_3 : decode cL_nameOf 3 = .ok (.iload_n 1, 1) := by decide +kernel
theorem dL_nameOf_4 : decode cL_nameOf 4 = .ok (.invokevirtual 44, 3) := by decide +kernel
theorem dL_nameOf_7 : decode cL_nameOf 7 = .ok (.i2l, 1) := by decide +kernel
theorem dL_nameOf_8 : decode cL_nameOf 8 = .ok (.lastore, 1) := by decide +kernel
theorem dL_nameOf_9 : decode cL_nameOf 9 = .ok (.goto 6, 3) := by decide +kernel
theorem dL_nameOf_12 : decode cL_nameOf 12 = .ok (.astore_n 3, 1) := by decide +kernel
theorem dL_nameOf_13 : decode cL_nameOf 13 = .ok (.iconst 1, 1) := by decide +kernel
theorem dL_nameOf_14 : decode cL_nameOf 14 = .ok (.ireturn, 1) := by decide +kernel
theorem dL_nameOf_15 : decode cL_nameOf 15 = .ok (.iconst 0, 1) := by decide +kernel
theorem dL_nameOf_16 : decode cL_nameOf 16 = .ok (.ireturn, 1) := by decide +kernel
theorem dL_kindOf_0 : decode cL_kindOf 0 = .ok (.aload_n 2, 1) := by decide +kernel
theorem dL_kindOf_1 : decode cL_kindOf 1 = .ok (.iconst 0, 1) := by decide +kernel
theorem dL_kindOf_2 : decode cL_kindOf 2 = .ok (.aload_n 0, 1) := by decide +kernel
theorem dL_kindOf_3 : decode cL_kindOf 3 = .ok (.iload_n 1, 1) := by decide +kernel
theorem dL_kindOf_4 : decode cL_kindOf 4 = .ok (.invokevirtual 47, 3) := by decide +kernel
theorem dL_kindOf_7 : decode cL_kindOf 7 = .ok (.i2l, 1) := by decide +kernel
theorem dL_kindOf_8 : decode cL_kindOf 8 = .ok (.lastore, 1) := by decide +kernel
theorem dL_kindOf_9 : decode cL_kindOf 9 = .ok (.goto 6, 3) := by decide +kernel
theorem dL_kindOf_12 : decode cL_kindOf 12 = .ok (.astore_n 3, 1) := by decide +kernel
theorem dL_kindOf_13 : decode cL_kindOf 13 = .ok (.iconst 1, 1) := by decide +kernel
theorem dL_kindOf_14 : decode cL_kindOf 14 = .ok (.ireturn, 1) := by decide +kernel
theorem dL_kindOf_15 : decode cL_kindOf 15 = .ok (.iconst 0, 1) := by decide +kernel
theorem dL_kindOf_16 : decode cL_kindOf 16 = .ok (.ireturn, 1) := by decide +kernel
theorem dL_isImmediate_0 : decode cL_isImmediate 0 = .ok (.aload_n 2, 1) := by decide +kernel
theorem dL_isImmediate_1 : decode cL_isImmediate 1 = .ok (.iconst 0, 1) := by decide +kernel
theorem dL_isImmediate_2 : decode cL_isImmediate 2 = .ok (.aload_n 0, 1) := by decide +kernel
theorem dL_isImmediate_3 : decode cL_isImmediate 3 = .ok (.iload_n 1, 1) := by decide +kernel
theorem dL_isImmediate_4 : decode cL_isImmediate 4 = .ok (.invokevirtual 51, 3) := by decide +kernel
theorem dL_isImmediate_7 : decode cL_isImmediate 7 = .ok (.ifCond .eq 7, 3) := by decide +kernel
theorem dL_isImmediate_10 : decode cL_isImmediate 10 = .ok (.lconst 1, 1) := by decide +kernel
theorem dL_isImmediate_11 : decode cL_isImmediate 11 = .ok (.goto 4, 3) := by decide +kernel
theorem dL_isImmediate_14 : decode cL_isImmediate 14 = .ok (.lconst 0, 1) := by decide +kernel
theorem dL_isImmediate_15 : decode cL_isImmediate 15 = .ok (.lastore, 1) := by decide +kernel
theorem dL_isImmediate_16 : decode cL_isImmediate 16 = .ok (.goto 6, 3) := by decide +kernel
theorem dL_isImmediate_19 : decode cL_isImmediate 19 = .ok (.astore_n 3, 1) := by decide +kernel
theorem dL_isImmediate_20 : decode cL_isImmediate 20 = .ok (.iconst 1, 1) := by decide +kernel
theorem dL_isImmediate_21 : decode cL_isImmediate 21 = .ok (.ireturn, 1) := by decide +kernel
theorem dL_isImmediate_22 : decode cL_isImmediate 22 = .ok (.iconst 0, 1) := by decide +kernel
theorem dL_isImmediate_23 : decode cL_isImmediate 23 = .ok (.ireturn, 1) := by decide +kernel
theorem dL_vocabularyOf_0 : decode cL_vocabularyOf 0 = .ok (.aload_n 2, 1) := by decide +kernel
theorem dL_vocabularyOf_1 : decode cL_vocabularyOf 1 = .ok (.iconst 0, 1) := by decide +kernel
theorem dL_vocabularyOf_2 : decode cL_vocabularyOf 2 = .ok (.aload_n 0, 1) := by decide +kernel
theorem dL_vocabularyOf_3 : decode cL_vocabularyOf 3 = .ok (.iload_n 1, 1) := by decide +kernel
theorem dL_vocabularyOf_4 : decode cL_vocabularyOf 4 = .ok (.invokevirtual 55, 3) := by decide +kernel
theorem dL_vocabularyOf_7 : decode cL_vocabularyOf 7 = .ok (.i2l, 1) := by decide +kernel
theorem dL_vocabularyOf_8 : decode cL_vocabularyOf 8 = .ok (.lastore, 1) := by decide +kernel
theorem dL_vocabularyOf_9 : decode cL_vocabularyOf 9 = .ok (.goto 6, 3) := by decide +kernel
theorem dL_vocabularyOf_12 : decode cL_vocabularyOf 12 = .ok (.astore_n 3, 1) := by decide +kernel
theorem dL_vocabularyOf_13 : decode cL_vocabularyOf 13 = .ok (.iconst 1, 1) := by decide +kernel
theorem dL_vocabularyOf_14 : decode cL_vocabularyOf 14 = .ok (.ireturn, 1) := by decide +kernel
theorem dL_vocabularyOf_15 : decode cL_vocabularyOf 15 = .ok (.iconst 0, 1) := by decide +kernel
theorem dL_vocabularyOf_16 : decode cL_vocabularyOf 16 = .ok (.ireturn, 1) := by decide +kernel
theorem dL_find_0 : decode cL_find 0 = .ok (.aload_n 2, 1) := by decide +kernel
theorem dL_find_1 : decode cL_find 1 = .ok (.iconst 0, 1) := by decide +kernel
theorem dL_find_2 : decode cL_find 2 = .ok (.aload_n 0, 1) := by decide +kernel
theorem dL_find_3 : decode cL_find 3 = .ok (.iload_n 1, 1) := by decide +kernel
theorem dL_find_4 : decode cL_find 4 = .ok (.invokevirtual 58, 3) := by decide +kernel
theorem dL_find_7 : decode cL_find 7 = .ok (.i2l, 1) := by decide +kernel
theorem dL_find_8 : decode cL_find 8 = .ok (.lastore, 1) := by decide +kernel
theorem dL_find_9 : decode cL_find 9 = .ok (.goto 9, 3) := by decide +kernel
theorem dL_find_12 : decode cL_find 12 = .ok (.astore_n 3, 1) := by decide +kernel
theorem dL_find_13 : decode cL_find 13 = .ok (.iconst 1, 1) := by decide +kernel
theorem dL_find_14 : decode cL_find 14 = .ok (.ireturn, 1) := by decide +kernel
theorem dL_find_15 : decode cL_find 15 = .ok (.astore_n 3, 1) := by decide +kernel
theorem dL_find_16 : decode cL_find 16 = .ok (.iconst 2, 1) := by decide +kernel
theorem dL_find_17 : decode cL_find 17 = .ok (.ireturn, 1) := by decide +kernel
theorem dL_find_18 : decode cL_find 18 = .ok (.iconst 0, 1) := by decide +kernel
theorem dL_find_19 : decode cL_find 19 = .ok (.ireturn, 1) := by decide +kernel
theorem dL_ops_0 : decode cL_ops 0 = .ok (.aload_n 2, 1) := by decide +kernel
theorem dL_ops_1 : decode cL_ops 1 = .ok (.iconst 0, 1) := by decide +kernel
theorem dL_ops_2 : decode cL_ops 2 = .ok (.aload_n 0, 1) := by decide +kernel
theorem dL_ops_3 : decode cL_ops 3 = .ok (.iload_n 1, 1) := by decide +kernel
theorem dL_ops_4 : decode cL_ops 4 = .ok (.invokevirtual 61, 3) := by decide +kernel
theorem dL_ops_7 : decode cL_ops 7 = .ok (.i2l, 1) := by decide +kernel
theorem dL_ops_8 : decode cL_ops 8 = .ok (.lastore, 1) := by decide +kernel
theorem dL_ops_9 : decode cL_ops 9 = .ok (.goto 6, 3) := by decide +kernel
theorem dL_ops_12 : decode cL_ops 12 = .ok (.astore_n 3, 1) := by decide +kernel
theorem dL_ops_13 : decode cL_ops 13 = .ok (.iconst 1, 1) := by decide +kernel
theorem dL_ops_14 : decode cL_ops 14 = .ok (.ireturn, 1) := by decide +kernel
theorem dL_ops_15 : decode cL_ops 15 = .ok (.iconst 0, 1) := by decide +kernel
theorem dL_ops_16 : decode cL_ops 16 = .ok (.ireturn, 1) := by decide +kernel
theorem dL_opAt_0 : decode cL_opAt 0 = .ok (.aload_n 3, 1) := by decide +kernel
theorem dL_opAt_1 : decode cL_opAt 1 = .ok (.iconst 0, 1) := by decide +kernel
theorem dL_opAt_2 : decode cL_opAt 2 = .ok (.aload_n 0, 1) := by decide +kernel
theorem dL_opAt_3 : decode cL_opAt 3 = .ok (.iload_n 1, 1) := by decide +kernel
theorem dL_opAt_4 : decode cL_opAt 4 = .ok (.iload_n 2, 1) := by decide +kernel
theorem dL_opAt_5 : decode cL_opAt 5 = .ok (.invokevirtual 64, 3) := by decide +kernel
theorem dL_opAt_8 : decode cL_opAt 8 = .ok (.i2l, 1) := by decide +kernel
theorem dL_opAt_9 : decode cL_opAt 9 = .ok (.lastore, 1) := by decide +kernel
theorem dL_opAt_10 : decode cL_opAt 10 = .ok (.goto 7, 3) := by decide +kernel
theorem dL_opAt_13 : decode cL_opAt 13 = .ok (.astore 4, 2) := by decide +kernel
theorem dL_opAt_15 : decode cL_opAt 15 = .ok (.iconst 1, 1) := by decide +kernel
theorem dL_opAt_16 : decode cL_opAt 16 = .ok (.ireturn, 1) := by decide +kernel
theorem dL_opAt_17 : decode cL_opAt 17 = .ok (.iconst 0, 1) := by decide +kernel
theorem dL_opAt_18 : decode cL_opAt 18 = .ok (.ireturn, 1) := by decide +kernel
theorem dL_opNumber_0 : decode cL_opNumber 0 = .ok (.aload_n 3, 1) := by decide +kernel
theorem dL_opNumber_1 : decode cL_opNumber 1 = .ok (.iconst 0, 1) := by decide +kernel
theorem dL_opNumber_2 : decode cL_opNumber 2 = .ok (.aload_n 0, 1) := by decide +kernel
theorem dL_opNumber_3 : decode cL_opNumber 3 = .ok (.iload_n 1, 1) := by decide +kernel
theorem dL_opNumber_4 : decode cL_opNumber 4 = .ok (.iload_n 2, 1) := by decide +kernel
theorem dL_opNumber_5 : decode cL_opNumber 5 = .ok (.invokevirtual 68, 3) := by decide +kernel
theorem dL_opNumber_8 : decode cL_opNumber 8 = .ok (.i2l, 1) := by decide +kernel
theorem dL_opNumber_9 : decode cL_opNumber 9 = .ok (.lastore, 1) := by decide +kernel
theorem dL_opNumber_10 : decode cL_opNumber 10 = .ok (.goto 7, 3) := by decide +kernel
theorem dL_opNumber_13 : decode cL_opNumber 13 = .ok (.astore 4, 2) := by decide +kernel
theorem dL_opNumber_15 : decode cL_opNumber 15 = .ok (.iconst 1, 1) := by decide +kernel
theorem dL_opNumber_16 : decode cL_opNumber 16 = .ok (.ireturn, 1) := by decide +kernel
theorem dL_opNumber_17 : decode cL_opNumber 17 = .ok (.iconst 0, 1) := by decide +kernel
theorem dL_opNumber_18 : decode cL_opNumber 18 = .ok (.ireturn, 1) := by decide +kernel
theorem dL_effect_0 : decode cL_effect 0 = .ok (.aload_n 2, 1) := by decide +kernel
theorem dL_effect_1 : decode cL_effect 1 = .ok (.iconst 0, 1) := by decide +kernel
theorem dL_effect_2 : decode cL_effect 2 = .ok (.aload_n 0, 1) := by decide +kernel
theorem dL_effect_3 : decode cL_effect 3 = .ok (.iload_n 1, 1) := by decide +kernel
theorem dL_effect_4 : decode cL_effect 4 = .ok (.invokevirtual 72, 3) := by decide +kernel
theorem dL_effect_7 : decode cL_effect 7 = .ok (.i2l, 1) := by decide +kernel
theorem dL_effect_8 : decode cL_effect 8 = .ok (.lastore, 1) := by decide +kernel
theorem dL_effect_9 : decode cL_effect 9 = .ok (.goto 9, 3) := by decide +kernel
theorem dL_effect_12 : decode cL_effect 12 = .ok (.astore_n 3, 1) := by decide +kernel
theorem dL_effect_13 : decode cL_effect 13 = .ok (.iconst 1, 1) := by decide +kernel
theorem dL_effect_14 : decode cL_effect 14 = .ok (.ireturn, 1) := by decide +kernel
theorem dL_effect_15 : decode cL_effect 15 = .ok (.astore_n 3, 1) := by decide +kernel
theorem dL_effect_16 : decode cL_effect 16 = .ok (.iconst 2, 1) := by decide +kernel
theorem dL_effect_17 : decode cL_effect 17 = .ok (.ireturn, 1) := by decide +kernel
theorem dL_effect_18 : decode cL_effect 18 = .ok (.iconst 0, 1) := by decide +kernel
theorem dL_effect_19 : decode cL_effect 19 = .ok (.ireturn, 1) := by decide +kernel
theorem dL_errorShare_0 : decode cL_errorShare 0 = .ok (.aload_n 1, 1) := by decide +kernel
theorem dL_errorShare_1 : decode cL_errorShare 1 = .ok (.iconst 0, 1) := by decide +kernel
theorem dL_errorShare_2 : decode cL_errorShare 2 = .ok (.aload_n 0, 1) := by decide +kernel
theorem dL_errorShare_3 : decode cL_errorShare 3 = .ok (.invokevirtual 77, 3) := by decide +kernel
theorem dL_errorShare_6 : decode cL_errorShare 6 = .ok (.f2d, 1) := by decide +kernel
theorem dL_errorShare_7 : decode cL_errorShare 7 = .ok (.dastore, 1) := by decide +kernel
theorem dL_errorShare_8 : decode cL_errorShare 8 = .ok (.goto 6, 3) := by decide +kernel
theorem dL_errorShare_11 : decode cL_errorShare 11 = .ok (.astore_n 2, 1) := by decide +kernel
theorem dL_errorShare_12 : decode cL_errorShare 12 = .ok (.iconst 1, 1) := by decide +kernel
theorem dL_errorShare_13 : decode cL_errorShare 13 = .ok (.ireturn, 1) := by decide +kernel
theorem dL_errorShare_14 : decode cL_errorShare 14 = .ok (.iconst 0, 1) := by decide +kernel
theorem dL_errorShare_15 : decode cL_errorShare 15 = .ok (.ireturn, 1) := by decide +kernel
theorem dL_meanSteps_0 : decode cL_meanSteps 0 = .ok (.aload_n 1, 1) := by decide +kernel
theorem dL_meanSteps_1 : decode cL_meanSteps 1 = .ok (.iconst 0, 1) := by decide +kernel
theorem dL_meanSteps_2 : decode cL_meanSteps 2 = .ok (.aload_n 0, 1) := by decide +kernel
theorem dL_meanSteps_3 : decode cL_meanSteps 3 = .ok (.invokevirtual 83, 3) := by decide +kernel
theorem dL_meanSteps_6 : decode cL_meanSteps 6 = .ok (.dastore, 1) := by decide +kernel
theorem dL_meanSteps_7 : decode cL_meanSteps 7 = .ok (.goto 6, 3) := by decide +kernel
theorem dL_meanSteps_10 : decode cL_meanSteps 10 = .ok (.astore_n 2, 1) := by decide +kernel
theorem dL_meanSteps_11 : decode cL_meanSteps 11 = .ok (.iconst 1, 1) := by decide +kernel
theorem dL_meanSteps_12 : decode cL_meanSteps 12 = .ok (.ireturn, 1) := by decide +kernel
theorem dL_meanSteps_13 : decode cL_meanSteps 13 = .ok (.iconst 0, 1) := by decide +kernel
theorem dL_meanSteps_14 : decode cL_meanSteps 14 = .ok (.ireturn, 1) := by decide +kernel
theorem dL_law_0 : decode cL_law 0 = .ok (.new 8, 3) := by decide +kernel
theorem dL_law_3 : decode cL_law 3 = .ok (.dup, 1) := by decide +kernel
theorem dL_law_4 : decode cL_law 4 = .ok (.invokespecial 87, 3) := by decide +kernel
theorem dL_law_7 : decode cL_law 7 = .ok (.astore_n 1, 1) := by decide +kernel
theorem dL_law_8 : decode cL_law 8 = .ok (.new 88, 3) := by decide +kernel
theorem dL_law_11 : decode cL_law 11 = .ok (.dup, 1) := by decide +kernel
theorem dL_law_12 : decode cL_law 12 = .ok (.invokespecial 90, 3) := by decide +kernel
theorem dL_law_15 : decode cL_law 15 = .ok (.astore_n 2, 1) := by decide +kernel
theorem dL_law_16 : decode cL_law 16 = .ok (.iconst 1, 1) := by decide +kernel
theorem dL_law_17 : decode cL_law 17 = .ok (.newarray .long, 2) := by decide +kernel
theorem dL_law_19 : decode cL_law 19 = .ok (.astore_n 3, 1) := by decide +kernel
theorem dL_law_20 : decode cL_law 20 = .ok (.iconst 1, 1) := by decide +kernel
theorem dL_law_21 : decode cL_law 21 = .ok (.newarray .double, 2) := by decide +kernel
theorem dL_law_23 : decode cL_law 23 = .ok (.astore 4, 2) := by decide +kernel
theorem dL_law_25 : decode cL_law 25 = .ok (.iconst 0, 1) := by decide +kernel
theorem dL_law_26 : decode cL_law 26 = .ok (.istore 5, 2) := by decide +kernel
theorem dL_law_28 : decode cL_law 28 = .ok (.iload 5, 2) := by decide +kernel
theorem dL_law_30 : decode cL_law 30 = .ok (.aload_n 0, 1) := by decide +kernel
theorem dL_law_31 : decode cL_law 31 = .ok (.arraylength, 1) := by decide +kernel
theorem dL_law_32 : decode cL_law 32 = .ok (.iconst 3, 1) := by decide +kernel
theorem dL_law_33 : decode cL_law 33 = .ok (.isub, 1) := by decide +kernel
theorem dL_law_34 : decode cL_law 34 = .ok (.if_icmp .gt 1400, 3) := by decide +kernel
theorem dL_law_37 : decode cL_law 37 = .ok (.aload_n 0, 1) := by decide +kernel
theorem dL_law_38 : decode cL_law 38 = .ok (.iload 5, 2) := by decide +kernel
theorem dL_law_40 : decode cL_law 40 = .ok (.iaload, 1) := by decide +kernel
theorem dL_law_41 : decode cL_law 41 = .ok (.bipush 31, 2) := by decide +kernel
theorem dL_law_43 : decode cL_law 43 = .ok (.iand, 1) := by decide +kernel
theorem dL_law_44 : decode cL_law 44 = .ok (.tableswitch 1384 0 29 #[136, 194, 250, 306, 319, 363, 376, 432, 445, 501, 514, 527, 583, 596, 652, 665, 721, 777, 840, 896, 952, 1008, 1076, 1144, 1200, 1213, 1227, 1240, 1306, 1371], 136) := by decide +kernel
theorem dL_law_180 : decode cL_law 180 = .ok (.aload_n 1, 1) := by decide +kernel
theorem dL_law_181 : decode cL_law 181 = .ok (.aload_n 0, 1) := by decide +kernel
theorem dL_law_182 : decode cL_law 182 = .ok (.iload 5, 2) := by decide +kernel
theorem dL_law_184 : decode cL_law 184 = .ok (.iconst 1, 1) := by decide +kernel
theorem dL_law_185 : decode cL_law 185 = .ok (.iadd, 1) := by decide +kernel
theorem dL_law_186 : decode cL_law 186 = .ok (.iaload, 1) := by decide +kernel
theorem dL_law_187 : decode cL_law 187 = .ok (.i2c, 1) := by decide +kernel
theorem dL_law_188 : decode cL_law 188 = .ok (.aload_n 3, 1) := by decide +kernel
theorem dL_law_189 : decode cL_law 189 = .ok (.invokestatic 91, 3) := by decide +kernel
theorem dL_law_192 : decode cL_law 192 = .ok (.istore 6, 2) := by decide +kernel
theorem dL_law_194 : decode cL_law 194 = .ok (.aload_n 2, 1) := by decide +kernel
theorem dL_law_195 : decode cL_law 195 = .ok (.aload_n 0, 1) := by decide +kernel
theorem dL_law_196 : decode cL_law 196 = .ok (.iload 5, 2) := by decide +kernel
theorem dL_law_198 : decode cL_law 198 = .ok (.iconst 1, 1) := by decide +kernel
theorem dL_law_199 : decode cL_law 199 = .ok (.iadd, 1) := by decide +kernel
theorem dL_law_200 : decode cL_law 200 = .ok (.iaload, 1) := by decide +kernel
theorem dL_law_201 : decode cL_law 201 = .ok (.i2c, 1) := by decide +kernel
theorem dL_law_202 : decode cL_law 202 = .ok (.invokevirtual 96, 3) := by decide +kernel
theorem dL_law_205 : decode cL_law 205 = .ok (.istore 7, 2) := by decide +kernel
theorem dL_law_207 : decode cL_law 207 = .ok (.aload_n 2, 1) := by decide +kernel
theorem dL_law_208 : decode cL_law 208 = .ok (.invokevirtual 97, 3) := by decide +kernel
theorem dL_law_211 : decode cL_law 211 = .ok (.iload 6, 2) := by decide +kernel
theorem dL_law_213 : decode cL_law 213 = .ok (.if_icmp .eq 5, 3) := by decide +kernel
theorem dL_law_216 : decode cL_law 216 = .ok (.iconst 0, 1) := by decide +kernel
theorem dL_law_217 : decode cL_law 217 = .ok (.ireturn, 1) := by decide +kernel
theorem dL_law_218 : decode cL_law 218 = .ok (.iload 6, 2) := by decide +kernel
theorem dL_law_220 : decode cL_law 220 = .ok (.ifCond .ne 15, 3) := by decide +kernel
theorem dL_law_223 : decode cL_law 223 = .ok (.aload_n 3, 1) := by decide +kernel
theorem dL_law_224 : decode cL_law 224 = .ok (.iconst 0, 1) := by decide +kernel
theorem dL_law_225 : decode cL_law 225 = .ok (.laload, 1) := by decide +kernel
theorem dL_law_226 : decode cL_law 226 = .ok (.iload 7, 2) := by decide +kernel
theorem dL_law_228 : decode cL_law 228 = .ok (.i2l, 1) := by decide +kernel
theorem dL_law_229 : decode cL_law 229 = .ok (.lcmp, 1) := by decide +kernel
theorem dL_law_230 : decode cL_law 230 = .ok (.ifCond .eq 5, 3) := by decide +kernel
theorem dL_law_233 : decode cL_law 233 = .ok (.iconst 0, 1) := by decide +kernel
theorem dL_law_234 : decode cL_law 234 = .ok (.ireturn, 1) := by decide +kernel
theorem dL_law_235 : decode cL_law 235 = .ok (.goto 1193, 3) := by decide +kernel
theorem dL_law_238 : decode cL_law 238 = .ok (.aload_n 1, 1) := by decide +kernel
theorem dL_law_239 : decode cL_law 239 = .ok (.aload_n 0, 1) := by decide +kernel
theorem dL_law_240 : decode cL_law 240 = .ok (.iload 5, 2) := by decide +kernel
theorem dL_law_242 : decode cL_law 242 = .ok (.iconst 1, 1) := by decide +kernel
theorem dL_law_243 : decode cL_law 243 = .ok (.iadd, 1) := by decide +kernel
theorem dL_law_244 : decode cL_law 244 = .ok (.iaload, 1) := by decide +kernel
theorem dL_law_245 : decode cL_law 245 = .ok (.aload_n 3, 1) := by decide +kernel
theorem dL_law_246 : decode cL_law 246 = .ok (.invokestatic 100, 3) := by decide +kernel
theorem dL_law_249 : decode cL_law 249 = .ok (.istore 6, 2) := by decide +kernel
theorem dL_law_251 : decode cL_law 251 = .ok (.aload_n 2, 1) := by decide +kernel
theorem dL_law_252 : decode cL_law 252 = .ok (.aload_n 0, 1) := by decide +kernel
theorem dL_law_253 : decode cL_law 253 = .ok (.iload 5, 2) := by decide +kernel
theorem dL_law_255 : decode cL_law 255 = .ok (.iconst 1, 1) := by decide +kernel
theorem dL_law_256 : decode cL_law 256 = .ok (.iadd, 1) := by decide +kernel
theorem dL_law_257 : decode cL_law 257 = .ok (.iaload, 1) := by decide +kernel
theorem dL_law_258 : decode cL_law 258 = .ok (.invokevirtual 103, 3) := by decide +kernel
theorem dL_law_261 : decode cL_law 261 = .ok (.istore 7, 2) := by decide +kernel
theorem dL_law_263 : decode cL_law 263 = .ok (.aload_n 2, 1) := by decide +kernel
theorem dL_law_264 : decode cL_law 264 = .ok (.invokevirtual 97, 3) := by decide +kernel
theorem dL_law_267 : decode cL_law 267 = .ok (.iload 6, 2) := by decide +kernel
theorem dL_law_269 : decode cL_law 269 = .ok (.if_icmp .eq 5, 3) := by decide +kernel
theorem dL_law_272 : decode cL_law 272 = .ok (.iconst 0, 1) := by decide +kernel
theorem dL_law_273 : decode cL_law 273 = .ok (.ireturn, 1) := by decide +kernel
theorem dL_law_274 : decode cL_law 274 = .ok (.iload 6, 2) := by decide +kernel
theorem dL_law_276 : decode cL_law 276 = .ok (.ifCond .ne 15, 3) := by decide +kernel
theorem dL_law_279 : decode cL_law 279 = .ok (.aload_n 3, 1) := by decide +kernel
theorem dL_law_280 : decode cL_law 280 = .ok (.iconst 0, 1) := by decide +kernel
theorem dL_law_281 : decode cL_law 281 = .ok (.laload, 1) := by decide +kernel
theorem dL_law_282 : decode cL_law 282 = .ok (.iload 7, 2) := by decide +kernel
theorem dL_law_284 : decode cL_law 284 = .ok (.i2l, 1) := by decide +kernel
theorem dL_law_285 : decode cL_law 285 = .ok (.lcmp, 1) := by decide +kernel
theorem dL_law_286 : decode cL_law 286 = .ok (.ifCond .eq 5, 3) := by decide +kernel
theorem dL_law_289 : decode cL_law 289 = .ok (.iconst 0, 1) := by decide +kernel
theorem dL_law_290 : decode cL_law 290 = .ok (.ireturn, 1) := by decide +kernel
theorem dL_law_291 : decode cL_law 291 = .ok (.goto 1137, 3) := by decide +kernel
theorem dL_law_294 : decode cL_law 294 = .ok (.aload_n 1, 1) := by decide +kernel
theorem dL_law_295 : decode cL_law 295 = .ok (.aload_n 0, 1) := by decide +kernel
theorem dL_law_296 : decode cL_law 296 = .ok (.iload 5, 2) := by decide +kernel
theorem dL_law_298 : decode cL_law 298 = .ok (.iconst 1, 1) := by decide +kernel
theorem dL_law_299 : decode cL_law 299 = .ok (.iadd, 1) := by decide +kernel
theorem dL_law_300 : decode cL_law 300 = .ok (.iaload, 1) := by decide +kernel
theorem dL_law_301 : decode cL_law 301 = .ok (.aload_n 3, 1) := by decide +kernel
theorem dL_law_302 : decode cL_law 302 = .ok (.invokestatic 104, 3) := by decide +kernel
theorem dL_law_305 : decode cL_law 305 = .ok (.istore 6, 2) := by decide +kernel
theorem dL_law_307 : decode cL_law 307 = .ok (.aload_n 2, 1) := by decide +kernel
theorem dL_law_308 : decode cL_law 308 = .ok (.aload_n 0, 1) := by decide +kernel
theorem dL_law_309 : decode cL_law 309 = .ok (.iload 5, 2) := by decide +kernel
theorem dL_law_311 : decode cL_law 311 = .ok (.iconst 1, 1) := by decide +kernel
theorem dL_law_312 : decode cL_law 312 = .ok (.iadd, 1) := by decide +kernel
theorem dL_law_313 : decode cL_law 313 = .ok (.iaload, 1) := by decide +kernel
theorem dL_law_314 : decode cL_law 314 = .ok (.invokevirtual 106, 3) := by decide +kernel
theorem dL_law_317 : decode cL_law 317 = .ok (.istore 7, 2) := by decide +kernel
theorem dL_law_319 : decode cL_law 319 = .ok (.aload_n 2, 1) := by decide +kernel
theorem dL_law_320 : decode cL_law 320 = .ok (.invokevirtual 97, 3) := by decide +kernel
theorem dL_law_323 : decode cL_law 323 = .ok (.iload 6, 2) := by decide +kernel
theorem dL_law_325 : decode cL_law 325 = .ok (.if_icmp .eq 5, 3) := by decide +kernel
theorem dL_law_328 : decode cL_law 328 = .ok (.iconst 0, 1) := by decide +kernel
theorem dL_law_329 : decode cL_law 329 = .ok (.ireturn, 1) := by decide +kernel
theorem dL_law_330 : decode cL_law 330 = .ok (.iload 6, 2) := by decide +kernel
theorem dL_law_332 : decode cL_law 332 = .ok (.ifCond .ne 15, 3) := by decide +kernel
theorem dL_law_335 : decode cL_law 335 = .ok (.aload_n 3, 1) := by decide +kernel
theorem dL_law_336 : decode cL_law 336 = .ok (.iconst 0, 1) := by decide +kernel
theorem dL_law_337 : decode cL_law 337 = .ok (.laload, 1) := by decide +kernel
theorem dL_law_338 : decode cL_law 338 = .ok (.iload 7, 2) := by decide +kernel
theorem dL_law_340 : decode cL_law 340 = .ok (.i2l, 1) := by decide +kernel
theorem dL_law_341 : decode cL_law 341 = .ok (.lcmp, 1) := by decide +kernel
theorem dL_law_342 : decode cL_law 342 = .ok (.ifCond .eq 5, 3) := by decide +kernel
theorem dL_law_345 : decode cL_law 345 = .ok (.iconst 0, 1) := by decide +kernel
theorem dL_law_346 : decode cL_law 346 = .ok (.ireturn, 1) := by decide +kernel
theorem dL_law_347 : decode cL_law 347 = .ok (.goto 1081, 3) := by decide +kernel
theorem dL_law_350 : decode cL_law 350 = .ok (.aload_n 1, 1) := by decide +kernel
theorem dL_law_351 : decode cL_law 351 = .ok (.invokevirtual 107, 3) := by decide +kernel
theorem dL_law_354 : decode cL_law 354 = .ok (.aload_n 2, 1) := by decide +kernel
theorem dL_law_355 : decode cL_law 355 = .ok (.invokevirtual 111, 3) := by decide +kernel
theorem dL_law_358 : decode cL_law 358 = .ok (.if_icmp .eq 1070, 3) := by decide +kernel
theorem dL_law_361 : decode cL_law 361 = .ok (.iconst 0, 1) := by decide +kernel
theorem dL_law_362 : decode cL_law 362 = .ok (.ireturn, 1) := by decide +kernel
theorem dL_law_363 : decode cL_law 363 = .ok (.aload_n 1, 1) := by decide +kernel
theorem dL_law_364 : decode cL_law 364 = .ok (.aload_n 3, 1) := by decide +kernel
theorem dL_law_365 : decode cL_law 365 = .ok (.invokestatic 112, 3) := by decide +kernel
theorem dL_law_368 : decode cL_law 368 = .ok (.istore 6, 2) := by decide +kernel
theorem dL_law_370 : decode cL_law 370 = .ok (.aload_n 2, 1) := by decide +kernel
theorem dL_law_371 : decode cL_law 371 = .ok (.invokevirtual 115, 3) := by decide +kernel
theorem dL_law_374 : decode cL_law 374 = .ok (.istore 7, 2) := by decide +kernel
theorem dL_law_376 : decode cL_law 376 = .ok (.aload_n 2, 1) := by decide +kernel
theorem dL_law_377 : decode cL_law 377 = .ok (.invokevirtual 97, 3) := by decide +kernel
theorem dL_law_380 : decode cL_law 380 = .ok (.iload 6, 2) := by decide +kernel
theorem dL_law_382 : decode cL_law 382 = .ok (.if_icmp .eq 5, 3) := by decide +kernel
theorem dL_law_385 : decode cL_law 385 = .ok (.iconst 0, 1) := by decide +kernel
theorem dL_law_386 : decode cL_law 386 = .ok (.ireturn, 1) := by decide +kernel
theorem dL_law_387 : decode cL_law 387 = .ok (.iload 6, 2) := by decide +kernel
theorem dL_law_389 : decode cL_law 389 = .ok (.ifCond .ne 15, 3) := by decide +kernel
theorem dL_law_392 : decode cL_law 392 = .ok (.aload_n 3, 1) := by decide +kernel
theorem dL_law_393 : decode cL_law 393 = .ok (.iconst 0, 1) := by decide +kernel
theorem dL_law_394 : decode cL_law 394 = .ok (.laload, 1) := by decide +kernel
theorem dL_law_395 : decode cL_law 395 = .ok (.iload 7, 2) := by decide +kernel
theorem dL_law_397 : decode cL_law 397 = .ok (.i2l, 1) := by decide +kernel
theorem dL_law_398 : decode cL_law 398 = .ok (.lcmp, 1) := by decide +kernel
theorem dL_law_399 : decode cL_law 399 = .ok (.ifCond .eq 5, 3) := by decide +kernel
theorem dL_law_402 : decode cL_law 402 = .ok (.iconst 0, 1) := by decide +kernel
theorem dL_law_403 : decode cL_law 403 = .ok (.ireturn, 1) := by decide +kernel
theorem dL_law_404 : decode cL_law 404 = .ok (.goto 1024, 3) := by decide +kernel
theorem dL_law_407 : decode cL_law 407 = .ok (.aload_n 1, 1) := by decide +kernel
theorem dL_law_408 : decode cL_law 408 = .ok (.invokevirtual 116, 3) := by decide +kernel
theorem dL_law_411 : decode cL_law 411 = .ok (.aload_n 2, 1) := by decide +kernel
theorem dL_law_412 : decode cL_law 412 = .ok (.invokevirtual 119, 3) := by decide +kernel
theorem dL_law_415 : decode cL_law 415 = .ok (.if_icmp .eq 1013, 3) := by decide +kernel
theorem dL_law_418 : decode cL_law 418 = .ok (.iconst 0, 1) := by decide +kernel
theorem dL_law_419 : decode cL_law 419 = .ok (.ireturn, 1) := by decide +kernel
theorem dL_law_420 : decode cL_law 420 = .ok (.aload_n 1, 1) := by decide +kernel
theorem dL_law_421 : decode cL_law 421 = .ok (.aload_n 0, 1) := by decide +kernel
theorem dL_law_422 : decode cL_law 422 = .ok (.iload 5, 2) := by decide +kernel
theorem dL_law_424 : decode cL_law 424 = .ok (.iconst 1, 1) := by decide +kernel
theorem dL_law_425 : decode cL_law 425 = .ok (.iadd, 1) := by decide +kernel
theorem dL_law_426 : decode cL_law 426 = .ok (.iaload, 1) := by decide +kernel
theorem dL_law_427 : decode cL_law 427 = .ok (.aload_n 3, 1) := by decide +kernel
theorem dL_law_428 : decode cL_law 428 = .ok (.invokestatic 120, 3) := by decide +kernel
theorem dL_law_431 : decode cL_law 431 = .ok (.istore 6, 2) := by decide +kernel
theorem dL_law_433 : decode cL_law 433 = .ok (.aload_n 2, 1) := by decide +kernel
theorem dL_law_434 : decode cL_law 434 = .ok (.aload_n 0, 1) := by decide +kernel
theorem dL_law_435 : decode cL_law 435 = .ok (.iload 5, 2) := by decide +kernel
theorem dL_law_437 : decode cL_law 437 = .ok (.iconst 1, 1) := by decide +kernel
theorem dL_law_438 : decode cL_law 438 = .ok (.iadd, 1) := by decide +kernel
theorem dL_law_439 : decode cL_law 439 = .ok (.iaload, 1) := by decide +kernel
theorem dL_law_440 : decode cL_law 440 = .ok (.invokevirtual 122, 3) := by decide +kernel
theorem dL_law_443 : decode cL_law 443 = .ok (.istore 7, 2) := by decide +kernel
theorem dL_law_445 : decode cL_law 445 = .ok (.aload_n 2, 1) := by decide +kernel
theorem dL_law_446 : decode cL_law 446 = .ok (.invokevirtual 97, 3) := by decide +kernel
theorem dL_law_449 : decode cL_law 449 = .ok (.iload 6, 2) := by decide +kernel
theorem dL_law_451 : decode cL_law 451 = .ok (.if_icmp .eq 5, 3) := by decide +kernel
theorem dL_law_454 : decode cL_law 454 = .ok (.iconst 0, 1) := by decide +kernel
theorem dL_law_455 : decode cL_law 455 = .ok (.ireturn, 1) := by decide +kernel
theorem dL_law_456 : decode cL_law 456 = .ok (.iload 6, 2) := by decide +kernel
theorem dL_law_458 : decode cL_law 458 = .ok (.ifCond .ne 15, 3) := by decide +kernel
theorem dL_law_461 : decode cL_law 461 = .ok (.aload_n 3, 1) := by decide +kernel
theorem dL_law_462 : decode cL_law 462 = .ok (.iconst 0, 1) := by decide +kernel
theorem dL_law_463 : decode cL_law 463 = .ok (.laload, 1) := by decide +kernel
theorem dL_law_464 : decode cL_law 464 = .ok (.iload 7, 2) := by decide +kernel
theorem dL_law_466 : decode cL_law 466 = .ok (.i2l, 1) := by decide +kernel
theorem dL_law_467 : decode cL_law 467 = .ok (.lcmp, 1) := by decide +kernel
theorem dL_law_468 : decode cL_law 468 = .ok (.ifCond .eq 5, 3) := by decide +kernel
theorem dL_law_471 : decode cL_law 471 = .ok (.iconst 0, 1) := by decide +kernel
theorem dL_law_472 : decode cL_law 472 = .ok (.ireturn, 1) := by decide +kernel
theorem dL_law_473 : decode cL_law 473 = .ok (.goto 955, 3) := by decide +kernel
theorem dL_law_476 : decode cL_law 476 = .ok (.aload_n 1, 1) := by decide +kernel
theorem dL_law_477 : decode cL_law 477 = .ok (.invokevirtual 123, 3) := by decide +kernel
theorem dL_law_480 : decode cL_law 480 = .ok (.aload_n 2, 1) := by decide +kernel
theorem dL_law_481 : decode cL_law 481 = .ok (.invokevirtual 126, 3) := by decide +kernel
theorem dL_law_484 : decode cL_law 484 = .ok (.if_icmp .eq 944, 3) := by decide +kernel
theorem dL_law_487 : decode cL_law 487 = .ok (.iconst 0, 1) := by decide +kernel
theorem dL_law_488 : decode cL_law 488 = .ok (.ireturn, 1) := by decide +kernel
theorem dL_law_489 : decode cL_law 489 = .ok (.aload_n 1, 1) := by decide +kernel
theorem dL_law_490 : decode cL_law 490 = .ok (.aload_n 0, 1) := by decide +kernel
theorem dL_law_491 : decode cL_law 491 = .ok (.iload 5, 2) := by decide +kernel
theorem dL_law_493 : decode cL_law 493 = .ok (.iconst 1, 1) := by decide +kernel
theorem dL_law_494 : decode cL_law 494 = .ok (.iadd, 1) := by decide +kernel
theorem dL_law_495 : decode cL_law 495 = .ok (.iaload, 1) := by decide +kernel
theorem dL_law_496 : decode cL_law 496 = .ok (.aload_n 3, 1) := by decide +kernel
theorem dL_law_497 : decode cL_law 497 = .ok (.invokestatic 127, 3) := by decide +kernel
theorem dL_law_500 : decode cL_law 500 = .ok (.istore 6, 2) := by decide +kernel
theorem dL_law_502 : decode cL_law 502 = .ok (.aload_n 2, 1) := by decide +kernel
theorem dL_law_503 : decode cL_law 503 = .ok (.aload_n 0, 1) := by decide +kernel
theorem dL_law_504 : decode cL_law 504 = .ok (.iload 5, 2) := by decide +kernel
theorem dL_law_506 : decode cL_law 506 = .ok (.iconst 1, 1) := by decide +kernel
theorem dL_law_507 : decode cL_law 507 = .ok (.iadd, 1) := by decide +kernel
theorem dL_law_508 : decode cL_law 508 = .ok (.iaload, 1) := by decide +kernel
theorem dL_law_509 : decode cL_law 509 = .ok (.invokevirtual 129, 3) := by decide +kernel
theorem dL_law_512 : decode cL_law 512 = .ok (.istore 7, 2) := by decide +kernel
theorem dL_law_514 : decode cL_law 514 = .ok (.aload_n 2, 1) := by decide +kernel
theorem dL_law_515 : decode cL_law 515 = .ok (.invokevirtual 97, 3) := by decide +kernel
theorem dL_law_518 : decode cL_law 518 = .ok (.iload 6, 2) := by decide +kernel
theorem dL_law_520 : decode cL_law 520 = .ok (.if_icmp .eq 5, 3) := by decide +kernel
theorem dL_law_523 : decode cL_law 523 = .ok (.iconst 0, 1) := by decide +kernel
theorem dL_law_524 : decode cL_law 524 = .ok (.ireturn, 1) := by decide +kernel
theorem dL_law_525 : decode cL_law 525 = .ok (.iload 6, 2) := by decide +kernel
theorem dL_law_527 : decode cL_law 527 = .ok (.ifCond .ne 15, 3) := by decide +kernel
theorem dL_law_530 : decode cL_law 530 = .ok (.aload_n 3, 1) := by decide +kernel
theorem dL_law_531 : decode cL_law 531 = .ok (.iconst 0, 1) := by decide +kernel
theorem dL_law_532 : decode cL_law 532 = .ok (.laload, 1) := by decide +kernel
theorem dL_law_533 : decode cL_law 533 = .ok (.iload 7, 2) := by decide +kernel
theorem dL_law_535 : decode cL_law 535 = .ok (.i2l, 1) := by decide +kernel
theorem dL_law_536 : decode cL_law 536 = .ok (.lcmp, 1) := by decide +kernel
theorem dL_law_537 : decode cL_law 537 = .ok (.ifCond .eq 5, 3) := by decide +kernel
theorem dL_law_540 : decode cL_law 540 = .ok (.iconst 0, 1) := by decide +kernel
theorem dL_law_541 : decode cL_law 541 = .ok (.ireturn, 1) := by decide +kernel
theorem dL_law_542 : decode cL_law 542 = .ok (.goto 886, 3) := by decide +kernel
theorem dL_law_545 : decode cL_law 545 = .ok (.aload_n 1, 1) := by decide +kernel
theorem dL_law_546 : decode cL_law 546 = .ok (.invokevirtual 130, 3) := by decide +kernel
theorem dL_law_549 : decode cL_law 549 = .ok (.aload_n 2, 1) := by decide +kernel
theorem dL_law_550 : decode cL_law 550 = .ok (.invokevirtual 133, 3) := by decide +kernel
theorem dL_law_553 : decode cL_law 553 = .ok (.if_icmp .eq 875, 3) := by decide +kernel
theorem dL_law_556 : decode cL_law 556 = .ok (.iconst 0, 1) := by decide +kernel
theorem dL_law_557 : decode cL_law 557 = .ok (.ireturn, 1) := by decide +kernel
theorem dL_law_558 : decode cL_law 558 = .ok (.aload_n 1, 1) := by decide +kernel
theorem dL_law_559 : decode cL_law 559 = .ok (.invokevirtual 134, 3) := by decide +kernel
theorem dL_law_562 : decode cL_law 562 = .ok (.aload_n 2, 1) := by decide +kernel
theorem dL_law_563 : decode cL_law 563 = .ok (.invokevirtual 137, 3) := by decide +kernel
theorem dL_law_566 : decode cL_law 566 = .ok (.if_icmp .eq 862, 3) := by decide +kernel
theorem dL_law_569 : decode cL_law 569 = .ok (.iconst 0, 1) := by decide +kernel
theorem dL_law_570 : decode cL_law 570 = .ok (.ireturn, 1) := by decide +kernel
theorem dL_law_571 : decode cL_law 571 = .ok (.aload_n 1, 1) := by decide +kernel
theorem dL_law_572 : decode cL_law 572 = .ok (.aload_n 0, 1) := by decide +kernel
theorem dL_law_573 : decode cL_law 573 = .ok (.iload 5, 2) := by decide +kernel
theorem dL_law_575 : decode cL_law 575 = .ok (.iconst 1, 1) := by decide +kernel
theorem dL_law_576 : decode cL_law 576 = .ok (.iadd, 1) := by decide +kernel
theorem dL_law_577 : decode cL_law 577 = .ok (.iaload, 1) := by decide +kernel
theorem dL_law_578 : decode cL_law 578 = .ok (.aload_n 3, 1) := by decide +kernel
theorem dL_law_579 : decode cL_law 579 = .ok (.invokestatic 138, 3) := by decide +kernel
theorem dL_law_582 : decode cL_law 582 = .ok (.istore 6, 2) := by decide +kernel
theorem dL_law_584 : decode cL_law 584 = .ok (.aload_n 2, 1) := by decide +kernel
theorem dL_law_585 : decode cL_law 585 = .ok (.aload_n 0, 1) := by decide +kernel
theorem dL_law_586 : decode cL_law 586 = .ok (.iload 5, 2) := by decide +kernel
theorem dL_law_588 : decode cL_law 588 = .ok (.iconst 1, 1) := by decide +kernel
theorem dL_law_589 : decode cL_law 589 = .ok (.iadd, 1) := by decide +kernel
theorem dL_law_590 : decode cL_law 590 = .ok (.iaload, 1) := by decide +kernel
theorem dL_law_591 : decode cL_law 591 = .ok (.invokevirtual 140, 3) := by decide +kernel
theorem dL_law_594 : decode cL_law 594 = .ok (.istore 7, 2) := by decide +kernel
theorem dL_law_596 : decode cL_law 596 = .ok (.aload_n 2, 1) := by decide +kernel
theorem dL_law_597 : decode cL_law 597 = .ok (.invokevirtual 97, 3) := by decide +kernel
theorem dL_law_600 : decode cL_law 600 = .ok (.iload 6, 2) := by decide +kernel
theorem dL_law_602 : decode cL_law 602 = .ok (.if_icmp .eq 5, 3) := by decide +kernel
theorem dL_law_605 : decode cL_law 605 = .ok (.iconst 0, 1) := by decide +kernel
theorem dL_law_606 : decode cL_law 606 = .ok (.ireturn, 1) := by decide +kernel
theorem dL_law_607 : decode cL_law 607 = .ok (.iload 6, 2) := by decide +kernel
theorem dL_law_609 : decode cL_law 609 = .ok (.ifCond .ne 15, 3) := by decide +kernel
theorem dL_law_612 : decode cL_law 612 = .ok (.aload_n 3, 1) := by decide +kernel
theorem dL_law_613 : decode cL_law 613 = .ok (.iconst 0, 1) := by decide +kernel
theorem dL_law_614 : decode cL_law 614 = .ok (.laload, 1) := by decide +kernel
theorem dL_law_615 : decode cL_law 615 = .ok (.iload 7, 2) := by decide +kernel
theorem dL_law_617 : decode cL_law 617 = .ok (.i2l, 1) := by decide +kernel
theorem dL_law_618 : decode cL_law 618 = .ok (.lcmp, 1) := by decide +kernel
theorem dL_law_619 : decode cL_law 619 = .ok (.ifCond .eq 5, 3) := by decide +kernel
theorem dL_law_622 : decode cL_law 622 = .ok (.iconst 0, 1) := by decide +kernel
theorem dL_law_623 : decode cL_law 623 = .ok (.ireturn, 1) := by decide +kernel
theorem dL_law_624 : decode cL_law 624 = .ok (.goto 804, 3) := by decide +kernel
theorem dL_law_627 : decode cL_law 627 = .ok (.aload_n 1, 1) := by decide +kernel
theorem dL_law_628 : decode cL_law 628 = .ok (.invokevirtual 141, 3) := by decide +kernel
theorem dL_law_631 : decode cL_law 631 = .ok (.aload_n 2, 1) := by decide +kernel
theorem dL_law_632 : decode cL_law 632 = .ok (.invokevirtual 144, 3) := by decide +kernel
theorem dL_law_635 : decode cL_law 635 = .ok (.if_icmp .eq 793, 3) := by decide +kernel
theorem dL_law_638 : decode cL_law 638 = .ok (.iconst 0, 1) := by decide +kernel
theorem dL_law_639 : decode cL_law 639 = .ok (.ireturn, 1) := by decide +kernel
theorem dL_law_640 : decode cL_law 640 = .ok (.aload_n 1, 1) := by decide +kernel
theorem dL_law_641 : decode cL_law 641 = .ok (.aload_n 0, 1) := by decide +kernel
theorem dL_law_642 : decode cL_law 642 = .ok (.iload 5, 2) := by decide +kernel
theorem dL_law_644 : decode cL_law 644 = .ok (.iconst 1, 1) := by decide +kernel
theorem dL_law_645 : decode cL_law 645 = .ok (.iadd, 1) := by decide +kernel
theorem dL_law_646 : decode cL_law 646 = .ok (.iaload, 1) := by decide +kernel
theorem dL_law_647 : decode cL_law 647 = .ok (.aload_n 3, 1) := by decide +kernel
theorem dL_law_648 : decode cL_law 648 = .ok (.invokestatic 145, 3) := by decide +kernel
theorem dL_law_651 : decode cL_law 651 = .ok (.istore 6, 2) := by decide +kernel
theorem dL_law_653 : decode cL_law 653 = .ok (.aload_n 2, 1) := by decide +kernel
theorem dL_law_654 : decode cL_law 654 = .ok (.aload_n 0, 1) := by decide +kernel
theorem dL_law_655 : decode cL_law 655 = .ok (.iload 5, 2) := by decide +kernel
theorem dL_law_657 : decode cL_law 657 = .ok (.iconst 1, 1) := by decide +kernel
theorem dL_law_658 : decode cL_law 658 = .ok (.iadd, 1) := by decide +kernel
theorem dL_law_659 : decode cL_law 659 = .ok (.iaload, 1) := by decide +kernel
theorem dL_law_660 : decode cL_law 660 = .ok (.invokevirtual 147, 3) := by decide +kernel
theorem dL_law_663 : decode cL_law 663 = .ok (.istore 7, 2) := by decide +kernel
theorem dL_law_665 : decode cL_law 665 = .ok (.aload_n 2, 1) := by decide +kernel
theorem dL_law_666 : decode cL_law 666 = .ok (.invokevirtual 97, 3) := by decide +kernel
theorem dL_law_669 : decode cL_law 669 = .ok (.iload 6, 2) := by decide +kernel
theorem dL_law_671 : decode cL_law 671 = .ok (.if_icmp .eq 5, 3) := by decide +kernel
theorem dL_law_674 : decode cL_law 674 = .ok (.iconst 0, 1) := by decide +kernel
theorem dL_law_675 : decode cL_law 675 = .ok (.ireturn, 1) := by decide +kernel
theorem dL_law_676 : decode cL_law 676 = .ok (.iload 6, 2) := by decide +kernel
theorem dL_law_678 : decode cL_law 678 = .ok (.ifCond .ne 15, 3) := by decide +kernel
theorem dL_law_681 : decode cL_law 681 = .ok (.aload_n 3, 1) := by decide +kernel
theorem dL_law_682 : decode cL_law 682 = .ok (.iconst 0, 1) := by decide +kernel
theorem dL_law_683 : decode cL_law 683 = .ok (.laload, 1) := by decide +kernel
theorem dL_law_684 : decode cL_law 684 = .ok (.iload 7, 2) := by decide +kernel
theorem dL_law_686 : decode cL_law 686 = .ok (.i2l, 1) := by decide +kernel
theorem dL_law_687 : decode cL_law 687 = .ok (.lcmp, 1) := by decide +kernel
theorem dL_law_688 : decode cL_law 688 = .ok (.ifCond .eq 5, 3) := by decide +kernel
theorem dL_law_691 : decode cL_law 691 = .ok (.iconst 0, 1) := by decide +kernel
theorem dL_law_692 : decode cL_law 692 = .ok (.ireturn, 1) := by decide +kernel
theorem dL_law_693 : decode cL_law 693 = .ok (.goto 735, 3) := by decide +kernel
theorem dL_law_696 : decode cL_law 696 = .ok (.aload_n 1, 1) := by decide +kernel
theorem dL_law_697 : decode cL_law 697 = .ok (.invokevirtual 148, 3) := by decide +kernel
theorem dL_law_700 : decode cL_law 700 = .ok (.aload_n 2, 1) := by decide +kernel
theorem dL_law_701 : decode cL_law 701 = .ok (.invokevirtual 151, 3) := by decide +kernel
theorem dL_law_704 : decode cL_law 704 = .ok (.if_icmp .eq 724, 3) := by decide +kernel
theorem dL_law_707 : decode cL_law 707 = .ok (.iconst 0, 1) := by decide +kernel
theorem dL_law_708 : decode cL_law 708 = .ok (.ireturn, 1) := by decide +kernel
theorem dL_law_709 : decode cL_law 709 = .ok (.aload_n 1, 1) := by decide +kernel
theorem dL_law_710 : decode cL_law 710 = .ok (.aload_n 0, 1) := by decide +kernel
theorem dL_law_711 : decode cL_law 711 = .ok (.iload 5, 2) := by decide +kernel
theorem dL_law_713 : decode cL_law 713 = .ok (.iconst 1, 1) := by decide +kernel
theorem dL_law_714 : decode cL_law 714 = .ok (.iadd, 1) := by decide +kernel
theorem dL_law_715 : decode cL_law 715 = .ok (.iaload, 1) := by decide +kernel
theorem dL_law_716 : decode cL_law 716 = .ok (.aload_n 3, 1) := by decide +kernel
theorem dL_law_717 : decode cL_law 717 = .ok (.invokestatic 152, 3) := by decide +kernel
theorem dL_law_720 : decode cL_law 720 = .ok (.istore 6, 2) := by decide +kernel
theorem dL_law_722 : decode cL_law 722 = .ok (.aload_n 2, 1) := by decide +kernel
theorem dL_law_723 : decode cL_law 723 = .ok (.aload_n 0, 1) := by decide +kernel
theorem dL_law_724 : decode cL_law 724 = .ok (.iload 5, 2) := by decide +kernel
theorem dL_law_726 : decode cL_law 726 = .ok (.iconst 1, 1) := by decide +kernel
theorem dL_law_727 : decode cL_law 727 = .ok (.iadd, 1) := by decide +kernel
theorem dL_law_728 : decode cL_law 728 = .ok (.iaload, 1) := by decide +kernel
theorem dL_law_729 : decode cL_law 729 = .ok (.invokevirtual 154, 3) := by decide +kernel
theorem dL_law_732 : decode cL_law 732 = .ok (.istore 7, 2) := by decide +kernel
theorem dL_law_734 : decode cL_law 734 = .ok (.aload_n 2, 1) := by decide +kernel
theorem dL_law_735 : decode cL_law 735 = .ok (.invokevirtual 97, 3) := by decide +kernel
theorem dL_law_738 : decode cL_law 738 = .ok (.iload 6, 2) := by decide +kernel
theorem dL_law_740 : decode cL_law 740 = .ok (.if_icmp .eq 5, 3) := by decide +kernel
theorem dL_law_743 : decode cL_law 743 = .ok (.iconst 0, 1) := by decide +kernel
theorem dL_law_744 : decode cL_law 744 = .ok (.ireturn, 1) := by decide +kernel
theorem dL_law_745 : decode cL_law 745 = .ok (.iload 6, 2) := by decide +kernel
theorem dL_law_747 : decode cL_law 747 = .ok (.ifCond .ne 15, 3) := by decide +kernel
theorem dL_law_750 : decode cL_law 750 = .ok (.aload_n 3, 1) := by decide +kernel
theorem dL_law_751 : decode cL_law 751 = .ok (.iconst 0, 1) := by decide +kernel
theorem dL_law_752 : decode cL_law 752 = .ok (.laload, 1) := by decide +kernel
theorem dL_law_753 : decode cL_law 753 = .ok (.iload 7, 2) := by decide +kernel
theorem dL_law_755 : decode cL_law 755 = .ok (.i2l, 1) := by decide +kernel
theorem dL_law_756 : decode cL_law 756 = .ok (.lcmp, 1) := by decide +kernel
theorem dL_law_757 : decode cL_law 757 = .ok (.ifCond .eq 5, 3) := by decide +kernel
theorem dL_law_760 : decode cL_law 760 = .ok (.iconst 0, 1) := by decide +kernel
theorem dL_law_761 : decode cL_law 761 = .ok (.ireturn, 1) := by decide +kernel
theorem dL_law_762 : decode cL_law 762 = .ok (.goto 666, 3) := by decide +kernel
theorem dL_law_765 : decode cL_law 765 = .ok (.aload_n 1, 1) := by decide +kernel
theorem dL_law_766 : decode cL_law 766 = .ok (.aload_n 0, 1) := by decide +kernel
theorem dL_law_767 : decode cL_law 767 = .ok (.iload 5, 2) := by decide +kernel
theorem dL_law_769 : decode cL_law 769 = .ok (.iconst 1, 1) := by decide +kernel
theorem dL_law_770 : decode cL_law 770 = .ok (.iadd, 1) := by decide +kernel
theorem dL_law_771 : decode cL_law 771 = .ok (.iaload, 1) := by decide +kernel
theorem dL_law_772 : decode cL_law 772 = .ok (.aload_n 3, 1) := by decide +kernel
theorem dL_law_773 : decode cL_law 773 = .ok (.invokestatic 155, 3) := by decide +kernel
theorem dL_law_776 : decode cL_law 776 = .ok (.istore 6, 2) := by decide +kernel
theorem dL_law_778 : decode cL_law 778 = .ok (.aload_n 2, 1) := by decide +kernel
theorem dL_law_779 : decode cL_law 779 = .ok (.aload_n 0, 1) := by decide +kernel
theorem dL_law_780 : decode cL_law 780 = .ok (.iload 5, 2) := by decide +kernel
theorem dL_law_782 : decode cL_law 782 = .ok (.iconst 1, 1) := by decide +kernel
theorem dL_law_783 : decode cL_law 783 = .ok (.iadd, 1) := by decide +kernel
theorem dL_law_784 : decode cL_law 784 = .ok (.iaload, 1) := by decide +kernel
theorem dL_law_785 : decode cL_law 785 = .ok (.invokevirtual 157, 3) := by decide +kernel
theorem dL_law_788 : decode cL_law 788 = .ok (.istore 7, 2) := by decide +kernel
theorem dL_law_790 : decode cL_law 790 = .ok (.aload_n 2, 1) := by decide +kernel
theorem dL_law_791 : decode cL_law 791 = .ok (.invokevirtual 97, 3) := by decide +kernel
theorem dL_law_794 : decode cL_law 794 = .ok (.iload 6, 2) := by decide +kernel
theorem dL_law_796 : decode cL_law 796 = .ok (.if_icmp .eq 5, 3) := by decide +kernel
theorem dL_law_799 : decode cL_law 799 = .ok (.iconst 0, 1) := by decide +kernel
theorem dL_law_800 : decode cL_law 800 = .ok (.ireturn, 1) := by decide +kernel
theorem dL_law_801 : decode cL_law 801 = .ok (.iload 6, 2) := by decide +kernel
theorem dL_law_803 : decode cL_law 803 = .ok (.ifCond .ne 15, 3) := by decide +kernel
theorem dL_law_806 : decode cL_law 806 = .ok (.aload_n 3, 1) := by decide +kernel
theorem dL_law_807 : decode cL_law 807 = .ok (.iconst 0, 1) := by decide +kernel
theorem dL_law_808 : decode cL_law 808 = .ok (.laload, 1) := by decide +kernel
theorem dL_law_809 : decode cL_law 809 = .ok (.iload 7, 2) := by decide +kernel
theorem dL_law_811 : decode cL_law 811 = .ok (.i2l, 1) := by decide +kernel
theorem dL_law_812 : decode cL_law 812 = .ok (.lcmp, 1) := by decide +kernel
theorem dL_law_813 : decode cL_law 813 = .ok (.ifCond .eq 5, 3) := by decide +kernel
theorem dL_law_816 : decode cL_law 816 = .ok (.iconst 0, 1) := by decide +kernel
theorem dL_law_817 : decode cL_law 817 = .ok (.ireturn, 1) := by decide +kernel
theorem dL_law_818 : decode cL_law 818 = .ok (.goto 610, 3) := by decide +kernel
theorem dL_law_821 : decode cL_law 821 = .ok (.aload_n 1, 1) := by decide +kernel
theorem dL_law_822 : decode cL_law 822 = .ok (.aload_n 0, 1) := by decide +kernel
theorem dL_law_823 : decode cL_law 823 = .ok (.iload 5, 2) := by decide +kernel
theorem dL_law_825 : decode cL_law 825 = .ok (.iconst 1, 1) := by decide +kernel
theorem dL_law_826 : decode cL_law 826 = .ok (.iadd, 1) := by decide +kernel
theorem dL_law_827 : decode cL_law 827 = .ok (.iaload, 1) := by decide +kernel
theorem dL_law_828 : decode cL_law 828 = .ok (.aload_n 3, 1) := by decide +kernel
theorem dL_law_829 : decode cL_law 829 = .ok (.invokestatic 158, 3) := by decide +kernel
theorem dL_law_832 : decode cL_law 832 = .ok (.istore 6, 2) := by decide +kernel
theorem dL_law_834 : decode cL_law 834 = .ok (.aload_n 2, 1) := by decide +kernel
theorem dL_law_835 : decode cL_law 835 = .ok (.aload_n 0, 1) := by decide +kernel
theorem dL_law_836 : decode cL_law 836 = .ok (.iload 5, 2) := by decide +kernel
theorem dL_law_838 : decode cL_law 838 = .ok (.iconst 1, 1) := by decide +kernel
theorem dL_law_839 : decode cL_law 839 = .ok (.iadd, 1) := by decide +kernel
theorem dL_law_840 : decode cL_law 840 = .ok (.iaload, 1) := by decide +kernel
theorem dL_law_841 : decode cL_law 841 = .ok (.invokevirtual 160, 3) := by decide +kernel
theorem dL_law_844 : decode cL_law 844 = .ok (.istore 7, 2) := by decide +kernel
theorem dL_law_846 : decode cL_law 846 = .ok (.aload_n 2, 1) := by decide +kernel
theorem dL_law_847 : decode cL_law 847 = .ok (.invokevirtual 97, 3) := by decide +kernel
theorem dL_law_850 : decode cL_law 850 = .ok (.iload 6, 2) := by decide +kernel
theorem dL_law_852 : decode cL_law 852 = .ok (.if_icmp .eq 5, 3) := by decide +kernel
theorem dL_law_855 : decode cL_law 855 = .ok (.iconst 0, 1) := by decide +kernel
theorem dL_law_856 : decode cL_law 856 = .ok (.ireturn, 1) := by decide +kernel
theorem dL_law_857 : decode cL_law 857 = .ok (.iload 6, 2) := by decide +kernel
theorem dL_law_859 : decode cL_law 859 = .ok (.ifCond .ne 22, 3) := by decide +kernel
theorem dL_law_862 : decode cL_law 862 = .ok (.aload_n 3, 1) := by decide +kernel
theorem dL_law_863 : decode cL_law 863 = .ok (.iconst 0, 1) := by decide +kernel
theorem dL_law_864 : decode cL_law 864 = .ok (.laload, 1) := by decide +kernel
theorem dL_law_865 : decode cL_law 865 = .ok (.iload 7, 2) := by decide +kernel
theorem dL_law_867 : decode cL_law 867 = .ok (.ifCond .eq 7, 3) := by decide +kernel
theorem dL_law_870 : decode cL_law 870 = .ok (.lconst 1, 1) := by decide +kernel
theorem dL_law_871 : decode cL_law 871 = .ok (.goto 4, 3) := by decide +kernel
theorem dL_law_874 : decode cL_law 874 = .ok (.lconst 0, 1) := by decide +kernel
theorem dL_law_875 : decode cL_law 875 = .ok (.lcmp, 1) := by decide +kernel
theorem dL_law_876 : decode cL_law 876 = .ok (.ifCond .eq 5, 3) := by decide +kernel
theorem dL_law_879 : decode cL_law 879 = .ok (.iconst 0, 1) := by decide +kernel
theorem dL_law_880 : decode cL_law 880 = .ok (.ireturn, 1) := by decide +kernel
theorem dL_law_881 : decode cL_law 881 = .ok (.goto 547, 3) := by decide +kernel
theorem dL_law_884 : decode cL_law 884 = .ok (.aload_n 1, 1) := by decide +kernel
theorem dL_law_885 : decode cL_law 885 = .ok (.aload_n 0, 1) := by decide +kernel
theorem dL_law_886 : decode cL_law 886 = .ok (.iload 5, 2) := by decide +kernel
theorem dL_law_888 : decode cL_law 888 = .ok (.iconst 1, 1) := by decide +kernel
theorem dL_law_889 : decode cL_law 889 = .ok (.iadd, 1) := by decide +kernel
theorem dL_law_890 : decode cL_law 890 = .ok (.iaload, 1) := by decide +kernel
theorem dL_law_891 : decode cL_law 891 = .ok (.aload_n 3, 1) := by decide +kernel
theorem dL_law_892 : decode cL_law 892 = .ok (.invokestatic 161, 3) := by decide +kernel
theorem dL_law_895 : decode cL_law 895 = .ok (.istore 6, 2) := by decide +kernel
theorem dL_law_897 : decode cL_law 897 = .ok (.aload_n 2, 1) := by decide +kernel
theorem dL_law_898 : decode cL_law 898 = .ok (.aload_n 0, 1) := by decide +kernel
theorem dL_law_899 : decode cL_law 899 = .ok (.iload 5, 2) := by decide +kernel
theorem dL_law_901 : decode cL_law 901 = .ok (.iconst 1, 1) := by decide +kernel
theorem dL_law_902 : decode cL_law 902 = .ok (.iadd, 1) := by decide +kernel
theorem dL_law_903 : decode cL_law 903 = .ok (.iaload, 1) := by decide +kernel
theorem dL_law_904 : decode cL_law 904 = .ok (.invokevirtual 163, 3) := by decide +kernel
theorem dL_law_907 : decode cL_law 907 = .ok (.istore 7, 2) := by decide +kernel
theorem dL_law_909 : decode cL_law 909 = .ok (.aload_n 2, 1) := by decide +kernel
theorem dL_law_910 : decode cL_law 910 = .ok (.invokevirtual 97, 3) := by decide +kernel
theorem dL_law_913 : decode cL_law 913 = .ok (.iload 6, 2) := by decide +kernel
theorem dL_law_915 : decode cL_law 915 = .ok (.if_icmp .eq 5, 3) := by decide +kernel
theorem dL_law_918 : decode cL_law 918 = .ok (.iconst 0, 1) := by decide +kernel
theorem dL_law_919 : decode cL_law 919 = .ok (.ireturn, 1) := by decide +kernel
theorem dL_law_920 : decode cL_law 920 = .ok (.iload 6, 2) := by decide +kernel
theorem dL_law_922 : decode cL_law 922 = .ok (.ifCond .ne 15, 3) := by decide +kernel
theorem dL_law_925 : decode cL_law 925 = .ok (.aload_n 3, 1) := by decide +kernel
theorem dL_law_926 : decode cL_law 926 = .ok (.iconst 0, 1) := by decide +kernel
theorem dL_law_927 : decode cL_law 927 = .ok (.laload, 1) := by decide +kernel
theorem dL_law_928 : decode cL_law 928 = .ok (.iload 7, 2) := by decide +kernel
theorem dL_law_930 : decode cL_law 930 = .ok (.i2l, 1) := by decide +kernel
theorem dL_law_931 : decode cL_law 931 = .ok (.lcmp, 1) := by decide +kernel
theorem dL_law_932 : decode cL_law 932 = .ok (.ifCond .eq 5, 3) := by decide +kernel
theorem dL_law_935 : decode cL_law 935 = .ok (.iconst 0, 1) := by decide +kernel
theorem dL_law_936 : decode cL_law 936 = .ok (.ireturn, 1) := by decide +kernel
theorem dL_law_937 : decode cL_law 937 = .ok (.goto 491, 3) := by decide +kernel
theorem dL_law_940 : decode cL_law 940 = .ok (.aload_n 1, 1) := by decide +kernel
theorem dL_law_941 : decode cL_law 941 = .ok (.aload_n 0, 1) := by decide +kernel
theorem dL_law_942 : decode cL_law 942 = .ok (.iload 5, 2) := by decide +kernel
theorem dL_law_944 : decode cL_law 944 = .ok (.iconst 1, 1) := by decide +kernel
theorem dL_law_945 : decode cL_law 945 = .ok (.iadd, 1) := by decide +kernel
theorem dL_law_946 : decode cL_law 946 = .ok (.iaload, 1) := by decide +kernel
theorem dL_law_947 : decode cL_law 947 = .ok (.aload_n 3, 1) := by decide +kernel
theorem dL_law_948 : decode cL_law 948 = .ok (.invokestatic 164, 3) := by decide +kernel
theorem dL_law_951 : decode cL_law 951 = .ok (.istore 6, 2) := by decide +kernel
theorem dL_law_953 : decode cL_law 953 = .ok (.aload_n 2, 1) := by decide +kernel
theorem dL_law_954 : decode cL_law 954 = .ok (.aload_n 0, 1) := by decide +kernel
theorem dL_law_955 : decode cL_law 955 = .ok (.iload 5, 2) := by decide +kernel
theorem dL_law_957 : decode cL_law 957 = .ok (.iconst 1, 1) := by decide +kernel
theorem dL_law_958 : decode cL_law 958 = .ok (.iadd, 1) := by decide +kernel
theorem dL_law_959 : decode cL_law 959 = .ok (.iaload, 1) := by decide +kernel
theorem dL_law_960 : decode cL_law 960 = .ok (.invokevirtual 166, 3) := by decide +kernel
theorem dL_law_963 : decode cL_law 963 = .ok (.istore 7, 2) := by decide +kernel
theorem dL_law_965 : decode cL_law 965 = .ok (.aload_n 2, 1) := by decide +kernel
theorem dL_law_966 : decode cL_law 966 = .ok (.invokevirtual 97, 3) := by decide +kernel
theorem dL_law_969 : decode cL_law 969 = .ok (.iload 6, 2) := by decide +kernel
theorem dL_law_971 : decode cL_law 971 = .ok (.if_icmp .eq 5, 3) := by decide +kernel
theorem dL_law_974 : decode cL_law 974 = .ok (.iconst 0, 1) := by decide +kernel
theorem dL_law_975 : decode cL_law 975 = .ok (.ireturn, 1) := by decide +kernel
theorem dL_law_976 : decode cL_law 976 = .ok (.iload 6, 2) := by decide +kernel
theorem dL_law_978 : decode cL_law 978 = .ok (.ifCond .ne 15, 3) := by decide +kernel
theorem dL_law_981 : decode cL_law 981 = .ok (.aload_n 3, 1) := by decide +kernel
theorem dL_law_982 : decode cL_law 982 = .ok (.iconst 0, 1) := by decide +kernel
theorem dL_law_983 : decode cL_law 983 = .ok (.laload, 1) := by decide +kernel
theorem dL_law_984 : decode cL_law 984 = .ok (.iload 7, 2) := by decide +kernel
theorem dL_law_986 : decode cL_law 986 = .ok (.i2l, 1) := by decide +kernel
theorem dL_law_987 : decode cL_law 987 = .ok (.lcmp, 1) := by decide +kernel
theorem dL_law_988 : decode cL_law 988 = .ok (.ifCond .eq 5, 3) := by decide +kernel
theorem dL_law_991 : decode cL_law 991 = .ok (.iconst 0, 1) := by decide +kernel
theorem dL_law_992 : decode cL_law 992 = .ok (.ireturn, 1) := by decide +kernel
theorem dL_law_993 : decode cL_law 993 = .ok (.goto 435, 3) := by decide +kernel
theorem dL_law_996 : decode cL_law 996 = .ok (.aload_n 1, 1) := by decide +kernel
theorem dL_law_997 : decode cL_law 997 = .ok (.aload_n 0, 1) := by decide +kernel
theorem dL_law_998 : decode cL_law 998 = .ok (.iload 5, 2) := by decide +kernel
theorem dL_law_1000 : decode cL_law 1000 = .ok (.iconst 1, 1) := by decide +kernel
theorem dL_law_1001 : decode cL_law 1001 = .ok (.iadd, 1) := by decide +kernel
theorem dL_law_1002 : decode cL_law 1002 = .ok (.iaload, 1) := by decide +kernel
theorem dL_law_1003 : decode cL_law 1003 = .ok (.aload_n 3, 1) := by decide +kernel
theorem dL_law_1004 : decode cL_law 1004 = .ok (.invokestatic 167, 3) := by decide +kernel
theorem dL_law_1007 : decode cL_law 1007 = .ok (.istore 6, 2) := by decide +kernel
theorem dL_law_1009 : decode cL_law 1009 = .ok (.aload_n 2, 1) := by decide +kernel
theorem dL_law_1010 : decode cL_law 1010 = .ok (.aload_n 0, 1) := by decide +kernel
theorem dL_law_1011 : decode cL_law 1011 = .ok (.iload 5, 2) := by decide +kernel
theorem dL_law_1013 : decode cL_law 1013 = .ok (.iconst 1, 1) := by decide +kernel
theorem dL_law_1014 : decode cL_law 1014 = .ok (.iadd, 1) := by decide +kernel
theorem dL_law_1015 : decode cL_law 1015 = .ok (.iaload, 1) := by decide +kernel
theorem dL_law_1016 : decode cL_law 1016 = .ok (.invokevirtual 169, 3) := by decide +kernel
theorem dL_law_1019 : decode cL_law 1019 = .ok (.istore 7, 2) := by decide +kernel
theorem dL_law_1021 : decode cL_law 1021 = .ok (.aload_n 2, 1) := by decide +kernel
theorem dL_law_1022 : decode cL_law 1022 = .ok (.invokevirtual 97, 3) := by decide +kernel
theorem dL_law_1025 : decode cL_law 1025 = .ok (.iload 6, 2) := by decide +kernel
theorem dL_law_1027 : decode cL_law 1027 = .ok (.if_icmp .eq 5, 3) := by decide +kernel
theorem dL_law_1030 : decode cL_law 1030 = .ok (.iconst 0, 1) := by decide +kernel
theorem dL_law_1031 : decode cL_law 1031 = .ok (.ireturn, 1) := by decide +kernel
theorem dL_law_1032 : decode cL_law 1032 = .ok (.iload 6, 2) := by decide +kernel
theorem dL_law_1034 : decode cL_law 1034 = .ok (.ifCond .ne 15, 3) := by decide +kernel
theorem dL_law_1037 : decode cL_law 1037 = .ok (.aload_n 3, 1) := by decide +kernel
theorem dL_law_1038 : decode cL_law 1038 = .ok (.iconst 0, 1) := by decide +kernel
theorem dL_law_1039 : decode cL_law 1039 = .ok (.laload, 1) := by decide +kernel
theorem dL_law_1040 : decode cL_law 1040 = .ok (.iload 7, 2) := by decide +kernel
theorem dL_law_1042 : decode cL_law 1042 = .ok (.i2l, 1) := by decide +kernel
theorem dL_law_1043 : decode cL_law 1043 = .ok (.lcmp, 1) := by decide +kernel
theorem dL_law_1044 : decode cL_law 1044 = .ok (.ifCond .eq 5, 3) := by decide +kernel
theorem dL_law_1047 : decode cL_law 1047 = .ok (.iconst 0, 1) := by decide +kernel
theorem dL_law_1048 : decode cL_law 1048 = .ok (.ireturn, 1) := by decide +kernel
theorem dL_law_1049 : decode cL_law 1049 = .ok (.goto 379, 3) := by decide +kernel
theorem dL_law_1052 : decode cL_law 1052 = .ok (.aload_n 1, 1) := by decide +kernel
theorem dL_law_1053 : decode cL_law 1053 = .ok (.aload_n 0, 1) := by decide +kernel
theorem dL_law_1054 : decode cL_law 1054 = .ok (.iload 5, 2) := by decide +kernel
theorem dL_law_1056 : decode cL_law 1056 = .ok (.iconst 1, 1) := by decide +kernel
theorem dL_law_1057 : decode cL_law 1057 = .ok (.iadd, 1) := by decide +kernel
theorem dL_law_1058 : decode cL_law 1058 = .ok (.iaload, 1) := by decide +kernel
theorem dL_law_1059 : decode cL_law 1059 = .ok (.aload_n 0, 1) := by decide +kernel
theorem dL_law_1060 : decode cL_law 1060 = .ok (.iload 5, 2) := by decide +kernel
theorem dL_law_1062 : decode cL_law 1062 = .ok (.iconst 2, 1) := by decide +kernel
theorem dL_law_1063 : decode cL_law 1063 = .ok (.iadd, 1) := by decide +kernel
theorem dL_law_1064 : decode cL_law 1064 = .ok (.iaload, 1) := by decide +kernel
theorem dL_law_1065 : decode cL_law 1065 = .ok (.aload_n 3, 1) := by decide +kernel
theorem dL_law_1066 : decode cL_law 1066 = .ok (.invokestatic 170, 3) := by decide +kernel
theorem dL_law_1069 : decode cL_law 1069 = .ok (.istore 6, 2) := by decide +kernel
theorem dL_law_1071 : decode cL_law 1071 = .ok (.aload_n 2, 1) := by decide +kernel
theorem dL_law_1072 : decode cL_law 1072 = .ok (.aload_n 0, 1) := by decide +kernel
theorem dL_law_1073 : decode cL_law 1073 = .ok (.iload 5, 2) := by decide +kernel
theorem dL_law_1075 : decode cL_law 1075 = .ok (.iconst 1, 1) := by decide +kernel
theorem dL_law_1076 : decode cL_law 1076 = .ok (.iadd, 1) := by decide +kernel
theorem dL_law_1077 : decode cL_law 1077 = .ok (.iaload, 1) := by decide +kernel
theorem dL_law_1078 : decode cL_law 1078 = .ok (.aload_n 0, 1) := by decide +kernel
theorem dL_law_1079 : decode cL_law 1079 = .ok (.iload 5, 2) := by decide +kernel
theorem dL_law_1081 : decode cL_law 1081 = .ok (.iconst 2, 1) := by decide +kernel
theorem dL_law_1082 : decode cL_law 1082 = .ok (.iadd, 1) := by decide +kernel
theorem dL_law_1083 : decode cL_law 1083 = .ok (.iaload, 1) := by decide +kernel
theorem dL_law_1084 : decode cL_law 1084 = .ok (.invokevirtual 173, 3) := by decide +kernel
theorem dL_law_1087 : decode cL_law 1087 = .ok (.istore 7, 2) := by decide +kernel
theorem dL_law_1089 : decode cL_law 1089 = .ok (.aload_n 2, 1) := by decide +kernel
theorem dL_law_1090 : decode cL_law 1090 = .ok (.invokevirtual 97, 3) := by decide +kernel
theorem dL_law_1093 : decode cL_law 1093 = .ok (.iload 6, 2) := by decide +kernel
theorem dL_law_1095 : decode cL_law 1095 = .ok (.if_icmp .eq 5, 3) := by decide +kernel
theorem dL_law_1098 : decode cL_law 1098 = .ok (.iconst 0, 1) := by decide +kernel
theorem dL_law_1099 : decode cL_law 1099 = .ok (.ireturn, 1) := by decide +kernel
theorem dL_law_1100 : decode cL_law 1100 = .ok (.iload 6, 2) := by decide +kernel
theorem dL_law_1102 : decode cL_law 1102 = .ok (.ifCond .ne 15, 3) := by decide +kernel
theorem dL_law_1105 : decode cL_law 1105 = .ok (.aload_n 3, 1) := by decide +kernel
theorem dL_law_1106 : decode cL_law 1106 = .ok (.iconst 0, 1) := by decide +kernel
theorem dL_law_1107 : decode cL_law 1107 = .ok (.laload, 1) := by decide +kernel
theorem dL_law_1108 : decode cL_law 1108 = .ok (.iload 7, 2) := by decide +kernel
theorem dL_law_1110 : decode cL_law 1110 = .ok (.i2l, 1) := by decide +kernel
theorem dL_law_1111 : decode cL_law 1111 = .ok (.lcmp, 1) := by decide +kernel
theorem dL_law_1112 : decode cL_law 1112 = .ok (.ifCond .eq 5, 3) := by decide +kernel
theorem dL_law_1115 : decode cL_law 1115 = .ok (.iconst 0, 1) := by decide +kernel
theorem dL_law_1116 : decode cL_law 1116 = .ok (.ireturn, 1) := by decide +kernel
theorem dL_law_1117 : decode cL_law 1117 = .ok (.goto 311, 3) := by decide +kernel
theorem dL_law_1120 : decode cL_law 1120 = .ok (.aload_n 1, 1) := by decide +kernel
theorem dL_law_1121 : decode cL_law 1121 = .ok (.aload_n 0, 1) := by decide +kernel
theorem dL_law_1122 : decode cL_law 1122 = .ok (.iload 5, 2) := by decide +kernel
theorem dL_law_1124 : decode cL_law 1124 = .ok (.iconst 1, 1) := by decide +kernel
theorem dL_law_1125 : decode cL_law 1125 = .ok (.iadd, 1) := by decide +kernel
theorem dL_law_1126 : decode cL_law 1126 = .ok (.iaload, 1) := by decide +kernel
theorem dL_law_1127 : decode cL_law 1127 = .ok (.aload_n 0, 1) := by decide +kernel
theorem dL_law_1128 : decode cL_law 1128 = .ok (.iload 5, 2) := by decide +kernel
theorem dL_law_1130 : decode cL_law 1130 = .ok (.iconst 2, 1) := by decide +kernel
theorem dL_law_1131 : decode cL_law 1131 = .ok (.iadd, 1) := by decide +kernel
theorem dL_law_1132 : decode cL_law 1132 = .ok (.iaload, 1) := by decide +kernel
theorem dL_law_1133 : decode cL_law 1133 = .ok (.aload_n 3, 1) := by decide +kernel
theorem dL_law_1134 : decode cL_law 1134 = .ok (.invokestatic 174, 3) := by decide +kernel
theorem dL_law_1137 : decode cL_law 1137 = .ok (.istore 6, 2) := by decide +kernel
theorem dL_law_1139 : decode cL_law 1139 = .ok (.aload_n 2, 1) := by decide +kernel
theorem dL_law_1140 : decode cL_law 1140 = .ok (.aload_n 0, 1) := by decide +kernel
theorem dL_law_1141 : decode cL_law 1141 = .ok (.iload 5, 2) := by decide +kernel
theorem dL_law_1143 : decode cL_law 1143 = .ok (.iconst 1, 1) := by decide +kernel
theorem dL_law_1144 : decode cL_law 1144 = .ok (.iadd, 1) := by decide +kernel
theorem dL_law_1145 : decode cL_law 1145 = .ok (.iaload, 1) := by decide +kernel
theorem dL_law_1146 : decode cL_law 1146 = .ok (.aload_n 0, 1) := by decide +kernel
theorem dL_law_1147 : decode cL_law 1147 = .ok (.iload 5, 2) := by decide +kernel
theorem dL_law_1149 : decode cL_law 1149 = .ok (.iconst 2, 1) := by decide +kernel
theorem dL_law_1150 : decode cL_law 1150 = .ok (.iadd, 1) := by decide +kernel
theorem dL_law_1151 : decode cL_law 1151 = .ok (.iaload, 1) := by decide +kernel
theorem dL_law_1152 : decode cL_law 1152 = .ok (.invokevirtual 176, 3) := by decide +kernel
theorem dL_law_1155 : decode cL_law 1155 = .ok (.istore 7, 2) := by decide +kernel
theorem dL_law_1157 : decode cL_law 1157 = .ok (.aload_n 2, 1) := by decide +kernel
theorem dL_law_1158 : decode cL_law 1158 = .ok (.invokevirtual 97, 3) := by decide +kernel
theorem dL_law_1161 : decode cL_law 1161 = .ok (.iload 6, 2) := by decide +kernel
theorem dL_law_1163 : decode cL_law 1163 = .ok (.if_icmp .eq 5, 3) := by decide +kernel
theorem dL_law_1166 : decode cL_law 1166 = .ok (.iconst 0, 1) := by decide +kernel
theorem dL_law_1167 : decode cL_law 1167 = .ok (.ireturn, 1) := by decide +kernel
theorem dL_law_1168 : decode cL_law 1168 = .ok (.iload 6, 2) := by decide +kernel
theorem dL_law_1170 : decode cL_law 1170 = .ok (.ifCond .ne 15, 3) := by decide +kernel
theorem dL_law_1173 : decode cL_law 1173 = .ok (.aload_n 3, 1) := by decide +kernel
theorem dL_law_1174 : decode cL_law 1174 = .ok (.iconst 0, 1) := by decide +kernel
theorem dL_law_1175 : decode cL_law 1175 = .ok (.laload, 1) := by decide +kernel
theorem dL_law_1176 : decode cL_law 1176 = .ok (.iload 7, 2) := by decide +kernel
theorem dL_law_1178 : decode cL_law 1178 = .ok (.i2l, 1) := by decide +kernel
theorem dL_law_1179 : decode cL_law 1179 = .ok (.lcmp, 1) := by decide +kernel
theorem dL_law_1180 : decode cL_law 1180 = .ok (.ifCond .eq 5, 3) := by decide +kernel
theorem dL_law_1183 : decode cL_law 1183 = .ok (.iconst 0, 1) := by decide +kernel
theorem dL_law_1184 : decode cL_law 1184 = .ok (.ireturn, 1) := by decide +kernel
theorem dL_law_1185 : decode cL_law 1185 = .ok (.goto 243, 3) := by decide +kernel
theorem dL_law_1188 : decode cL_law 1188 = .ok (.aload_n 1, 1) := by decide +kernel
theorem dL_law_1189 : decode cL_law 1189 = .ok (.aload_n 0, 1) := by decide +kernel
theorem dL_law_1190 : decode cL_law 1190 = .ok (.iload 5, 2) := by decide +kernel
theorem dL_law_1192 : decode cL_law 1192 = .ok (.iconst 1, 1) := by decide +kernel
theorem dL_law_1193 : decode cL_law 1193 = .ok (.iadd, 1) := by decide +kernel
theorem dL_law_1194 : decode cL_law 1194 = .ok (.iaload, 1) := by decide +kernel
theorem dL_law_1195 : decode cL_law 1195 = .ok (.aload_n 3, 1) := by decide +kernel
theorem dL_law_1196 : decode cL_law 1196 = .ok (.invokestatic 177, 3) := by decide +kernel
theorem dL_law_1199 : decode cL_law 1199 = .ok (.istore 6, 2) := by decide +kernel
theorem dL_law_1201 : decode cL_law 1201 = .ok (.aload_n 2, 1) := by decide +kernel
theorem dL_law_1202 : decode cL_law 1202 = .ok (.aload_n 0, 1) := by decide +kernel
theorem dL_law_1203 : decode cL_law 1203 = .ok (.iload 5, 2) := by decide +kernel
theorem dL_law_1205 : decode cL_law 1205 = .ok (.iconst 1, 1) := by decide +kernel
theorem dL_law_1206 : decode cL_law 1206 = .ok (.iadd, 1) := by decide +kernel
theorem dL_law_1207 : decode cL_law 1207 = .ok (.iaload, 1) := by decide +kernel
theorem dL_law_1208 : decode cL_law 1208 = .ok (.invokevirtual 179, 3) := by decide +kernel
theorem dL_law_1211 : decode cL_law 1211 = .ok (.istore 7, 2) := by decide +kernel
theorem dL_law_1213 : decode cL_law 1213 = .ok (.aload_n 2, 1) := by decide +kernel
theorem dL_law_1214 : decode cL_law 1214 = .ok (.invokevirtual 97, 3) := by decide +kernel
theorem dL_law_1217 : decode cL_law 1217 = .ok (.iload 6, 2) := by decide +kernel
theorem dL_law_1219 : decode cL_law 1219 = .ok (.if_icmp .eq 5, 3) := by decide +kernel
theorem dL_law_1222 : decode cL_law 1222 = .ok (.iconst 0, 1) := by decide +kernel
theorem dL_law_1223 : decode cL_law 1223 = .ok (.ireturn, 1) := by decide +kernel
theorem dL_law_1224 : decode cL_law 1224 = .ok (.iload 6, 2) := by decide +kernel
theorem dL_law_1226 : decode cL_law 1226 = .ok (.ifCond .ne 15, 3) := by decide +kernel
theorem dL_law_1229 : decode cL_law 1229 = .ok (.aload_n 3, 1) := by decide +kernel
theorem dL_law_1230 : decode cL_law 1230 = .ok (.iconst 0, 1) := by decide +kernel
theorem dL_law_1231 : decode cL_law 1231 = .ok (.laload, 1) := by decide +kernel
theorem dL_law_1232 : decode cL_law 1232 = .ok (.iload 7, 2) := by decide +kernel
theorem dL_law_1234 : decode cL_law 1234 = .ok (.i2l, 1) := by decide +kernel
theorem dL_law_1235 : decode cL_law 1235 = .ok (.lcmp, 1) := by decide +kernel
theorem dL_law_1236 : decode cL_law 1236 = .ok (.ifCond .eq 5, 3) := by decide +kernel
theorem dL_law_1239 : decode cL_law 1239 = .ok (.iconst 0, 1) := by decide +kernel
theorem dL_law_1240 : decode cL_law 1240 = .ok (.ireturn, 1) := by decide +kernel
theorem dL_law_1241 : decode cL_law 1241 = .ok (.goto 187, 3) := by decide +kernel
theorem dL_law_1244 : decode cL_law 1244 = .ok (.aload_n 1, 1) := by decide +kernel
theorem dL_law_1245 : decode cL_law 1245 = .ok (.invokevirtual 180, 3) := by decide +kernel
theorem dL_law_1248 : decode cL_law 1248 = .ok (.aload_n 2, 1) := by decide +kernel
theorem dL_law_1249 : decode cL_law 1249 = .ok (.invokevirtual 184, 3) := by decide +kernel
theorem dL_law_1252 : decode cL_law 1252 = .ok (.if_icmp .eq 176, 3) := by decide +kernel
theorem dL_law_1255 : decode cL_law 1255 = .ok (.iconst 0, 1) := by decide +kernel
theorem dL_law_1256 : decode cL_law 1256 = .ok (.ireturn, 1) := by decide +kernel
theorem dL_law_1257 : decode cL_law 1257 = .ok (.aload_n 1, 1) := by decide +kernel
theorem dL_law_1258 : decode cL_law 1258 = .ok (.invokevirtual 185, 3) := by decide +kernel
theorem dL_law_1261 : decode cL_law 1261 = .ok (.aload_n 2, 1) := by decide +kernel
theorem dL_law_1262 : decode cL_law 1262 = .ok (.invokevirtual 189, 3) := by decide +kernel
theorem dL_law_1265 : decode cL_law 1265 = .ok (.lcmp, 1) := by decide +kernel
theorem dL_law_1266 : decode cL_law 1266 = .ok (.ifCond .eq 162, 3) := by decide +kernel
theorem dL_law_1269 : decode cL_law 1269 = .ok (.iconst 0, 1) := by decide +kernel
theorem dL_law_1270 : decode cL_law 1270 = .ok (.ireturn, 1) := by decide +kernel
theorem dL_law_1271 : decode cL_law 1271 = .ok (.aload_n 1, 1) := by decide +kernel
theorem dL_law_1272 : decode cL_law 1272 = .ok (.invokevirtual 190, 3) := by decide +kernel
theorem dL_law_1275 : decode cL_law 1275 = .ok (.aload_n 2, 1) := by decide +kernel
theorem dL_law_1276 : decode cL_law 1276 = .ok (.invokevirtual 193, 3) := by decide +kernel
theorem dL_law_1279 : decode cL_law 1279 = .ok (.if_icmp .eq 149, 3) := by decide +kernel
theorem dL_law_1282 : decode cL_law 1282 = .ok (.iconst 0, 1) := by decide +kernel
theorem dL_law_1283 : decode cL_law 1283 = .ok (.ireturn, 1) := by decide +kernel
theorem dL_law_1284 : decode cL_law 1284 = .ok (.aload_n 1, 1) := by decide +kernel
theorem dL_law_1285 : decode cL_law 1285 = .ok (.aload 4, 2) := by decide +kernel
theorem dL_law_1287 : decode cL_law 1287 = .ok (.invokestatic 194, 3) := by decide +kernel
theorem dL_law_1290 : decode cL_law 1290 = .ok (.istore 6, 2) := by decide +kernel
theorem dL_law_1292 : decode cL_law 1292 = .ok (.aload_n 2, 1) := by decide +kernel
theorem dL_law_1293 : decode cL_law 1293 = .ok (.invokevirtual 197, 3) := by decide +kernel
theorem dL_law_1296 : decode cL_law 1296 = .ok (.fstore 7, 2) := by decide +kernel
theorem dL_law_1298 : decode cL_law 1298 = .ok (.aload_n 2, 1) := by decide +kernel
theorem dL_law_1299 : decode cL_law 1299 = .ok (.invokevirtual 97, 3) := by decide +kernel
theorem dL_law_1302 : decode cL_law 1302 = .ok (.iload 6, 2) := by decide +kernel
theorem dL_law_1304 : decode cL_law 1304 = .ok (.if_icmp .eq 5, 3) := by decide +kernel
theorem dL_law_1307 : decode cL_law 1307 = .ok (.iconst 0, 1) := by decide +kernel
theorem dL_law_1308 : decode cL_law 1308 = .ok (.ireturn, 1) := by decide +kernel
theorem dL_law_1309 : decode cL_law 1309 = .ok (.iload 6, 2) := by decide +kernel
theorem dL_law_1311 : decode cL_law 1311 = .ok (.ifCond .ne 36, 3) := by decide +kernel
theorem dL_law_1314 : decode cL_law 1314 = .ok (.aload 4, 2) := by decide +kernel
theorem dL_law_1316 : decode cL_law 1316 = .ok (.iconst 0, 1) := by decide +kernel
theorem dL_law_1317 : decode cL_law 1317 = .ok (.daload, 1) := by decide +kernel
theorem dL_law_1318 : decode cL_law 1318 = .ok (.fload 7, 2) := by decide +kernel
theorem dL_law_1320 : decode cL_law 1320 = .ok (.f2d, 1) := by decide +kernel
theorem dL_law_1321 : decode cL_law 1321 = .ok (.dcmp .l, 1) := by decide +kernel
theorem dL_law_1322 : decode cL_law 1322 = .ok (.ifCond .eq 25, 3) := by decide +kernel
theorem dL_law_1325 : decode cL_law 1325 = .ok (.aload 4, 2) := by decide +kernel
theorem dL_law_1327 : decode cL_law 1327 = .ok (.iconst 0, 1) := by decide +kernel
theorem dL_law_1328 : decode cL_law 1328 = .ok (.daload, 1) := by decide +kernel
theorem dL_law_1329 : decode cL_law 1329 = .ok (.aload 4, 2) := by decide +kernel
theorem dL_law_1331 : decode cL_law 1331 = .ok (.iconst 0, 1) := by decide +kernel
theorem dL_law_1332 : decode cL_law 1332 = .ok (.daload, 1) := by decide +kernel
theorem dL_law_1333 : decode cL_law 1333 = .ok (.dcmp .l, 1) := by decide +kernel
theorem dL_law_1334 : decode cL_law 1334 = .ok (.ifCond .eq 11, 3) := by decide +kernel
theorem dL_law_1337 : decode cL_law 1337 = .ok (.fload 7, 2) := by decide +kernel
theorem dL_law_1339 : decode cL_law 1339 = .ok (.fload 7, 2) := by decide +kernel
theorem dL_law_1341 : decode cL_law 1341 = .ok (.fcmp .l, 1) := by decide +kernel
theorem dL_law_1342 : decode cL_law 1342 = .ok (.ifCond .ne 5, 3) := by decide +kernel
theorem dL_law_1345 : decode cL_law 1345 = .ok (.iconst 0, 1) := by decide +kernel
theorem dL_law_1346 : decode cL_law 1346 = .ok (.ireturn, 1) := by decide +kernel
theorem dL_law_1347 : decode cL_law 1347 = .ok (.goto 81, 3) := by decide +kernel
theorem dL_law_1350 : decode cL_law 1350 = .ok (.aload_n 1, 1) := by decide +kernel
theorem dL_law_1351 : decode cL_law 1351 = .ok (.aload 4, 2) := by decide +kernel
theorem dL_law_1353 : decode cL_law 1353 = .ok (.invokestatic 198, 3) := by decide +kernel
theorem dL_law_1356 : decode cL_law 1356 = .ok (.istore 6, 2) := by decide +kernel
theorem dL_law_1358 : decode cL_law 1358 = .ok (.aload_n 2, 1) := by decide +kernel
theorem dL_law_1359 : decode cL_law 1359 = .ok (.invokevirtual 200, 3) := by decide +kernel
theorem dL_law_1362 : decode cL_law 1362 = .ok (.dstore 7, 2) := by decide +kernel
theorem dL_law_1364 : decode cL_law 1364 = .ok (.aload_n 2, 1) := by decide +kernel
theorem dL_law_1365 : decode cL_law 1365 = .ok (.invokevirtual 97, 3) := by decide +kernel
theorem dL_law_1368 : decode cL_law 1368 = .ok (.iload 6, 2) := by decide +kernel
theorem dL_law_1370 : decode cL_law 1370 = .ok (.if_icmp .eq 5, 3) := by decide +kernel
theorem dL_law_1373 : decode cL_law 1373 = .ok (.iconst 0, 1) := by decide +kernel
theorem dL_law_1374 : decode cL_law 1374 = .ok (.ireturn, 1) := by decide +kernel
theorem dL_law_1375 : decode cL_law 1375 = .ok (.iload 6, 2) := by decide +kernel
theorem dL_law_1377 : decode cL_law 1377 = .ok (.ifCond .ne 35, 3) := by decide +kernel
theorem dL_law_1380 : decode cL_law 1380 = .ok (.aload 4, 2) := by decide +kernel
theorem dL_law_1382 : decode cL_law 1382 = .ok (.iconst 0, 1) := by decide +kernel
theorem dL_law_1383 : decode cL_law 1383 = .ok (.daload, 1) := by decide +kernel
theorem dL_law_1384 : decode cL_law 1384 = .ok (.dload 7, 2) := by decide +kernel
theorem dL_law_1386 : decode cL_law 1386 = .ok (.dcmp .l, 1) := by decide +kernel
theorem dL_law_1387 : decode cL_law 1387 = .ok (.ifCond .eq 25, 3) := by decide +kernel
theorem dL_law_1390 : decode cL_law 1390 = .ok (.aload 4, 2) := by decide +kernel
theorem dL_law_1392 : decode cL_law 1392 = .ok (.iconst 0, 1) := by decide +kernel
theorem dL_law_1393 : decode cL_law 1393 = .ok (.daload, 1) := by decide +kernel
theorem dL_law_1394 : decode cL_law 1394 = .ok (.aload 4, 2) := by decide +kernel
theorem dL_law_1396 : decode cL_law 1396 = .ok (.iconst 0, 1) := by decide +kernel
theorem dL_law_1397 : decode cL_law 1397 = .ok (.daload, 1) := by decide +kernel
theorem dL_law_1398 : decode cL_law 1398 = .ok (.dcmp .l, 1) := by decide +kernel
theorem dL_law_1399 : decode cL_law 1399 = .ok (.ifCond .eq 11, 3) := by decide +kernel
theorem dL_law_1402 : decode cL_law 1402 = .ok (.dload 7, 2) := by decide +kernel
theorem dL_law_1404 : decode cL_law 1404 = .ok (.dload 7, 2) := by decide +kernel
theorem dL_law_1406 : decode cL_law 1406 = .ok (.dcmp .l, 1) := by decide +kernel
theorem dL_law_1407 : decode cL_law 1407 = .ok (.ifCond .ne 5, 3) := by decide +kernel
theorem dL_law_1410 : decode cL_law 1410 = .ok (.iconst 0, 1) := by decide +kernel
theorem dL_law_1411 : decode cL_law 1411 = .ok (.ireturn, 1) := by decide +kernel
theorem dL_law_1412 : decode cL_law 1412 = .ok (.goto 16, 3) := by decide +kernel
theorem dL_law_1415 : decode cL_law 1415 = .ok (.aload_n 1, 1) := by decide +kernel
theorem dL_law_1416 : decode cL_law 1416 = .ok (.invokevirtual 201, 3) := by decide +kernel
theorem dL_law_1419 : decode cL_law 1419 = .ok (.aload_n 2, 1) := by decide +kernel
theorem dL_law_1420 : decode cL_law 1420 = .ok (.invokevirtual 204, 3) := by decide +kernel
theorem dL_law_1423 : decode cL_law 1423 = .ok (.if_icmp .eq 5, 3) := by decide +kernel
theorem dL_law_1426 : decode cL_law 1426 = .ok (.iconst 0, 1) := by decide +kernel
theorem dL_law_1427 : decode cL_law 1427 = .ok (.ireturn, 1) := by decide +kernel
theorem dL_law_1428 : decode cL_law 1428 = .ok (.iinc 5 3, 3) := by decide +kernel
theorem dL_law_1431 : decode cL_law 1431 = .ok (.goto (-1403), 3) := by decide +kernel
theorem dL_law_1434 : decode cL_law 1434 = .ok (.iconst 1, 1) := by decide +kernel
theorem dL_law_1435 : decode cL_law 1435 = .ok (.ireturn, 1) := by decide +kernel
