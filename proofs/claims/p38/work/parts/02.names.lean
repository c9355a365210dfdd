def RX0 : String := "Clockhouse$Big"
def TX0 : u_T := fun k => match k with
  | 0 => ("Clockhouse$Big", "limbs", "[I", true)
  | 1 => ("Clockhouse$Big", "length", "I", false)
  | _ => ("Clockhouse$Big", "sign", "I", false)
def tyX0 : Nat → FieldType := fun k => match k with
  | 0 => .array .int
  | 1 => .int
  | _ => .int
theorem nmX0 : ∀ a, a < 3 → ∀ b, b < 3 → a ≠ b → (TX0 a).2.1 ≠ (TX0 b).2.1 := by decide +kernel
theorem tyX0_ok : ∀ k, k < 3 → parseFieldDescriptor (TX0 k).2.2.1 = some (tyX0 k) := by decide +kernel
abbrev cX0_init : ByteArray := prog_2_method_1_code
def yX0_init : MethodName := ⟨RX0, "<init>", "()V"⟩
abbrev cX0_limb : ByteArray := prog_2_method_2_code
def yX0_limb : MethodName := ⟨RX0, "limb", "(I)I"⟩
abbrev cX0_put : ByteArray := prog_2_method_3_code
def yX0_put : MethodName := ⟨RX0, "put", "(II)V"⟩
abbrev cX0_isTooLong : ByteArray := prog_2_method_4_code
def yX0_isTooLong : MethodName := ⟨RX0, "isTooLong", "()Z"⟩
abbrev cX0_settle : ByteArray := prog_2_method_5_code
def yX0_settle : MethodName := ⟨RX0, "settle", "(I)V"⟩
abbrev cX0_clear : ByteArray := prog_2_method_6_code
def yX0_clear : MethodName := ⟨RX0, "clear", "()V"⟩
abbrev cX0_become : ByteArray := prog_2_method_7_code
def yX0_become : MethodName := ⟨RX0, "become", "(LClockhouse$Big;)V"⟩
abbrev cX0_becomeLong : ByteArray := prog_2_method_8_code
def yX0_becomeLong : MethodName := ⟨RX0, "becomeLong", "(J)V"⟩
abbrev cX0_compareSize : ByteArray := prog_2_method_9_code
def yX0_compareSize : MethodName := ⟨RX0, "compareSize", "(LClockhouse$Big;)I"⟩
abbrev cX0_becomeSum : ByteArray := prog_2_method_10_code
def yX0_becomeSum : MethodName := ⟨RX0, "becomeSum", "(LClockhouse$Big;LClockhouse$Big;)V"⟩
abbrev cX0_joinSizes : ByteArray := prog_2_method_11_code
def yX0_joinSizes : MethodName := ⟨RX0, "joinSizes", "(LClockhouse$Big;LClockhouse$Big;I)V"⟩
abbrev cX0_becomeProduct : ByteArray := prog_2_method_12_code
def yX0_becomeProduct : MethodName := ⟨RX0, "becomeProduct", "(LClockhouse$Big;LClockhouse$Big;)V"⟩
abbrev cX0_scaleUp : ByteArray := prog_2_method_13_code
def yX0_scaleUp : MethodName := ⟨RX0, "scaleUp", "(I)V"⟩
abbrev cX0_scaleDown : ByteArray := prog_2_method_14_code
def yX0_scaleDown : MethodName := ⟨RX0, "scaleDown", "(I)V"⟩
abbrev cX0_restBy : ByteArray := prog_2_method_15_code
def yX0_restBy : MethodName := ⟨RX0, "restBy", "(I)I"⟩
abbrev cX0_digitCount : ByteArray := prog_2_method_16_code
def yX0_digitCount : MethodName := ⟨RX0, "digitCount", "()I"⟩
abbrev cX0_textLength : ByteArray := prog_2_method_17_code
def yX0_textLength : MethodName := ⟨RX0, "textLength", "()I"⟩
abbrev cX0_writeTo : ByteArray := prog_2_method_18_code
def yX0_writeTo : MethodName := ⟨RX0, "writeTo", "(Ljava/lang/StringBuilder;)V"⟩
def RX1 : String := "Clockhouse$BigRound"
def TX1 : u_T := fun k => match k with
  | 0 => ("Clockhouse$BigRound", "found", "LClockhouse$Big;", true)
  | 1 => ("Clockhouse$BigRound", "division", "LClockhouse$Division;", true)
  | 2 => ("Clockhouse$BigRound", "first", "LClockhouse$Big;", true)
  | 3 => ("Clockhouse$BigRound", "second", "LClockhouse$Big;", true)
  | 4 => ("Clockhouse$BigRound", "third", "LClockhouse$Big;", true)
  | 5 => ("Clockhouse$BigRound", "fourth", "LClockhouse$Big;", true)
  | _ => ("Clockhouse$BigRound", "product", "LClockhouse$Big;", true)
def tyX1 : Nat → FieldType := fun k => match k with
  | 0 => .object "Clockhouse$Big"
  | 1 => .object "Clockhouse$Division"
  | 2 => .object "Clockhouse$Big"
  | 3 => .object "Clockhouse$Big"
  | 4 => .object "Clockhouse$Big"
  | 5 => .object "Clockhouse$Big"
  | _ => .object "Clockhouse$Big"
theorem nmX1 : ∀ a, a < 7 → ∀ b, b < 7 → a ≠ b → (TX1 a).2.1 ≠ (TX1 b).2.1 := by decide +kernel
theorem tyX1_ok : ∀ k, k < 7 → parseFieldDescriptor (TX1 k).2.2.1 = some (tyX1 k) := by decide +kernel
abbrev cX1_init : ByteArray := prog_3_method_1_code
def yX1_init : MethodName := ⟨RX1, "<init>", "()V"⟩
abbrev cX1_findRest : ByteArray := prog_3_method_2_code
def yX1_findRest : MethodName := ⟨RX1, "findRest", "(LClockhouse$Big;LClockhouse$Big;)V"⟩
abbrev cX1_findGcd : ByteArray := prog_3_method_3_code
def yX1_findGcd : MethodName := ⟨RX1, "findGcd", "(LClockhouse$Big;LClockhouse$Big;)V"⟩
abbrev cX1_findInverse : ByteArray := prog_3_method_4_code
def yX1_findInverse : MethodName := ⟨RX1, "findInverse", "(LClockhouse$Big;LClockhouse$Big;)Z"⟩
abbrev cX1_findPower : ByteArray := prog_3_method_5_code
def yX1_findPower : MethodName := ⟨RX1, "findPower", "(LClockhouse$Big;LClockhouse$Big;LClockhouse$Big;)Z"⟩
abbrev cX1_multiply : ByteArray := prog_3_method_6_code
def yX1_multiply : MethodName := ⟨RX1, "multiply", "(LClockhouse$Big;LClockhouse$Big;LClockhouse$Big;)V"⟩
def RX2 : String := "Clockhouse$Division"
def TX2 : u_T := fun k => match k with
  | 0 => ("Clockhouse$Division", "quotient", "LClockhouse$Big;", true)
  | 1 => ("Clockhouse$Division", "rest", "LClockhouse$Big;", true)
  | _ => ("Clockhouse$Division", "by", "LClockhouse$Big;", true)
def tyX2 : Nat → FieldType := fun k => match k with
  | 0 => .object "Clockhouse$Big"
  | 1 => .object "Clockhouse$Big"
  | _ => .object "Clockhouse$Big"
theorem nmX2 : ∀ a, a < 3 → ∀ b, b < 3 → a ≠ b → (TX2 a).2.1 ≠ (TX2 b).2.1 := by decide +kernel
theorem tyX2_ok : ∀ k, k < 3 → parseFieldDescriptor (TX2 k).2.2.1 = some (tyX2 k) := by decide +kernel
abbrev cX2_init : ByteArray := prog_4_method_1_code
def yX2_init : MethodName := ⟨RX2, "<init>", "()V"⟩
abbrev cX2_divide : ByteArray := prog_4_method_2_code
def yX2_divide : MethodName := ⟨RX2, "divide", "(LClockhouse$Big;LClockhouse$Big;)V"⟩
abbrev cX2_guessAt : ByteArray := prog_4_method_3_code
def yX2_guessAt : MethodName := ⟨RX2, "guessAt", "(I)J"⟩
abbrev cX2_takeAway : ByteArray := prog_4_method_4_code
def yX2_takeAway : MethodName := ⟨RX2, "takeAway", "(IJ)I"⟩
abbrev cX2_giveBack : ByteArray := prog_4_method_5_code
def yX2_giveBack : MethodName := ⟨RX2, "giveBack", "(I)V"⟩
def RX3 : String := "Clockhouse$Generators"
def TX3 : u_T := fun k => match k with
  | 0 => ("Clockhouse$Generators", "primes", "[I", true)
  | 1 => ("Clockhouse$Generators", "primeCount", "I", false)
  | 2 => ("Clockhouse$Generators", "m", "I", false)
  | _ => ("Clockhouse$Generators", "unitCount", "I", false)
def tyX3 : Nat → FieldType := fun k => match k with
  | 0 => .array .int
  | 1 => .int
  | 2 => .int
  | _ => .int
theorem nmX3 : ∀ a, a < 4 → ∀ b, b < 4 → a ≠ b → (TX3 a).2.1 ≠ (TX3 b).2.1 := by decide +kernel
theorem tyX3_ok : ∀ k, k < 4 → parseFieldDescriptor (TX3 k).2.2.1 = some (tyX3 k) := by decide +kernel
abbrev cX3_init : ByteArray := prog_5_method_1_code
def yX3_init : MethodName := ⟨RX3, "<init>", "()V"⟩
abbrev cX3_turnTo : ByteArray := prog_5_method_2_code
def yX3_turnTo : MethodName := ⟨RX3, "turnTo", "(I)V"⟩
abbrev cX3_holds : ByteArray := prog_5_method_3_code
def yX3_holds : MethodName := ⟨RX3, "holds", "(I)Z"⟩
abbrev cX3_findAt : ByteArray := prog_5_method_4_code
def yX3_findAt : MethodName := ⟨RX3, "findAt", "(I)I"⟩
def RX4 : String := "Clockhouse$Joiner"
def TX4 : u_T := fun k => match k with
  | 0 => ("Clockhouse$Joiner", "joined", "Z", false)
  | 1 => ("Clockhouse$Joiner", "joint", "J", false)
  | _ => ("Clockhouse$Joiner", "whole", "J", false)
def tyX4 : Nat → FieldType := fun k => match k with
  | 0 => .boolean
  | 1 => .long
  | _ => .long
theorem nmX4 : ∀ a, a < 3 → ∀ b, b < 3 → a ≠ b → (TX4 a).2.1 ≠ (TX4 b).2.1 := by decide +kernel
theorem tyX4_ok : ∀ k, k < 3 → parseFieldDescriptor (TX4 k).2.2.1 = some (tyX4 k) := by decide +kernel
abbrev cX4_init : ByteArray := prog_6_method_1_code
def yX4_init : MethodName := ⟨RX4, "<init>", "()V"⟩
abbrev cX4_clear : ByteArray := prog_6_method_2_code
def yX4_clear : MethodName := ⟨RX4, "clear", "()V"⟩
abbrev cX4_admits : ByteArray := prog_6_method_3_code
def yX4_admits : MethodName := ⟨RX4, "admits", "(II)Z"⟩
abbrev cX4_join : ByteArray := prog_6_method_4_code
def yX4_join : MethodName := ⟨RX4, "join", "(II)V"⟩
def RX5 : String := "Clockhouse$Past"
def TX5 : u_T := fun k => match k with
  | 0 => ("Clockhouse$Past", "ring", "[LClockhouse$State;", true)
  | 1 => ("Clockhouse$Past", "oldest", "I", false)
  | _ => ("Clockhouse$Past", "count", "I", false)
def tyX5 : Nat → FieldType := fun k => match k with
  | 0 => .array (.object "Clockhouse$State")
  | 1 => .int
  | _ => .int
theorem nmX5 : ∀ a, a < 3 → ∀ b, b < 3 → a ≠ b → (TX5 a).2.1 ≠ (TX5 b).2.1 := by decide +kernel
theorem tyX5_ok : ∀ k, k < 3 → parseFieldDescriptor (TX5 k).2.2.1 = some (tyX5 k) := by decide +kernel
abbrev cX5_init : ByteArray := prog_7_method_1_code
def yX5_init : MethodName := ⟨RX5, "<init>", "()V"⟩
abbrev cX5_keep : ByteArray := prog_7_method_2_code
def yX5_keep : MethodName := ⟨RX5, "keep", "(LClockhouse$State;)V"⟩
abbrev cX5_bringBack : ByteArray := prog_7_method_3_code
def yX5_bringBack : MethodName := ⟨RX5, "bringBack", "(LClockhouse$State;)V"⟩
def RX6 : String := "Clockhouse$PowerRow"
def TX6 : u_T := fun k => match k with
  | 0 => ("Clockhouse$PowerRow", "row", "[I", true)
  | 1 => ("Clockhouse$PowerRow", "placeOf", "[I", true)
  | 2 => ("Clockhouse$PowerRow", "count", "I", false)
  | _ => ("Clockhouse$PowerRow", "tail", "I", false)
def tyX6 : Nat → FieldType := fun k => match k with
  | 0 => .array .int
  | 1 => .array .int
  | 2 => .int
  | _ => .int
theorem nmX6 : ∀ a, a < 4 → ∀ b, b < 4 → a ≠ b → (TX6 a).2.1 ≠ (TX6 b).2.1 := by decide +kernel
theorem tyX6_ok : ∀ k, k < 4 → parseFieldDescriptor (TX6 k).2.2.1 = some (tyX6 k) := by decide +kernel
abbrev cX6_init : ByteArray := prog_8_method_1_code
def yX6_init : MethodName := ⟨RX6, "<init>", "()V"⟩
abbrev cX6_fill : ByteArray := prog_8_method_2_code
def yX6_fill : MethodName := ⟨RX6, "fill", "(II)V"⟩
abbrev cX6_tellOf : ByteArray := prog_8_method_3_code
def yX6_tellOf : MethodName := ⟨RX6, "tellOf", "(I)I"⟩
abbrev cX6_sumOfRow : ByteArray := prog_8_method_4_code
def yX6_sumOfRow : MethodName := ⟨RX6, "sumOfRow", "()I"⟩
abbrev cX6_writeTo : ByteArray := prog_8_method_5_code
def yX6_writeTo : MethodName := ⟨RX6, "writeTo", "(Ljava/lang/StringBuilder;)V"⟩
def RX7 : String := "Clockhouse$Round"
def TX7 : u_T := fun k => match k with
  | _ => ("", "", "", false)
def tyX7 : Nat → FieldType := fun k => match k with
  | _ => .int
theorem nmX7 : ∀ a, a < 0 → ∀ b, b < 0 → a ≠ b → (TX7 a).2.1 ≠ (TX7 b).2.1 := by decide +kernel
theorem tyX7_ok : ∀ k, k < 0 → parseFieldDescriptor (TX7 k).2.2.1 = some (tyX7 k) := by decide +kernel
abbrev cX7_commonOf : ByteArray := prog_9_method_2_code
def yX7_commonOf : MethodName := ⟨RX7, "commonOf", "(II)I"⟩
abbrev cX7_invert : ByteArray := prog_9_method_3_code
def yX7_invert : MethodName := ⟨RX7, "invert", "(II)I"⟩
abbrev cX7_raiseByInt : ByteArray := prog_9_method_4_code
def yX7_raiseByInt : MethodName := ⟨RX7, "raiseByInt", "(III)I"⟩
abbrev cX7_raise : ByteArray := prog_9_method_5_code
def yX7_raise : MethodName := ⟨RX7, "raise", "(ILClockhouse$Big;I)I"⟩
abbrev cX7_countSolutions : ByteArray := prog_9_method_6_code
def yX7_countSolutions : MethodName := ⟨RX7, "countSolutions", "(III)I"⟩
abbrev cX7_solutionAt : ByteArray := prog_9_method_7_code
def yX7_solutionAt : MethodName := ⟨RX7, "solutionAt", "(IIII)I"⟩
abbrev cX7_countUnits : ByteArray := prog_9_method_8_code
def yX7_countUnits : MethodName := ⟨RX7, "countUnits", "(I)I"⟩
abbrev cX7_orderOf : ByteArray := prog_9_method_9_code
def yX7_orderOf : MethodName := ⟨RX7, "orderOf", "(II)I"⟩
abbrev cX7_countRoots : ByteArray := prog_9_method_10_code
def yX7_countRoots : MethodName := ⟨RX7, "countRoots", "(II)I"⟩
abbrev cX7_rootAt : ByteArray := prog_9_method_11_code
def yX7_rootAt : MethodName := ⟨RX7, "rootAt", "(III)I"⟩
abbrev cX7_primeHolds : ByteArray := prog_9_method_12_code
def yX7_primeHolds : MethodName := ⟨RX7, "primeHolds", "(I)Z"⟩
abbrev cX7_oddPrimeHolds : ByteArray := prog_9_method_13_code
def yX7_oddPrimeHolds : MethodName := ⟨RX7, "oddPrimeHolds", "(I)Z"⟩
abbrev cX7_legendreOf : ByteArray := prog_9_method_14_code
def yX7_legendreOf : MethodName := ⟨RX7, "legendreOf", "(II)I"⟩
abbrev cX7_jacobiOf : ByteArray := prog_9_method_15_code
def yX7_jacobiOf : MethodName := ⟨RX7, "jacobiOf", "(II)I"⟩
def RX8 : String := "Clockhouse$Sound"
def TX8 : u_T := fun k => match k with
  | _ => ("", "", "", false)
def tyX8 : Nat → FieldType := fun k => match k with
  | _ => .int
theorem nmX8 : ∀ a, a < 0 → ∀ b, b < 0 → a ≠ b → (TX8 a).2.1 ≠ (TX8 b).2.1 := by decide +kernel
theorem tyX8_ok : ∀ k, k < 0 → parseFieldDescriptor (TX8 k).2.2.1 = some (tyX8 k) := by decide +kernel
abbrev cX8_powersHold : ByteArray := prog_10_method_2_code
def yX8_powersHold : MethodName := ⟨RX8, "powersHold", "(II)Z"⟩
abbrev cX8_inverseHolds : ByteArray := prog_10_method_3_code
def yX8_inverseHolds : MethodName := ⟨RX8, "inverseHolds", "(III)Z"⟩
abbrev cX8_solutionsHold : ByteArray := prog_10_method_4_code
def yX8_solutionsHold : MethodName := ⟨RX8, "solutionsHold", "(III)Z"⟩
def RX9 : String := "Clockhouse$State"
def TX9 : u_T := fun k => match k with
  | 0 => ("Clockhouse$State", "dial", "I", false)
  | 1 => ("Clockhouse$State", "numbers", "[LClockhouse$Big;", true)
  | 2 => ("Clockhouse$State", "rowCount", "I", false)
  | 3 => ("Clockhouse$State", "rests", "[I", true)
  | 4 => ("Clockhouse$State", "sizes", "[I", true)
  | 5 => ("Clockhouse$State", "baseCount", "I", false)
  | _ => ("Clockhouse$State", "bases", "[I", true)
def tyX9 : Nat → FieldType := fun k => match k with
  | 0 => .int
  | 1 => .array (.object "Clockhouse$Big")
  | 2 => .int
  | 3 => .array .int
  | 4 => .array .int
  | 5 => .int
  | _ => .array .int
theorem nmX9 : ∀ a, a < 7 → ∀ b, b < 7 → a ≠ b → (TX9 a).2.1 ≠ (TX9 b).2.1 := by decide +kernel
theorem tyX9_ok : ∀ k, k < 7 → parseFieldDescriptor (TX9 k).2.2.1 = some (tyX9 k) := by decide +kernel
abbrev cX9_init : ByteArray := prog_11_method_1_code
def yX9_init : MethodName := ⟨RX9, "<init>", "()V"⟩
abbrev cX9_become : ByteArray := prog_11_method_2_code
def yX9_become : MethodName := ⟨RX9, "become", "(LClockhouse$State;)V"⟩
abbrev cX9_addRow : ByteArray := prog_11_method_3_code
def yX9_addRow : MethodName := ⟨RX9, "addRow", "(II)V"⟩
abbrev cX9_removeRow : ByteArray := prog_11_method_4_code
def yX9_removeRow : MethodName := ⟨RX9, "removeRow", "(I)V"⟩
abbrev cX9_rowsAgree : ByteArray := prog_11_method_5_code
def yX9_rowsAgree : MethodName := ⟨RX9, "rowsAgree", "(II)Z"⟩
abbrev cX9_takesBase : ByteArray := prog_11_method_6_code
def yX9_takesBase : MethodName := ⟨RX9, "takesBase", "(I)Z"⟩
abbrev cX9_addBase : ByteArray := prog_11_method_7_code
def yX9_addBase : MethodName := ⟨RX9, "addBase", "(I)V"⟩
abbrev cX9_removeBase : ByteArray := prog_11_method_8_code
def yX9_removeBase : MethodName := ⟨RX9, "removeBase", "()I"⟩
abbrev cX9_spanOfBases : ByteArray := prog_11_method_9_code
def yX9_spanOfBases : MethodName := ⟨RX9, "spanOfBases", "()J"⟩
def RX10 : String := "Clockhouse"
def TX10 : u_T := fun k => match k with
  | 0 => ("Clockhouse", "state", "LClockhouse$State;", true)
  | 1 => ("Clockhouse", "past", "LClockhouse$Past;", true)
  | 2 => ("Clockhouse", "jams", "I", false)
  | 3 => ("Clockhouse", "misses", "I", false)
  | 4 => ("Clockhouse", "knocks", "I", false)
  | 5 => ("Clockhouse", "work", "LClockhouse$Big;", true)
  | 6 => ("Clockhouse", "extra", "LClockhouse$Big;", true)
  | 7 => ("Clockhouse", "spanWork", "LClockhouse$Big;", true)
  | 8 => ("Clockhouse", "bigRound", "LClockhouse$BigRound;", true)
  | 9 => ("Clockhouse", "powerRow", "LClockhouse$PowerRow;", true)
  | 10 => ("Clockhouse", "generators", "LClockhouse$Generators;", true)
  | 11 => ("Clockhouse", "joiner", "LClockhouse$Joiner;", true)
  | _ => ("Clockhouse", "builder", "Ljava/lang/StringBuilder;", true)
def tyX10 : Nat → FieldType := fun k => match k with
  | 0 => .object "Clockhouse$State"
  | 1 => .object "Clockhouse$Past"
  | 2 => .int
  | 3 => .int
  | 4 => .int
  | 5 => .object "Clockhouse$Big"
  | 6 => .object "Clockhouse$Big"
  | 7 => .object "Clockhouse$Big"
  | 8 => .object "Clockhouse$BigRound"
  | 9 => .object "Clockhouse$PowerRow"
  | 10 => .object "Clockhouse$Generators"
  | 11 => .object "Clockhouse$Joiner"
  | _ => .object "java/lang/StringBuilder"
theorem nmX10 : ∀ a, a < 13 → ∀ b, b < 13 → a ≠ b → (TX10 a).2.1 ≠ (TX10 b).2.1 := by decide +kernel
theorem tyX10_ok : ∀ k, k < 13 → parseFieldDescriptor (TX10 k).2.2.1 = some (tyX10 k) := by decide +kernel
abbrev cX10_init : ByteArray := prog_1_method_1_code
def yX10_init : MethodName := ⟨RX10, "<init>", "()V"⟩
abbrev cX10_dial : ByteArray := prog_1_method_2_code
def yX10_dial : MethodName := ⟨RX10, "dial", "(I)I"⟩
abbrev cX10_set : ByteArray := prog_1_method_3_code
def yX10_set : MethodName := ⟨RX10, "set", "(II)I"⟩
abbrev cX10_lengthen : ByteArray := prog_1_method_4_code
def yX10_lengthen : MethodName := ⟨RX10, "lengthen", "(II)I"⟩
abbrev cX10_plus : ByteArray := prog_1_method_5_code
def yX10_plus : MethodName := ⟨RX10, "plus", "(II)I"⟩
abbrev cX10_times : ByteArray := prog_1_method_6_code
def yX10_times : MethodName := ⟨RX10, "times", "(II)I"⟩
abbrev cX10_negate : ByteArray := prog_1_method_7_code
def yX10_negate : MethodName := ⟨RX10, "negate", "(I)I"⟩
abbrev cX10_reduce : ByteArray := prog_1_method_8_code
def yX10_reduce : MethodName := ⟨RX10, "reduce", "(I)I"⟩
abbrev cX10_roundPlus : ByteArray := prog_1_method_9_code
def yX10_roundPlus : MethodName := ⟨RX10, "roundPlus", "(II)I"⟩
abbrev cX10_roundTimes : ByteArray := prog_1_method_10_code
def yX10_roundTimes : MethodName := ⟨RX10, "roundTimes", "(II)I"⟩
abbrev cX10_roundPower : ByteArray := prog_1_method_11_code
def yX10_roundPower : MethodName := ⟨RX10, "roundPower", "(II)I"⟩
abbrev cX10_roundInverse : ByteArray := prog_1_method_12_code
def yX10_roundInverse : MethodName := ⟨RX10, "roundInverse", "(I)I"⟩
abbrev cX10_tell : ByteArray := prog_1_method_13_code
def yX10_tell : MethodName := ⟨RX10, "tell", "(II)I"⟩
abbrev cX10_tellIf : ByteArray := prog_1_method_14_code
def yX10_tellIf : MethodName := ⟨RX10, "tellIf", "(II)Z"⟩
abbrev cX10_drop : ByteArray := prog_1_method_15_code
def yX10_drop : MethodName := ⟨RX10, "drop", "(I)I"⟩
abbrev cX10_base : ByteArray := prog_1_method_16_code
def yX10_base : MethodName := ⟨RX10, "base", "(I)I"⟩
abbrev cX10_unbase : ByteArray := prog_1_method_17_code
def yX10_unbase : MethodName := ⟨RX10, "unbase", "()I"⟩
abbrev cX10_undo : ByteArray := prog_1_method_18_code
def yX10_undo : MethodName := ⟨RX10, "undo", "()I"⟩
abbrev cX10_knock : ByteArray := prog_1_method_19_code
def yX10_knock : MethodName := ⟨RX10, "knock", "()I"⟩
abbrev cX10_number : ByteArray := prog_1_method_20_code
def yX10_number : MethodName := ⟨RX10, "number", "(I)Ljava/lang/String;"⟩
abbrev cX10_digits : ByteArray := prog_1_method_21_code
def yX10_digits : MethodName := ⟨RX10, "digits", "(I)I"⟩
abbrev cX10_bigGcd : ByteArray := prog_1_method_22_code
def yX10_bigGcd : MethodName := ⟨RX10, "bigGcd", "(II)Ljava/lang/String;"⟩
abbrev cX10_bigMod : ByteArray := prog_1_method_23_code
def yX10_bigMod : MethodName := ⟨RX10, "bigMod", "(II)Ljava/lang/String;"⟩
abbrev cX10_bigInverse : ByteArray := prog_1_method_24_code
def yX10_bigInverse : MethodName := ⟨RX10, "bigInverse", "(II)Ljava/lang/String;"⟩
abbrev cX10_bigPower : ByteArray := prog_1_method_25_code
def yX10_bigPower : MethodName := ⟨RX10, "bigPower", "(III)Ljava/lang/String;"⟩
abbrev cX10_size : ByteArray := prog_1_method_26_code
def yX10_size : MethodName := ⟨RX10, "size", "()I"⟩
abbrev cX10_mod : ByteArray := prog_1_method_27_code
def yX10_mod : MethodName := ⟨RX10, "mod", "(I)I"⟩
abbrev cX10_gcd : ByteArray := prog_1_method_28_code
def yX10_gcd : MethodName := ⟨RX10, "gcd", "(I)I"⟩
abbrev cX10_power : ByteArray := prog_1_method_29_code
def yX10_power : MethodName := ⟨RX10, "power", "(II)I"⟩
abbrev cX10_inverse : ByteArray := prog_1_method_30_code
def yX10_inverse : MethodName := ⟨RX10, "inverse", "(I)I"⟩
abbrev cX10_solutions : ByteArray := prog_1_method_31_code
def yX10_solutions : MethodName := ⟨RX10, "solutions", "(II)I"⟩
abbrev cX10_solution : ByteArray := prog_1_method_32_code
def yX10_solution : MethodName := ⟨RX10, "solution", "(III)I"⟩
abbrev cX10_units : ByteArray := prog_1_method_33_code
def yX10_units : MethodName := ⟨RX10, "units", "()I"⟩
abbrev cX10_order : ByteArray := prog_1_method_34_code
def yX10_order : MethodName := ⟨RX10, "order", "(I)I"⟩
abbrev cX10_generator : ByteArray := prog_1_method_35_code
def yX10_generator : MethodName := ⟨RX10, "generator", "(I)I"⟩
abbrev cX10_isGenerator : ByteArray := prog_1_method_36_code
def yX10_isGenerator : MethodName := ⟨RX10, "isGenerator", "(I)Z"⟩
abbrev cX10_powers : ByteArray := prog_1_method_37_code
def yX10_powers : MethodName := ⟨RX10, "powers", "(I)Ljava/lang/String;"⟩
abbrev cX10_ofPowers : ByteArray := prog_1_method_38_code
def yX10_ofPowers : MethodName := ⟨RX10, "ofPowers", "(II)I"⟩
abbrev cX10_roots : ByteArray := prog_1_method_39_code
def yX10_roots : MethodName := ⟨RX10, "roots", "(I)I"⟩
abbrev cX10_root : ByteArray := prog_1_method_40_code
def yX10_root : MethodName := ⟨RX10, "root", "(II)I"⟩
abbrev cX10_isPrime : ByteArray := prog_1_method_41_code
def yX10_isPrime : MethodName := ⟨RX10, "isPrime", "()Z"⟩
abbrev cX10_legendre : ByteArray := prog_1_method_42_code
def yX10_legendre : MethodName := ⟨RX10, "legendre", "(I)I"⟩
abbrev cX10_jacobi : ByteArray := prog_1_method_43_code
def yX10_jacobi : MethodName := ⟨RX10, "jacobi", "(I)I"⟩
abbrev cX10_rows : ByteArray := prog_1_method_44_code
def yX10_rows : MethodName := ⟨RX10, "rows", "()I"⟩
abbrev cX10_ofRow : ByteArray := prog_1_method_45_code
def yX10_ofRow : MethodName := ⟨RX10, "ofRow", "(II)I"⟩
abbrev cX10_agree : ByteArray := prog_1_method_46_code
def yX10_agree : MethodName := ⟨RX10, "agree", "(II)Z"⟩
abbrev cX10_isJoined : ByteArray := prog_1_method_47_code
def yX10_isJoined : MethodName := ⟨RX10, "isJoined", "()Z"⟩
abbrev cX10_wouldJoin : ByteArray := prog_1_method_48_code
def yX10_wouldJoin : MethodName := ⟨RX10, "wouldJoin", "(II)Z"⟩
abbrev cX10_answer : ByteArray := prog_1_method_49_code
def yX10_answer : MethodName := ⟨RX10, "answer", "()Ljava/lang/String;"⟩
abbrev cX10_answerDial : ByteArray := prog_1_method_50_code
def yX10_answerDial : MethodName := ⟨RX10, "answerDial", "()Ljava/lang/String;"⟩
abbrev cX10_clash : ByteArray := prog_1_method_51_code
def yX10_clash : MethodName := ⟨RX10, "clash", "(I)I"⟩
abbrev cX10_broken : ByteArray := prog_1_method_52_code
def yX10_broken : MethodName := ⟨RX10, "broken", "(I)I"⟩
abbrev cX10_bases : ByteArray := prog_1_method_53_code
def yX10_bases : MethodName := ⟨RX10, "bases", "()I"⟩
abbrev cX10_span : ByteArray := prog_1_method_54_code
def yX10_span : MethodName := ⟨RX10, "span", "()Ljava/lang/String;"⟩
abbrev cX10_residues : ByteArray := prog_1_method_55_code
def yX10_residues : MethodName := ⟨RX10, "residues", "(I)Ljava/lang/String;"⟩
abbrev cX10_back : ByteArray := prog_1_method_56_code
def yX10_back : MethodName := ⟨RX10, "back", "(I)Ljava/lang/String;"⟩
abbrev cX10_sumBack : ByteArray := prog_1_method_57_code
def yX10_sumBack : MethodName := ⟨RX10, "sumBack", "(II)Ljava/lang/String;"⟩
abbrev cX10_productBack : ByteArray := prog_1_method_58_code
def yX10_productBack : MethodName := ⟨RX10, "productBack", "(II)Ljava/lang/String;"⟩
abbrev cX10_books : ByteArray := prog_1_method_59_code
def yX10_books : MethodName := ⟨RX10, "books", "(I)I"⟩
abbrev cX10_isSound : ByteArray := prog_1_method_60_code
def yX10_isSound : MethodName := ⟨RX10, "isSound", "()Z"⟩
abbrev cX10_digest : ByteArray := prog_1_method_61_code
def yX10_digest : MethodName := ⟨RX10, "digest", "()J"⟩
abbrev cX10_numberAt : ByteArray := prog_1_method_62_code
def yX10_numberAt : MethodName := ⟨RX10, "numberAt", "(I)LClockhouse$Big;"⟩
abbrev cX10_isJammed : ByteArray := prog_1_method_63_code
def yX10_isJammed : MethodName := ⟨RX10, "isJammed", "()Z"⟩
abbrev cX10_needPlace : ByteArray := prog_1_method_64_code
def yX10_needPlace : MethodName := ⟨RX10, "needPlace", "(I)V"⟩
abbrev cX10_needCongruence : ByteArray := prog_1_method_65_code
def yX10_needCongruence : MethodName := ⟨RX10, "needCongruence", "(II)V"⟩
abbrev cX10_needFreeRow : ByteArray := prog_1_method_66_code
def yX10_needFreeRow : MethodName := ⟨RX10, "needFreeRow", "()V"⟩
abbrev cX10_needRow : ByteArray := prog_1_method_67_code
def yX10_needRow : MethodName := ⟨RX10, "needRow", "(I)V"⟩
abbrev cX10_putNumber : ByteArray := prog_1_method_68_code
def yX10_putNumber : MethodName := ⟨RX10, "putNumber", "(LClockhouse$Big;LClockhouse$Big;)I"⟩
abbrev cX10_putRound : ByteArray := prog_1_method_69_code
def yX10_putRound : MethodName := ⟨RX10, "putRound", "(LClockhouse$Big;I)I"⟩
abbrev cX10_addRow : ByteArray := prog_1_method_70_code
def yX10_addRow : MethodName := ⟨RX10, "addRow", "(II)I"⟩
abbrev cX10_joinRows : ByteArray := prog_1_method_71_code
def yX10_joinRows : MethodName := ⟨RX10, "joinRows", "()V"⟩
abbrev cX10_clashPlace : ByteArray := prog_1_method_72_code
def yX10_clashPlace : MethodName := ⟨RX10, "clashPlace", "(I)I"⟩
abbrev cX10_backOf : ByteArray := prog_1_method_73_code
def yX10_backOf : MethodName := ⟨RX10, "backOf", "(LClockhouse$Big;)J"⟩
abbrev cX10_backOfSum : ByteArray := prog_1_method_74_code
def yX10_backOfSum : MethodName := ⟨RX10, "backOfSum", "(LClockhouse$Big;LClockhouse$Big;)J"⟩
abbrev cX10_backOfProduct : ByteArray := prog_1_method_75_code
def yX10_backOfProduct : MethodName := ⟨RX10, "backOfProduct", "(LClockhouse$Big;LClockhouse$Big;)J"⟩
abbrev cX10_textOf : ByteArray := prog_1_method_76_code
def yX10_textOf : MethodName := ⟨RX10, "textOf", "(LClockhouse$Big;)Ljava/lang/String;"⟩
abbrev cX10_textOfLong : ByteArray := prog_1_method_77_code
def yX10_textOfLong : MethodName := ⟨RX10, "textOfLong", "(J)Ljava/lang/String;"⟩
abbrev cX10_lengthOfLong : ByteArray := prog_1_method_78_code
def yX10_lengthOfLong : MethodName := ⟨RX10, "lengthOfLong", "(J)I"⟩
abbrev cX10_writeResidues : ByteArray := prog_1_method_79_code
def yX10_writeResidues : MethodName := ⟨RX10, "writeResidues", "(LClockhouse$Big;)V"⟩
abbrev cX10_writeSmall : ByteArray := prog_1_method_80_code
def yX10_writeSmall : MethodName := ⟨RX10, "writeSmall", "(Ljava/lang/StringBuilder;I)V"⟩
abbrev cX10_numbersFit : ByteArray := prog_1_method_81_code
def yX10_numbersFit : MethodName := ⟨RX10, "numbersFit", "()Z"⟩
abbrev cX10_slotsAreSound : ByteArray := prog_1_method_82_code
def yX10_slotsAreSound : MethodName := ⟨RX10, "slotsAreSound", "()Z"⟩
abbrev cX10_rowsAreSound : ByteArray := prog_1_method_83_code
def yX10_rowsAreSound : MethodName := ⟨RX10, "rowsAreSound", "()Z"⟩
abbrev cX10_backsAreSound : ByteArray := prog_1_method_84_code
def yX10_backsAreSound : MethodName := ⟨RX10, "backsAreSound", "()Z"⟩
abbrev cX10_mix : ByteArray := prog_1_method_85_code
def yX10_mix : MethodName := ⟨RX10, "mix", "(JJ)J"⟩
abbrev cX10_mixNumber : ByteArray := prog_1_method_86_code
def yX10_mixNumber : MethodName := ⟨RX10, "mixNumber", "(JI)J"⟩
abbrev cX10_mixRound : ByteArray := prog_1_method_87_code
def yX10_mixRound : MethodName := ⟨RX10, "mixRound", "(JI)J"⟩
abbrev cX10_mixTexts : ByteArray := prog_1_method_88_code
def yX10_mixTexts : MethodName := ⟨RX10, "mixTexts", "(JI)J"⟩
abbrev cX10_mixRows : ByteArray := prog_1_method_89_code
def yX10_mixRows : MethodName := ⟨RX10, "mixRows", "(J)J"⟩
def RX11 : String := "ClockhouseLaw$Out"
def TX11 : u_T := fun k => match k with
  | 0 => ("ClockhouseLaw$Out", "n", "J", false)
  | _ => ("ClockhouseLaw$Out", "s", "Ljava/lang/String;", false)
def tyX11 : Nat → FieldType := fun k => match k with
  | 0 => .long
  | _ => .object "java/lang/String"
theorem nmX11 : ∀ a, a < 2 → ∀ b, b < 2 → a ≠ b → (TX11 a).2.1 ≠ (TX11 b).2.1 := by decide +kernel
theorem tyX11_ok : ∀ k, k < 2 → parseFieldDescriptor (TX11 k).2.2.1 = some (tyX11 k) := by decide +kernel
abbrev cX11_init : ByteArray := prog_13_method_1_code
def yX11_init : MethodName := ⟨RX11, "<init>", "()V"⟩
def RX12 : String := "ClockhouseModel$Num"
def TX12 : u_T := fun k => match k with
  | 0 => ("ClockhouseModel$Num", "isBelow", "Z", true)
  | _ => ("ClockhouseModel$Num", "digits", "[I", true)
def tyX12 : Nat → FieldType := fun k => match k with
  | 0 => .boolean
  | _ => .array .int
theorem nmX12 : ∀ a, a < 2 → ∀ b, b < 2 → a ≠ b → (TX12 a).2.1 ≠ (TX12 b).2.1 := by decide +kernel
theorem tyX12_ok : ∀ k, k < 2 → parseFieldDescriptor (TX12 k).2.2.1 = some (tyX12 k) := by decide +kernel
abbrev cX12_init : ByteArray := prog_15_method_1_code
def yX12_init : MethodName := ⟨RX12, "<init>", "(Z[I)V"⟩
abbrev cX12_of : ByteArray := prog_15_method_2_code
def yX12_of : MethodName := ⟨RX12, "of", "(J)LClockhouseModel$Num;"⟩
abbrev cX12_isZero : ByteArray := prog_15_method_3_code
def yX12_isZero : MethodName := ⟨RX12, "isZero", "()Z"⟩
abbrev cX12_sign : ByteArray := prog_15_method_4_code
def yX12_sign : MethodName := ⟨RX12, "sign", "()I"⟩
abbrev cX12_many : ByteArray := prog_15_method_5_code
def yX12_many : MethodName := ⟨RX12, "many", "()I"⟩
abbrev cX12_turned : ByteArray := prog_15_method_6_code
def yX12_turned : MethodName := ⟨RX12, "turned", "()LClockhouseModel$Num;"⟩
abbrev cX12_text : ByteArray := prog_15_method_7_code
def yX12_text : MethodName := ⟨RX12, "text", "()Ljava/lang/String;"⟩
abbrev cX12_compare : ByteArray := prog_15_method_8_code
def yX12_compare : MethodName := ⟨RX12, "compare", "([I[I)I"⟩
abbrev cX12_joined : ByteArray := prog_15_method_9_code
def yX12_joined : MethodName := ⟨RX12, "joined", "([I[II)[I"⟩
abbrev cX12_plus : ByteArray := prog_15_method_10_code
def yX12_plus : MethodName := ⟨RX12, "plus", "(LClockhouseModel$Num;)LClockhouseModel$Num;"⟩
abbrev cX12_times : ByteArray := prog_15_method_11_code
def yX12_times : MethodName := ⟨RX12, "times", "(LClockhouseModel$Num;)LClockhouseModel$Num;"⟩
abbrev cX12_wide : ByteArray := prog_15_method_12_code
def yX12_wide : MethodName := ⟨RX12, "wide", "()[I"⟩
abbrev cX12_places : ByteArray := prog_15_method_13_code
def yX12_places : MethodName := ⟨RX12, "places", "([I)I"⟩
abbrev cX12_isLess : ByteArray := prog_15_method_14_code
def yX12_isLess : MethodName := ⟨RX12, "isLess", "([I[II)Z"⟩
abbrev cX12_change : ByteArray := prog_15_method_15_code
def yX12_change : MethodName := ⟨RX12, "change", "([I[III)V"⟩
abbrev cX12_raise : ByteArray := prog_15_method_16_code
def yX12_raise : MethodName := ⟨RX12, "raise", "([II[I)V"⟩
abbrev cX12_rest : ByteArray := prog_15_method_17_code
def yX12_rest : MethodName := ⟨RX12, "rest", "([I)[I"⟩
abbrev cX12_mod : ByteArray := prog_15_method_18_code
def yX12_mod : MethodName := ⟨RX12, "mod", "(LClockhouseModel$Num;)LClockhouseModel$Num;"⟩
abbrev cX12_mod_ : ByteArray := prog_15_method_19_code
def yX12_mod_ : MethodName := ⟨RX12, "mod", "(I)I"⟩
abbrev cX12_euclid : ByteArray := prog_15_method_20_code
def yX12_euclid : MethodName := ⟨RX12, "euclid", "([I[I)[[I"⟩
abbrev cX12_gcd : ByteArray := prog_15_method_21_code
def yX12_gcd : MethodName := ⟨RX12, "gcd", "(LClockhouseModel$Num;)LClockhouseModel$Num;"⟩
abbrev cX12_inverse : ByteArray := prog_15_method_22_code
def yX12_inverse : MethodName := ⟨RX12, "inverse", "([I)[I"⟩
abbrev cX12_inverse_ : ByteArray := prog_15_method_23_code
def yX12_inverse_ : MethodName := ⟨RX12, "inverse", "(LClockhouseModel$Num;)LClockhouseModel$Num;"⟩
abbrev cX12_rounded : ByteArray := prog_15_method_24_code
def yX12_rounded : MethodName := ⟨RX12, "rounded", "([I[I[I[I)V"⟩
abbrev cX12_power : ByteArray := prog_15_method_25_code
def yX12_power : MethodName := ⟨RX12, "power", "(LClockhouseModel$Num;LClockhouseModel$Num;)LClockhouseModel$Num;"⟩
def RX13 : String := "ClockhouseModel$State"
def TX13 : u_T := fun k => match k with
  | 0 => ("ClockhouseModel$State", "dial", "I", false)
  | 1 => ("ClockhouseModel$State", "numbers", "[LClockhouseModel$Num;", true)
  | 2 => ("ClockhouseModel$State", "rows", "Ljava/util/ArrayList;", true)
  | _ => ("ClockhouseModel$State", "bases", "Ljava/util/ArrayList;", true)
def tyX13 : Nat → FieldType := fun k => match k with
  | 0 => .int
  | 1 => .array (.object "ClockhouseModel$Num")
  | 2 => .object "java/util/ArrayList"
  | _ => .object "java/util/ArrayList"
theorem nmX13 : ∀ a, a < 4 → ∀ b, b < 4 → a ≠ b → (TX13 a).2.1 ≠ (TX13 b).2.1 := by decide +kernel
theorem tyX13_ok : ∀ k, k < 4 → parseFieldDescriptor (TX13 k).2.2.1 = some (tyX13 k) := by decide +kernel
abbrev cX13_init : ByteArray := prog_16_method_1_code
def yX13_init : MethodName := ⟨RX13, "<init>", "([LClockhouseModel$Num;)V"⟩
abbrev cX13_copy : ByteArray := prog_16_method_2_code
def yX13_copy : MethodName := ⟨RX13, "copy", "()LClockhouseModel$State;"⟩
def RX14 : String := "ClockhouseModel"
def TX14 : u_T := fun k => match k with
  | 0 => ("ClockhouseModel", "thrown", "I", false)
  | 1 => ("ClockhouseModel", "now", "LClockhouseModel$State;", false)
  | 2 => ("ClockhouseModel", "were", "Ljava/util/ArrayList;", true)
  | 3 => ("ClockhouseModel", "jams", "I", false)
  | 4 => ("ClockhouseModel", "misses", "I", false)
  | _ => ("ClockhouseModel", "knocks", "I", false)
def tyX14 : Nat → FieldType := fun k => match k with
  | 0 => .int
  | 1 => .object "ClockhouseModel$State"
  | 2 => .object "java/util/ArrayList"
  | 3 => .int
  | 4 => .int
  | _ => .int
theorem nmX14 : ∀ a, a < 6 → ∀ b, b < 6 → a ≠ b → (TX14 a).2.1 ≠ (TX14 b).2.1 := by decide +kernel
theorem tyX14_ok : ∀ k, k < 6 → parseFieldDescriptor (TX14 k).2.2.1 = some (tyX14 k) := by decide +kernel
abbrev cX14_init : ByteArray := prog_14_method_1_code
def yX14_init : MethodName := ⟨RX14, "<init>", "()V"⟩
abbrev cX14_thrown : ByteArray := prog_14_method_2_code
def yX14_thrown : MethodName := ⟨RX14, "thrown", "()I"⟩
abbrev cX14_refuse : ByteArray := prog_14_method_3_code
def yX14_refuse : MethodName := ⟨RX14, "refuse", "(ZI)Z"⟩
abbrev cX14_start : ByteArray := prog_14_method_4_code
def yX14_start : MethodName := ⟨RX14, "start", "(ZI)Z"⟩
abbrev cX14_isIn : ByteArray := prog_14_method_5_code
def yX14_isIn : MethodName := ⟨RX14, "isIn", "(III)Z"⟩
abbrev cX14_isNoSlot : ByteArray := prog_14_method_6_code
def yX14_isNoSlot : MethodName := ⟨RX14, "isNoSlot", "(I)Z"⟩
abbrev cX14_modOf : ByteArray := prog_14_method_7_code
def yX14_modOf : MethodName := ⟨RX14, "modOf", "(II)I"⟩
abbrev cX14_gcdOf : ByteArray := prog_14_method_8_code
def yX14_gcdOf : MethodName := ⟨RX14, "gcdOf", "(II)I"⟩
abbrev cX14_keep : ByteArray := prog_14_method_9_code
def yX14_keep : MethodName := ⟨RX14, "keep", "()V"⟩
abbrev cX14_dial : ByteArray := prog_14_method_10_code
def yX14_dial : MethodName := ⟨RX14, "dial", "(I)I"⟩
abbrev cX14_put : ByteArray := prog_14_method_11_code
def yX14_put : MethodName := ⟨RX14, "put", "(ILClockhouseModel$Num;)I"⟩
abbrev cX14_set : ByteArray := prog_14_method_12_code
def yX14_set : MethodName := ⟨RX14, "set", "(II)I"⟩
abbrev cX14_lengthen : ByteArray := prog_14_method_13_code
def yX14_lengthen : MethodName := ⟨RX14, "lengthen", "(II)I"⟩
abbrev cX14_plus : ByteArray := prog_14_method_14_code
def yX14_plus : MethodName := ⟨RX14, "plus", "(II)I"⟩
abbrev cX14_times : ByteArray := prog_14_method_15_code
def yX14_times : MethodName := ⟨RX14, "times", "(II)I"⟩
abbrev cX14_negate : ByteArray := prog_14_method_16_code
def yX14_negate : MethodName := ⟨RX14, "negate", "(I)I"⟩
abbrev cX14_isJammed : ByteArray := prog_14_method_17_code
def yX14_isJammed : MethodName := ⟨RX14, "isJammed", "()Z"⟩
abbrev cX14_round : ByteArray := prog_14_method_18_code
def yX14_round : MethodName := ⟨RX14, "round", "(II)I"⟩
abbrev cX14_modAt : ByteArray := prog_14_method_19_code
def yX14_modAt : MethodName := ⟨RX14, "modAt", "(I)I"⟩
abbrev cX14_reduce : ByteArray := prog_14_method_20_code
def yX14_reduce : MethodName := ⟨RX14, "reduce", "(I)I"⟩
abbrev cX14_roundPlus : ByteArray := prog_14_method_21_code
def yX14_roundPlus : MethodName := ⟨RX14, "roundPlus", "(II)I"⟩
abbrev cX14_roundTimes : ByteArray := prog_14_method_22_code
def yX14_roundTimes : MethodName := ⟨RX14, "roundTimes", "(II)I"⟩
abbrev cX14_inverseAt : ByteArray := prog_14_method_23_code
def yX14_inverseAt : MethodName := ⟨RX14, "inverseAt", "(I)I"⟩
abbrev cX14_powerAt : ByteArray := prog_14_method_24_code
def yX14_powerAt : MethodName := ⟨RX14, "powerAt", "(ILClockhouseModel$Num;)I"⟩
abbrev cX14_roundPower : ByteArray := prog_14_method_25_code
def yX14_roundPower : MethodName := ⟨RX14, "roundPower", "(II)I"⟩
abbrev cX14_roundInverse : ByteArray := prog_14_method_26_code
def yX14_roundInverse : MethodName := ⟨RX14, "roundInverse", "(I)I"⟩
abbrev cX14_isNoRow : ByteArray := prog_14_method_27_code
def yX14_isNoRow : MethodName := ⟨RX14, "isNoRow", "(II)Z"⟩
abbrev cX14_found : ByteArray := prog_14_method_28_code
def yX14_found : MethodName := ⟨RX14, "found", "(Ljava/util/ArrayList;)[J"⟩
abbrev cX14_tried : ByteArray := prog_14_method_29_code
def yX14_tried : MethodName := ⟨RX14, "tried", "(JJ[I)I"⟩
abbrev cX14_common : ByteArray := prog_14_method_30_code
def yX14_common : MethodName := ⟨RX14, "common", "(JI)J"⟩
abbrev cX14_isFit : ByteArray := prog_14_method_31_code
def yX14_isFit : MethodName := ⟨RX14, "isFit", "(II)Z"⟩
abbrev cX14_add : ByteArray := prog_14_method_32_code
def yX14_add : MethodName := ⟨RX14, "add", "(II)I"⟩
abbrev cX14_tell : ByteArray := prog_14_method_33_code
def yX14_tell : MethodName := ⟨RX14, "tell", "(II)I"⟩
abbrev cX14_tellIf : ByteArray := prog_14_method_34_code
def yX14_tellIf : MethodName := ⟨RX14, "tellIf", "(II)Z"⟩
abbrev cX14_isNoPlace : ByteArray := prog_14_method_35_code
def yX14_isNoPlace : MethodName := ⟨RX14, "isNoPlace", "(I)Z"⟩
abbrev cX14_drop : ByteArray := prog_14_method_36_code
def yX14_drop : MethodName := ⟨RX14, "drop", "(I)I"⟩
abbrev cX14_base : ByteArray := prog_14_method_37_code
def yX14_base : MethodName := ⟨RX14, "base", "(I)I"⟩
abbrev cX14_unbase : ByteArray := prog_14_method_38_code
def yX14_unbase : MethodName := ⟨RX14, "unbase", "()I"⟩
abbrev cX14_undo : ByteArray := prog_14_method_39_code
def yX14_undo : MethodName := ⟨RX14, "undo", "()I"⟩
abbrev cX14_knock : ByteArray := prog_14_method_40_code
def yX14_knock : MethodName := ⟨RX14, "knock", "()I"⟩
abbrev cX14_number : ByteArray := prog_14_method_41_code
def yX14_number : MethodName := ⟨RX14, "number", "(I)Ljava/lang/String;"⟩
abbrev cX14_digits : ByteArray := prog_14_method_42_code
def yX14_digits : MethodName := ⟨RX14, "digits", "(I)I"⟩
abbrev cX14_bigGcd : ByteArray := prog_14_method_43_code
def yX14_bigGcd : MethodName := ⟨RX14, "bigGcd", "(II)Ljava/lang/String;"⟩
abbrev cX14_bigMod : ByteArray := prog_14_method_44_code
def yX14_bigMod : MethodName := ⟨RX14, "bigMod", "(II)Ljava/lang/String;"⟩
abbrev cX14_text : ByteArray := prog_14_method_45_code
def yX14_text : MethodName := ⟨RX14, "text", "(LClockhouseModel$Num;)Ljava/lang/String;"⟩
abbrev cX14_bigInverse : ByteArray := prog_14_method_46_code
def yX14_bigInverse : MethodName := ⟨RX14, "bigInverse", "(II)Ljava/lang/String;"⟩
abbrev cX14_bigPower : ByteArray := prog_14_method_47_code
def yX14_bigPower : MethodName := ⟨RX14, "bigPower", "(III)Ljava/lang/String;"⟩
abbrev cX14_size : ByteArray := prog_14_method_48_code
def yX14_size : MethodName := ⟨RX14, "size", "()I"⟩
abbrev cX14_mod : ByteArray := prog_14_method_49_code
def yX14_mod : MethodName := ⟨RX14, "mod", "(I)I"⟩
abbrev cX14_gcdAt : ByteArray := prog_14_method_50_code
def yX14_gcdAt : MethodName := ⟨RX14, "gcdAt", "(I)I"⟩
abbrev cX14_gcd : ByteArray := prog_14_method_51_code
def yX14_gcd : MethodName := ⟨RX14, "gcd", "(I)I"⟩
abbrev cX14_power : ByteArray := prog_14_method_52_code
def yX14_power : MethodName := ⟨RX14, "power", "(II)I"⟩
abbrev cX14_inverse : ByteArray := prog_14_method_53_code
def yX14_inverse : MethodName := ⟨RX14, "inverse", "(I)I"⟩
abbrev cX14_solved : ByteArray := prog_14_method_54_code
def yX14_solved : MethodName := ⟨RX14, "solved", "(II)I"⟩
abbrev cX14_solutionsAt : ByteArray := prog_14_method_55_code
def yX14_solutionsAt : MethodName := ⟨RX14, "solutionsAt", "(II)I"⟩
abbrev cX14_solutionAt : ByteArray := prog_14_method_56_code
def yX14_solutionAt : MethodName := ⟨RX14, "solutionAt", "(III)I"⟩
abbrev cX14_solutions : ByteArray := prog_14_method_57_code
def yX14_solutions : MethodName := ⟨RX14, "solutions", "(II)I"⟩
abbrev cX14_solution : ByteArray := prog_14_method_58_code
def yX14_solution : MethodName := ⟨RX14, "solution", "(III)I"⟩
abbrev cX14_unitsTold : ByteArray := prog_14_method_59_code
def yX14_unitsTold : MethodName := ⟨RX14, "unitsTold", "()I"⟩
abbrev cX14_units : ByteArray := prog_14_method_60_code
def yX14_units : MethodName := ⟨RX14, "units", "()I"⟩
abbrev cX14_orderOf : ByteArray := prog_14_method_61_code
def yX14_orderOf : MethodName := ⟨RX14, "orderOf", "(I)I"⟩
abbrev cX14_order : ByteArray := prog_14_method_62_code
def yX14_order : MethodName := ⟨RX14, "order", "(I)I"⟩
abbrev cX14_generatorAt : ByteArray := prog_14_method_63_code
def yX14_generatorAt : MethodName := ⟨RX14, "generatorAt", "(I)I"⟩
abbrev cX14_generator : ByteArray := prog_14_method_64_code
def yX14_generator : MethodName := ⟨RX14, "generator", "(I)I"⟩
abbrev cX14_isGenerator : ByteArray := prog_14_method_65_code
def yX14_isGenerator : MethodName := ⟨RX14, "isGenerator", "(I)Z"⟩
abbrev cX14_powersOf : ByteArray := prog_14_method_66_code
def yX14_powersOf : MethodName := ⟨RX14, "powersOf", "(I)[I"⟩
abbrev cX14_powers : ByteArray := prog_14_method_67_code
def yX14_powers : MethodName := ⟨RX14, "powers", "(I)Ljava/lang/String;"⟩
abbrev cX14_powersTold : ByteArray := prog_14_method_68_code
def yX14_powersTold : MethodName := ⟨RX14, "powersTold", "(II)I"⟩
abbrev cX14_ofPowers : ByteArray := prog_14_method_69_code
def yX14_ofPowers : MethodName := ⟨RX14, "ofPowers", "(II)I"⟩
abbrev cX14_rooted : ByteArray := prog_14_method_70_code
def yX14_rooted : MethodName := ⟨RX14, "rooted", "(II)I"⟩
abbrev cX14_rootsTold : ByteArray := prog_14_method_71_code
def yX14_rootsTold : MethodName := ⟨RX14, "rootsTold", "(I)I"⟩
abbrev cX14_rootAt : ByteArray := prog_14_method_72_code
def yX14_rootAt : MethodName := ⟨RX14, "rootAt", "(II)I"⟩
abbrev cX14_roots : ByteArray := prog_14_method_73_code
def yX14_roots : MethodName := ⟨RX14, "roots", "(I)I"⟩
abbrev cX14_root : ByteArray := prog_14_method_74_code
def yX14_root : MethodName := ⟨RX14, "root", "(II)I"⟩
abbrev cX14_isPrime : ByteArray := prog_14_method_75_code
def yX14_isPrime : MethodName := ⟨RX14, "isPrime", "(I)Z"⟩
abbrev cX14_isPrime_ : ByteArray := prog_14_method_76_code
def yX14_isPrime_ : MethodName := ⟨RX14, "isPrime", "()Z"⟩
abbrev cX14_legendreOf : ByteArray := prog_14_method_77_code
def yX14_legendreOf : MethodName := ⟨RX14, "legendreOf", "(II)I"⟩
abbrev cX14_legendreAt : ByteArray := prog_14_method_78_code
def yX14_legendreAt : MethodName := ⟨RX14, "legendreAt", "(I)I"⟩
abbrev cX14_legendre : ByteArray := prog_14_method_79_code
def yX14_legendre : MethodName := ⟨RX14, "legendre", "(I)I"⟩
abbrev cX14_jacobiAt : ByteArray := prog_14_method_80_code
def yX14_jacobiAt : MethodName := ⟨RX14, "jacobiAt", "(I)I"⟩
abbrev cX14_jacobi : ByteArray := prog_14_method_81_code
def yX14_jacobi : MethodName := ⟨RX14, "jacobi", "(I)I"⟩
abbrev cX14_rows : ByteArray := prog_14_method_82_code
def yX14_rows : MethodName := ⟨RX14, "rows", "()I"⟩
abbrev cX14_ofRow : ByteArray := prog_14_method_83_code
def yX14_ofRow : MethodName := ⟨RX14, "ofRow", "(II)I"⟩
abbrev cX14_doAgree : ByteArray := prog_14_method_84_code
def yX14_doAgree : MethodName := ⟨RX14, "doAgree", "(II)Z"⟩
abbrev cX14_agree : ByteArray := prog_14_method_85_code
def yX14_agree : MethodName := ⟨RX14, "agree", "(II)Z"⟩
abbrev cX14_isJoined : ByteArray := prog_14_method_86_code
def yX14_isJoined : MethodName := ⟨RX14, "isJoined", "()Z"⟩
abbrev cX14_wouldJoin : ByteArray := prog_14_method_87_code
def yX14_wouldJoin : MethodName := ⟨RX14, "wouldJoin", "(II)Z"⟩
abbrev cX14_answerTold : ByteArray := prog_14_method_88_code
def yX14_answerTold : MethodName := ⟨RX14, "answerTold", "()Ljava/lang/String;"⟩
abbrev cX14_answer : ByteArray := prog_14_method_89_code
def yX14_answer : MethodName := ⟨RX14, "answer", "()Ljava/lang/String;"⟩
abbrev cX14_dialTold : ByteArray := prog_14_method_90_code
def yX14_dialTold : MethodName := ⟨RX14, "dialTold", "()Ljava/lang/String;"⟩
abbrev cX14_answerDial : ByteArray := prog_14_method_91_code
def yX14_answerDial : MethodName := ⟨RX14, "answerDial", "()Ljava/lang/String;"⟩
abbrev cX14_clashTold : ByteArray := prog_14_method_92_code
def yX14_clashTold : MethodName := ⟨RX14, "clashTold", "(I)I"⟩
abbrev cX14_clash : ByteArray := prog_14_method_93_code
def yX14_clash : MethodName := ⟨RX14, "clash", "(I)I"⟩
abbrev cX14_brokenTold : ByteArray := prog_14_method_94_code
def yX14_brokenTold : MethodName := ⟨RX14, "brokenTold", "(I)I"⟩
abbrev cX14_broken : ByteArray := prog_14_method_95_code
def yX14_broken : MethodName := ⟨RX14, "broken", "(I)I"⟩
abbrev cX14_bases : ByteArray := prog_14_method_96_code
def yX14_bases : MethodName := ⟨RX14, "bases", "()I"⟩
abbrev cX14_spanTold : ByteArray := prog_14_method_97_code
def yX14_spanTold : MethodName := ⟨RX14, "spanTold", "()Ljava/lang/String;"⟩
abbrev cX14_span : ByteArray := prog_14_method_98_code
def yX14_span : MethodName := ⟨RX14, "span", "()Ljava/lang/String;"⟩
abbrev cX14_residuesTold : ByteArray := prog_14_method_99_code
def yX14_residuesTold : MethodName := ⟨RX14, "residuesTold", "(I)Ljava/lang/String;"⟩
abbrev cX14_residues : ByteArray := prog_14_method_100_code
def yX14_residues : MethodName := ⟨RX14, "residues", "(I)Ljava/lang/String;"⟩
abbrev cX14_backTold : ByteArray := prog_14_method_101_code
def yX14_backTold : MethodName := ⟨RX14, "backTold", "(III)Ljava/lang/String;"⟩
abbrev cX14_back : ByteArray := prog_14_method_102_code
def yX14_back : MethodName := ⟨RX14, "back", "(I)Ljava/lang/String;"⟩
abbrev cX14_sumBack : ByteArray := prog_14_method_103_code
def yX14_sumBack : MethodName := ⟨RX14, "sumBack", "(II)Ljava/lang/String;"⟩
abbrev cX14_productBack : ByteArray := prog_14_method_104_code
def yX14_productBack : MethodName := ⟨RX14, "productBack", "(II)Ljava/lang/String;"⟩
abbrev cX14_booksTold : ByteArray := prog_14_method_105_code
def yX14_booksTold : MethodName := ⟨RX14, "booksTold", "(I)I"⟩
abbrev cX14_books : ByteArray := prog_14_method_106_code
def yX14_books : MethodName := ⟨RX14, "books", "(I)I"⟩
abbrev cX14_isWhole : ByteArray := prog_14_method_107_code
def yX14_isWhole : MethodName := ⟨RX14, "isWhole", "()Z"⟩
abbrev cX14_isSound : ByteArray := prog_14_method_108_code
def yX14_isSound : MethodName := ⟨RX14, "isSound", "()Z"⟩
abbrev cX14_digestSlot : ByteArray := prog_14_method_109_code
def yX14_digestSlot : MethodName := ⟨RX14, "digestSlot", "(JI)J"⟩
abbrev cX14_digest : ByteArray := prog_14_method_110_code
def yX14_digest : MethodName := ⟨RX14, "digest", "()J"⟩
def RJx145de : String := "java/io/Serializable"
def TJx145de : u_T := fun k => match k with
  | _ => ("", "", "", false)
def tyJx145de : Nat → FieldType := fun k => match k with
  | _ => .int
theorem nmJx145de : ∀ a, a < 0 → ∀ b, b < 0 → a ≠ b → (TJx145de a).2.1 ≠ (TJx145de b).2.1 := by decide +kernel
theorem tyJx145de_ok : ∀ k, k < 0 → parseFieldDescriptor (TJx145de k).2.2.1 = some (tyJx145de k) := by decide +kernel
def RJ5 : String := "java/lang/AbstractStringBuilder"
def TJ5 : u_T := fun k => match k with
  | _ => ("", "", "", false)
def tyJ5 : Nat → FieldType := fun k => match k with
  | _ => .int
theorem nmJ5 : ∀ a, a < 0 → ∀ b, b < 0 → a ≠ b → (TJ5 a).2.1 ≠ (TJ5 b).2.1 := by decide +kernel
theorem tyJ5_ok : ∀ k, k < 0 → parseFieldDescriptor (TJ5 k).2.2.1 = some (tyJ5 k) := by decide +kernel
abbrev cJ5_init_d00df : ByteArray := prog_18_method_2_code
def yJ5_init_d00df : MethodName := ⟨RJ5, "<init>", "(I)V"⟩
abbrev cJ5_length_8abf5 : ByteArray := prog_18_method_6_code
def yJ5_length_8abf5 : MethodName := ⟨RJ5, "length", "()I"⟩
abbrev cJ5_ensureCapacityInternal_d00df : ByteArray := prog_18_method_9_code
def yJ5_ensureCapacityInternal_d00df : MethodName := ⟨RJ5, "ensureCapacityInternal", "(I)V"⟩
abbrev cJ5_newCapacity_0f7a4 : ByteArray := prog_18_method_10_code
def yJ5_newCapacity_0f7a4 : MethodName := ⟨RJ5, "newCapacity", "(I)I"⟩
abbrev cJ5_inflate_da8c8 : ByteArray := prog_18_method_11_code
def yJ5_inflate_da8c8 : MethodName := ⟨RJ5, "inflate", "()V"⟩
abbrev cJ5_setLength_d00df : ByteArray := prog_18_method_13_code
def yJ5_setLength_d00df : MethodName := ⟨RJ5, "setLength", "(I)V"⟩
abbrev cJ5_append_cf1ce : ByteArray := prog_18_method_22_code
def yJ5_append_cf1ce : MethodName := ⟨RJ5, "append", "(Ljava/lang/String;)Ljava/lang/AbstractStringBuilder;"⟩
abbrev cJ5_appendNull_278bc : ByteArray := prog_18_method_26_code
def yJ5_appendNull_278bc : MethodName := ⟨RJ5, "appendNull", "()Ljava/lang/AbstractStringBuilder;"⟩
abbrev cJ5_append_3fe6f : ByteArray := prog_18_method_31_code
def yJ5_append_3fe6f : MethodName := ⟨RJ5, "append", "(C)Ljava/lang/AbstractStringBuilder;"⟩
abbrev cJ5_append_c97b9 : ByteArray := prog_18_method_32_code
def yJ5_append_c97b9 : MethodName := ⟨RJ5, "append", "(I)Ljava/lang/AbstractStringBuilder;"⟩
abbrev cJ5_append_66267 : ByteArray := prog_18_method_33_code
def yJ5_append_66267 : MethodName := ⟨RJ5, "append", "(J)Ljava/lang/AbstractStringBuilder;"⟩
abbrev cJ5_getValue_6d5f1 : ByteArray := prog_18_method_64_code
def yJ5_getValue_6d5f1 : MethodName := ⟨RJ5, "getValue", "()[B"⟩
abbrev cJ5_isLatin1_aae02 : ByteArray := prog_18_method_68_code
def yJ5_isLatin1_aae02 : MethodName := ⟨RJ5, "isLatin1", "()Z"⟩
abbrev cJ5_inflateIfNeededFor_a7421 : ByteArray := prog_18_method_71_code
def yJ5_inflateIfNeededFor_a7421 : MethodName := ⟨RJ5, "inflateIfNeededFor", "(Ljava/lang/String;)V"⟩
abbrev cJ5_putStringAt_47b60 : ByteArray := prog_18_method_73_code
def yJ5_putStringAt_47b60 : MethodName := ⟨RJ5, "putStringAt", "(ILjava/lang/String;)V"⟩
def RJx2cfe8 : String := "java/lang/Appendable"
def TJx2cfe8 : u_T := fun k => match k with
  | _ => ("", "", "", false)
def tyJx2cfe8 : Nat → FieldType := fun k => match k with
  | _ => .int
theorem nmJx2cfe8 : ∀ a, a < 0 → ∀ b, b < 0 → a ≠ b → (TJx2cfe8 a).2.1 ≠ (TJx2cfe8 b).2.1 := by decide +kernel
theorem tyJx2cfe8_ok : ∀ k, k < 0 → parseFieldDescriptor (TJx2cfe8 k).2.2.1 = some (tyJx2cfe8 k) := by decide +kernel
def RJx00060 : String := "java/lang/ArrayIndexOutOfBoundsException"
def TJx00060 : u_T := fun k => match k with
  | 0 => ("java/lang/Throwable", "cause", "Ljava/lang/Throwable;", false)
  | 1 => ("java/lang/Throwable", "stackTrace", "[Ljava/lang/StackTraceElement;", false)
  | 2 => ("java/lang/Throwable", "suppressedExceptions", "Ljava/util/List;", false)
  | 3 => ("java/lang/Throwable", "detailMessage", "Ljava/lang/String;", false)
  | 4 => ("java/lang/Throwable", "backtrace", "Ljava/lang/Object;", false)
  | _ => ("java/lang/Throwable", "depth", "I", false)
def tyJx00060 : Nat → FieldType := fun k => match k with
  | 0 => .object "java/lang/Throwable"
  | 1 => .array (.object "java/lang/StackTraceElement")
  | 2 => .object "java/util/List"
  | 3 => .object "java/lang/String"
  | 4 => .object "java/lang/Object"
  | _ => .int
theorem nmJx00060 : ∀ a, a < 6 → ∀ b, b < 6 → a ≠ b → (TJx00060 a).2.1 ≠ (TJx00060 b).2.1 := by decide +kernel
theorem tyJx00060_ok : ∀ k, k < 6 → parseFieldDescriptor (TJx00060 k).2.2.1 = some (tyJx00060 k) := by decide +kernel
abbrev cJx00060_init_d00df : ByteArray := prog_20_method_3_code
def yJx00060_init_d00df : MethodName := ⟨RJx00060, "<init>", "(I)V"⟩
def RJx9f9b0 : String := "java/lang/CharSequence"
def TJx9f9b0 : u_T := fun k => match k with
  | _ => ("", "", "", false)
def tyJx9f9b0 : Nat → FieldType := fun k => match k with
  | _ => .int
theorem nmJx9f9b0 : ∀ a, a < 0 → ∀ b, b < 0 → a ≠ b → (TJx9f9b0 a).2.1 ≠ (TJx9f9b0 b).2.1 := by decide +kernel
theorem tyJx9f9b0_ok : ∀ k, k < 0 → parseFieldDescriptor (TJx9f9b0 k).2.2.1 = some (tyJx9f9b0 k) := by decide +kernel
def RJx8e188 : String := "java/lang/Cloneable"
def TJx8e188 : u_T := fun k => match k with
  | _ => ("", "", "", false)
def tyJx8e188 : Nat → FieldType := fun k => match k with
  | _ => .int
theorem nmJx8e188 : ∀ a, a < 0 → ∀ b, b < 0 → a ≠ b → (TJx8e188 a).2.1 ≠ (TJx8e188 b).2.1 := by decide +kernel
theorem tyJx8e188_ok : ∀ k, k < 0 → parseFieldDescriptor (TJx8e188 k).2.2.1 = some (tyJx8e188 k) := by decide +kernel
def RJxb160c : String := "java/lang/Comparable"
def TJxb160c : u_T := fun k => match k with
  | _ => ("", "", "", false)
def tyJxb160c : Nat → FieldType := fun k => match k with
  | _ => .int
theorem nmJxb160c : ∀ a, a < 0 → ∀ b, b < 0 → a ≠ b → (TJxb160c a).2.1 ≠ (TJxb160c b).2.1 := by decide +kernel
theorem tyJxb160c_ok : ∀ k, k < 0 → parseFieldDescriptor (TJxb160c k).2.2.1 = some (tyJxb160c k) := by decide +kernel
def RJxabbfe : String := "java/lang/Integer$IntegerCache"
def TJxabbfe : u_T := fun k => match k with
  | _ => ("", "", "", false)
def tyJxabbfe : Nat → FieldType := fun k => match k with
  | _ => .int
theorem nmJxabbfe : ∀ a, a < 0 → ∀ b, b < 0 → a ≠ b → (TJxabbfe a).2.1 ≠ (TJxabbfe b).2.1 := by decide +kernel
theorem tyJxabbfe_ok : ∀ k, k < 0 → parseFieldDescriptor (TJxabbfe k).2.2.1 = some (tyJxabbfe k) := by decide +kernel
def RJ6 : String := "java/lang/Integer"
def TJ6 : u_T := fun k => match k with
  | _ => ("java/lang/Integer", "value", "I", true)
def tyJ6 : Nat → FieldType := fun k => match k with
  | _ => .int
theorem nmJ6 : ∀ a, a < 1 → ∀ b, b < 1 → a ≠ b → (TJ6 a).2.1 ≠ (TJ6 b).2.1 := by decide +kernel
theorem tyJ6_ok : ∀ k, k < 1 → parseFieldDescriptor (TJ6 k).2.2.1 = some (tyJ6 k) := by decide +kernel
abbrev cJ6_getChars_ba4f3 : ByteArray := prog_28_method_12_code
def yJ6_getChars_ba4f3 : MethodName := ⟨RJ6, "getChars", "(II[B)I"⟩
abbrev cJ6_stringSize_0f7a4 : ByteArray := prog_28_method_13_code
def yJ6_stringSize_0f7a4 : MethodName := ⟨RJ6, "stringSize", "(I)I"⟩
abbrev cJ6_valueOf_2dffe : ByteArray := prog_28_method_22_code
def yJ6_valueOf_2dffe : MethodName := ⟨RJ6, "valueOf", "(I)Ljava/lang/Integer;"⟩
abbrev cJ6_init_d00df : ByteArray := prog_28_method_23_code
def yJ6_init_d00df : MethodName := ⟨RJ6, "<init>", "(I)V"⟩
abbrev cJ6_intValue_8abf5 : ByteArray := prog_28_method_27_code
def yJ6_intValue_8abf5 : MethodName := ⟨RJ6, "intValue", "()I"⟩
def RJxab1ab : String := "java/lang/Iterable"
def TJxab1ab : u_T := fun k => match k with
  | _ => ("", "", "", false)
def tyJxab1ab : Nat → FieldType := fun k => match k with
  | _ => .int
theorem nmJxab1ab : ∀ a, a < 0 → ∀ b, b < 0 → a ≠ b → (TJxab1ab a).2.1 ≠ (TJxab1ab b).2.1 := by decide +kernel
theorem tyJxab1ab_ok : ∀ k, k < 0 → parseFieldDescriptor (TJxab1ab k).2.2.1 = some (tyJxab1ab k) := by decide +kernel
def RJ13 : String := "java/lang/Long"
def TJ13 : u_T := fun k => match k with
  | _ => ("", "", "", false)
def tyJ13 : Nat → FieldType := fun k => match k with
  | _ => .int
theorem nmJ13 : ∀ a, a < 0 → ∀ b, b < 0 → a ≠ b → (TJ13 a).2.1 ≠ (TJ13 b).2.1 := by decide +kernel
theorem tyJ13_ok : ∀ k, k < 0 → parseFieldDescriptor (TJ13 k).2.2.1 = some (tyJ13 k) := by decide +kernel
abbrev cJ13_getChars_11360 : ByteArray := prog_31_method_14_code
def yJ13_getChars_11360 : MethodName := ⟨RJ13, "getChars", "(JI[B)I"⟩
abbrev cJ13_stringSize_95d88 : ByteArray := prog_31_method_15_code
def yJ13_stringSize_95d88 : MethodName := ⟨RJ13, "stringSize", "(J)I"⟩
def RJ9 : String := "java/lang/Math"
def TJ9 : u_T := fun k => match k with
  | _ => ("", "", "", false)
def tyJ9 : Nat → FieldType := fun k => match k with
  | _ => .int
theorem nmJ9 : ∀ a, a < 0 → ∀ b, b < 0 → a ≠ b → (TJ9 a).2.1 ≠ (TJ9 b).2.1 := by decide +kernel
theorem tyJ9_ok : ∀ k, k < 0 → parseFieldDescriptor (TJ9 k).2.2.1 = some (tyJ9 k) := by decide +kernel
abbrev cJ9_floorDiv_7cf53 : ByteArray := prog_32_method_47_code
def yJ9_floorDiv_7cf53 : MethodName := ⟨RJ9, "floorDiv", "(II)I"⟩
abbrev cJ9_floorDiv_f86c9 : ByteArray := prog_32_method_49_code
def yJ9_floorDiv_f86c9 : MethodName := ⟨RJ9, "floorDiv", "(JJ)J"⟩
abbrev cJ9_floorMod_7cf53 : ByteArray := prog_32_method_50_code
def yJ9_floorMod_7cf53 : MethodName := ⟨RJ9, "floorMod", "(II)I"⟩
abbrev cJ9_floorMod_f86c9 : ByteArray := prog_32_method_52_code
def yJ9_floorMod_f86c9 : MethodName := ⟨RJ9, "floorMod", "(JJ)J"⟩
abbrev cJ9_max_7cf53 : ByteArray := prog_32_method_65_code
def yJ9_max_7cf53 : MethodName := ⟨RJ9, "max", "(II)I"⟩
abbrev cJ9_min_7cf53 : ByteArray := prog_32_method_69_code
def yJ9_min_7cf53 : MethodName := ⟨RJ9, "min", "(II)I"⟩
def RJxd2413 : String := "java/lang/Number"
def TJxd2413 : u_T := fun k => match k with
  | _ => ("", "", "", false)
def tyJxd2413 : Nat → FieldType := fun k => match k with
  | _ => .int
theorem nmJxd2413 : ∀ a, a < 0 → ∀ b, b < 0 → a ≠ b → (TJxd2413 a).2.1 ≠ (TJxd2413 b).2.1 := by decide +kernel
theorem tyJxd2413_ok : ∀ k, k < 0 → parseFieldDescriptor (TJxd2413 k).2.2.1 = some (tyJxd2413 k) := by decide +kernel
abbrev cJxd2413_init_da8c8 : ByteArray := prog_33_method_1_code
def yJxd2413_init_da8c8 : MethodName := ⟨RJxd2413, "<init>", "()V"⟩
def RJ0 : String := "java/lang/String"
def TJ0 : u_T := fun k => match k with
  | 0 => ("java/lang/String", "value", "[B", true)
  | 1 => ("java/lang/String", "coder", "B", true)
  | 2 => ("java/lang/String", "hash", "I", false)
  | _ => ("java/lang/String", "hashIsZero", "Z", false)
def tyJ0 : Nat → FieldType := fun k => match k with
  | 0 => .array .byte
  | 1 => .byte
  | 2 => .int
  | _ => .boolean
theorem nmJ0 : ∀ a, a < 4 → ∀ b, b < 4 → a ≠ b → (TJ0 a).2.1 ≠ (TJ0 b).2.1 := by decide +kernel
theorem tyJ0_ok : ∀ k, k < 4 → parseFieldDescriptor (TJ0 k).2.2.1 = some (tyJ0 k) := by decide +kernel
abbrev cJ0_init_81219 : ByteArray := prog_35_method_53_code
def yJ0_init_81219 : MethodName := ⟨RJ0, "<init>", "(Ljava/lang/StringBuilder;)V"⟩
abbrev cJ0_length_8abf5 : ByteArray := prog_35_method_54_code
def yJ0_length_8abf5 : MethodName := ⟨RJ0, "length", "()I"⟩
abbrev cJ0_isEmpty_aae02 : ByteArray := prog_35_method_55_code
def yJ0_isEmpty_aae02 : MethodName := ⟨RJ0, "isEmpty", "()Z"⟩
abbrev cJ0_getBytes_840e7 : ByteArray := prog_35_method_147_code
def yJ0_getBytes_840e7 : MethodName := ⟨RJ0, "getBytes", "([BIB)V"⟩
abbrev cJ0_init_db425 : ByteArray := prog_35_method_150_code
def yJ0_init_db425 : MethodName := ⟨RJ0, "<init>", "(Ljava/lang/AbstractStringBuilder;Ljava/lang/Void;)V"⟩
abbrev cJ0_coder_7d493 : ByteArray := prog_35_method_152_code
def yJ0_coder_7d493 : MethodName := ⟨RJ0, "coder", "()B"⟩
abbrev cJ0_checkIndex_df160 : ByteArray := prog_35_method_155_code
def yJ0_checkIndex_df160 : MethodName := ⟨RJ0, "checkIndex", "(II)V"⟩
abbrev cJ0_checkBoundsOffCount_cabcc : ByteArray := prog_35_method_157_code
def yJ0_checkBoundsOffCount_cabcc : MethodName := ⟨RJ0, "checkBoundsOffCount", "(III)I"⟩
abbrev cJ0_checkBoundsBeginEnd_23922 : ByteArray := prog_35_method_158_code
def yJ0_checkBoundsBeginEnd_23922 : MethodName := ⟨RJ0, "checkBoundsBeginEnd", "(III)V"⟩
def RJ4 : String := "java/lang/StringBuilder"
def TJ4 : u_T := fun k => match k with
  | 0 => ("java/lang/AbstractStringBuilder", "value", "[B", false)
  | 1 => ("java/lang/AbstractStringBuilder", "coder", "B", false)
  | 2 => ("java/lang/AbstractStringBuilder", "maybeLatin1", "Z", false)
  | _ => ("java/lang/AbstractStringBuilder", "count", "I", false)
def tyJ4 : Nat → FieldType := fun k => match k with
  | 0 => .array .byte
  | 1 => .byte
  | 2 => .boolean
  | _ => .int
theorem nmJ4 : ∀ a, a < 4 → ∀ b, b < 4 → a ≠ b → (TJ4 a).2.1 ≠ (TJ4 b).2.1 := by decide +kernel
theorem tyJ4_ok : ∀ k, k < 4 → parseFieldDescriptor (TJ4 k).2.2.1 = some (tyJ4 k) := by decide +kernel
abbrev cJ4_init_da8c8 : ByteArray := prog_36_method_1_code
def yJ4_init_da8c8 : MethodName := ⟨RJ4, "<init>", "()V"⟩
abbrev cJ4_init_d00df : ByteArray := prog_36_method_2_code
def yJ4_init_d00df : MethodName := ⟨RJ4, "<init>", "(I)V"⟩
abbrev cJ4_append_15ec4 : ByteArray := prog_36_method_7_code
def yJ4_append_15ec4 : MethodName := ⟨RJ4, "append", "(Ljava/lang/String;)Ljava/lang/StringBuilder;"⟩
abbrev cJ4_append_cf468 : ByteArray := prog_36_method_14_code
def yJ4_append_cf468 : MethodName := ⟨RJ4, "append", "(C)Ljava/lang/StringBuilder;"⟩
abbrev cJ4_append_bf812 : ByteArray := prog_36_method_15_code
def yJ4_append_bf812 : MethodName := ⟨RJ4, "append", "(I)Ljava/lang/StringBuilder;"⟩
abbrev cJ4_append_f7089 : ByteArray := prog_36_method_16_code
def yJ4_append_f7089 : MethodName := ⟨RJ4, "append", "(J)Ljava/lang/StringBuilder;"⟩
abbrev cJ4_toString_0e30d : ByteArray := prog_36_method_42_code
def yJ4_toString_0e30d : MethodName := ⟨RJ4, "toString", "()Ljava/lang/String;"⟩
abbrev cJ4_setLength_d00df : ByteArray := prog_36_method_89_code
def yJ4_setLength_d00df : MethodName := ⟨RJ4, "setLength", "(I)V"⟩
abbrev cJ4_length_8abf5 : ByteArray := prog_36_method_93_code
def yJ4_length_8abf5 : MethodName := ⟨RJ4, "length", "()I"⟩
def RJx7c733 : String := "java/lang/StringIndexOutOfBoundsException"
def TJx7c733 : u_T := fun k => match k with
  | 0 => ("java/lang/Throwable", "backtrace", "Ljava/lang/Object;", false)
  | 1 => ("java/lang/Throwable", "detailMessage", "Ljava/lang/String;", false)
  | 2 => ("java/lang/Throwable", "cause", "Ljava/lang/Throwable;", false)
  | 3 => ("java/lang/Throwable", "stackTrace", "[Ljava/lang/StackTraceElement;", false)
  | 4 => ("java/lang/Throwable", "depth", "I", false)
  | _ => ("java/lang/Throwable", "suppressedExceptions", "Ljava/util/List;", false)
def tyJx7c733 : Nat → FieldType := fun k => match k with
  | 0 => .object "java/lang/Object"
  | 1 => .object "java/lang/String"
  | 2 => .object "java/lang/Throwable"
  | 3 => .array (.object "java/lang/StackTraceElement")
  | 4 => .int
  | _ => .object "java/util/List"
theorem nmJx7c733 : ∀ a, a < 6 → ∀ b, b < 6 → a ≠ b → (TJx7c733 a).2.1 ≠ (TJx7c733 b).2.1 := by decide +kernel
theorem tyJx7c733_ok : ∀ k, k < 6 → parseFieldDescriptor (TJx7c733 k).2.2.1 = some (tyJx7c733 k) := by decide +kernel
abbrev cJx7c733_init_d00df : ByteArray := prog_37_method_3_code
def yJx7c733_init_d00df : MethodName := ⟨RJx7c733, "<init>", "(I)V"⟩
def RJ1 : String := "java/lang/StringLatin1"
def TJ1 : u_T := fun k => match k with
  | _ => ("", "", "", false)
def tyJ1 : Nat → FieldType := fun k => match k with
  | _ => .int
theorem nmJ1 : ∀ a, a < 0 → ∀ b, b < 0 → a ≠ b → (TJ1 a).2.1 ≠ (TJ1 b).2.1 := by decide +kernel
theorem tyJ1_ok : ∀ k, k < 0 → parseFieldDescriptor (TJ1 k).2.2.1 = some (tyJ1 k) := by decide +kernel
abbrev cJ1_canEncode_fc78d : ByteArray := prog_38_method_3_code
def yJ1_canEncode_fc78d : MethodName := ⟨RJ1, "canEncode", "(C)Z"⟩
abbrev cJ1_fillNull_b72d1 : ByteArray := prog_38_method_48_code
def yJ1_fillNull_b72d1 : MethodName := ⟨RJ1, "fillNull", "([BII)V"⟩
abbrev cJ1_inflate_0e8fd : ByteArray := prog_38_method_50_code
def yJ1_inflate_0e8fd : MethodName := ⟨RJ1, "inflate", "([BI[BII)V"⟩
def RJ2 : String := "java/lang/StringUTF16"
def TJ2 : u_T := fun k => match k with
  | _ => ("", "", "", false)
def tyJ2 : Nat → FieldType := fun k => match k with
  | _ => .int
theorem nmJ2 : ∀ a, a < 0 → ∀ b, b < 0 → a ≠ b → (TJ2 a).2.1 ≠ (TJ2 b).2.1 := by decide +kernel
theorem tyJ2_ok : ∀ k, k < 0 → parseFieldDescriptor (TJ2 k).2.2.1 = some (tyJ2 k) := by decide +kernel
abbrev cJ2_newBytesFor_77867 : ByteArray := prog_39_method_2_code
def yJ2_newBytesFor_77867 : MethodName := ⟨RJ2, "newBytesFor", "(I)[B"⟩
abbrev cJ2_newBytesLength_0f7a4 : ByteArray := prog_39_method_3_code
def yJ2_newBytesLength_0f7a4 : MethodName := ⟨RJ2, "newBytesLength", "(I)I"⟩
abbrev cJ2_putChar_b72d1 : ByteArray := prog_39_method_4_code
def yJ2_putChar_b72d1 : MethodName := ⟨RJ2, "putChar", "([BII)V"⟩
abbrev cJ2_getChar_3b067 : ByteArray := prog_39_method_5_code
def yJ2_getChar_3b067 : MethodName := ⟨RJ2, "getChar", "([BI)C"⟩
abbrev cJ2_length_9d52b : ByteArray := prog_39_method_6_code
def yJ2_length_9d52b : MethodName := ⟨RJ2, "length", "([B)I"⟩
abbrev cJ2_coderFromArrayLen_85cad : ByteArray := prog_39_method_15_code
def yJ2_coderFromArrayLen_85cad : MethodName := ⟨RJ2, "coderFromArrayLen", "([BI)B"⟩
abbrev cJ2_compress_39247 : ByteArray := prog_39_method_17_code
def yJ2_compress_39247 : MethodName := ⟨RJ2, "compress", "([BII)[B"⟩
abbrev cJ2_compress_5af95 : ByteArray := prog_39_method_22_code
def yJ2_compress_5af95 : MethodName := ⟨RJ2, "compress", "([BI[BII)I"⟩
abbrev cJ2_fillNull_b72d1 : ByteArray := prog_39_method_70_code
def yJ2_fillNull_b72d1 : MethodName := ⟨RJ2, "fillNull", "([BII)V"⟩
abbrev cJ2_putCharSB_b72d1 : ByteArray := prog_39_method_71_code
def yJ2_putCharSB_b72d1 : MethodName := ⟨RJ2, "putCharSB", "([BII)V"⟩
abbrev cJ2_getChars_46870 : ByteArray := prog_39_method_77_code
def yJ2_getChars_46870 : MethodName := ⟨RJ2, "getChars", "(III[B)I"⟩
abbrev cJ2_getChars_1ba55 : ByteArray := prog_39_method_78_code
def yJ2_getChars_1ba55 : MethodName := ⟨RJ2, "getChars", "(JII[B)I"⟩
abbrev cJ2_putCharsAt_cd4e5 : ByteArray := prog_39_method_81_code
def yJ2_putCharsAt_cd4e5 : MethodName := ⟨RJ2, "putCharsAt", "([BICCCC)I"⟩
abbrev cJ2_inflate_0e8fd : ByteArray := prog_39_method_86_code
def yJ2_inflate_0e8fd : MethodName := ⟨RJ2, "inflate", "([BI[BII)V"⟩
abbrev cJ2_getChars_ba4f3 : ByteArray := prog_39_method_89_code
def yJ2_getChars_ba4f3 : MethodName := ⟨RJ2, "getChars", "(II[B)I"⟩
abbrev cJ2_getChars_11360 : ByteArray := prog_39_method_90_code
def yJ2_getChars_11360 : MethodName := ⟨RJ2, "getChars", "(JI[B)I"⟩
abbrev cJ2_checkIndex_2214a : ByteArray := prog_39_method_91_code
def yJ2_checkIndex_2214a : MethodName := ⟨RJ2, "checkIndex", "(I[B)V"⟩
abbrev cJ2_checkBoundsBeginEnd_d044e : ByteArray := prog_39_method_93_code
def yJ2_checkBoundsBeginEnd_d044e : MethodName := ⟨RJ2, "checkBoundsBeginEnd", "(II[B)V"⟩
abbrev cJ2_checkBoundsOffCount_d044e : ByteArray := prog_39_method_94_code
def yJ2_checkBoundsOffCount_d044e : MethodName := ⟨RJ2, "checkBoundsOffCount", "(II[B)V"⟩
def RJ10 : String := "java/lang/System"
def TJ10 : u_T := fun k => match k with
  | _ => ("", "", "", false)
def tyJ10 : Nat → FieldType := fun k => match k with
  | _ => .int
theorem nmJ10 : ∀ a, a < 0 → ∀ b, b < 0 → a ≠ b → (TJ10 a).2.1 ≠ (TJ10 b).2.1 := by decide +kernel
theorem tyJ10_ok : ∀ k, k < 0 → parseFieldDescriptor (TJ10 k).2.2.1 = some (tyJ10 k) := by decide +kernel
def RJxfd54e : String := "java/lang/constant/Constable"
def TJxfd54e : u_T := fun k => match k with
  | _ => ("", "", "", false)
def tyJxfd54e : Nat → FieldType := fun k => match k with
  | _ => .int
theorem nmJxfd54e : ∀ a, a < 0 → ∀ b, b < 0 → a ≠ b → (TJxfd54e a).2.1 ≠ (TJxfd54e b).2.1 := by decide +kernel
theorem tyJxfd54e_ok : ∀ k, k < 0 → parseFieldDescriptor (TJxfd54e k).2.2.1 = some (tyJxfd54e k) := by decide +kernel
def RJx3cf43 : String := "java/lang/constant/ConstantDesc"
def TJx3cf43 : u_T := fun k => match k with
  | _ => ("", "", "", false)
def tyJx3cf43 : Nat → FieldType := fun k => match k with
  | _ => .int
theorem nmJx3cf43 : ∀ a, a < 0 → ∀ b, b < 0 → a ≠ b → (TJx3cf43 a).2.1 ≠ (TJx3cf43 b).2.1 := by decide +kernel
theorem tyJx3cf43_ok : ∀ k, k < 0 → parseFieldDescriptor (TJx3cf43 k).2.2.1 = some (tyJx3cf43 k) := by decide +kernel
def RJxa1e45 : String := "java/util/AbstractCollection"
def TJxa1e45 : u_T := fun k => match k with
  | _ => ("", "", "", false)
def tyJxa1e45 : Nat → FieldType := fun k => match k with
  | _ => .int
theorem nmJxa1e45 : ∀ a, a < 0 → ∀ b, b < 0 → a ≠ b → (TJxa1e45 a).2.1 ≠ (TJxa1e45 b).2.1 := by decide +kernel
theorem tyJxa1e45_ok : ∀ k, k < 0 → parseFieldDescriptor (TJxa1e45 k).2.2.1 = some (tyJxa1e45 k) := by decide +kernel
abbrev cJxa1e45_init_da8c8 : ByteArray := prog_44_method_1_code
def yJxa1e45_init_da8c8 : MethodName := ⟨RJxa1e45, "<init>", "()V"⟩
def RJxc12de : String := "java/util/AbstractList"
def TJxc12de : u_T := fun k => match k with
  | _ => ("", "", "", false)
def tyJxc12de : Nat → FieldType := fun k => match k with
  | _ => .int
theorem nmJxc12de : ∀ a, a < 0 → ∀ b, b < 0 → a ≠ b → (TJxc12de a).2.1 ≠ (TJxc12de b).2.1 := by decide +kernel
theorem tyJxc12de_ok : ∀ k, k < 0 → parseFieldDescriptor (TJxc12de k).2.2.1 = some (tyJxc12de k) := by decide +kernel
abbrev cJxc12de_init_da8c8 : ByteArray := prog_45_method_1_code
def yJxc12de_init_da8c8 : MethodName := ⟨RJxc12de, "<init>", "()V"⟩
def RJx35411 : String := "java/util/ArrayList$Itr"
def TJx35411 : u_T := fun k => match k with
  | 0 => ("java/util/ArrayList$Itr", "cursor", "I", false)
  | 1 => ("java/util/ArrayList$Itr", "lastRet", "I", false)
  | 2 => ("java/util/ArrayList$Itr", "expectedModCount", "I", false)
  | _ => ("java/util/ArrayList$Itr", "this$0", "Ljava/util/ArrayList;", true)
def tyJx35411 : Nat → FieldType := fun k => match k with
  | 0 => .int
  | 1 => .int
  | 2 => .int
  | _ => .object "java/util/ArrayList"
theorem nmJx35411 : ∀ a, a < 4 → ∀ b, b < 4 → a ≠ b → (TJx35411 a).2.1 ≠ (TJx35411 b).2.1 := by decide +kernel
theorem tyJx35411_ok : ∀ k, k < 4 → parseFieldDescriptor (TJx35411 k).2.2.1 = some (tyJx35411 k) := by decide +kernel
abbrev cJx35411_init_45d68 : ByteArray := prog_47_method_1_code
def yJx35411_init_45d68 : MethodName := ⟨RJx35411, "<init>", "(Ljava/util/ArrayList;)V"⟩
abbrev cJx35411_hasNext_aae02 : ByteArray := prog_47_method_2_code
def yJx35411_hasNext_aae02 : MethodName := ⟨RJx35411, "hasNext", "()Z"⟩
abbrev cJx35411_next_0502b : ByteArray := prog_47_method_3_code
def yJx35411_next_0502b : MethodName := ⟨RJx35411, "next", "()Ljava/lang/Object;"⟩
abbrev cJx35411_checkForComodification_da8c8 : ByteArray := prog_47_method_6_code
def yJx35411_checkForComodification_da8c8 : MethodName := ⟨RJx35411, "checkForComodification", "()V"⟩
def RJx4a65c : String := "java/util/ArrayList"
def TJx4a65c : u_T := fun k => match k with
  | 0 => ("java/util/AbstractList", "modCount", "I", false)
  | 1 => ("java/util/ArrayList", "elementData", "[Ljava/lang/Object;", false)
  | _ => ("java/util/ArrayList", "size", "I", false)
def tyJx4a65c : Nat → FieldType := fun k => match k with
  | 0 => .int
  | 1 => .array (.object "java/lang/Object")
  | _ => .int
theorem nmJx4a65c : ∀ a, a < 3 → ∀ b, b < 3 → a ≠ b → (TJx4a65c a).2.1 ≠ (TJx4a65c b).2.1 := by decide +kernel
theorem tyJx4a65c_ok : ∀ k, k < 3 → parseFieldDescriptor (TJx4a65c k).2.2.1 = some (tyJx4a65c k) := by decide +kernel
abbrev cJx4a65c_init_da8c8 : ByteArray := prog_46_method_2_code
def yJx4a65c_init_da8c8 : MethodName := ⟨RJx4a65c, "<init>", "()V"⟩
abbrev cJx4a65c_grow_92f84 : ByteArray := prog_46_method_6_code
def yJx4a65c_grow_92f84 : MethodName := ⟨RJx4a65c, "grow", "(I)[Ljava/lang/Object;"⟩
abbrev cJx4a65c_grow_d5877 : ByteArray := prog_46_method_7_code
def yJx4a65c_grow_d5877 : MethodName := ⟨RJx4a65c, "grow", "()[Ljava/lang/Object;"⟩
abbrev cJx4a65c_size_8abf5 : ByteArray := prog_46_method_8_code
def yJx4a65c_size_8abf5 : MethodName := ⟨RJx4a65c, "size", "()I"⟩
abbrev cJx4a65c_isEmpty_aae02 : ByteArray := prog_46_method_9_code
def yJx4a65c_isEmpty_aae02 : MethodName := ⟨RJx4a65c, "isEmpty", "()Z"⟩
abbrev cJx4a65c_elementData_915e3 : ByteArray := prog_46_method_18_code
def yJx4a65c_elementData_915e3 : MethodName := ⟨RJx4a65c, "elementData", "(I)Ljava/lang/Object;"⟩
abbrev cJx4a65c_get_915e3 : ByteArray := prog_46_method_20_code
def yJx4a65c_get_915e3 : MethodName := ⟨RJx4a65c, "get", "(I)Ljava/lang/Object;"⟩
abbrev cJx4a65c_add_72be8 : ByteArray := prog_46_method_24_code
def yJx4a65c_add_72be8 : MethodName := ⟨RJx4a65c, "add", "(Ljava/lang/Object;[Ljava/lang/Object;I)V"⟩
abbrev cJx4a65c_add_9ea2d : ByteArray := prog_46_method_25_code
def yJx4a65c_add_9ea2d : MethodName := ⟨RJx4a65c, "add", "(Ljava/lang/Object;)Z"⟩
abbrev cJx4a65c_remove_915e3 : ByteArray := prog_46_method_29_code
def yJx4a65c_remove_915e3 : MethodName := ⟨RJx4a65c, "remove", "(I)Ljava/lang/Object;"⟩
abbrev cJx4a65c_fastRemove_b59b0 : ByteArray := prog_46_method_39_code
def yJx4a65c_fastRemove_b59b0 : MethodName := ⟨RJx4a65c, "fastRemove", "([Ljava/lang/Object;I)V"⟩
abbrev cJx4a65c_iterator_32c93 : ByteArray := prog_46_method_55_code
def yJx4a65c_iterator_32c93 : MethodName := ⟨RJx4a65c, "iterator", "()Ljava/util/Iterator;"⟩
def RJ7 : String := "java/util/Arrays"
def TJ7 : u_T := fun k => match k with
  | _ => ("", "", "", false)
def tyJ7 : Nat → FieldType := fun k => match k with
  | _ => .int
theorem nmJ7 : ∀ a, a < 0 → ∀ b, b < 0 → a ≠ b → (TJ7 a).2.1 ≠ (TJ7 b).2.1 := by decide +kernel
theorem tyJ7_ok : ∀ k, k < 0 → parseFieldDescriptor (TJ7 k).2.2.1 = some (tyJ7 k) := by decide +kernel
abbrev cJ7_rangeCheck_23922 : ByteArray := prog_48_method_30_code
def yJ7_rangeCheck_23922 : MethodName := ⟨RJ7, "rangeCheck", "(III)V"⟩
abbrev cJ7_fill_eb02e : ByteArray := prog_48_method_110_code
def yJ7_fill_eb02e : MethodName := ⟨RJ7, "fill", "([BIIB)V"⟩
abbrev cJ7_copyOf_1904c : ByteArray := prog_48_method_119_code
def yJ7_copyOf_1904c : MethodName := ⟨RJ7, "copyOf", "([Ljava/lang/Object;I)[Ljava/lang/Object;"⟩
abbrev cJ7_copyOf_6403c : ByteArray := prog_48_method_120_code
def yJ7_copyOf_6403c : MethodName := ⟨RJ7, "copyOf", "([Ljava/lang/Object;ILjava/lang/Class;)[Ljava/lang/Object;"⟩
abbrev cJ7_copyOf_9075b : ByteArray := prog_48_method_121_code
def yJ7_copyOf_9075b : MethodName := ⟨RJ7, "copyOf", "([BI)[B"⟩
abbrev cJ7_checkLength_df160 : ByteArray := prog_48_method_131_code
def yJ7_checkLength_df160 : MethodName := ⟨RJ7, "checkLength", "(II)V"⟩
abbrev cJ7_copyOfRange_39247 : ByteArray := prog_48_method_132_code
def yJ7_copyOfRange_39247 : MethodName := ⟨RJ7, "copyOfRange", "([BII)[B"⟩
abbrev cJ7_copyOfRangeByte_39247 : ByteArray := prog_48_method_133_code
def yJ7_copyOfRangeByte_39247 : MethodName := ⟨RJ7, "copyOfRangeByte", "([BII)[B"⟩
def RJx5ef63 : String := "java/util/Collection"
def TJx5ef63 : u_T := fun k => match k with
  | _ => ("", "", "", false)
def tyJx5ef63 : Nat → FieldType := fun k => match k with
  | _ => .int
theorem nmJx5ef63 : ∀ a, a < 0 → ∀ b, b < 0 → a ≠ b → (TJx5ef63 a).2.1 ≠ (TJx5ef63 b).2.1 := by decide +kernel
theorem tyJx5ef63_ok : ∀ k, k < 0 → parseFieldDescriptor (TJx5ef63 k).2.2.1 = some (tyJx5ef63 k) := by decide +kernel
def RJx4d0d8 : String := "java/util/Iterator"
def TJx4d0d8 : u_T := fun k => match k with
  | _ => ("", "", "", false)
def tyJx4d0d8 : Nat → FieldType := fun k => match k with
  | _ => .int
theorem nmJx4d0d8 : ∀ a, a < 0 → ∀ b, b < 0 → a ≠ b → (TJx4d0d8 a).2.1 ≠ (TJx4d0d8 b).2.1 := by decide +kernel
theorem tyJx4d0d8_ok : ∀ k, k < 0 → parseFieldDescriptor (TJx4d0d8 k).2.2.1 = some (tyJx4d0d8 k) := by decide +kernel
def RJxbd725 : String := "java/util/List"
def TJxbd725 : u_T := fun k => match k with
  | _ => ("", "", "", false)
def tyJxbd725 : Nat → FieldType := fun k => match k with
  | _ => .int
theorem nmJxbd725 : ∀ a, a < 0 → ∀ b, b < 0 → a ≠ b → (TJxbd725 a).2.1 ≠ (TJxbd725 b).2.1 := by decide +kernel
theorem tyJxbd725_ok : ∀ k, k < 0 → parseFieldDescriptor (TJxbd725 k).2.2.1 = some (tyJxbd725 k) := by decide +kernel
def RJ15 : String := "java/util/Objects"
def TJ15 : u_T := fun k => match k with
  | _ => ("", "", "", false)
def tyJ15 : Nat → FieldType := fun k => match k with
  | _ => .int
theorem nmJ15 : ∀ a, a < 0 → ∀ b, b < 0 → a ≠ b → (TJ15 a).2.1 ≠ (TJ15 b).2.1 := by decide +kernel
theorem tyJ15_ok : ∀ k, k < 0 → parseFieldDescriptor (TJ15 k).2.2.1 = some (tyJ15 k) := by decide +kernel
abbrev cJ15_checkIndex_7cf53 : ByteArray := prog_52_method_17_code
def yJ15_checkIndex_7cf53 : MethodName := ⟨RJ15, "checkIndex", "(II)I"⟩
def RJxf0a74 : String := "java/util/RandomAccess"
def TJxf0a74 : u_T := fun k => match k with
  | _ => ("", "", "", false)
def tyJxf0a74 : Nat → FieldType := fun k => match k with
  | _ => .int
theorem nmJxf0a74 : ∀ a, a < 0 → ∀ b, b < 0 → a ≠ b → (TJxf0a74 a).2.1 ≠ (TJxf0a74 b).2.1 := by decide +kernel
theorem tyJxf0a74_ok : ∀ k, k < 0 → parseFieldDescriptor (TJxf0a74 k).2.2.1 = some (tyJxf0a74 k) := by decide +kernel
def RJxa66e6 : String := "java/util/SequencedCollection"
def TJxa66e6 : u_T := fun k => match k with
  | _ => ("", "", "", false)
def tyJxa66e6 : Nat → FieldType := fun k => match k with
  | _ => .int
theorem nmJxa66e6 : ∀ a, a < 0 → ∀ b, b < 0 → a ≠ b → (TJxa66e6 a).2.1 ≠ (TJxa66e6 b).2.1 := by decide +kernel
theorem tyJxa66e6_ok : ∀ k, k < 0 → parseFieldDescriptor (TJxa66e6 k).2.2.1 = some (tyJxa66e6 k) := by decide +kernel
def RJ8 : String := "jdk/internal/util/ArraysSupport"
def TJ8 : u_T := fun k => match k with
  | _ => ("", "", "", false)
def tyJ8 : Nat → FieldType := fun k => match k with
  | _ => .int
theorem nmJ8 : ∀ a, a < 0 → ∀ b, b < 0 → a ≠ b → (TJ8 a).2.1 ≠ (TJ8 b).2.1 := by decide +kernel
theorem tyJ8_ok : ∀ k, k < 0 → parseFieldDescriptor (TJ8 k).2.2.1 = some (tyJ8 k) := by decide +kernel
abbrev cJ8_newLength_cabcc : ByteArray := prog_55_method_27_code
def yJ8_newLength_cabcc : MethodName := ⟨RJ8, "newLength", "(III)I"⟩
abbrev cJ8_hugeLength_7cf53 : ByteArray := prog_55_method_28_code
def yJ8_hugeLength_7cf53 : MethodName := ⟨RJ8, "hugeLength", "(II)I"⟩
def RJ3 : String := "jdk/internal/util/Preconditions"
def TJ3 : u_T := fun k => match k with
  | _ => ("", "", "", false)
def tyJ3 : Nat → FieldType := fun k => match k with
  | _ => .int
theorem nmJ3 : ∀ a, a < 0 → ∀ b, b < 0 → a ≠ b → (TJ3 a).2.1 ≠ (TJ3 b).2.1 := by decide +kernel
theorem tyJ3_ok : ∀ k, k < 0 → parseFieldDescriptor (TJ3 k).2.2.1 = some (tyJ3 k) := by decide +kernel
abbrev cJ3_checkIndex_8e157 : ByteArray := prog_56_method_11_code
def yJ3_checkIndex_8e157 : MethodName := ⟨RJ3, "checkIndex", "(IILjava/util/function/BiFunction;)I"⟩
abbrev cJ3_checkFromToIndex_8c36e : ByteArray := prog_56_method_12_code
def yJ3_checkFromToIndex_8c36e : MethodName := ⟨RJ3, "checkFromToIndex", "(IIILjava/util/function/BiFunction;)I"⟩
abbrev cJ3_checkFromIndexSize_8c36e : ByteArray := prog_56_method_13_code
def yJ3_checkFromIndexSize_8c36e : MethodName := ⟨RJ3, "checkFromIndexSize", "(IIILjava/util/function/BiFunction;)I"⟩
def RL : String := "ClockhouseLaw"
abbrev cL_dial : ByteArray := method_2_code
def yL_dial : MethodName := ⟨RL, "dial", "(LClockhouse;ILClockhouseLaw$Out;)I"⟩
abbrev cL_set : ByteArray := method_3_code
def yL_set : MethodName := ⟨RL, "set", "(LClockhouse;IILClockhouseLaw$Out;)I"⟩
abbrev cL_lengthen : ByteArray := method_4_code
def yL_lengthen : MethodName := ⟨RL, "lengthen", "(LClockhouse;IILClockhouseLaw$Out;)I"⟩
abbrev cL_plus : ByteArray := method_5_code
def yL_plus : MethodName := ⟨RL, "plus", "(LClockhouse;IILClockhouseLaw$Out;)I"⟩
abbrev cL_times : ByteArray := method_6_code
def yL_times : MethodName := ⟨RL, "times", "(LClockhouse;IILClockhouseLaw$Out;)I"⟩
abbrev cL_negate : ByteArray := method_7_code
def yL_negate : MethodName := ⟨RL, "negate", "(LClockhouse;ILClockhouseLaw$Out;)I"⟩
abbrev cL_reduce : ByteArray := method_8_code
def yL_reduce : MethodName := ⟨RL, "reduce", "(LClockhouse;ILClockhouseLaw$Out;)I"⟩
abbrev cL_roundPlus : ByteArray := method_9_code
def yL_roundPlus : MethodName := ⟨RL, "roundPlus", "(LClockhouse;IILClockhouseLaw$Out;)I"⟩
abbrev cL_roundTimes : ByteArray := method_10_code
def yL_roundTimes : MethodName := ⟨RL, "roundTimes", "(LClockhouse;IILClockhouseLaw$Out;)I"⟩
abbrev cL_roundPower : ByteArray := method_11_code
def yL_roundPower : MethodName := ⟨RL, "roundPower", "(LClockhouse;IILClockhouseLaw$Out;)I"⟩
abbrev cL_roundInverse : ByteArray := method_12_code
def yL_roundInverse : MethodName := ⟨RL, "roundInverse", "(LClockhouse;ILClockhouseLaw$Out;)I"⟩
abbrev cL_tell : ByteArray := method_13_code
def yL_tell : MethodName := ⟨RL, "tell", "(LClockhouse;IILClockhouseLaw$Out;)I"⟩
abbrev cL_tellIf : ByteArray := method_14_code
def yL_tellIf : MethodName := ⟨RL, "tellIf", "(LClockhouse;IILClockhouseLaw$Out;)I"⟩
abbrev cL_drop : ByteArray := method_15_code
def yL_drop : MethodName := ⟨RL, "drop", "(LClockhouse;ILClockhouseLaw$Out;)I"⟩
abbrev cL_base : ByteArray := method_16_code
def yL_base : MethodName := ⟨RL, "base", "(LClockhouse;ILClockhouseLaw$Out;)I"⟩
abbrev cL_unbase : ByteArray := method_17_code
def yL_unbase : MethodName := ⟨RL, "unbase", "(LClockhouse;LClockhouseLaw$Out;)I"⟩
abbrev cL_undo : ByteArray := method_18_code
def yL_undo : MethodName := ⟨RL, "undo", "(LClockhouse;LClockhouseLaw$Out;)I"⟩
abbrev cL_number : ByteArray := method_19_code
def yL_number : MethodName := ⟨RL, "number", "(LClockhouse;ILClockhouseLaw$Out;)I"⟩
abbrev cL_digits : ByteArray := method_20_code
def yL_digits : MethodName := ⟨RL, "digits", "(LClockhouse;ILClockhouseLaw$Out;)I"⟩
abbrev cL_bigGcd : ByteArray := method_21_code
def yL_bigGcd : MethodName := ⟨RL, "bigGcd", "(LClockhouse;IILClockhouseLaw$Out;)I"⟩
abbrev cL_bigMod : ByteArray := method_22_code
def yL_bigMod : MethodName := ⟨RL, "bigMod", "(LClockhouse;IILClockhouseLaw$Out;)I"⟩
abbrev cL_bigInverse : ByteArray := method_23_code
def yL_bigInverse : MethodName := ⟨RL, "bigInverse", "(LClockhouse;IILClockhouseLaw$Out;)I"⟩
abbrev cL_bigPower : ByteArray := method_24_code
def yL_bigPower : MethodName := ⟨RL, "bigPower", "(LClockhouse;IIILClockhouseLaw$Out;)I"⟩
abbrev cL_mod : ByteArray := method_25_code
def yL_mod : MethodName := ⟨RL, "mod", "(LClockhouse;ILClockhouseLaw$Out;)I"⟩
abbrev cL_gcd : ByteArray := method_26_code
def yL_gcd : MethodName := ⟨RL, "gcd", "(LClockhouse;ILClockhouseLaw$Out;)I"⟩
abbrev cL_power : ByteArray := method_27_code
def yL_power : MethodName := ⟨RL, "power", "(LClockhouse;IILClockhouseLaw$Out;)I"⟩
abbrev cL_inverse : ByteArray := method_28_code
def yL_inverse : MethodName := ⟨RL, "inverse", "(LClockhouse;ILClockhouseLaw$Out;)I"⟩
abbrev cL_solutions : ByteArray := method_29_code
def yL_solutions : MethodName := ⟨RL, "solutions", "(LClockhouse;IILClockhouseLaw$Out;)I"⟩
abbrev cL_solution : ByteArray := method_30_code
def yL_solution : MethodName := ⟨RL, "solution", "(LClockhouse;IIILClockhouseLaw$Out;)I"⟩
abbrev cL_order : ByteArray := method_31_code
def yL_order : MethodName := ⟨RL, "order", "(LClockhouse;ILClockhouseLaw$Out;)I"⟩
abbrev cL_generator : ByteArray := method_32_code
def yL_generator : MethodName := ⟨RL, "generator", "(LClockhouse;ILClockhouseLaw$Out;)I"⟩
abbrev cL_isGenerator : ByteArray := method_33_code
def yL_isGenerator : MethodName := ⟨RL, "isGenerator", "(LClockhouse;ILClockhouseLaw$Out;)I"⟩
abbrev cL_powers : ByteArray := method_34_code
def yL_powers : MethodName := ⟨RL, "powers", "(LClockhouse;ILClockhouseLaw$Out;)I"⟩
abbrev cL_ofPowers : ByteArray := method_35_code
def yL_ofPowers : MethodName := ⟨RL, "ofPowers", "(LClockhouse;IILClockhouseLaw$Out;)I"⟩
abbrev cL_roots : ByteArray := method_36_code
def yL_roots : MethodName := ⟨RL, "roots", "(LClockhouse;ILClockhouseLaw$Out;)I"⟩
abbrev cL_root : ByteArray := method_37_code
def yL_root : MethodName := ⟨RL, "root", "(LClockhouse;IILClockhouseLaw$Out;)I"⟩
abbrev cL_legendre : ByteArray := method_38_code
def yL_legendre : MethodName := ⟨RL, "legendre", "(LClockhouse;ILClockhouseLaw$Out;)I"⟩
abbrev cL_jacobi : ByteArray := method_39_code
def yL_jacobi : MethodName := ⟨RL, "jacobi", "(LClockhouse;ILClockhouseLaw$Out;)I"⟩
abbrev cL_ofRow : ByteArray := method_40_code
def yL_ofRow : MethodName := ⟨RL, "ofRow", "(LClockhouse;IILClockhouseLaw$Out;)I"⟩
abbrev cL_agree : ByteArray := method_41_code
def yL_agree : MethodName := ⟨RL, "agree", "(LClockhouse;IILClockhouseLaw$Out;)I"⟩
abbrev cL_wouldJoin : ByteArray := method_42_code
def yL_wouldJoin : MethodName := ⟨RL, "wouldJoin", "(LClockhouse;IILClockhouseLaw$Out;)I"⟩
abbrev cL_clash : ByteArray := method_43_code
def yL_clash : MethodName := ⟨RL, "clash", "(LClockhouse;ILClockhouseLaw$Out;)I"⟩
abbrev cL_broken : ByteArray := method_44_code
def yL_broken : MethodName := ⟨RL, "broken", "(LClockhouse;ILClockhouseLaw$Out;)I"⟩
abbrev cL_residues : ByteArray := method_45_code
def yL_residues : MethodName := ⟨RL, "residues", "(LClockhouse;ILClockhouseLaw$Out;)I"⟩
abbrev cL_back : ByteArray := method_46_code
def yL_back : MethodName := ⟨RL, "back", "(LClockhouse;ILClockhouseLaw$Out;)I"⟩
abbrev cL_sumBack : ByteArray := method_47_code
def yL_sumBack : MethodName := ⟨RL, "sumBack", "(LClockhouse;IILClockhouseLaw$Out;)I"⟩
abbrev cL_productBack : ByteArray := method_48_code
def yL_productBack : MethodName := ⟨RL, "productBack", "(LClockhouse;IILClockhouseLaw$Out;)I"⟩
abbrev cL_books : ByteArray := method_49_code
def yL_books : MethodName := ⟨RL, "books", "(LClockhouse;ILClockhouseLaw$Out;)I"⟩
abbrev cL_law : ByteArray := code
def yL_law : MethodName := ⟨RL, "law", "([I)Z"⟩
