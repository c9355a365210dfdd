/-! WORDS OF THE TABLES -/
theorem w76 : (Cond.initialized "Clockhouse$Big") ∈ lw_gw := am_w 76 (by decide +kernel) rfl
theorem w122 : (Cond.instanceMethod ({ cls := "java/lang/Object", name := "<init>", desc := "()V" } : MethodName)) ∈ lw_gw := am_w 122 (by decide +kernel) rfl
theorem w123 : (Cond.code ({ cls := "java/lang/Object", name := "<init>", desc := "()V" } : MethodName) object_method_1_code (1 : Nat) (Option.none : Option FieldType)) ∈ lw_gw := am_w 123 (by decide +kernel) rfl
theorem w137 : (Cond.fieldLink "Clockhouse$Big" (9 : Nat) "Clockhouse$Big" "limbs" "[I") ∈ lw_gw := am_w 137 (by decide +kernel) rfl
theorem w140 : (Cond.fieldLink "Clockhouse$Big" (15 : Nat) "Clockhouse$Big" "length" "I") ∈ lw_gw := am_w 140 (by decide +kernel) rfl
theorem w144 : (Cond.fieldLink "Clockhouse$Big" (19 : Nat) "Clockhouse$Big" "sign" "I") ∈ lw_gw := am_w 144 (by decide +kernel) rfl
theorem w146 : (Cond.laysFinal "Clockhouse$Big" "Clockhouse$Big" "limbs" "[I") ∈ lw_gw := am_w 146 (by decide +kernel) rfl
theorem w148 : (Cond.lays "Clockhouse$Big" "Clockhouse$Big" "length" "I") ∈ lw_gw := am_w 148 (by decide +kernel) rfl
theorem w150 : (Cond.lays "Clockhouse$Big" "Clockhouse$Big" "sign" "I") ∈ lw_gw := am_w 150 (by decide +kernel) rfl
theorem w153 : (Cond.arrayClass FieldType.int) ∈ lw_gw := am_w 153 (by decide +kernel) rfl
theorem w345 : (Cond.arrayClass FieldType.byte) ∈ lw_gw := am_w 345 (by decide +kernel) rfl
theorem w461 : (Cond.code ({ cls := "Clockhouse$Big", name := "clear", desc := "()V" } : MethodName) prog_2_method_6_code (2 : Nat) (Option.none : Option FieldType)) ∈ lw_gw := am_w 461 (by decide +kernel) rfl
theorem w462 : (Cond.constantLong "Clockhouse$Big" (31 : Nat) (1000000000 : Int64)) ∈ lw_gw := am_w 462 (by decide +kernel) rfl
theorem w466 : (Cond.code ({ cls := "Clockhouse$Big", name := "settle", desc := "(I)V" } : MethodName) prog_2_method_5_code (3 : Nat) (Option.none : Option FieldType)) ∈ lw_gw := am_w 466 (by decide +kernel) rfl
theorem w841 : (Cond.methodLink "Clockhouse$Big" (55 : Nat) ({ cls := "Clockhouse$Big", name := "limb", desc := "(I)I" } : MethodName)) ∈ lw_gw := am_w 841 (by decide +kernel) rfl
theorem w842 : (Cond.instanceMethod ({ cls := "Clockhouse$Big", name := "limb", desc := "(I)I" } : MethodName)) ∈ lw_gw := am_w 842 (by decide +kernel) rfl
theorem w843 : (Cond.selects "Clockhouse$Big" ({ cls := "Clockhouse$Big", name := "limb", desc := "(I)I" } : MethodName) ({ cls := "Clockhouse$Big", name := "limb", desc := "(I)I" } : MethodName)) ∈ lw_gw := am_w 843 (by decide +kernel) rfl
theorem w844 : (Cond.code ({ cls := "Clockhouse$Big", name := "limb", desc := "(I)I" } : MethodName) prog_2_method_2_code (2 : Nat) (Option.some FieldType.int)) ∈ lw_gw := am_w 844 (by decide +kernel) rfl
theorem w876 : (Cond.code ({ cls := "Clockhouse$Big", name := "isTooLong", desc := "()Z" } : MethodName) prog_2_method_4_code (1 : Nat) (Option.some FieldType.boolean)) ∈ lw_gw := am_w 876 (by decide +kernel) rfl
theorem w888 : (Cond.code ({ cls := "Clockhouse$Big", name := "restBy", desc := "(I)I" } : MethodName) prog_2_method_15_code (5 : Nat) (Option.some FieldType.int)) ∈ lw_gw := am_w 888 (by decide +kernel) rfl
theorem w957 : (Cond.code ({ cls := "Clockhouse$Big", name := "compareSize", desc := "(LClockhouse$Big;)I" } : MethodName) prog_2_method_9_code (3 : Nat) (Option.some FieldType.int)) ∈ lw_gw := am_w 957 (by decide +kernel) rfl
theorem w991 : (Cond.code ({ cls := "Clockhouse$Big", name := "put", desc := "(II)V" } : MethodName) prog_2_method_3_code (3 : Nat) (Option.none : Option FieldType)) ∈ lw_gw := am_w 991 (by decide +kernel) rfl
theorem w1053 : (Cond.code ({ cls := "Clockhouse$Big", name := "digitCount", desc := "()I" } : MethodName) prog_2_method_16_code (4 : Nat) (Option.some FieldType.int)) ∈ lw_gw := am_w 1053 (by decide +kernel) rfl
theorem w2048 : (Cond.arrayClass FieldType.long) ∈ lw_gw := am_w 2048 (by decide +kernel) rfl
theorem g_oi : Cond.instanceMethod objectInit ∈ lw_gw ∧ Cond.code objectInit ⟨#[0xb1]⟩ 1 none ∈ lw_gw := ⟨w122, w123⟩
theorem g_ar : Cond.arrayClass .int ∈ lw_gw ∧ Cond.arrayClass .byte ∈ lw_gw ∧ Cond.arrayClass .long ∈ lw_gw := ⟨w153, w345, w2048⟩
