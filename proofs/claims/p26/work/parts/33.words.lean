/-! WORDS OF THE TABLES -/
theorem w0 : (Cond.selects "Clockhouse" ({ cls := "Clockhouse", name := "isJammed", desc := "()Z" } : MethodName) ({ cls := "Clockhouse", name := "isJammed", desc := "()Z" } : MethodName)) ∈ lw_gw := am_w 0 (by decide +kernel) rfl
theorem w1 : (Cond.selects "Clockhouse" ({ cls := "Clockhouse", name := "joinRows", desc := "()V" } : MethodName) ({ cls := "Clockhouse", name := "joinRows", desc := "()V" } : MethodName)) ∈ lw_gw := am_w 1 (by decide +kernel) rfl
theorem w2 : (Cond.selects "Clockhouse" ({ cls := "Clockhouse", name := "textOfLong", desc := "(J)Ljava/lang/String;" } : MethodName) ({ cls := "Clockhouse", name := "textOfLong", desc := "(J)Ljava/lang/String;" } : MethodName)) ∈ lw_gw := am_w 2 (by decide +kernel) rfl
theorem w3 : (Cond.selects "Clockhouse" ({ cls := "Clockhouse", name := "textOf", desc := "(LClockhouse$Big;)Ljava/lang/String;" } : MethodName) ({ cls := "Clockhouse", name := "textOf", desc := "(LClockhouse$Big;)Ljava/lang/String;" } : MethodName)) ∈ lw_gw := am_w 3 (by decide +kernel) rfl
theorem w5 : (Cond.selects "Clockhouse" ({ cls := "Clockhouse", name := "numbersFit", desc := "()Z" } : MethodName) ({ cls := "Clockhouse", name := "numbersFit", desc := "()Z" } : MethodName)) ∈ lw_gw := am_w 5 (by decide +kernel) rfl
theorem w6 : (Cond.selects "Clockhouse" ({ cls := "Clockhouse", name := "slotsAreSound", desc := "()Z" } : MethodName) ({ cls := "Clockhouse", name := "slotsAreSound", desc := "()Z" } : MethodName)) ∈ lw_gw := am_w 6 (by decide +kernel) rfl
theorem w7 : (Cond.selects "Clockhouse" ({ cls := "Clockhouse", name := "rowsAreSound", desc := "()Z" } : MethodName) ({ cls := "Clockhouse", name := "rowsAreSound", desc := "()Z" } : MethodName)) ∈ lw_gw := am_w 7 (by decide +kernel) rfl
theorem w8 : (Cond.selects "Clockhouse" ({ cls := "Clockhouse", name := "clashPlace", desc := "(I)I" } : MethodName) ({ cls := "Clockhouse", name := "clashPlace", desc := "(I)I" } : MethodName)) ∈ lw_gw := am_w 8 (by decide +kernel) rfl
theorem w9 : (Cond.selects "Clockhouse" ({ cls := "Clockhouse", name := "backsAreSound", desc := "()Z" } : MethodName) ({ cls := "Clockhouse", name := "backsAreSound", desc := "()Z" } : MethodName)) ∈ lw_gw := am_w 9 (by decide +kernel) rfl
theorem w10 : (Cond.selects "Clockhouse$Big" ({ cls := "Clockhouse$Big", name := "joinSizes", desc := "(LClockhouse$Big;LClockhouse$Big;I)V" } : MethodName) ({ cls := "Clockhouse$Big", name := "joinSizes", desc := "(LClockhouse$Big;LClockhouse$Big;I)V" } : MethodName)) ∈ lw_gw := am_w 10 (by decide +kernel) rfl
theorem w11 : (Cond.selects "Clockhouse$Division" ({ cls := "Clockhouse$Division", name := "guessAt", desc := "(I)J" } : MethodName) ({ cls := "Clockhouse$Division", name := "guessAt", desc := "(I)J" } : MethodName)) ∈ lw_gw := am_w 11 (by decide +kernel) rfl
theorem w12 : (Cond.selects "Clockhouse$Division" ({ cls := "Clockhouse$Division", name := "takeAway", desc := "(IJ)I" } : MethodName) ({ cls := "Clockhouse$Division", name := "takeAway", desc := "(IJ)I" } : MethodName)) ∈ lw_gw := am_w 12 (by decide +kernel) rfl
theorem w13 : (Cond.selects "Clockhouse$Division" ({ cls := "Clockhouse$Division", name := "giveBack", desc := "(I)V" } : MethodName) ({ cls := "Clockhouse$Division", name := "giveBack", desc := "(I)V" } : MethodName)) ∈ lw_gw := am_w 13 (by decide +kernel) rfl
theorem w14 : (Cond.selects "Clockhouse" ({ cls := "Clockhouse", name := "backOfSum", desc := "(LClockhouse$Big;LClockhouse$Big;)J" } : MethodName) ({ cls := "Clockhouse", name := "backOfSum", desc := "(LClockhouse$Big;LClockhouse$Big;)J" } : MethodName)) ∈ lw_gw := am_w 14 (by decide +kernel) rfl
theorem w15 : (Cond.selects "Clockhouse" ({ cls := "Clockhouse", name := "backOfProduct", desc := "(LClockhouse$Big;LClockhouse$Big;)J" } : MethodName) ({ cls := "Clockhouse", name := "backOfProduct", desc := "(LClockhouse$Big;LClockhouse$Big;)J" } : MethodName)) ∈ lw_gw := am_w 15 (by decide +kernel) rfl
theorem w16 : (Cond.selects "Clockhouse" ({ cls := "Clockhouse", name := "mixNumber", desc := "(JI)J" } : MethodName) ({ cls := "Clockhouse", name := "mixNumber", desc := "(JI)J" } : MethodName)) ∈ lw_gw := am_w 16 (by decide +kernel) rfl
theorem w17 : (Cond.selects "Clockhouse" ({ cls := "Clockhouse", name := "numberAt", desc := "(I)LClockhouse$Big;" } : MethodName) ({ cls := "Clockhouse", name := "numberAt", desc := "(I)LClockhouse$Big;" } : MethodName)) ∈ lw_gw := am_w 17 (by decide +kernel) rfl
theorem w18 : (Cond.selects "Clockhouse" ({ cls := "Clockhouse", name := "mixRound", desc := "(JI)J" } : MethodName) ({ cls := "Clockhouse", name := "mixRound", desc := "(JI)J" } : MethodName)) ∈ lw_gw := am_w 18 (by decide +kernel) rfl
theorem w19 : (Cond.selects "Clockhouse$PowerRow" ({ cls := "Clockhouse$PowerRow", name := "sumOfRow", desc := "()I" } : MethodName) ({ cls := "Clockhouse$PowerRow", name := "sumOfRow", desc := "()I" } : MethodName)) ∈ lw_gw := am_w 19 (by decide +kernel) rfl
theorem w20 : (Cond.selects "Clockhouse" ({ cls := "Clockhouse", name := "mixTexts", desc := "(JI)J" } : MethodName) ({ cls := "Clockhouse", name := "mixTexts", desc := "(JI)J" } : MethodName)) ∈ lw_gw := am_w 20 (by decide +kernel) rfl
theorem w21 : (Cond.selects "Clockhouse" ({ cls := "Clockhouse", name := "writeResidues", desc := "(LClockhouse$Big;)V" } : MethodName) ({ cls := "Clockhouse", name := "writeResidues", desc := "(LClockhouse$Big;)V" } : MethodName)) ∈ lw_gw := am_w 21 (by decide +kernel) rfl
theorem w22 : (Cond.selects "Clockhouse" ({ cls := "Clockhouse", name := "backOf", desc := "(LClockhouse$Big;)J" } : MethodName) ({ cls := "Clockhouse", name := "backOf", desc := "(LClockhouse$Big;)J" } : MethodName)) ∈ lw_gw := am_w 22 (by decide +kernel) rfl
theorem w23 : (Cond.selects "Clockhouse" ({ cls := "Clockhouse", name := "lengthOfLong", desc := "(J)I" } : MethodName) ({ cls := "Clockhouse", name := "lengthOfLong", desc := "(J)I" } : MethodName)) ∈ lw_gw := am_w 23 (by decide +kernel) rfl
theorem w24 : (Cond.selects "Clockhouse" ({ cls := "Clockhouse", name := "mixRows", desc := "(J)J" } : MethodName) ({ cls := "Clockhouse", name := "mixRows", desc := "(J)J" } : MethodName)) ∈ lw_gw := am_w 24 (by decide +kernel) rfl
theorem w25 : (Cond.selects "Clockhouse" ({ cls := "Clockhouse", name := "putNumber", desc := "(LClockhouse$Big;LClockhouse$Big;)I" } : MethodName) ({ cls := "Clockhouse", name := "putNumber", desc := "(LClockhouse$Big;LClockhouse$Big;)I" } : MethodName)) ∈ lw_gw := am_w 25 (by decide +kernel) rfl
theorem w26 : (Cond.selects "Clockhouse" ({ cls := "Clockhouse", name := "putRound", desc := "(LClockhouse$Big;I)I" } : MethodName) ({ cls := "Clockhouse", name := "putRound", desc := "(LClockhouse$Big;I)I" } : MethodName)) ∈ lw_gw := am_w 26 (by decide +kernel) rfl
theorem w27 : (Cond.selects "Clockhouse" ({ cls := "Clockhouse", name := "needFreeRow", desc := "()V" } : MethodName) ({ cls := "Clockhouse", name := "needFreeRow", desc := "()V" } : MethodName)) ∈ lw_gw := am_w 27 (by decide +kernel) rfl
theorem w28 : (Cond.selects "Clockhouse" ({ cls := "Clockhouse", name := "addRow", desc := "(II)I" } : MethodName) ({ cls := "Clockhouse", name := "addRow", desc := "(II)I" } : MethodName)) ∈ lw_gw := am_w 28 (by decide +kernel) rfl
theorem w29 : (Cond.selects "Clockhouse" ({ cls := "Clockhouse", name := "needRow", desc := "(I)V" } : MethodName) ({ cls := "Clockhouse", name := "needRow", desc := "(I)V" } : MethodName)) ∈ lw_gw := am_w 29 (by decide +kernel) rfl
theorem w30 : (Cond.selects "Clockhouse$BigRound" ({ cls := "Clockhouse$BigRound", name := "multiply", desc := "(LClockhouse$Big;LClockhouse$Big;LClockhouse$Big;)V" } : MethodName) ({ cls := "Clockhouse$BigRound", name := "multiply", desc := "(LClockhouse$Big;LClockhouse$Big;LClockhouse$Big;)V" } : MethodName)) ∈ lw_gw := am_w 30 (by decide +kernel) rfl
theorem w73 : (Cond.selects "java/lang/StringBuilder" ({ cls := "java/lang/AbstractStringBuilder", name := "ensureCapacityInternal", desc := "(I)V" } : MethodName) ({ cls := "java/lang/AbstractStringBuilder", name := "ensureCapacityInternal", desc := "(I)V" } : MethodName)) ∈ lw_gw := am_w 73 (by decide +kernel) rfl
theorem w74 : (Cond.selects "java/lang/StringBuilder" ({ cls := "java/lang/AbstractStringBuilder", name := "newCapacity", desc := "(I)I" } : MethodName) ({ cls := "java/lang/AbstractStringBuilder", name := "newCapacity", desc := "(I)I" } : MethodName)) ∈ lw_gw := am_w 74 (by decide +kernel) rfl
theorem w77 : (Cond.not (Cond.castable "java/lang/IllegalArgumentException" "java/lang/IndexOutOfBoundsException")) ∈ lw_ng := am_ng 77 (by decide +kernel) rfl
theorem w78 : (Cond.not (Cond.castable "java/lang/IllegalStateException" "java/lang/IndexOutOfBoundsException")) ∈ lw_ng := am_ng 78 (by decide +kernel) rfl
theorem w79 : (Cond.not (Cond.castable "java/lang/IllegalStateException" "java/lang/IllegalArgumentException")) ∈ lw_ng := am_ng 79 (by decide +kernel) rfl
theorem w80 : (Cond.initialized "ClockhouseLaw") ∈ lw_gw := am_w 80 (by decide +kernel) rfl
theorem w81 : (Cond.initialized "Clockhouse") ∈ lw_gw := am_w 81 (by decide +kernel) rfl
theorem w82 : (Cond.initialized "Clockhouse$State") ∈ lw_gw := am_w 82 (by decide +kernel) rfl
theorem w83 : (Cond.initialized "Clockhouse$Big") ∈ lw_gw := am_w 83 (by decide +kernel) rfl
theorem w84 : (Cond.initialized "Clockhouse$Past") ∈ lw_gw := am_w 84 (by decide +kernel) rfl
theorem w85 : (Cond.initialized "Clockhouse$BigRound") ∈ lw_gw := am_w 85 (by decide +kernel) rfl
theorem w86 : (Cond.initialized "Clockhouse$Division") ∈ lw_gw := am_w 86 (by decide +kernel) rfl
theorem w87 : (Cond.initialized "Clockhouse$PowerRow") ∈ lw_gw := am_w 87 (by decide +kernel) rfl
theorem w88 : (Cond.initialized "Clockhouse$Generators") ∈ lw_gw := am_w 88 (by decide +kernel) rfl
theorem w89 : (Cond.initialized "Clockhouse$Joiner") ∈ lw_gw := am_w 89 (by decide +kernel) rfl
theorem w90 : (Cond.initialized "java/lang/AbstractStringBuilder") ∈ lw_gw := am_w 90 (by decide +kernel) rfl
theorem w91 : (Cond.initialized "java/lang/StringBuilder") ∈ lw_gw := am_w 91 (by decide +kernel) rfl
theorem w92 : (Cond.initialized "java/lang/String") ∈ lw_gw := am_w 92 (by decide +kernel) rfl
theorem w100 : (Cond.initialized "ClockhouseLaw$Out") ∈ lw_gw := am_w 100 (by decide +kernel) rfl
theorem w104 : (Cond.initialized "java/lang/IllegalArgumentException") ∈ lw_gw := am_w 104 (by decide +kernel) rfl
theorem w105 : (Cond.initialized "java/lang/System") ∈ lw_gw := am_w 105 (by decide +kernel) rfl
theorem w107 : (Cond.initialized "jdk/internal/util/ArraysSupport") ∈ lw_gw := am_w 107 (by decide +kernel) rfl
theorem w108 : (Cond.initialized "java/lang/Math") ∈ lw_gw := am_w 108 (by decide +kernel) rfl
theorem w109 : (Cond.initialized "java/util/Arrays") ∈ lw_gw := am_w 109 (by decide +kernel) rfl
theorem w111 : (Cond.initialized "java/lang/Integer") ∈ lw_gw := am_w 111 (by decide +kernel) rfl
theorem w115 : (Cond.initialized "java/lang/IndexOutOfBoundsException") ∈ lw_gw := am_w 115 (by decide +kernel) rfl
theorem w116 : (Cond.initialized "java/lang/IllegalStateException") ∈ lw_gw := am_w 116 (by decide +kernel) rfl
theorem w117 : (Cond.initialized "Clockhouse$Round") ∈ lw_gw := am_w 117 (by decide +kernel) rfl
theorem w119 : (Cond.initialized "java/lang/StringLatin1") ∈ lw_gw := am_w 119 (by decide +kernel) rfl
theorem w122 : (Cond.initialized "Clockhouse$Sound") ∈ lw_gw := am_w 122 (by decide +kernel) rfl
theorem w127 : (Cond.code ({ cls := "Clockhouse", name := "<init>", desc := "()V" } : MethodName) prog_1_method_1_code (1 : Nat) (Option.none : Option FieldType)) ∈ lw_gw := am_w 127 (by decide +kernel) rfl
theorem w128 : (Cond.methodLink "Clockhouse" (1 : Nat) ({ cls := "java/lang/Object", name := "<init>", desc := "()V" } : MethodName)) ∈ lw_gw := am_w 128 (by decide +kernel) rfl
theorem w129 : (Cond.instanceMethod ({ cls := "java/lang/Object", name := "<init>", desc := "()V" } : MethodName)) ∈ lw_gw := am_w 129 (by decide +kernel) rfl
theorem w130 : (Cond.code ({ cls := "java/lang/Object", name := "<init>", desc := "()V" } : MethodName) object_method_1_code (1 : Nat) (Option.none : Option FieldType)) ∈ lw_gw := am_w 130 (by decide +kernel) rfl
theorem w131 : (Cond.classLink "Clockhouse" (7 : Nat) "Clockhouse$State") ∈ lw_gw := am_w 131 (by decide +kernel) rfl
theorem w132 : (Cond.instantiable "Clockhouse$State" (7 : Nat)) ∈ lw_gw := am_w 132 (by decide +kernel) rfl
theorem w133 : (Cond.methodLink "Clockhouse" (9 : Nat) ({ cls := "Clockhouse$State", name := "<init>", desc := "()V" } : MethodName)) ∈ lw_gw := am_w 133 (by decide +kernel) rfl
theorem w134 : (Cond.instanceMethod ({ cls := "Clockhouse$State", name := "<init>", desc := "()V" } : MethodName)) ∈ lw_gw := am_w 134 (by decide +kernel) rfl
theorem w135 : (Cond.code ({ cls := "Clockhouse$State", name := "<init>", desc := "()V" } : MethodName) prog_11_method_1_code (2 : Nat) (Option.none : Option FieldType)) ∈ lw_gw := am_w 135 (by decide +kernel) rfl
theorem w136 : (Cond.methodLink "Clockhouse$State" (3 : Nat) ({ cls := "java/lang/Object", name := "<init>", desc := "()V" } : MethodName)) ∈ lw_gw := am_w 136 (by decide +kernel) rfl
theorem w137 : (Cond.classLink "Clockhouse$State" (9 : Nat) "Clockhouse$Big") ∈ lw_gw := am_w 137 (by decide +kernel) rfl
theorem w138 : (Cond.arrayOver (FieldType.object "Clockhouse$Big")) ∈ lw_ng := am_ng 138 (by decide +kernel) rfl
theorem w139 : (Cond.instantiable "Clockhouse$Big" (3 : Nat)) ∈ lw_gw := am_w 139 (by decide +kernel) rfl
theorem w140 : (Cond.methodLinkNest "Clockhouse$State" (27 : Nat) ({ cls := "Clockhouse$Big", name := "<init>", desc := "()V" } : MethodName) "Clockhouse") ∈ lw_ng := am_ng 140 (by decide +kernel) rfl
theorem w141 : (Cond.instanceMethod ({ cls := "Clockhouse$Big", name := "<init>", desc := "()V" } : MethodName)) ∈ lw_gw := am_w 141 (by decide +kernel) rfl
theorem w142 : (Cond.code ({ cls := "Clockhouse$Big", name := "<init>", desc := "()V" } : MethodName) prog_2_method_1_code (1 : Nat) (Option.none : Option FieldType)) ∈ lw_gw := am_w 142 (by decide +kernel) rfl
theorem w143 : (Cond.methodLink "Clockhouse$Big" (3 : Nat) ({ cls := "java/lang/Object", name := "<init>", desc := "()V" } : MethodName)) ∈ lw_gw := am_w 143 (by decide +kernel) rfl
theorem w144 : (Cond.fieldLink "Clockhouse$Big" (9 : Nat) "Clockhouse$Big" "limbs" "[I") ∈ lw_gw := am_w 144 (by decide +kernel) rfl
theorem w145 : (Cond.fieldLinkNest "Clockhouse$Division" (31 : Nat) "Clockhouse$Big" "length" "I" "Clockhouse") ∈ lw_ng := am_ng 145 (by decide +kernel) rfl
theorem w146 : (Cond.fieldLinkNest "Clockhouse$BigRound" (58 : Nat) "Clockhouse$Big" "length" "I" "Clockhouse") ∈ lw_ng := am_ng 146 (by decide +kernel) rfl
theorem w147 : (Cond.fieldLink "Clockhouse$Big" (15 : Nat) "Clockhouse$Big" "length" "I") ∈ lw_gw := am_w 147 (by decide +kernel) rfl
theorem w148 : (Cond.fieldLinkNest "Clockhouse$Round" (21 : Nat) "Clockhouse$Big" "length" "I" "Clockhouse") ∈ lw_ng := am_ng 148 (by decide +kernel) rfl
theorem w149 : (Cond.fieldLinkNest "Clockhouse$BigRound" (51 : Nat) "Clockhouse$Big" "sign" "I" "Clockhouse") ∈ lw_ng := am_ng 149 (by decide +kernel) rfl
theorem w150 : (Cond.fieldLinkNest "Clockhouse$Round" (9 : Nat) "Clockhouse$Big" "sign" "I" "Clockhouse") ∈ lw_ng := am_ng 150 (by decide +kernel) rfl
theorem w151 : (Cond.fieldLink "Clockhouse$Big" (19 : Nat) "Clockhouse$Big" "sign" "I") ∈ lw_gw := am_w 151 (by decide +kernel) rfl
theorem w152 : (Cond.fieldLinkNest "Clockhouse" (114 : Nat) "Clockhouse$Big" "sign" "I" "Clockhouse") ∈ lw_ng := am_ng 152 (by decide +kernel) rfl
theorem w153 : (Cond.laysFinal "Clockhouse$Big" "Clockhouse$Big" "limbs" "[I") ∈ lw_gw := am_w 153 (by decide +kernel) rfl
theorem w155 : (Cond.lays "Clockhouse$Big" "Clockhouse$Big" "length" "I") ∈ lw_gw := am_w 155 (by decide +kernel) rfl
theorem w157 : (Cond.lays "Clockhouse$Big" "Clockhouse$Big" "sign" "I") ∈ lw_gw := am_w 157 (by decide +kernel) rfl
theorem w160 : (Cond.arrayClass FieldType.int) ∈ lw_gw := am_w 160 (by decide +kernel) rfl
theorem w161 : (Cond.fieldLinkNest "Clockhouse" (71 : Nat) "Clockhouse$State" "dial" "I" "Clockhouse") ∈ lw_ng := am_ng 161 (by decide +kernel) rfl
theorem w162 : (Cond.fieldLink "Clockhouse$State" (28 : Nat) "Clockhouse$State" "dial" "I") ∈ lw_gw := am_w 162 (by decide +kernel) rfl
theorem w163 : (Cond.fieldLink "Clockhouse$State" (11 : Nat) "Clockhouse$State" "numbers" "[LClockhouse$Big;") ∈ lw_gw := am_w 163 (by decide +kernel) rfl
theorem w164 : (Cond.fieldLinkNest "Clockhouse" (412 : Nat) "Clockhouse$State" "numbers" "[LClockhouse$Big;" "Clockhouse") ∈ lw_ng := am_ng 164 (by decide +kernel) rfl
theorem w165 : (Cond.fieldLink "Clockhouse$State" (36 : Nat) "Clockhouse$State" "rowCount" "I") ∈ lw_gw := am_w 165 (by decide +kernel) rfl
theorem w166 : (Cond.fieldLinkNest "Clockhouse" (159 : Nat) "Clockhouse$State" "rowCount" "I" "Clockhouse") ∈ lw_ng := am_ng 166 (by decide +kernel) rfl
theorem w167 : (Cond.fieldLink "Clockhouse$State" (17 : Nat) "Clockhouse$State" "rests" "[I") ∈ lw_gw := am_w 167 (by decide +kernel) rfl
theorem w168 : (Cond.fieldLinkNest "Clockhouse" (301 : Nat) "Clockhouse$State" "rests" "[I" "Clockhouse") ∈ lw_ng := am_ng 168 (by decide +kernel) rfl
theorem w169 : (Cond.fieldLink "Clockhouse$State" (21 : Nat) "Clockhouse$State" "sizes" "[I") ∈ lw_gw := am_w 169 (by decide +kernel) rfl
theorem w170 : (Cond.fieldLinkNest "Clockhouse" (305 : Nat) "Clockhouse$State" "sizes" "[I" "Clockhouse") ∈ lw_ng := am_ng 170 (by decide +kernel) rfl
theorem w171 : (Cond.fieldLink "Clockhouse$State" (45 : Nat) "Clockhouse$State" "baseCount" "I") ∈ lw_gw := am_w 171 (by decide +kernel) rfl
theorem w172 : (Cond.fieldLinkNest "Clockhouse" (176 : Nat) "Clockhouse$State" "baseCount" "I" "Clockhouse") ∈ lw_ng := am_ng 172 (by decide +kernel) rfl
theorem w173 : (Cond.fieldLink "Clockhouse$State" (24 : Nat) "Clockhouse$State" "bases" "[I") ∈ lw_gw := am_w 173 (by decide +kernel) rfl
theorem w174 : (Cond.fieldLinkNest "Clockhouse" (442 : Nat) "Clockhouse$State" "bases" "[I" "Clockhouse") ∈ lw_ng := am_ng 174 (by decide +kernel) rfl
theorem w175 : (Cond.lays "Clockhouse$State" "Clockhouse$State" "dial" "I") ∈ lw_gw := am_w 175 (by decide +kernel) rfl
theorem w177 : (Cond.laysFinal "Clockhouse$State" "Clockhouse$State" "numbers" "[LClockhouse$Big;") ∈ lw_gw := am_w 177 (by decide +kernel) rfl
theorem w179 : (Cond.lays "Clockhouse$State" "Clockhouse$State" "rowCount" "I") ∈ lw_gw := am_w 179 (by decide +kernel) rfl
theorem w181 : (Cond.laysFinal "Clockhouse$State" "Clockhouse$State" "rests" "[I") ∈ lw_gw := am_w 181 (by decide +kernel) rfl
theorem w183 : (Cond.laysFinal "Clockhouse$State" "Clockhouse$State" "sizes" "[I") ∈ lw_gw := am_w 183 (by decide +kernel) rfl
theorem w185 : (Cond.lays "Clockhouse$State" "Clockhouse$State" "baseCount" "I") ∈ lw_gw := am_w 185 (by decide +kernel) rfl
theorem w187 : (Cond.laysFinal "Clockhouse$State" "Clockhouse$State" "bases" "[I") ∈ lw_gw := am_w 187 (by decide +kernel) rfl
theorem w190 : (Cond.classLink "Clockhouse" (16 : Nat) "Clockhouse$Past") ∈ lw_gw := am_w 190 (by decide +kernel) rfl
theorem w191 : (Cond.instantiable "Clockhouse$Past" (3 : Nat)) ∈ lw_gw := am_w 191 (by decide +kernel) rfl
theorem w192 : (Cond.methodLink "Clockhouse" (18 : Nat) ({ cls := "Clockhouse$Past", name := "<init>", desc := "()V" } : MethodName)) ∈ lw_gw := am_w 192 (by decide +kernel) rfl
theorem w193 : (Cond.instanceMethod ({ cls := "Clockhouse$Past", name := "<init>", desc := "()V" } : MethodName)) ∈ lw_gw := am_w 193 (by decide +kernel) rfl
theorem w194 : (Cond.code ({ cls := "Clockhouse$Past", name := "<init>", desc := "()V" } : MethodName) prog_7_method_1_code (2 : Nat) (Option.none : Option FieldType)) ∈ lw_gw := am_w 194 (by decide +kernel) rfl
theorem w195 : (Cond.methodLink "Clockhouse$Past" (3 : Nat) ({ cls := "java/lang/Object", name := "<init>", desc := "()V" } : MethodName)) ∈ lw_gw := am_w 195 (by decide +kernel) rfl
theorem w196 : (Cond.classLink "Clockhouse$Past" (9 : Nat) "Clockhouse$State") ∈ lw_gw := am_w 196 (by decide +kernel) rfl
theorem w197 : (Cond.arrayOver (FieldType.object "Clockhouse$State")) ∈ lw_ng := am_ng 197 (by decide +kernel) rfl
theorem w198 : (Cond.methodLink "Clockhouse$Past" (17 : Nat) ({ cls := "Clockhouse$State", name := "<init>", desc := "()V" } : MethodName)) ∈ lw_gw := am_w 198 (by decide +kernel) rfl
theorem w199 : (Cond.fieldLink "Clockhouse$Past" (11 : Nat) "Clockhouse$Past" "ring" "[LClockhouse$State;") ∈ lw_gw := am_w 199 (by decide +kernel) rfl
theorem w200 : (Cond.fieldLink "Clockhouse$Past" (18 : Nat) "Clockhouse$Past" "oldest" "I") ∈ lw_gw := am_w 200 (by decide +kernel) rfl
theorem w201 : (Cond.fieldLink "Clockhouse$Past" (22 : Nat) "Clockhouse$Past" "count" "I") ∈ lw_gw := am_w 201 (by decide +kernel) rfl
theorem w202 : (Cond.fieldLinkNest "Clockhouse" (184 : Nat) "Clockhouse$Past" "count" "I" "Clockhouse") ∈ lw_ng := am_ng 202 (by decide +kernel) rfl
theorem w203 : (Cond.laysFinal "Clockhouse$Past" "Clockhouse$Past" "ring" "[LClockhouse$State;") ∈ lw_gw := am_w 203 (by decide +kernel) rfl
theorem w205 : (Cond.lays "Clockhouse$Past" "Clockhouse$Past" "oldest" "I") ∈ lw_gw := am_w 205 (by decide +kernel) rfl
theorem w207 : (Cond.lays "Clockhouse$Past" "Clockhouse$Past" "count" "I") ∈ lw_gw := am_w 207 (by decide +kernel) rfl
theorem w210 : (Cond.classLink "Clockhouse" (23 : Nat) "Clockhouse$Big") ∈ lw_gw := am_w 210 (by decide +kernel) rfl
theorem w211 : (Cond.methodLinkNest "Clockhouse" (25 : Nat) ({ cls := "Clockhouse$Big", name := "<init>", desc := "()V" } : MethodName) "Clockhouse") ∈ lw_ng := am_ng 211 (by decide +kernel) rfl
theorem w212 : (Cond.classLink "Clockhouse" (36 : Nat) "Clockhouse$BigRound") ∈ lw_gw := am_w 212 (by decide +kernel) rfl
theorem w213 : (Cond.instantiable "Clockhouse$BigRound" (7 : Nat)) ∈ lw_gw := am_w 213 (by decide +kernel) rfl
theorem w214 : (Cond.methodLinkNest "Clockhouse" (38 : Nat) ({ cls := "Clockhouse$BigRound", name := "<init>", desc := "()V" } : MethodName) "Clockhouse") ∈ lw_ng := am_ng 214 (by decide +kernel) rfl
theorem w215 : (Cond.instanceMethod ({ cls := "Clockhouse$BigRound", name := "<init>", desc := "()V" } : MethodName)) ∈ lw_gw := am_w 215 (by decide +kernel) rfl
theorem w216 : (Cond.code ({ cls := "Clockhouse$BigRound", name := "<init>", desc := "()V" } : MethodName) prog_3_method_1_code (1 : Nat) (Option.none : Option FieldType)) ∈ lw_gw := am_w 216 (by decide +kernel) rfl
theorem w217 : (Cond.methodLink "Clockhouse$BigRound" (3 : Nat) ({ cls := "java/lang/Object", name := "<init>", desc := "()V" } : MethodName)) ∈ lw_gw := am_w 217 (by decide +kernel) rfl
theorem w218 : (Cond.classLink "Clockhouse$BigRound" (9 : Nat) "Clockhouse$Big") ∈ lw_gw := am_w 218 (by decide +kernel) rfl
theorem w219 : (Cond.methodLinkNest "Clockhouse$BigRound" (11 : Nat) ({ cls := "Clockhouse$Big", name := "<init>", desc := "()V" } : MethodName) "Clockhouse") ∈ lw_ng := am_ng 219 (by decide +kernel) rfl
theorem w220 : (Cond.classLink "Clockhouse$BigRound" (18 : Nat) "Clockhouse$Division") ∈ lw_gw := am_w 220 (by decide +kernel) rfl
theorem w221 : (Cond.instantiable "Clockhouse$Division" (3 : Nat)) ∈ lw_gw := am_w 221 (by decide +kernel) rfl
theorem w222 : (Cond.methodLinkNest "Clockhouse$BigRound" (20 : Nat) ({ cls := "Clockhouse$Division", name := "<init>", desc := "()V" } : MethodName) "Clockhouse") ∈ lw_ng := am_ng 222 (by decide +kernel) rfl
theorem w223 : (Cond.instanceMethod ({ cls := "Clockhouse$Division", name := "<init>", desc := "()V" } : MethodName)) ∈ lw_gw := am_w 223 (by decide +kernel) rfl
theorem w224 : (Cond.code ({ cls := "Clockhouse$Division", name := "<init>", desc := "()V" } : MethodName) prog_4_method_1_code (1 : Nat) (Option.none : Option FieldType)) ∈ lw_gw := am_w 224 (by decide +kernel) rfl
theorem w225 : (Cond.methodLink "Clockhouse$Division" (3 : Nat) ({ cls := "java/lang/Object", name := "<init>", desc := "()V" } : MethodName)) ∈ lw_gw := am_w 225 (by decide +kernel) rfl
theorem w226 : (Cond.classLink "Clockhouse$Division" (9 : Nat) "Clockhouse$Big") ∈ lw_gw := am_w 226 (by decide +kernel) rfl
theorem w227 : (Cond.methodLinkNest "Clockhouse$Division" (11 : Nat) ({ cls := "Clockhouse$Big", name := "<init>", desc := "()V" } : MethodName) "Clockhouse") ∈ lw_ng := am_ng 227 (by decide +kernel) rfl
theorem w228 : (Cond.fieldLink "Clockhouse$Division" (12 : Nat) "Clockhouse$Division" "quotient" "LClockhouse$Big;") ∈ lw_gw := am_w 228 (by decide +kernel) rfl
theorem w229 : (Cond.fieldLinkNest "Clockhouse$BigRound" (72 : Nat) "Clockhouse$Division" "quotient" "LClockhouse$Big;" "Clockhouse") ∈ lw_ng := am_ng 229 (by decide +kernel) rfl
theorem w230 : (Cond.fieldLink "Clockhouse$Division" (18 : Nat) "Clockhouse$Division" "rest" "LClockhouse$Big;") ∈ lw_gw := am_w 230 (by decide +kernel) rfl
theorem w231 : (Cond.fieldLinkNest "Clockhouse$BigRound" (44 : Nat) "Clockhouse$Division" "rest" "LClockhouse$Big;" "Clockhouse") ∈ lw_ng := am_ng 231 (by decide +kernel) rfl
theorem w232 : (Cond.fieldLink "Clockhouse$Division" (21 : Nat) "Clockhouse$Division" "by" "LClockhouse$Big;") ∈ lw_gw := am_w 232 (by decide +kernel) rfl
theorem w233 : (Cond.laysFinal "Clockhouse$Division" "Clockhouse$Division" "quotient" "LClockhouse$Big;") ∈ lw_gw := am_w 233 (by decide +kernel) rfl
theorem w235 : (Cond.laysFinal "Clockhouse$Division" "Clockhouse$Division" "rest" "LClockhouse$Big;") ∈ lw_gw := am_w 235 (by decide +kernel) rfl
theorem w237 : (Cond.laysFinal "Clockhouse$Division" "Clockhouse$Division" "by" "LClockhouse$Big;") ∈ lw_gw := am_w 237 (by decide +kernel) rfl
theorem w240 : (Cond.fieldLink "Clockhouse$BigRound" (12 : Nat) "Clockhouse$BigRound" "found" "LClockhouse$Big;") ∈ lw_gw := am_w 240 (by decide +kernel) rfl
theorem w241 : (Cond.fieldLinkNest "Clockhouse" (202 : Nat) "Clockhouse$BigRound" "found" "LClockhouse$Big;" "Clockhouse") ∈ lw_ng := am_ng 241 (by decide +kernel) rfl
theorem w242 : (Cond.fieldLink "Clockhouse$BigRound" (21 : Nat) "Clockhouse$BigRound" "division" "LClockhouse$Division;") ∈ lw_gw := am_w 242 (by decide +kernel) rfl
theorem w243 : (Cond.fieldLink "Clockhouse$BigRound" (25 : Nat) "Clockhouse$BigRound" "first" "LClockhouse$Big;") ∈ lw_gw := am_w 243 (by decide +kernel) rfl
theorem w244 : (Cond.fieldLink "Clockhouse$BigRound" (28 : Nat) "Clockhouse$BigRound" "second" "LClockhouse$Big;") ∈ lw_gw := am_w 244 (by decide +kernel) rfl
theorem w245 : (Cond.fieldLink "Clockhouse$BigRound" (31 : Nat) "Clockhouse$BigRound" "third" "LClockhouse$Big;") ∈ lw_gw := am_w 245 (by decide +kernel) rfl
theorem w246 : (Cond.fieldLink "Clockhouse$BigRound" (34 : Nat) "Clockhouse$BigRound" "fourth" "LClockhouse$Big;") ∈ lw_gw := am_w 246 (by decide +kernel) rfl
theorem w247 : (Cond.fieldLink "Clockhouse$BigRound" (37 : Nat) "Clockhouse$BigRound" "product" "LClockhouse$Big;") ∈ lw_gw := am_w 247 (by decide +kernel) rfl
theorem w248 : (Cond.laysFinal "Clockhouse$BigRound" "Clockhouse$BigRound" "found" "LClockhouse$Big;") ∈ lw_gw := am_w 248 (by decide +kernel) rfl
theorem w250 : (Cond.laysFinal "Clockhouse$BigRound" "Clockhouse$BigRound" "division" "LClockhouse$Division;") ∈ lw_gw := am_w 250 (by decide +kernel) rfl
theorem w252 : (Cond.laysFinal "Clockhouse$BigRound" "Clockhouse$BigRound" "first" "LClockhouse$Big;") ∈ lw_gw := am_w 252 (by decide +kernel) rfl
theorem w254 : (Cond.laysFinal "Clockhouse$BigRound" "Clockhouse$BigRound" "second" "LClockhouse$Big;") ∈ lw_gw := am_w 254 (by decide +kernel) rfl
theorem w256 : (Cond.laysFinal "Clockhouse$BigRound" "Clockhouse$BigRound" "third" "LClockhouse$Big;") ∈ lw_gw := am_w 256 (by decide +kernel) rfl
theorem w258 : (Cond.laysFinal "Clockhouse$BigRound" "Clockhouse$BigRound" "fourth" "LClockhouse$Big;") ∈ lw_gw := am_w 258 (by decide +kernel) rfl
theorem w260 : (Cond.laysFinal "Clockhouse$BigRound" "Clockhouse$BigRound" "product" "LClockhouse$Big;") ∈ lw_gw := am_w 260 (by decide +kernel) rfl
theorem w263 : (Cond.classLink "Clockhouse" (43 : Nat) "Clockhouse$PowerRow") ∈ lw_gw := am_w 263 (by decide +kernel) rfl
theorem w264 : (Cond.instantiable "Clockhouse$PowerRow" (4 : Nat)) ∈ lw_gw := am_w 264 (by decide +kernel) rfl
theorem w265 : (Cond.methodLinkNest "Clockhouse" (45 : Nat) ({ cls := "Clockhouse$PowerRow", name := "<init>", desc := "()V" } : MethodName) "Clockhouse") ∈ lw_ng := am_ng 265 (by decide +kernel) rfl
theorem w266 : (Cond.instanceMethod ({ cls := "Clockhouse$PowerRow", name := "<init>", desc := "()V" } : MethodName)) ∈ lw_gw := am_w 266 (by decide +kernel) rfl
theorem w267 : (Cond.code ({ cls := "Clockhouse$PowerRow", name := "<init>", desc := "()V" } : MethodName) prog_8_method_1_code (1 : Nat) (Option.none : Option FieldType)) ∈ lw_gw := am_w 267 (by decide +kernel) rfl
theorem w268 : (Cond.methodLink "Clockhouse$PowerRow" (3 : Nat) ({ cls := "java/lang/Object", name := "<init>", desc := "()V" } : MethodName)) ∈ lw_gw := am_w 268 (by decide +kernel) rfl
theorem w269 : (Cond.fieldLink "Clockhouse$PowerRow" (9 : Nat) "Clockhouse$PowerRow" "row" "[I") ∈ lw_gw := am_w 269 (by decide +kernel) rfl
theorem w270 : (Cond.fieldLink "Clockhouse$PowerRow" (15 : Nat) "Clockhouse$PowerRow" "placeOf" "[I") ∈ lw_gw := am_w 270 (by decide +kernel) rfl
theorem w271 : (Cond.fieldLink "Clockhouse$PowerRow" (18 : Nat) "Clockhouse$PowerRow" "count" "I") ∈ lw_gw := am_w 271 (by decide +kernel) rfl
theorem w272 : (Cond.fieldLink "Clockhouse$PowerRow" (22 : Nat) "Clockhouse$PowerRow" "tail" "I") ∈ lw_gw := am_w 272 (by decide +kernel) rfl
theorem w273 : (Cond.laysFinal "Clockhouse$PowerRow" "Clockhouse$PowerRow" "row" "[I") ∈ lw_gw := am_w 273 (by decide +kernel) rfl
theorem w275 : (Cond.laysFinal "Clockhouse$PowerRow" "Clockhouse$PowerRow" "placeOf" "[I") ∈ lw_gw := am_w 275 (by decide +kernel) rfl
theorem w277 : (Cond.lays "Clockhouse$PowerRow" "Clockhouse$PowerRow" "count" "I") ∈ lw_gw := am_w 277 (by decide +kernel) rfl
theorem w279 : (Cond.lays "Clockhouse$PowerRow" "Clockhouse$PowerRow" "tail" "I") ∈ lw_gw := am_w 279 (by decide +kernel) rfl
theorem w282 : (Cond.classLink "Clockhouse" (50 : Nat) "Clockhouse$Generators") ∈ lw_gw := am_w 282 (by decide +kernel) rfl
theorem w283 : (Cond.instantiable "Clockhouse$Generators" (4 : Nat)) ∈ lw_gw := am_w 283 (by decide +kernel) rfl
theorem w284 : (Cond.methodLinkNest "Clockhouse" (52 : Nat) ({ cls := "Clockhouse$Generators", name := "<init>", desc := "()V" } : MethodName) "Clockhouse") ∈ lw_ng := am_ng 284 (by decide +kernel) rfl
theorem w285 : (Cond.instanceMethod ({ cls := "Clockhouse$Generators", name := "<init>", desc := "()V" } : MethodName)) ∈ lw_gw := am_w 285 (by decide +kernel) rfl
theorem w286 : (Cond.code ({ cls := "Clockhouse$Generators", name := "<init>", desc := "()V" } : MethodName) prog_5_method_1_code (1 : Nat) (Option.none : Option FieldType)) ∈ lw_gw := am_w 286 (by decide +kernel) rfl
theorem w287 : (Cond.methodLink "Clockhouse$Generators" (3 : Nat) ({ cls := "java/lang/Object", name := "<init>", desc := "()V" } : MethodName)) ∈ lw_gw := am_w 287 (by decide +kernel) rfl
theorem w288 : (Cond.fieldLink "Clockhouse$Generators" (9 : Nat) "Clockhouse$Generators" "primes" "[I") ∈ lw_gw := am_w 288 (by decide +kernel) rfl
theorem w289 : (Cond.fieldLink "Clockhouse$Generators" (28 : Nat) "Clockhouse$Generators" "primeCount" "I") ∈ lw_gw := am_w 289 (by decide +kernel) rfl
theorem w290 : (Cond.fieldLink "Clockhouse$Generators" (15 : Nat) "Clockhouse$Generators" "m" "I") ∈ lw_gw := am_w 290 (by decide +kernel) rfl
theorem w291 : (Cond.fieldLink "Clockhouse$Generators" (25 : Nat) "Clockhouse$Generators" "unitCount" "I") ∈ lw_gw := am_w 291 (by decide +kernel) rfl
theorem w292 : (Cond.laysFinal "Clockhouse$Generators" "Clockhouse$Generators" "primes" "[I") ∈ lw_gw := am_w 292 (by decide +kernel) rfl
theorem w294 : (Cond.lays "Clockhouse$Generators" "Clockhouse$Generators" "primeCount" "I") ∈ lw_gw := am_w 294 (by decide +kernel) rfl
theorem w296 : (Cond.lays "Clockhouse$Generators" "Clockhouse$Generators" "m" "I") ∈ lw_gw := am_w 296 (by decide +kernel) rfl
theorem w298 : (Cond.lays "Clockhouse$Generators" "Clockhouse$Generators" "unitCount" "I") ∈ lw_gw := am_w 298 (by decide +kernel) rfl
theorem w301 : (Cond.classLink "Clockhouse" (57 : Nat) "Clockhouse$Joiner") ∈ lw_gw := am_w 301 (by decide +kernel) rfl
theorem w302 : (Cond.instantiable "Clockhouse$Joiner" (3 : Nat)) ∈ lw_gw := am_w 302 (by decide +kernel) rfl
theorem w303 : (Cond.methodLinkNest "Clockhouse" (59 : Nat) ({ cls := "Clockhouse$Joiner", name := "<init>", desc := "()V" } : MethodName) "Clockhouse") ∈ lw_ng := am_ng 303 (by decide +kernel) rfl
theorem w304 : (Cond.instanceMethod ({ cls := "Clockhouse$Joiner", name := "<init>", desc := "()V" } : MethodName)) ∈ lw_gw := am_w 304 (by decide +kernel) rfl
theorem w305 : (Cond.code ({ cls := "Clockhouse$Joiner", name := "<init>", desc := "()V" } : MethodName) prog_6_method_1_code (1 : Nat) (Option.none : Option FieldType)) ∈ lw_gw := am_w 305 (by decide +kernel) rfl
theorem w306 : (Cond.methodLink "Clockhouse$Joiner" (1 : Nat) ({ cls := "java/lang/Object", name := "<init>", desc := "()V" } : MethodName)) ∈ lw_gw := am_w 306 (by decide +kernel) rfl
theorem w307 : (Cond.fieldLink "Clockhouse$Joiner" (7 : Nat) "Clockhouse$Joiner" "joined" "Z") ∈ lw_gw := am_w 307 (by decide +kernel) rfl
theorem w308 : (Cond.fieldLinkNest "Clockhouse" (311 : Nat) "Clockhouse$Joiner" "joined" "Z" "Clockhouse") ∈ lw_ng := am_ng 308 (by decide +kernel) rfl
theorem w309 : (Cond.fieldLink "Clockhouse$Joiner" (13 : Nat) "Clockhouse$Joiner" "joint" "J") ∈ lw_gw := am_w 309 (by decide +kernel) rfl
theorem w310 : (Cond.fieldLinkNest "Clockhouse" (315 : Nat) "Clockhouse$Joiner" "joint" "J" "Clockhouse") ∈ lw_ng := am_ng 310 (by decide +kernel) rfl
theorem w311 : (Cond.fieldLink "Clockhouse$Joiner" (17 : Nat) "Clockhouse$Joiner" "whole" "J") ∈ lw_gw := am_w 311 (by decide +kernel) rfl
theorem w312 : (Cond.fieldLinkNest "Clockhouse" (325 : Nat) "Clockhouse$Joiner" "whole" "J" "Clockhouse") ∈ lw_ng := am_ng 312 (by decide +kernel) rfl
theorem w313 : (Cond.lays "Clockhouse$Joiner" "Clockhouse$Joiner" "joined" "Z") ∈ lw_gw := am_w 313 (by decide +kernel) rfl
theorem w315 : (Cond.lays "Clockhouse$Joiner" "Clockhouse$Joiner" "joint" "J") ∈ lw_gw := am_w 315 (by decide +kernel) rfl
theorem w317 : (Cond.lays "Clockhouse$Joiner" "Clockhouse$Joiner" "whole" "J") ∈ lw_gw := am_w 317 (by decide +kernel) rfl
theorem w320 : (Cond.classLink "Clockhouse" (64 : Nat) "java/lang/StringBuilder") ∈ lw_gw := am_w 320 (by decide +kernel) rfl
theorem w321 : (Cond.instantiable "java/lang/StringBuilder" (4 : Nat)) ∈ lw_gw := am_w 321 (by decide +kernel) rfl
theorem w322 : (Cond.methodLink "Clockhouse" (66 : Nat) ({ cls := "java/lang/StringBuilder", name := "<init>", desc := "()V" } : MethodName)) ∈ lw_gw := am_w 322 (by decide +kernel) rfl
theorem w323 : (Cond.instanceMethod ({ cls := "java/lang/StringBuilder", name := "<init>", desc := "()V" } : MethodName)) ∈ lw_gw := am_w 323 (by decide +kernel) rfl
theorem w324 : (Cond.code ({ cls := "java/lang/StringBuilder", name := "<init>", desc := "()V" } : MethodName) prog_36_method_1_code (1 : Nat) (Option.none : Option FieldType)) ∈ lw_gw := am_w 324 (by decide +kernel) rfl
theorem w325 : (Cond.methodLink "java/lang/StringBuilder" (1 : Nat) ({ cls := "java/lang/AbstractStringBuilder", name := "<init>", desc := "(I)V" } : MethodName)) ∈ lw_gw := am_w 325 (by decide +kernel) rfl
theorem w326 : (Cond.instanceMethod ({ cls := "java/lang/AbstractStringBuilder", name := "<init>", desc := "(I)V" } : MethodName)) ∈ lw_gw := am_w 326 (by decide +kernel) rfl
theorem w327 : (Cond.code ({ cls := "java/lang/AbstractStringBuilder", name := "<init>", desc := "(I)V" } : MethodName) prog_18_method_2_code (2 : Nat) (Option.none : Option FieldType)) ∈ lw_gw := am_w 327 (by decide +kernel) rfl
theorem w328 : (Cond.methodLink "java/lang/AbstractStringBuilder" (3 : Nat) ({ cls := "java/lang/Object", name := "<init>", desc := "()V" } : MethodName)) ∈ lw_gw := am_w 328 (by decide +kernel) rfl
theorem w329 : (Cond.fieldLink "java/lang/AbstractStringBuilder" (18 : Nat) "java/lang/String" "COMPACT_STRINGS" "Z") ∈ lw_gw := am_w 329 (by decide +kernel) rfl
theorem w338 : (Cond.fieldLink "java/lang/AbstractStringBuilder" (15 : Nat) "java/lang/AbstractStringBuilder" "value" "[B") ∈ lw_gw := am_w 338 (by decide +kernel) rfl
theorem w339 : (Cond.fieldLink "java/lang/AbstractStringBuilder" (22 : Nat) "java/lang/AbstractStringBuilder" "coder" "B") ∈ lw_gw := am_w 339 (by decide +kernel) rfl
theorem w340 : (Cond.fieldLink "java/lang/AbstractStringBuilder" (73 : Nat) "java/lang/AbstractStringBuilder" "maybeLatin1" "Z") ∈ lw_gw := am_w 340 (by decide +kernel) rfl
theorem w342 : (Cond.fieldLink "java/lang/AbstractStringBuilder" (79 : Nat) "java/lang/AbstractStringBuilder" "count" "I") ∈ lw_gw := am_w 342 (by decide +kernel) rfl
theorem w343 : (Cond.lays "java/lang/StringBuilder" "java/lang/AbstractStringBuilder" "value" "[B") ∈ lw_gw := am_w 343 (by decide +kernel) rfl
theorem w345 : (Cond.lays "java/lang/StringBuilder" "java/lang/AbstractStringBuilder" "coder" "B") ∈ lw_gw := am_w 345 (by decide +kernel) rfl
theorem w347 : (Cond.lays "java/lang/StringBuilder" "java/lang/AbstractStringBuilder" "maybeLatin1" "Z") ∈ lw_gw := am_w 347 (by decide +kernel) rfl
theorem w349 : (Cond.lays "java/lang/StringBuilder" "java/lang/AbstractStringBuilder" "count" "I") ∈ lw_gw := am_w 349 (by decide +kernel) rfl
theorem w351 : (Cond.superclass "java/lang/StringBuilder" "java/lang/AbstractStringBuilder") ∈ lw_gw := am_w 351 (by decide +kernel) rfl
theorem w352 : (Cond.arrayClass FieldType.byte) ∈ lw_gw := am_w 352 (by decide +kernel) rfl
theorem w353 : (Cond.fieldLink "Clockhouse" (10 : Nat) "Clockhouse" "state" "LClockhouse$State;") ∈ lw_gw := am_w 353 (by decide +kernel) rfl
theorem w354 : (Cond.fieldLink "Clockhouse" (19 : Nat) "Clockhouse" "past" "LClockhouse$Past;") ∈ lw_gw := am_w 354 (by decide +kernel) rfl
theorem w355 : (Cond.fieldLink "Clockhouse" (350 : Nat) "Clockhouse" "jams" "I") ∈ lw_gw := am_w 355 (by decide +kernel) rfl
theorem w356 : (Cond.fieldLink "Clockhouse" (353 : Nat) "Clockhouse" "misses" "I") ∈ lw_gw := am_w 356 (by decide +kernel) rfl
theorem w357 : (Cond.fieldLink "Clockhouse" (192 : Nat) "Clockhouse" "knocks" "I") ∈ lw_gw := am_w 357 (by decide +kernel) rfl
theorem w358 : (Cond.fieldLink "Clockhouse" (26 : Nat) "Clockhouse" "work" "LClockhouse$Big;") ∈ lw_gw := am_w 358 (by decide +kernel) rfl
theorem w359 : (Cond.fieldLink "Clockhouse" (30 : Nat) "Clockhouse" "extra" "LClockhouse$Big;") ∈ lw_gw := am_w 359 (by decide +kernel) rfl
theorem w360 : (Cond.fieldLink "Clockhouse" (33 : Nat) "Clockhouse" "spanWork" "LClockhouse$Big;") ∈ lw_gw := am_w 360 (by decide +kernel) rfl
theorem w361 : (Cond.fieldLink "Clockhouse" (39 : Nat) "Clockhouse" "bigRound" "LClockhouse$BigRound;") ∈ lw_gw := am_w 361 (by decide +kernel) rfl
theorem w362 : (Cond.fieldLink "Clockhouse" (46 : Nat) "Clockhouse" "powerRow" "LClockhouse$PowerRow;") ∈ lw_gw := am_w 362 (by decide +kernel) rfl
theorem w363 : (Cond.fieldLink "Clockhouse" (53 : Nat) "Clockhouse" "generators" "LClockhouse$Generators;") ∈ lw_gw := am_w 363 (by decide +kernel) rfl
theorem w364 : (Cond.fieldLink "Clockhouse" (60 : Nat) "Clockhouse" "joiner" "LClockhouse$Joiner;") ∈ lw_gw := am_w 364 (by decide +kernel) rfl
theorem w365 : (Cond.fieldLink "Clockhouse" (67 : Nat) "Clockhouse" "builder" "Ljava/lang/StringBuilder;") ∈ lw_gw := am_w 365 (by decide +kernel) rfl
theorem w366 : (Cond.laysFinal "Clockhouse" "Clockhouse" "state" "LClockhouse$State;") ∈ lw_gw := am_w 366 (by decide +kernel) rfl
theorem w368 : (Cond.laysFinal "Clockhouse" "Clockhouse" "past" "LClockhouse$Past;") ∈ lw_gw := am_w 368 (by decide +kernel) rfl
theorem w370 : (Cond.lays "Clockhouse" "Clockhouse" "jams" "I") ∈ lw_gw := am_w 370 (by decide +kernel) rfl
theorem w372 : (Cond.lays "Clockhouse" "Clockhouse" "misses" "I") ∈ lw_gw := am_w 372 (by decide +kernel) rfl
theorem w374 : (Cond.lays "Clockhouse" "Clockhouse" "knocks" "I") ∈ lw_gw := am_w 374 (by decide +kernel) rfl
theorem w376 : (Cond.laysFinal "Clockhouse" "Clockhouse" "work" "LClockhouse$Big;") ∈ lw_gw := am_w 376 (by decide +kernel) rfl
theorem w378 : (Cond.laysFinal "Clockhouse" "Clockhouse" "extra" "LClockhouse$Big;") ∈ lw_gw := am_w 378 (by decide +kernel) rfl
theorem w380 : (Cond.laysFinal "Clockhouse" "Clockhouse" "spanWork" "LClockhouse$Big;") ∈ lw_gw := am_w 380 (by decide +kernel) rfl
theorem w382 : (Cond.laysFinal "Clockhouse" "Clockhouse" "bigRound" "LClockhouse$BigRound;") ∈ lw_gw := am_w 382 (by decide +kernel) rfl
theorem w384 : (Cond.laysFinal "Clockhouse" "Clockhouse" "powerRow" "LClockhouse$PowerRow;") ∈ lw_gw := am_w 384 (by decide +kernel) rfl
theorem w386 : (Cond.laysFinal "Clockhouse" "Clockhouse" "generators" "LClockhouse$Generators;") ∈ lw_gw := am_w 386 (by decide +kernel) rfl
theorem w388 : (Cond.laysFinal "Clockhouse" "Clockhouse" "joiner" "LClockhouse$Joiner;") ∈ lw_gw := am_w 388 (by decide +kernel) rfl
theorem w390 : (Cond.laysFinal "Clockhouse" "Clockhouse" "builder" "Ljava/lang/StringBuilder;") ∈ lw_gw := am_w 390 (by decide +kernel) rfl
theorem w396 : (Cond.code ({ cls := "Clockhouse", name := "knock", desc := "()I" } : MethodName) prog_1_method_19_code (1 : Nat) (Option.some FieldType.int)) ∈ lw_gw := am_w 396 (by decide +kernel) rfl
theorem w400 : (Cond.code ({ cls := "Clockhouse", name := "size", desc := "()I" } : MethodName) prog_1_method_26_code (1 : Nat) (Option.some FieldType.int)) ∈ lw_gw := am_w 400 (by decide +kernel) rfl
theorem w402 : (Cond.instanceMethod ({ cls := "Clockhouse", name := "units", desc := "()I" } : MethodName)) ∈ lw_gw := am_w 402 (by decide +kernel) rfl
theorem w403 : (Cond.selects "Clockhouse" ({ cls := "Clockhouse", name := "units", desc := "()I" } : MethodName) ({ cls := "Clockhouse", name := "units", desc := "()I" } : MethodName)) ∈ lw_gw := am_w 403 (by decide +kernel) rfl
theorem w404 : (Cond.code ({ cls := "Clockhouse", name := "units", desc := "()I" } : MethodName) prog_1_method_33_code (1 : Nat) (Option.some FieldType.int)) ∈ lw_gw := am_w 404 (by decide +kernel) rfl
theorem w405 : (Cond.methodLink "Clockhouse" (220 : Nat) ({ cls := "Clockhouse", name := "isJammed", desc := "()Z" } : MethodName)) ∈ lw_gw := am_w 405 (by decide +kernel) rfl
theorem w407 : (Cond.instanceMethod ({ cls := "Clockhouse", name := "isJammed", desc := "()Z" } : MethodName)) ∈ lw_gw := am_w 407 (by decide +kernel) rfl
theorem w408 : (Cond.code ({ cls := "Clockhouse", name := "isJammed", desc := "()Z" } : MethodName) prog_1_method_63_code (1 : Nat) (Option.some FieldType.boolean)) ∈ lw_gw := am_w 408 (by decide +kernel) rfl
theorem w409 : (Cond.methodLink "Clockhouse" (247 : Nat) ({ cls := "Clockhouse$Round", name := "countUnits", desc := "(I)I" } : MethodName)) ∈ lw_gw := am_w 409 (by decide +kernel) rfl
theorem w410 : (Cond.static ({ cls := "Clockhouse$Round", name := "countUnits", desc := "(I)I" } : MethodName)) ∈ lw_gw := am_w 410 (by decide +kernel) rfl
theorem w411 : (Cond.code ({ cls := "Clockhouse$Round", name := "countUnits", desc := "(I)I" } : MethodName) prog_9_method_8_code (3 : Nat) (Option.some FieldType.int)) ∈ lw_gw := am_w 411 (by decide +kernel) rfl
theorem w412 : (Cond.methodLink "Clockhouse$Round" (33 : Nat) ({ cls := "Clockhouse$Round", name := "commonOf", desc := "(II)I" } : MethodName)) ∈ lw_gw := am_w 412 (by decide +kernel) rfl
theorem w413 : (Cond.static ({ cls := "Clockhouse$Round", name := "commonOf", desc := "(II)I" } : MethodName)) ∈ lw_gw := am_w 413 (by decide +kernel) rfl
theorem w414 : (Cond.code ({ cls := "Clockhouse$Round", name := "commonOf", desc := "(II)I" } : MethodName) prog_9_method_2_code (6 : Nat) (Option.some FieldType.int)) ∈ lw_gw := am_w 414 (by decide +kernel) rfl
theorem w416 : (Cond.instanceMethod ({ cls := "Clockhouse", name := "isPrime", desc := "()Z" } : MethodName)) ∈ lw_gw := am_w 416 (by decide +kernel) rfl
theorem w417 : (Cond.selects "Clockhouse" ({ cls := "Clockhouse", name := "isPrime", desc := "()Z" } : MethodName) ({ cls := "Clockhouse", name := "isPrime", desc := "()Z" } : MethodName)) ∈ lw_gw := am_w 417 (by decide +kernel) rfl
theorem w418 : (Cond.code ({ cls := "Clockhouse", name := "isPrime", desc := "()Z" } : MethodName) prog_1_method_41_code (1 : Nat) (Option.some FieldType.boolean)) ∈ lw_gw := am_w 418 (by decide +kernel) rfl
theorem w419 : (Cond.methodLink "Clockhouse" (287 : Nat) ({ cls := "Clockhouse$Round", name := "primeHolds", desc := "(I)Z" } : MethodName)) ∈ lw_gw := am_w 419 (by decide +kernel) rfl
theorem w420 : (Cond.static ({ cls := "Clockhouse$Round", name := "primeHolds", desc := "(I)Z" } : MethodName)) ∈ lw_gw := am_w 420 (by decide +kernel) rfl
theorem w421 : (Cond.code ({ cls := "Clockhouse$Round", name := "primeHolds", desc := "(I)Z" } : MethodName) prog_9_method_12_code (2 : Nat) (Option.some FieldType.boolean)) ∈ lw_gw := am_w 421 (by decide +kernel) rfl
theorem w425 : (Cond.code ({ cls := "Clockhouse", name := "rows", desc := "()I" } : MethodName) prog_1_method_44_code (1 : Nat) (Option.some FieldType.int)) ∈ lw_gw := am_w 425 (by decide +kernel) rfl
theorem w429 : (Cond.code ({ cls := "Clockhouse", name := "isJoined", desc := "()Z" } : MethodName) prog_1_method_47_code (1 : Nat) (Option.some FieldType.boolean)) ∈ lw_gw := am_w 429 (by decide +kernel) rfl
theorem w430 : (Cond.methodLink "Clockhouse" (145 : Nat) ({ cls := "Clockhouse", name := "joinRows", desc := "()V" } : MethodName)) ∈ lw_gw := am_w 430 (by decide +kernel) rfl
theorem w432 : (Cond.instanceMethod ({ cls := "Clockhouse", name := "joinRows", desc := "()V" } : MethodName)) ∈ lw_gw := am_w 432 (by decide +kernel) rfl
theorem w433 : (Cond.code ({ cls := "Clockhouse", name := "joinRows", desc := "()V" } : MethodName) prog_1_method_71_code (2 : Nat) (Option.none : Option FieldType)) ∈ lw_gw := am_w 433 (by decide +kernel) rfl
theorem w434 : (Cond.methodLink "Clockhouse" (436 : Nat) ({ cls := "Clockhouse$Joiner", name := "clear", desc := "()V" } : MethodName)) ∈ lw_gw := am_w 434 (by decide +kernel) rfl
theorem w435 : (Cond.instanceMethod ({ cls := "Clockhouse$Joiner", name := "clear", desc := "()V" } : MethodName)) ∈ lw_gw := am_w 435 (by decide +kernel) rfl
theorem w436 : (Cond.selects "Clockhouse$Joiner" ({ cls := "Clockhouse$Joiner", name := "clear", desc := "()V" } : MethodName) ({ cls := "Clockhouse$Joiner", name := "clear", desc := "()V" } : MethodName)) ∈ lw_gw := am_w 436 (by decide +kernel) rfl
theorem w437 : (Cond.code ({ cls := "Clockhouse$Joiner", name := "clear", desc := "()V" } : MethodName) prog_6_method_2_code (1 : Nat) (Option.none : Option FieldType)) ∈ lw_gw := am_w 437 (by decide +kernel) rfl
theorem w438 : (Cond.methodLink "Clockhouse" (439 : Nat) ({ cls := "Clockhouse$Joiner", name := "join", desc := "(II)V" } : MethodName)) ∈ lw_gw := am_w 438 (by decide +kernel) rfl
theorem w439 : (Cond.instanceMethod ({ cls := "Clockhouse$Joiner", name := "join", desc := "(II)V" } : MethodName)) ∈ lw_gw := am_w 439 (by decide +kernel) rfl
theorem w440 : (Cond.selects "Clockhouse$Joiner" ({ cls := "Clockhouse$Joiner", name := "join", desc := "(II)V" } : MethodName) ({ cls := "Clockhouse$Joiner", name := "join", desc := "(II)V" } : MethodName)) ∈ lw_gw := am_w 440 (by decide +kernel) rfl
theorem w441 : (Cond.code ({ cls := "Clockhouse$Joiner", name := "join", desc := "(II)V" } : MethodName) prog_6_method_4_code (9 : Nat) (Option.none : Option FieldType)) ∈ lw_gw := am_w 441 (by decide +kernel) rfl
theorem w442 : (Cond.methodLink "Clockhouse$Joiner" (26 : Nat) ({ cls := "Clockhouse$Joiner", name := "admits", desc := "(II)Z" } : MethodName)) ∈ lw_gw := am_w 442 (by decide +kernel) rfl
theorem w443 : (Cond.instanceMethod ({ cls := "Clockhouse$Joiner", name := "admits", desc := "(II)Z" } : MethodName)) ∈ lw_gw := am_w 443 (by decide +kernel) rfl
theorem w444 : (Cond.selects "Clockhouse$Joiner" ({ cls := "Clockhouse$Joiner", name := "admits", desc := "(II)Z" } : MethodName) ({ cls := "Clockhouse$Joiner", name := "admits", desc := "(II)Z" } : MethodName)) ∈ lw_gw := am_w 444 (by decide +kernel) rfl
theorem w445 : (Cond.code ({ cls := "Clockhouse$Joiner", name := "admits", desc := "(II)Z" } : MethodName) prog_6_method_3_code (4 : Nat) (Option.some FieldType.boolean)) ∈ lw_gw := am_w 445 (by decide +kernel) rfl
theorem w446 : (Cond.methodLink "Clockhouse$Joiner" (20 : Nat) ({ cls := "Clockhouse$Round", name := "commonOf", desc := "(II)I" } : MethodName)) ∈ lw_gw := am_w 446 (by decide +kernel) rfl
theorem w447 : (Cond.methodLink "Clockhouse$Joiner" (30 : Nat) ({ cls := "java/lang/Math", name := "floorMod", desc := "(JJ)J" } : MethodName)) ∈ lw_gw := am_w 447 (by decide +kernel) rfl
theorem w448 : (Cond.static ({ cls := "java/lang/Math", name := "floorMod", desc := "(JJ)J" } : MethodName)) ∈ lw_gw := am_w 448 (by decide +kernel) rfl
theorem w449 : (Cond.code ({ cls := "java/lang/Math", name := "floorMod", desc := "(JJ)J" } : MethodName) prog_32_method_52_code (6 : Nat) (Option.some FieldType.long)) ∈ lw_gw := am_w 449 (by decide +kernel) rfl
theorem w450 : (Cond.methodLink "Clockhouse$Joiner" (36 : Nat) ({ cls := "Clockhouse$Round", name := "invert", desc := "(II)I" } : MethodName)) ∈ lw_gw := am_w 450 (by decide +kernel) rfl
theorem w451 : (Cond.static ({ cls := "Clockhouse$Round", name := "invert", desc := "(II)I" } : MethodName)) ∈ lw_gw := am_w 451 (by decide +kernel) rfl
theorem w452 : (Cond.code ({ cls := "Clockhouse$Round", name := "invert", desc := "(II)I" } : MethodName) prog_9_method_3_code (10 : Nat) (Option.some FieldType.int)) ∈ lw_gw := am_w 452 (by decide +kernel) rfl
theorem w456 : (Cond.code ({ cls := "Clockhouse", name := "answer", desc := "()Ljava/lang/String;" } : MethodName) prog_1_method_49_code (1 : Nat) (Option.some (FieldType.object "java/lang/String"))) ∈ lw_gw := am_w 456 (by decide +kernel) rfl
theorem w457 : (Cond.methodLink "Clockhouse" (319 : Nat) ({ cls := "Clockhouse", name := "textOfLong", desc := "(J)Ljava/lang/String;" } : MethodName)) ∈ lw_gw := am_w 457 (by decide +kernel) rfl
theorem w459 : (Cond.instanceMethod ({ cls := "Clockhouse", name := "textOfLong", desc := "(J)Ljava/lang/String;" } : MethodName)) ∈ lw_gw := am_w 459 (by decide +kernel) rfl
theorem w460 : (Cond.code ({ cls := "Clockhouse", name := "textOfLong", desc := "(J)Ljava/lang/String;" } : MethodName) prog_1_method_77_code (3 : Nat) (Option.some (FieldType.object "java/lang/String"))) ∈ lw_gw := am_w 460 (by decide +kernel) rfl
theorem w461 : (Cond.methodLink "Clockhouse" (90 : Nat) ({ cls := "Clockhouse$Big", name := "becomeLong", desc := "(J)V" } : MethodName)) ∈ lw_gw := am_w 461 (by decide +kernel) rfl
theorem w462 : (Cond.instanceMethod ({ cls := "Clockhouse$Big", name := "becomeLong", desc := "(J)V" } : MethodName)) ∈ lw_gw := am_w 462 (by decide +kernel) rfl
theorem w463 : (Cond.selects "Clockhouse$Big" ({ cls := "Clockhouse$Big", name := "becomeLong", desc := "(J)V" } : MethodName) ({ cls := "Clockhouse$Big", name := "becomeLong", desc := "(J)V" } : MethodName)) ∈ lw_gw := am_w 463 (by decide +kernel) rfl
theorem w464 : (Cond.code ({ cls := "Clockhouse$Big", name := "becomeLong", desc := "(J)V" } : MethodName) prog_2_method_8_code (6 : Nat) (Option.none : Option FieldType)) ∈ lw_gw := am_w 464 (by decide +kernel) rfl
theorem w465 : (Cond.methodLink "Clockhouse$Big" (28 : Nat) ({ cls := "Clockhouse$Big", name := "clear", desc := "()V" } : MethodName)) ∈ lw_gw := am_w 465 (by decide +kernel) rfl
theorem w466 : (Cond.instanceMethod ({ cls := "Clockhouse$Big", name := "clear", desc := "()V" } : MethodName)) ∈ lw_gw := am_w 466 (by decide +kernel) rfl
theorem w467 : (Cond.selects "Clockhouse$Big" ({ cls := "Clockhouse$Big", name := "clear", desc := "()V" } : MethodName) ({ cls := "Clockhouse$Big", name := "clear", desc := "()V" } : MethodName)) ∈ lw_gw := am_w 467 (by decide +kernel) rfl
theorem w468 : (Cond.code ({ cls := "Clockhouse$Big", name := "clear", desc := "()V" } : MethodName) prog_2_method_6_code (2 : Nat) (Option.none : Option FieldType)) ∈ lw_gw := am_w 468 (by decide +kernel) rfl
theorem w469 : (Cond.constantLong "Clockhouse$Big" (31 : Nat) (1000000000 : Int64)) ∈ lw_gw := am_w 469 (by decide +kernel) rfl
theorem w470 : (Cond.methodLink "Clockhouse$Big" (33 : Nat) ({ cls := "Clockhouse$Big", name := "settle", desc := "(I)V" } : MethodName)) ∈ lw_gw := am_w 470 (by decide +kernel) rfl
theorem w471 : (Cond.instanceMethod ({ cls := "Clockhouse$Big", name := "settle", desc := "(I)V" } : MethodName)) ∈ lw_gw := am_w 471 (by decide +kernel) rfl
theorem w472 : (Cond.selects "Clockhouse$Big" ({ cls := "Clockhouse$Big", name := "settle", desc := "(I)V" } : MethodName) ({ cls := "Clockhouse$Big", name := "settle", desc := "(I)V" } : MethodName)) ∈ lw_gw := am_w 472 (by decide +kernel) rfl
theorem w473 : (Cond.code ({ cls := "Clockhouse$Big", name := "settle", desc := "(I)V" } : MethodName) prog_2_method_5_code (3 : Nat) (Option.none : Option FieldType)) ∈ lw_gw := am_w 473 (by decide +kernel) rfl
theorem w474 : (Cond.methodLink "Clockhouse" (195 : Nat) ({ cls := "Clockhouse", name := "textOf", desc := "(LClockhouse$Big;)Ljava/lang/String;" } : MethodName)) ∈ lw_gw := am_w 474 (by decide +kernel) rfl
theorem w476 : (Cond.instanceMethod ({ cls := "Clockhouse", name := "textOf", desc := "(LClockhouse$Big;)Ljava/lang/String;" } : MethodName)) ∈ lw_gw := am_w 476 (by decide +kernel) rfl
theorem w477 : (Cond.code ({ cls := "Clockhouse", name := "textOf", desc := "(LClockhouse$Big;)Ljava/lang/String;" } : MethodName) prog_1_method_76_code (2 : Nat) (Option.some (FieldType.object "java/lang/String"))) ∈ lw_gw := am_w 477 (by decide +kernel) rfl
theorem w478 : (Cond.methodLink "Clockhouse" (265 : Nat) ({ cls := "java/lang/StringBuilder", name := "setLength", desc := "(I)V" } : MethodName)) ∈ lw_gw := am_w 478 (by decide +kernel) rfl
theorem w479 : (Cond.instanceMethod ({ cls := "java/lang/StringBuilder", name := "setLength", desc := "(I)V" } : MethodName)) ∈ lw_gw := am_w 479 (by decide +kernel) rfl
theorem w480 : (Cond.selects "java/lang/StringBuilder" ({ cls := "java/lang/StringBuilder", name := "setLength", desc := "(I)V" } : MethodName) ({ cls := "java/lang/StringBuilder", name := "setLength", desc := "(I)V" } : MethodName)) ∈ lw_gw := am_w 480 (by decide +kernel) rfl
theorem w481 : (Cond.code ({ cls := "java/lang/StringBuilder", name := "setLength", desc := "(I)V" } : MethodName) prog_36_method_89_code (2 : Nat) (Option.none : Option FieldType)) ∈ lw_gw := am_w 481 (by decide +kernel) rfl
theorem w482 : (Cond.methodLink "java/lang/StringBuilder" (333 : Nat) ({ cls := "java/lang/AbstractStringBuilder", name := "setLength", desc := "(I)V" } : MethodName)) ∈ lw_gw := am_w 482 (by decide +kernel) rfl
theorem w483 : (Cond.instanceMethod ({ cls := "java/lang/AbstractStringBuilder", name := "setLength", desc := "(I)V" } : MethodName)) ∈ lw_gw := am_w 483 (by decide +kernel) rfl
theorem w484 : (Cond.code ({ cls := "java/lang/AbstractStringBuilder", name := "setLength", desc := "(I)V" } : MethodName) prog_18_method_13_code (2 : Nat) (Option.none : Option FieldType)) ∈ lw_gw := am_w 484 (by decide +kernel) rfl
theorem w504 : (Cond.methodLink "java/lang/AbstractStringBuilder" (100 : Nat) ({ cls := "java/lang/AbstractStringBuilder", name := "ensureCapacityInternal", desc := "(I)V" } : MethodName)) ∈ lw_gw := am_w 504 (by decide +kernel) rfl
theorem w506 : (Cond.instanceMethod ({ cls := "java/lang/AbstractStringBuilder", name := "ensureCapacityInternal", desc := "(I)V" } : MethodName)) ∈ lw_gw := am_w 506 (by decide +kernel) rfl
theorem w507 : (Cond.code ({ cls := "java/lang/AbstractStringBuilder", name := "ensureCapacityInternal", desc := "(I)V" } : MethodName) prog_18_method_9_code (3 : Nat) (Option.none : Option FieldType)) ∈ lw_gw := am_w 507 (by decide +kernel) rfl
theorem w508 : (Cond.methodLink "java/lang/AbstractStringBuilder" (104 : Nat) ({ cls := "java/lang/AbstractStringBuilder", name := "newCapacity", desc := "(I)I" } : MethodName)) ∈ lw_gw := am_w 508 (by decide +kernel) rfl
theorem w510 : (Cond.instanceMethod ({ cls := "java/lang/AbstractStringBuilder", name := "newCapacity", desc := "(I)I" } : MethodName)) ∈ lw_gw := am_w 510 (by decide +kernel) rfl
theorem w511 : (Cond.code ({ cls := "java/lang/AbstractStringBuilder", name := "newCapacity", desc := "(I)I" } : MethodName) prog_18_method_10_code (6 : Nat) (Option.some FieldType.int)) ∈ lw_gw := am_w 511 (by decide +kernel) rfl
theorem w512 : (Cond.methodLink "java/lang/AbstractStringBuilder" (114 : Nat) ({ cls := "jdk/internal/util/ArraysSupport", name := "newLength", desc := "(III)I" } : MethodName)) ∈ lw_gw := am_w 512 (by decide +kernel) rfl
theorem w513 : (Cond.static ({ cls := "jdk/internal/util/ArraysSupport", name := "newLength", desc := "(III)I" } : MethodName)) ∈ lw_gw := am_w 513 (by decide +kernel) rfl
theorem w514 : (Cond.code ({ cls := "jdk/internal/util/ArraysSupport", name := "newLength", desc := "(III)I" } : MethodName) prog_55_method_27_code (4 : Nat) (Option.some FieldType.int)) ∈ lw_gw := am_w 514 (by decide +kernel) rfl
theorem w515 : (Cond.methodLink "jdk/internal/util/ArraysSupport" (194 : Nat) ({ cls := "java/lang/Math", name := "max", desc := "(II)I" } : MethodName)) ∈ lw_gw := am_w 515 (by decide +kernel) rfl
theorem w516 : (Cond.static ({ cls := "java/lang/Math", name := "max", desc := "(II)I" } : MethodName)) ∈ lw_gw := am_w 516 (by decide +kernel) rfl
theorem w517 : (Cond.code ({ cls := "java/lang/Math", name := "max", desc := "(II)I" } : MethodName) prog_32_method_65_code (2 : Nat) (Option.some FieldType.int)) ∈ lw_gw := am_w 517 (by decide +kernel) rfl
theorem w518 : (Cond.constant "jdk/internal/util/ArraysSupport" (200 : Nat) (2147483639 : Int32)) ∈ lw_gw := am_w 518 (by decide +kernel) rfl
theorem w522 : (Cond.constant "java/lang/AbstractStringBuilder" (39 : Nat) (2147483647 : Int32)) ∈ lw_gw := am_w 522 (by decide +kernel) rfl
theorem w523 : (Cond.methodLink "java/lang/AbstractStringBuilder" (108 : Nat) ({ cls := "java/util/Arrays", name := "copyOf", desc := "([BI)[B" } : MethodName)) ∈ lw_gw := am_w 523 (by decide +kernel) rfl
theorem w524 : (Cond.static ({ cls := "java/util/Arrays", name := "copyOf", desc := "([BI)[B" } : MethodName)) ∈ lw_gw := am_w 524 (by decide +kernel) rfl
theorem w525 : (Cond.code ({ cls := "java/util/Arrays", name := "copyOf", desc := "([BI)[B" } : MethodName) prog_48_method_121_code (3 : Nat) (Option.some (FieldType.array FieldType.byte))) ∈ lw_gw := am_w 525 (by decide +kernel) rfl
theorem w526 : (Cond.methodLink "java/util/Arrays" (310 : Nat) ({ cls := "[B", name := "clone", desc := "()Ljava/lang/Object;" } : MethodName)) ∈ lw_gw := am_w 526 (by decide +kernel) rfl
theorem w527 : (Cond.sameMethod "[B" "java/lang/Object" "clone" "()Ljava/lang/Object;") ∈ lw_gw := am_w 527 (by decide +kernel) rfl
theorem w528 : (Cond.native ({ cls := "java/lang/Object", name := "clone", desc := "()Ljava/lang/Object;" } : MethodName)) ∈ lw_gw := am_w 528 (by decide +kernel) rfl
theorem w529 : (Cond.instanceMethod ({ cls := "java/lang/Object", name := "clone", desc := "()Ljava/lang/Object;" } : MethodName)) ∈ lw_gw := am_w 529 (by decide +kernel) rfl
theorem w530 : (Cond.selects "[B" ({ cls := "[B", name := "clone", desc := "()Ljava/lang/Object;" } : MethodName) ({ cls := "java/lang/Object", name := "clone", desc := "()Ljava/lang/Object;" } : MethodName)) ∈ lw_gw := am_w 530 (by decide +kernel) rfl
theorem w531 : (Cond.castable "[B" "java/lang/Cloneable") ∈ lw_ng := am_ng 531 (by decide +kernel) rfl
theorem w532 : (Cond.classLink "java/util/Arrays" (311 : Nat) "[B") ∈ lw_gw := am_w 532 (by decide +kernel) rfl
theorem w533 : (Cond.methodLink "java/util/Arrays" (304 : Nat) ({ cls := "java/lang/Math", name := "min", desc := "(II)I" } : MethodName)) ∈ lw_gw := am_w 533 (by decide +kernel) rfl
theorem w534 : (Cond.static ({ cls := "java/lang/Math", name := "min", desc := "(II)I" } : MethodName)) ∈ lw_gw := am_w 534 (by decide +kernel) rfl
theorem w535 : (Cond.code ({ cls := "java/lang/Math", name := "min", desc := "(II)I" } : MethodName) prog_32_method_69_code (2 : Nat) (Option.some FieldType.int)) ∈ lw_gw := am_w 535 (by decide +kernel) rfl
theorem w536 : (Cond.methodLink "java/util/Arrays" (150 : Nat) ({ cls := "java/lang/System", name := "arraycopy", desc := "(Ljava/lang/Object;ILjava/lang/Object;II)V" } : MethodName)) ∈ lw_gw := am_w 536 (by decide +kernel) rfl
theorem w537 : (Cond.static ({ cls := "java/lang/System", name := "arraycopy", desc := "(Ljava/lang/Object;ILjava/lang/Object;II)V" } : MethodName)) ∈ lw_gw := am_w 537 (by decide +kernel) rfl
theorem w538 : (Cond.native ({ cls := "java/lang/System", name := "arraycopy", desc := "(Ljava/lang/Object;ILjava/lang/Object;II)V" } : MethodName)) ∈ lw_gw := am_w 538 (by decide +kernel) rfl
theorem w539 : (Cond.methodLink "java/lang/AbstractStringBuilder" (83 : Nat) ({ cls := "java/lang/AbstractStringBuilder", name := "isLatin1", desc := "()Z" } : MethodName)) ∈ lw_gw := am_w 539 (by decide +kernel) rfl
theorem w540 : (Cond.instanceMethod ({ cls := "java/lang/AbstractStringBuilder", name := "isLatin1", desc := "()Z" } : MethodName)) ∈ lw_gw := am_w 540 (by decide +kernel) rfl
theorem w541 : (Cond.sameMethod "java/lang/AbstractStringBuilder" "java/lang/AbstractStringBuilder" "isLatin1" "()Z") ∈ lw_gw := am_w 541 (by decide +kernel) rfl
theorem w542 : (Cond.selects "java/lang/StringBuilder" ({ cls := "java/lang/AbstractStringBuilder", name := "isLatin1", desc := "()Z" } : MethodName) ({ cls := "java/lang/AbstractStringBuilder", name := "isLatin1", desc := "()Z" } : MethodName)) ∈ lw_gw := am_w 542 (by decide +kernel) rfl
theorem w543 : (Cond.code ({ cls := "java/lang/AbstractStringBuilder", name := "isLatin1", desc := "()Z" } : MethodName) prog_18_method_68_code (1 : Nat) (Option.some FieldType.boolean)) ∈ lw_gw := am_w 543 (by decide +kernel) rfl
theorem w571 : (Cond.instanceMethod ({ cls := "java/lang/String", name := "length", desc := "()I" } : MethodName)) ∈ lw_gw := am_w 571 (by decide +kernel) rfl
theorem w572 : (Cond.selects "java/lang/String" ({ cls := "java/lang/String", name := "length", desc := "()I" } : MethodName) ({ cls := "java/lang/String", name := "length", desc := "()I" } : MethodName)) ∈ lw_gw := am_w 572 (by decide +kernel) rfl
theorem w573 : (Cond.code ({ cls := "java/lang/String", name := "length", desc := "()I" } : MethodName) prog_35_method_54_code (1 : Nat) (Option.some FieldType.int)) ∈ lw_gw := am_w 573 (by decide +kernel) rfl
theorem w574 : (Cond.methodLink "java/lang/String" (335 : Nat) ({ cls := "java/lang/String", name := "coder", desc := "()B" } : MethodName)) ∈ lw_gw := am_w 574 (by decide +kernel) rfl
theorem w575 : (Cond.instanceMethod ({ cls := "java/lang/String", name := "coder", desc := "()B" } : MethodName)) ∈ lw_gw := am_w 575 (by decide +kernel) rfl
theorem w576 : (Cond.selects "java/lang/String" ({ cls := "java/lang/String", name := "coder", desc := "()B" } : MethodName) ({ cls := "java/lang/String", name := "coder", desc := "()B" } : MethodName)) ∈ lw_gw := am_w 576 (by decide +kernel) rfl
theorem w577 : (Cond.code ({ cls := "java/lang/String", name := "coder", desc := "()B" } : MethodName) prog_35_method_152_code (1 : Nat) (Option.some FieldType.byte)) ∈ lw_gw := am_w 577 (by decide +kernel) rfl
theorem w578 : (Cond.fieldLink "java/lang/String" (38 : Nat) "java/lang/String" "COMPACT_STRINGS" "Z") ∈ lw_gw := am_w 578 (by decide +kernel) rfl
theorem w614 : (Cond.instanceMethod ({ cls := "java/lang/StringBuilder", name := "append", desc := "(I)Ljava/lang/StringBuilder;" } : MethodName)) ∈ lw_gw := am_w 614 (by decide +kernel) rfl
theorem w615 : (Cond.selects "java/lang/StringBuilder" ({ cls := "java/lang/StringBuilder", name := "append", desc := "(I)Ljava/lang/StringBuilder;" } : MethodName) ({ cls := "java/lang/StringBuilder", name := "append", desc := "(I)Ljava/lang/StringBuilder;" } : MethodName)) ∈ lw_gw := am_w 615 (by decide +kernel) rfl
theorem w616 : (Cond.code ({ cls := "java/lang/StringBuilder", name := "append", desc := "(I)Ljava/lang/StringBuilder;" } : MethodName) prog_36_method_15_code (2 : Nat) (Option.some (FieldType.object "java/lang/StringBuilder"))) ∈ lw_gw := am_w 616 (by decide +kernel) rfl
theorem w617 : (Cond.methodLink "java/lang/StringBuilder" (53 : Nat) ({ cls := "java/lang/AbstractStringBuilder", name := "append", desc := "(I)Ljava/lang/AbstractStringBuilder;" } : MethodName)) ∈ lw_gw := am_w 617 (by decide +kernel) rfl
theorem w618 : (Cond.instanceMethod ({ cls := "java/lang/AbstractStringBuilder", name := "append", desc := "(I)Ljava/lang/AbstractStringBuilder;" } : MethodName)) ∈ lw_gw := am_w 618 (by decide +kernel) rfl
theorem w619 : (Cond.code ({ cls := "java/lang/AbstractStringBuilder", name := "append", desc := "(I)Ljava/lang/AbstractStringBuilder;" } : MethodName) prog_18_method_32_code (4 : Nat) (Option.some (FieldType.object "java/lang/AbstractStringBuilder"))) ∈ lw_gw := am_w 619 (by decide +kernel) rfl
theorem w620 : (Cond.methodLink "java/lang/AbstractStringBuilder" (245 : Nat) ({ cls := "java/lang/Integer", name := "stringSize", desc := "(I)I" } : MethodName)) ∈ lw_gw := am_w 620 (by decide +kernel) rfl
theorem w621 : (Cond.static ({ cls := "java/lang/Integer", name := "stringSize", desc := "(I)I" } : MethodName)) ∈ lw_gw := am_w 621 (by decide +kernel) rfl
theorem w622 : (Cond.code ({ cls := "java/lang/Integer", name := "stringSize", desc := "(I)I" } : MethodName) prog_28_method_13_code (4 : Nat) (Option.some FieldType.int)) ∈ lw_gw := am_w 622 (by decide +kernel) rfl
theorem w623 : (Cond.methodLink "java/lang/AbstractStringBuilder" (248 : Nat) ({ cls := "java/lang/Integer", name := "getChars", desc := "(II[B)I" } : MethodName)) ∈ lw_gw := am_w 623 (by decide +kernel) rfl
theorem w624 : (Cond.static ({ cls := "java/lang/Integer", name := "getChars", desc := "(II[B)I" } : MethodName)) ∈ lw_gw := am_w 624 (by decide +kernel) rfl
theorem w625 : (Cond.code ({ cls := "java/lang/Integer", name := "getChars", desc := "(II[B)I" } : MethodName) prog_28_method_12_code (7 : Nat) (Option.some FieldType.int)) ∈ lw_gw := am_w 625 (by decide +kernel) rfl
theorem w626 : (Cond.fieldLink "java/lang/Integer" (83 : Nat) "java/lang/Integer" "DigitOnes" "[B") ∈ lw_gw := am_w 626 (by decide +kernel) rfl
theorem w628 : (Cond.fieldLink "java/lang/Integer" (87 : Nat) "java/lang/Integer" "DigitTens" "[B") ∈ lw_gw := am_w 628 (by decide +kernel) rfl
theorem w639 : (Cond.instanceMethod ({ cls := "java/lang/StringBuilder", name := "toString", desc := "()Ljava/lang/String;" } : MethodName)) ∈ lw_gw := am_w 639 (by decide +kernel) rfl
theorem w640 : (Cond.selects "java/lang/StringBuilder" ({ cls := "java/lang/StringBuilder", name := "toString", desc := "()Ljava/lang/String;" } : MethodName) ({ cls := "java/lang/StringBuilder", name := "toString", desc := "()Ljava/lang/String;" } : MethodName)) ∈ lw_gw := am_w 640 (by decide +kernel) rfl
theorem w641 : (Cond.code ({ cls := "java/lang/StringBuilder", name := "toString", desc := "()Ljava/lang/String;" } : MethodName) prog_36_method_42_code (1 : Nat) (Option.some (FieldType.object "java/lang/String"))) ∈ lw_gw := am_w 641 (by decide +kernel) rfl
theorem w642 : (Cond.classLink "java/lang/StringBuilder" (18 : Nat) "java/lang/String") ∈ lw_gw := am_w 642 (by decide +kernel) rfl
theorem w643 : (Cond.instantiable "java/lang/String" (4 : Nat)) ∈ lw_gw := am_w 643 (by decide +kernel) rfl
theorem w644 : (Cond.methodLink "java/lang/StringBuilder" (137 : Nat) ({ cls := "java/lang/String", name := "<init>", desc := "(Ljava/lang/StringBuilder;)V" } : MethodName)) ∈ lw_gw := am_w 644 (by decide +kernel) rfl
theorem w645 : (Cond.instanceMethod ({ cls := "java/lang/String", name := "<init>", desc := "(Ljava/lang/StringBuilder;)V" } : MethodName)) ∈ lw_gw := am_w 645 (by decide +kernel) rfl
theorem w646 : (Cond.code ({ cls := "java/lang/String", name := "<init>", desc := "(Ljava/lang/StringBuilder;)V" } : MethodName) prog_35_method_53_code (2 : Nat) (Option.none : Option FieldType)) ∈ lw_gw := am_w 646 (by decide +kernel) rfl
theorem w647 : (Cond.methodLink "java/lang/String" (489 : Nat) ({ cls := "java/lang/String", name := "<init>", desc := "(Ljava/lang/AbstractStringBuilder;Ljava/lang/Void;)V" } : MethodName)) ∈ lw_gw := am_w 647 (by decide +kernel) rfl
theorem w648 : (Cond.instanceMethod ({ cls := "java/lang/String", name := "<init>", desc := "(Ljava/lang/AbstractStringBuilder;Ljava/lang/Void;)V" } : MethodName)) ∈ lw_gw := am_w 648 (by decide +kernel) rfl
theorem w649 : (Cond.code ({ cls := "java/lang/String", name := "<init>", desc := "(Ljava/lang/AbstractStringBuilder;Ljava/lang/Void;)V" } : MethodName) prog_35_method_150_code (5 : Nat) (Option.none : Option FieldType)) ∈ lw_gw := am_w 649 (by decide +kernel) rfl
theorem w650 : (Cond.methodLink "java/lang/String" (1 : Nat) ({ cls := "java/lang/Object", name := "<init>", desc := "()V" } : MethodName)) ∈ lw_gw := am_w 650 (by decide +kernel) rfl
theorem w651 : (Cond.methodLink "java/lang/String" (552 : Nat) ({ cls := "java/lang/AbstractStringBuilder", name := "getValue", desc := "()[B" } : MethodName)) ∈ lw_gw := am_w 651 (by decide +kernel) rfl
theorem w652 : (Cond.instanceMethod ({ cls := "java/lang/AbstractStringBuilder", name := "getValue", desc := "()[B" } : MethodName)) ∈ lw_gw := am_w 652 (by decide +kernel) rfl
theorem w653 : (Cond.sameMethod "java/lang/AbstractStringBuilder" "java/lang/AbstractStringBuilder" "getValue" "()[B") ∈ lw_gw := am_w 653 (by decide +kernel) rfl
theorem w654 : (Cond.selects "java/lang/StringBuilder" ({ cls := "java/lang/AbstractStringBuilder", name := "getValue", desc := "()[B" } : MethodName) ({ cls := "java/lang/AbstractStringBuilder", name := "getValue", desc := "()[B" } : MethodName)) ∈ lw_gw := am_w 654 (by decide +kernel) rfl
theorem w655 : (Cond.code ({ cls := "java/lang/AbstractStringBuilder", name := "getValue", desc := "()[B" } : MethodName) prog_18_method_64_code (1 : Nat) (Option.some (FieldType.array FieldType.byte))) ∈ lw_gw := am_w 655 (by decide +kernel) rfl
theorem w656 : (Cond.methodLink "java/lang/String" (549 : Nat) ({ cls := "java/lang/AbstractStringBuilder", name := "length", desc := "()I" } : MethodName)) ∈ lw_gw := am_w 656 (by decide +kernel) rfl
theorem w657 : (Cond.instanceMethod ({ cls := "java/lang/AbstractStringBuilder", name := "length", desc := "()I" } : MethodName)) ∈ lw_gw := am_w 657 (by decide +kernel) rfl
theorem w658 : (Cond.sameMethod "java/lang/AbstractStringBuilder" "java/lang/AbstractStringBuilder" "length" "()I") ∈ lw_gw := am_w 658 (by decide +kernel) rfl
theorem w659 : (Cond.selects "java/lang/StringBuilder" ({ cls := "java/lang/AbstractStringBuilder", name := "length", desc := "()I" } : MethodName) ({ cls := "java/lang/StringBuilder", name := "length", desc := "()I" } : MethodName)) ∈ lw_gw := am_w 659 (by decide +kernel) rfl
theorem w660 : (Cond.instanceMethod ({ cls := "java/lang/StringBuilder", name := "length", desc := "()I" } : MethodName)) ∈ lw_gw := am_w 660 (by decide +kernel) rfl
theorem w661 : (Cond.code ({ cls := "java/lang/StringBuilder", name := "length", desc := "()I" } : MethodName) prog_36_method_93_code (1 : Nat) (Option.some FieldType.int)) ∈ lw_gw := am_w 661 (by decide +kernel) rfl
theorem w662 : (Cond.methodLink "java/lang/StringBuilder" (343 : Nat) ({ cls := "java/lang/AbstractStringBuilder", name := "length", desc := "()I" } : MethodName)) ∈ lw_gw := am_w 662 (by decide +kernel) rfl
theorem w663 : (Cond.code ({ cls := "java/lang/AbstractStringBuilder", name := "length", desc := "()I" } : MethodName) prog_18_method_6_code (1 : Nat) (Option.some FieldType.int)) ∈ lw_gw := am_w 663 (by decide +kernel) rfl
theorem w664 : (Cond.methodLink "java/lang/String" (1047 : Nat) ({ cls := "java/lang/AbstractStringBuilder", name := "isLatin1", desc := "()Z" } : MethodName)) ∈ lw_gw := am_w 664 (by decide +kernel) rfl
theorem w665 : (Cond.methodLink "java/lang/String" (54 : Nat) ({ cls := "java/util/Arrays", name := "copyOfRange", desc := "([BII)[B" } : MethodName)) ∈ lw_gw := am_w 665 (by decide +kernel) rfl
theorem w666 : (Cond.static ({ cls := "java/util/Arrays", name := "copyOfRange", desc := "([BII)[B" } : MethodName)) ∈ lw_gw := am_w 666 (by decide +kernel) rfl
theorem w667 : (Cond.code ({ cls := "java/util/Arrays", name := "copyOfRange", desc := "([BII)[B" } : MethodName) prog_48_method_132_code (3 : Nat) (Option.some (FieldType.array FieldType.byte))) ∈ lw_gw := am_w 667 (by decide +kernel) rfl
theorem w668 : (Cond.methodLink "java/util/Arrays" (339 : Nat) ({ cls := "java/util/Arrays", name := "copyOfRangeByte", desc := "([BII)[B" } : MethodName)) ∈ lw_gw := am_w 668 (by decide +kernel) rfl
theorem w669 : (Cond.static ({ cls := "java/util/Arrays", name := "copyOfRangeByte", desc := "([BII)[B" } : MethodName)) ∈ lw_gw := am_w 669 (by decide +kernel) rfl
theorem w670 : (Cond.code ({ cls := "java/util/Arrays", name := "copyOfRangeByte", desc := "([BII)[B" } : MethodName) prog_48_method_133_code (5 : Nat) (Option.some (FieldType.array FieldType.byte))) ∈ lw_gw := am_w 670 (by decide +kernel) rfl
theorem w671 : (Cond.methodLink "java/util/Arrays" (343 : Nat) ({ cls := "java/util/Arrays", name := "checkLength", desc := "(II)V" } : MethodName)) ∈ lw_gw := am_w 671 (by decide +kernel) rfl
theorem w672 : (Cond.static ({ cls := "java/util/Arrays", name := "checkLength", desc := "(II)V" } : MethodName)) ∈ lw_gw := am_w 672 (by decide +kernel) rfl
theorem w673 : (Cond.code ({ cls := "java/util/Arrays", name := "checkLength", desc := "(II)V" } : MethodName) prog_48_method_131_code (2 : Nat) (Option.none : Option FieldType)) ∈ lw_gw := am_w 673 (by decide +kernel) rfl
theorem w676 : (Cond.castable "java/lang/IllegalArgumentException" "java/lang/IllegalArgumentException") ∈ lw_ng := am_ng 676 (by decide +kernel) rfl
theorem w761 : (Cond.fieldLink "java/lang/String" (9 : Nat) "java/lang/String" "value" "[B") ∈ lw_gw := am_w 761 (by decide +kernel) rfl
theorem w762 : (Cond.fieldLink "java/lang/String" (15 : Nat) "java/lang/String" "coder" "B") ∈ lw_gw := am_w 762 (by decide +kernel) rfl
theorem w763 : (Cond.laysFinal "java/lang/String" "java/lang/String" "value" "[B") ∈ lw_gw := am_w 763 (by decide +kernel) rfl
theorem w765 : (Cond.laysFinal "java/lang/String" "java/lang/String" "coder" "B") ∈ lw_gw := am_w 765 (by decide +kernel) rfl
theorem w767 : (Cond.lays "java/lang/String" "java/lang/String" "hash" "I") ∈ lw_gw := am_w 767 (by decide +kernel) rfl
theorem w769 : (Cond.lays "java/lang/String" "java/lang/String" "hashIsZero" "Z") ∈ lw_gw := am_w 769 (by decide +kernel) rfl
theorem w822 : (Cond.methodLink "Clockhouse" (445 : Nat) ({ cls := "Clockhouse$Big", name := "writeTo", desc := "(Ljava/lang/StringBuilder;)V" } : MethodName)) ∈ lw_gw := am_w 822 (by decide +kernel) rfl
theorem w823 : (Cond.instanceMethod ({ cls := "Clockhouse$Big", name := "writeTo", desc := "(Ljava/lang/StringBuilder;)V" } : MethodName)) ∈ lw_gw := am_w 823 (by decide +kernel) rfl
theorem w824 : (Cond.selects "Clockhouse$Big" ({ cls := "Clockhouse$Big", name := "writeTo", desc := "(Ljava/lang/StringBuilder;)V" } : MethodName) ({ cls := "Clockhouse$Big", name := "writeTo", desc := "(Ljava/lang/StringBuilder;)V" } : MethodName)) ∈ lw_gw := am_w 824 (by decide +kernel) rfl
theorem w825 : (Cond.code ({ cls := "Clockhouse$Big", name := "writeTo", desc := "(Ljava/lang/StringBuilder;)V" } : MethodName) prog_2_method_18_code (5 : Nat) (Option.none : Option FieldType)) ∈ lw_gw := am_w 825 (by decide +kernel) rfl
theorem w826 : (Cond.methodLink "Clockhouse$Big" (67 : Nat) ({ cls := "java/lang/StringBuilder", name := "append", desc := "(C)Ljava/lang/StringBuilder;" } : MethodName)) ∈ lw_gw := am_w 826 (by decide +kernel) rfl
theorem w827 : (Cond.instanceMethod ({ cls := "java/lang/StringBuilder", name := "append", desc := "(C)Ljava/lang/StringBuilder;" } : MethodName)) ∈ lw_gw := am_w 827 (by decide +kernel) rfl
theorem w828 : (Cond.selects "java/lang/StringBuilder" ({ cls := "java/lang/StringBuilder", name := "append", desc := "(C)Ljava/lang/StringBuilder;" } : MethodName) ({ cls := "java/lang/StringBuilder", name := "append", desc := "(C)Ljava/lang/StringBuilder;" } : MethodName)) ∈ lw_gw := am_w 828 (by decide +kernel) rfl
theorem w829 : (Cond.code ({ cls := "java/lang/StringBuilder", name := "append", desc := "(C)Ljava/lang/StringBuilder;" } : MethodName) prog_36_method_14_code (2 : Nat) (Option.some (FieldType.object "java/lang/StringBuilder"))) ∈ lw_gw := am_w 829 (by decide +kernel) rfl
theorem w830 : (Cond.methodLink "java/lang/StringBuilder" (50 : Nat) ({ cls := "java/lang/AbstractStringBuilder", name := "append", desc := "(C)Ljava/lang/AbstractStringBuilder;" } : MethodName)) ∈ lw_gw := am_w 830 (by decide +kernel) rfl
theorem w831 : (Cond.instanceMethod ({ cls := "java/lang/AbstractStringBuilder", name := "append", desc := "(C)Ljava/lang/AbstractStringBuilder;" } : MethodName)) ∈ lw_gw := am_w 831 (by decide +kernel) rfl
theorem w832 : (Cond.code ({ cls := "java/lang/AbstractStringBuilder", name := "append", desc := "(C)Ljava/lang/AbstractStringBuilder;" } : MethodName) prog_18_method_31_code (2 : Nat) (Option.some (FieldType.object "java/lang/AbstractStringBuilder"))) ∈ lw_gw := am_w 832 (by decide +kernel) rfl
theorem w833 : (Cond.methodLink "java/lang/AbstractStringBuilder" (191 : Nat) ({ cls := "java/lang/StringLatin1", name := "canEncode", desc := "(C)Z" } : MethodName)) ∈ lw_gw := am_w 833 (by decide +kernel) rfl
theorem w834 : (Cond.static ({ cls := "java/lang/StringLatin1", name := "canEncode", desc := "(C)Z" } : MethodName)) ∈ lw_gw := am_w 834 (by decide +kernel) rfl
theorem w835 : (Cond.code ({ cls := "java/lang/StringLatin1", name := "canEncode", desc := "(C)Z" } : MethodName) prog_38_method_3_code (1 : Nat) (Option.some FieldType.boolean)) ∈ lw_gw := am_w 835 (by decide +kernel) rfl
theorem w848 : (Cond.methodLink "Clockhouse$Big" (55 : Nat) ({ cls := "Clockhouse$Big", name := "limb", desc := "(I)I" } : MethodName)) ∈ lw_gw := am_w 848 (by decide +kernel) rfl
theorem w849 : (Cond.instanceMethod ({ cls := "Clockhouse$Big", name := "limb", desc := "(I)I" } : MethodName)) ∈ lw_gw := am_w 849 (by decide +kernel) rfl
theorem w850 : (Cond.selects "Clockhouse$Big" ({ cls := "Clockhouse$Big", name := "limb", desc := "(I)I" } : MethodName) ({ cls := "Clockhouse$Big", name := "limb", desc := "(I)I" } : MethodName)) ∈ lw_gw := am_w 850 (by decide +kernel) rfl
theorem w851 : (Cond.code ({ cls := "Clockhouse$Big", name := "limb", desc := "(I)I" } : MethodName) prog_2_method_2_code (2 : Nat) (Option.some FieldType.int)) ∈ lw_gw := am_w 851 (by decide +kernel) rfl
theorem w852 : (Cond.methodLink "Clockhouse$Big" (73 : Nat) ({ cls := "java/lang/StringBuilder", name := "append", desc := "(I)Ljava/lang/StringBuilder;" } : MethodName)) ∈ lw_gw := am_w 852 (by decide +kernel) rfl
theorem w853 : (Cond.constant "Clockhouse$Big" (76 : Nat) (100000000 : Int32)) ∈ lw_gw := am_w 853 (by decide +kernel) rfl
theorem w854 : (Cond.methodLink "Clockhouse" (272 : Nat) ({ cls := "java/lang/StringBuilder", name := "toString", desc := "()Ljava/lang/String;" } : MethodName)) ∈ lw_gw := am_w 854 (by decide +kernel) rfl
theorem w859 : (Cond.code ({ cls := "Clockhouse", name := "answerDial", desc := "()Ljava/lang/String;" } : MethodName) prog_1_method_50_code (1 : Nat) (Option.some (FieldType.object "java/lang/String"))) ∈ lw_gw := am_w 859 (by decide +kernel) rfl
theorem w863 : (Cond.code ({ cls := "Clockhouse", name := "bases", desc := "()I" } : MethodName) prog_1_method_53_code (1 : Nat) (Option.some FieldType.int)) ∈ lw_gw := am_w 863 (by decide +kernel) rfl
theorem w867 : (Cond.code ({ cls := "Clockhouse", name := "span", desc := "()Ljava/lang/String;" } : MethodName) prog_1_method_54_code (1 : Nat) (Option.some (FieldType.object "java/lang/String"))) ∈ lw_gw := am_w 867 (by decide +kernel) rfl
theorem w868 : (Cond.methodLink "Clockhouse" (331 : Nat) ({ cls := "Clockhouse$State", name := "spanOfBases", desc := "()J" } : MethodName)) ∈ lw_gw := am_w 868 (by decide +kernel) rfl
theorem w869 : (Cond.instanceMethod ({ cls := "Clockhouse$State", name := "spanOfBases", desc := "()J" } : MethodName)) ∈ lw_gw := am_w 869 (by decide +kernel) rfl
theorem w870 : (Cond.selects "Clockhouse$State" ({ cls := "Clockhouse$State", name := "spanOfBases", desc := "()J" } : MethodName) ({ cls := "Clockhouse$State", name := "spanOfBases", desc := "()J" } : MethodName)) ∈ lw_gw := am_w 870 (by decide +kernel) rfl
theorem w871 : (Cond.code ({ cls := "Clockhouse$State", name := "spanOfBases", desc := "()J" } : MethodName) prog_11_method_9_code (4 : Nat) (Option.some FieldType.long)) ∈ lw_gw := am_w 871 (by decide +kernel) rfl
theorem w873 : (Cond.instanceMethod ({ cls := "Clockhouse", name := "isSound", desc := "()Z" } : MethodName)) ∈ lw_gw := am_w 873 (by decide +kernel) rfl
theorem w874 : (Cond.selects "Clockhouse" ({ cls := "Clockhouse", name := "isSound", desc := "()Z" } : MethodName) ({ cls := "Clockhouse", name := "isSound", desc := "()Z" } : MethodName)) ∈ lw_gw := am_w 874 (by decide +kernel) rfl
theorem w875 : (Cond.code ({ cls := "Clockhouse", name := "isSound", desc := "()Z" } : MethodName) prog_1_method_60_code (1 : Nat) (Option.some FieldType.boolean)) ∈ lw_gw := am_w 875 (by decide +kernel) rfl
theorem w876 : (Cond.methodLink "Clockhouse" (356 : Nat) ({ cls := "Clockhouse", name := "numbersFit", desc := "()Z" } : MethodName)) ∈ lw_gw := am_w 876 (by decide +kernel) rfl
theorem w878 : (Cond.instanceMethod ({ cls := "Clockhouse", name := "numbersFit", desc := "()Z" } : MethodName)) ∈ lw_gw := am_w 878 (by decide +kernel) rfl
theorem w879 : (Cond.code ({ cls := "Clockhouse", name := "numbersFit", desc := "()Z" } : MethodName) prog_1_method_81_code (2 : Nat) (Option.some FieldType.boolean)) ∈ lw_gw := am_w 879 (by decide +kernel) rfl
theorem w880 : (Cond.methodLink "Clockhouse" (426 : Nat) ({ cls := "Clockhouse$Big", name := "isTooLong", desc := "()Z" } : MethodName)) ∈ lw_gw := am_w 880 (by decide +kernel) rfl
theorem w881 : (Cond.instanceMethod ({ cls := "Clockhouse$Big", name := "isTooLong", desc := "()Z" } : MethodName)) ∈ lw_gw := am_w 881 (by decide +kernel) rfl
theorem w882 : (Cond.selects "Clockhouse$Big" ({ cls := "Clockhouse$Big", name := "isTooLong", desc := "()Z" } : MethodName) ({ cls := "Clockhouse$Big", name := "isTooLong", desc := "()Z" } : MethodName)) ∈ lw_gw := am_w 882 (by decide +kernel) rfl
theorem w883 : (Cond.code ({ cls := "Clockhouse$Big", name := "isTooLong", desc := "()Z" } : MethodName) prog_2_method_4_code (1 : Nat) (Option.some FieldType.boolean)) ∈ lw_gw := am_w 883 (by decide +kernel) rfl
theorem w884 : (Cond.methodLink "Clockhouse" (359 : Nat) ({ cls := "Clockhouse", name := "slotsAreSound", desc := "()Z" } : MethodName)) ∈ lw_gw := am_w 884 (by decide +kernel) rfl
theorem w886 : (Cond.instanceMethod ({ cls := "Clockhouse", name := "slotsAreSound", desc := "()Z" } : MethodName)) ∈ lw_gw := am_w 886 (by decide +kernel) rfl
theorem w887 : (Cond.code ({ cls := "Clockhouse", name := "slotsAreSound", desc := "()Z" } : MethodName) prog_1_method_82_code (7 : Nat) (Option.some FieldType.boolean)) ∈ lw_gw := am_w 887 (by decide +kernel) rfl
theorem w888 : (Cond.methodLink "Clockhouse" (290 : Nat) ({ cls := "Clockhouse$Round", name := "oddPrimeHolds", desc := "(I)Z" } : MethodName)) ∈ lw_gw := am_w 888 (by decide +kernel) rfl
theorem w889 : (Cond.static ({ cls := "Clockhouse$Round", name := "oddPrimeHolds", desc := "(I)Z" } : MethodName)) ∈ lw_gw := am_w 889 (by decide +kernel) rfl
theorem w890 : (Cond.code ({ cls := "Clockhouse$Round", name := "oddPrimeHolds", desc := "(I)Z" } : MethodName) prog_9_method_13_code (1 : Nat) (Option.some FieldType.boolean)) ∈ lw_gw := am_w 890 (by decide +kernel) rfl
theorem w891 : (Cond.methodLink "Clockhouse$Round" (36 : Nat) ({ cls := "Clockhouse$Round", name := "primeHolds", desc := "(I)Z" } : MethodName)) ∈ lw_gw := am_w 891 (by decide +kernel) rfl
theorem w892 : (Cond.methodLink "Clockhouse" (125 : Nat) ({ cls := "Clockhouse$Big", name := "restBy", desc := "(I)I" } : MethodName)) ∈ lw_gw := am_w 892 (by decide +kernel) rfl
theorem w893 : (Cond.instanceMethod ({ cls := "Clockhouse$Big", name := "restBy", desc := "(I)I" } : MethodName)) ∈ lw_gw := am_w 893 (by decide +kernel) rfl
theorem w894 : (Cond.selects "Clockhouse$Big" ({ cls := "Clockhouse$Big", name := "restBy", desc := "(I)I" } : MethodName) ({ cls := "Clockhouse$Big", name := "restBy", desc := "(I)I" } : MethodName)) ∈ lw_gw := am_w 894 (by decide +kernel) rfl
theorem w895 : (Cond.code ({ cls := "Clockhouse$Big", name := "restBy", desc := "(I)I" } : MethodName) prog_2_method_15_code (5 : Nat) (Option.some FieldType.int)) ∈ lw_gw := am_w 895 (by decide +kernel) rfl
theorem w896 : (Cond.methodLink "Clockhouse" (457 : Nat) ({ cls := "Clockhouse$Sound", name := "powersHold", desc := "(II)Z" } : MethodName)) ∈ lw_gw := am_w 896 (by decide +kernel) rfl
theorem w897 : (Cond.static ({ cls := "Clockhouse$Sound", name := "powersHold", desc := "(II)Z" } : MethodName)) ∈ lw_gw := am_w 897 (by decide +kernel) rfl
theorem w898 : (Cond.code ({ cls := "Clockhouse$Sound", name := "powersHold", desc := "(II)Z" } : MethodName) prog_10_method_2_code (4 : Nat) (Option.some FieldType.boolean)) ∈ lw_gw := am_w 898 (by decide +kernel) rfl
theorem w899 : (Cond.methodLink "Clockhouse$Sound" (9 : Nat) ({ cls := "Clockhouse$Round", name := "raiseByInt", desc := "(III)I" } : MethodName)) ∈ lw_gw := am_w 899 (by decide +kernel) rfl
theorem w900 : (Cond.static ({ cls := "Clockhouse$Round", name := "raiseByInt", desc := "(III)I" } : MethodName)) ∈ lw_gw := am_w 900 (by decide +kernel) rfl
theorem w901 : (Cond.code ({ cls := "Clockhouse$Round", name := "raiseByInt", desc := "(III)I" } : MethodName) prog_9_method_4_code (7 : Nat) (Option.some FieldType.int)) ∈ lw_gw := am_w 901 (by decide +kernel) rfl
theorem w902 : (Cond.methodLink "Clockhouse" (462 : Nat) ({ cls := "Clockhouse$Sound", name := "inverseHolds", desc := "(III)Z" } : MethodName)) ∈ lw_gw := am_w 902 (by decide +kernel) rfl
theorem w903 : (Cond.static ({ cls := "Clockhouse$Sound", name := "inverseHolds", desc := "(III)Z" } : MethodName)) ∈ lw_gw := am_w 903 (by decide +kernel) rfl
theorem w904 : (Cond.code ({ cls := "Clockhouse$Sound", name := "inverseHolds", desc := "(III)Z" } : MethodName) prog_10_method_3_code (7 : Nat) (Option.some FieldType.boolean)) ∈ lw_gw := am_w 904 (by decide +kernel) rfl
theorem w905 : (Cond.methodLink "Clockhouse$Sound" (15 : Nat) ({ cls := "Clockhouse$Round", name := "invert", desc := "(II)I" } : MethodName)) ∈ lw_gw := am_w 905 (by decide +kernel) rfl
theorem w906 : (Cond.methodLink "Clockhouse$Sound" (19 : Nat) ({ cls := "Clockhouse$Round", name := "countSolutions", desc := "(III)I" } : MethodName)) ∈ lw_gw := am_w 906 (by decide +kernel) rfl
theorem w907 : (Cond.static ({ cls := "Clockhouse$Round", name := "countSolutions", desc := "(III)I" } : MethodName)) ∈ lw_gw := am_w 907 (by decide +kernel) rfl
theorem w908 : (Cond.code ({ cls := "Clockhouse$Round", name := "countSolutions", desc := "(III)I" } : MethodName) prog_9_method_6_code (5 : Nat) (Option.some FieldType.int)) ∈ lw_gw := am_w 908 (by decide +kernel) rfl
theorem w909 : (Cond.methodLink "Clockhouse$Sound" (22 : Nat) ({ cls := "Clockhouse$Round", name := "commonOf", desc := "(II)I" } : MethodName)) ∈ lw_gw := am_w 909 (by decide +kernel) rfl
theorem w910 : (Cond.methodLink "Clockhouse$Sound" (25 : Nat) ({ cls := "Clockhouse$Round", name := "orderOf", desc := "(II)I" } : MethodName)) ∈ lw_gw := am_w 910 (by decide +kernel) rfl
theorem w911 : (Cond.static ({ cls := "Clockhouse$Round", name := "orderOf", desc := "(II)I" } : MethodName)) ∈ lw_gw := am_w 911 (by decide +kernel) rfl
theorem w912 : (Cond.code ({ cls := "Clockhouse$Round", name := "orderOf", desc := "(II)I" } : MethodName) prog_9_method_9_code (4 : Nat) (Option.some FieldType.int)) ∈ lw_gw := am_w 912 (by decide +kernel) rfl
theorem w913 : (Cond.methodLink "Clockhouse$Sound" (28 : Nat) ({ cls := "Clockhouse$Round", name := "solutionAt", desc := "(IIII)I" } : MethodName)) ∈ lw_gw := am_w 913 (by decide +kernel) rfl
theorem w914 : (Cond.static ({ cls := "Clockhouse$Round", name := "solutionAt", desc := "(IIII)I" } : MethodName)) ∈ lw_gw := am_w 914 (by decide +kernel) rfl
theorem w915 : (Cond.code ({ cls := "Clockhouse$Round", name := "solutionAt", desc := "(IIII)I" } : MethodName) prog_9_method_7_code (6 : Nat) (Option.some FieldType.int)) ∈ lw_gw := am_w 915 (by decide +kernel) rfl
theorem w916 : (Cond.methodLink "Clockhouse" (466 : Nat) ({ cls := "Clockhouse$Sound", name := "solutionsHold", desc := "(III)Z" } : MethodName)) ∈ lw_gw := am_w 916 (by decide +kernel) rfl
theorem w917 : (Cond.static ({ cls := "Clockhouse$Sound", name := "solutionsHold", desc := "(III)Z" } : MethodName)) ∈ lw_gw := am_w 917 (by decide +kernel) rfl
theorem w918 : (Cond.code ({ cls := "Clockhouse$Sound", name := "solutionsHold", desc := "(III)Z" } : MethodName) prog_10_method_4_code (5 : Nat) (Option.some FieldType.boolean)) ∈ lw_gw := am_w 918 (by decide +kernel) rfl
theorem w919 : (Cond.methodLink "Clockhouse" (293 : Nat) ({ cls := "Clockhouse$Round", name := "legendreOf", desc := "(II)I" } : MethodName)) ∈ lw_gw := am_w 919 (by decide +kernel) rfl
theorem w920 : (Cond.static ({ cls := "Clockhouse$Round", name := "legendreOf", desc := "(II)I" } : MethodName)) ∈ lw_gw := am_w 920 (by decide +kernel) rfl
theorem w921 : (Cond.code ({ cls := "Clockhouse$Round", name := "legendreOf", desc := "(II)I" } : MethodName) prog_9_method_14_code (2 : Nat) (Option.some FieldType.int)) ∈ lw_gw := am_w 921 (by decide +kernel) rfl
theorem w922 : (Cond.methodLink "Clockhouse$Round" (40 : Nat) ({ cls := "Clockhouse$Round", name := "rootAt", desc := "(III)I" } : MethodName)) ∈ lw_gw := am_w 922 (by decide +kernel) rfl
theorem w923 : (Cond.static ({ cls := "Clockhouse$Round", name := "rootAt", desc := "(III)I" } : MethodName)) ∈ lw_gw := am_w 923 (by decide +kernel) rfl
theorem w924 : (Cond.code ({ cls := "Clockhouse$Round", name := "rootAt", desc := "(III)I" } : MethodName) prog_9_method_11_code (5 : Nat) (Option.some FieldType.int)) ∈ lw_gw := am_w 924 (by decide +kernel) rfl
theorem w925 : (Cond.methodLink "Clockhouse" (296 : Nat) ({ cls := "Clockhouse$Round", name := "jacobiOf", desc := "(II)I" } : MethodName)) ∈ lw_gw := am_w 925 (by decide +kernel) rfl
theorem w926 : (Cond.static ({ cls := "Clockhouse$Round", name := "jacobiOf", desc := "(II)I" } : MethodName)) ∈ lw_gw := am_w 926 (by decide +kernel) rfl
theorem w927 : (Cond.code ({ cls := "Clockhouse$Round", name := "jacobiOf", desc := "(II)I" } : MethodName) prog_9_method_15_code (6 : Nat) (Option.some FieldType.int)) ∈ lw_gw := am_w 927 (by decide +kernel) rfl
theorem w928 : (Cond.methodLink "Clockhouse$Round" (43 : Nat) ({ cls := "Clockhouse$Round", name := "legendreOf", desc := "(II)I" } : MethodName)) ∈ lw_gw := am_w 928 (by decide +kernel) rfl
theorem w929 : (Cond.methodLink "Clockhouse" (362 : Nat) ({ cls := "Clockhouse", name := "rowsAreSound", desc := "()Z" } : MethodName)) ∈ lw_gw := am_w 929 (by decide +kernel) rfl
theorem w931 : (Cond.instanceMethod ({ cls := "Clockhouse", name := "rowsAreSound", desc := "()Z" } : MethodName)) ∈ lw_gw := am_w 931 (by decide +kernel) rfl
theorem w932 : (Cond.code ({ cls := "Clockhouse", name := "rowsAreSound", desc := "()Z" } : MethodName) prog_1_method_83_code (3 : Nat) (Option.some FieldType.boolean)) ∈ lw_gw := am_w 932 (by decide +kernel) rfl
theorem w933 : (Cond.methodLink "Clockhouse" (328 : Nat) ({ cls := "Clockhouse", name := "clashPlace", desc := "(I)I" } : MethodName)) ∈ lw_gw := am_w 933 (by decide +kernel) rfl
theorem w935 : (Cond.instanceMethod ({ cls := "Clockhouse", name := "clashPlace", desc := "(I)I" } : MethodName)) ∈ lw_gw := am_w 935 (by decide +kernel) rfl
theorem w936 : (Cond.code ({ cls := "Clockhouse", name := "clashPlace", desc := "(I)I" } : MethodName) prog_1_method_72_code (4 : Nat) (Option.some FieldType.int)) ∈ lw_gw := am_w 936 (by decide +kernel) rfl
theorem w937 : (Cond.methodLink "Clockhouse" (308 : Nat) ({ cls := "Clockhouse$State", name := "rowsAgree", desc := "(II)Z" } : MethodName)) ∈ lw_gw := am_w 937 (by decide +kernel) rfl
theorem w938 : (Cond.instanceMethod ({ cls := "Clockhouse$State", name := "rowsAgree", desc := "(II)Z" } : MethodName)) ∈ lw_gw := am_w 938 (by decide +kernel) rfl
theorem w939 : (Cond.selects "Clockhouse$State" ({ cls := "Clockhouse$State", name := "rowsAgree", desc := "(II)Z" } : MethodName) ({ cls := "Clockhouse$State", name := "rowsAgree", desc := "(II)Z" } : MethodName)) ∈ lw_gw := am_w 939 (by decide +kernel) rfl
theorem w940 : (Cond.code ({ cls := "Clockhouse$State", name := "rowsAgree", desc := "(II)Z" } : MethodName) prog_11_method_5_code (4 : Nat) (Option.some FieldType.boolean)) ∈ lw_gw := am_w 940 (by decide +kernel) rfl
theorem w941 : (Cond.methodLink "Clockhouse$State" (54 : Nat) ({ cls := "Clockhouse$Round", name := "commonOf", desc := "(II)I" } : MethodName)) ∈ lw_gw := am_w 941 (by decide +kernel) rfl
theorem w942 : (Cond.methodLink "Clockhouse" (365 : Nat) ({ cls := "Clockhouse", name := "backsAreSound", desc := "()Z" } : MethodName)) ∈ lw_gw := am_w 942 (by decide +kernel) rfl
theorem w944 : (Cond.instanceMethod ({ cls := "Clockhouse", name := "backsAreSound", desc := "()Z" } : MethodName)) ∈ lw_gw := am_w 944 (by decide +kernel) rfl
theorem w945 : (Cond.code ({ cls := "Clockhouse", name := "backsAreSound", desc := "()Z" } : MethodName) prog_1_method_84_code (4 : Nat) (Option.some FieldType.boolean)) ∈ lw_gw := am_w 945 (by decide +kernel) rfl
theorem w946 : (Cond.methodLink "Clockhouse" (107 : Nat) ({ cls := "Clockhouse$Big", name := "becomeSum", desc := "(LClockhouse$Big;LClockhouse$Big;)V" } : MethodName)) ∈ lw_gw := am_w 946 (by decide +kernel) rfl
theorem w947 : (Cond.instanceMethod ({ cls := "Clockhouse$Big", name := "becomeSum", desc := "(LClockhouse$Big;LClockhouse$Big;)V" } : MethodName)) ∈ lw_gw := am_w 947 (by decide +kernel) rfl
theorem w948 : (Cond.selects "Clockhouse$Big" ({ cls := "Clockhouse$Big", name := "becomeSum", desc := "(LClockhouse$Big;LClockhouse$Big;)V" } : MethodName) ({ cls := "Clockhouse$Big", name := "becomeSum", desc := "(LClockhouse$Big;LClockhouse$Big;)V" } : MethodName)) ∈ lw_gw := am_w 948 (by decide +kernel) rfl
theorem w949 : (Cond.code ({ cls := "Clockhouse$Big", name := "becomeSum", desc := "(LClockhouse$Big;LClockhouse$Big;)V" } : MethodName) prog_2_method_10_code (4 : Nat) (Option.none : Option FieldType)) ∈ lw_gw := am_w 949 (by decide +kernel) rfl
theorem w950 : (Cond.methodLink "Clockhouse$Big" (37 : Nat) ({ cls := "Clockhouse$Big", name := "joinSizes", desc := "(LClockhouse$Big;LClockhouse$Big;I)V" } : MethodName)) ∈ lw_gw := am_w 950 (by decide +kernel) rfl
theorem w952 : (Cond.instanceMethod ({ cls := "Clockhouse$Big", name := "joinSizes", desc := "(LClockhouse$Big;LClockhouse$Big;I)V" } : MethodName)) ∈ lw_gw := am_w 952 (by decide +kernel) rfl
theorem w953 : (Cond.code ({ cls := "Clockhouse$Big", name := "joinSizes", desc := "(LClockhouse$Big;LClockhouse$Big;I)V" } : MethodName) prog_2_method_11_code (7 : Nat) (Option.none : Option FieldType)) ∈ lw_gw := am_w 953 (by decide +kernel) rfl
theorem w954 : (Cond.constant "Clockhouse$Big" (45 : Nat) (1000000000 : Int32)) ∈ lw_gw := am_w 954 (by decide +kernel) rfl
theorem w955 : (Cond.methodLink "Clockhouse$Big" (46 : Nat) ({ cls := "java/lang/Math", name := "floorMod", desc := "(II)I" } : MethodName)) ∈ lw_gw := am_w 955 (by decide +kernel) rfl
theorem w956 : (Cond.static ({ cls := "java/lang/Math", name := "floorMod", desc := "(II)I" } : MethodName)) ∈ lw_gw := am_w 956 (by decide +kernel) rfl
theorem w957 : (Cond.code ({ cls := "java/lang/Math", name := "floorMod", desc := "(II)I" } : MethodName) prog_32_method_50_code (3 : Nat) (Option.some FieldType.int)) ∈ lw_gw := am_w 957 (by decide +kernel) rfl
theorem w958 : (Cond.methodLink "Clockhouse$Big" (52 : Nat) ({ cls := "java/lang/Math", name := "floorDiv", desc := "(II)I" } : MethodName)) ∈ lw_gw := am_w 958 (by decide +kernel) rfl
theorem w959 : (Cond.static ({ cls := "java/lang/Math", name := "floorDiv", desc := "(II)I" } : MethodName)) ∈ lw_gw := am_w 959 (by decide +kernel) rfl
theorem w960 : (Cond.code ({ cls := "java/lang/Math", name := "floorDiv", desc := "(II)I" } : MethodName) prog_32_method_47_code (3 : Nat) (Option.some FieldType.int)) ∈ lw_gw := am_w 960 (by decide +kernel) rfl
theorem w961 : (Cond.methodLink "Clockhouse$Big" (41 : Nat) ({ cls := "Clockhouse$Big", name := "compareSize", desc := "(LClockhouse$Big;)I" } : MethodName)) ∈ lw_gw := am_w 961 (by decide +kernel) rfl
theorem w962 : (Cond.instanceMethod ({ cls := "Clockhouse$Big", name := "compareSize", desc := "(LClockhouse$Big;)I" } : MethodName)) ∈ lw_gw := am_w 962 (by decide +kernel) rfl
theorem w963 : (Cond.selects "Clockhouse$Big" ({ cls := "Clockhouse$Big", name := "compareSize", desc := "(LClockhouse$Big;)I" } : MethodName) ({ cls := "Clockhouse$Big", name := "compareSize", desc := "(LClockhouse$Big;)I" } : MethodName)) ∈ lw_gw := am_w 963 (by decide +kernel) rfl
theorem w964 : (Cond.code ({ cls := "Clockhouse$Big", name := "compareSize", desc := "(LClockhouse$Big;)I" } : MethodName) prog_2_method_9_code (3 : Nat) (Option.some FieldType.int)) ∈ lw_gw := am_w 964 (by decide +kernel) rfl
theorem w965 : (Cond.methodLink "Clockhouse" (207 : Nat) ({ cls := "Clockhouse$BigRound", name := "findRest", desc := "(LClockhouse$Big;LClockhouse$Big;)V" } : MethodName)) ∈ lw_gw := am_w 965 (by decide +kernel) rfl
theorem w966 : (Cond.instanceMethod ({ cls := "Clockhouse$BigRound", name := "findRest", desc := "(LClockhouse$Big;LClockhouse$Big;)V" } : MethodName)) ∈ lw_gw := am_w 966 (by decide +kernel) rfl
theorem w967 : (Cond.selects "Clockhouse$BigRound" ({ cls := "Clockhouse$BigRound", name := "findRest", desc := "(LClockhouse$Big;LClockhouse$Big;)V" } : MethodName) ({ cls := "Clockhouse$BigRound", name := "findRest", desc := "(LClockhouse$Big;LClockhouse$Big;)V" } : MethodName)) ∈ lw_gw := am_w 967 (by decide +kernel) rfl
theorem w968 : (Cond.code ({ cls := "Clockhouse$BigRound", name := "findRest", desc := "(LClockhouse$Big;LClockhouse$Big;)V" } : MethodName) prog_3_method_2_code (3 : Nat) (Option.none : Option FieldType)) ∈ lw_gw := am_w 968 (by decide +kernel) rfl
theorem w969 : (Cond.methodLink "Clockhouse$BigRound" (40 : Nat) ({ cls := "Clockhouse$Division", name := "divide", desc := "(LClockhouse$Big;LClockhouse$Big;)V" } : MethodName)) ∈ lw_gw := am_w 969 (by decide +kernel) rfl
theorem w970 : (Cond.instanceMethod ({ cls := "Clockhouse$Division", name := "divide", desc := "(LClockhouse$Big;LClockhouse$Big;)V" } : MethodName)) ∈ lw_gw := am_w 970 (by decide +kernel) rfl
theorem w971 : (Cond.selects "Clockhouse$Division" ({ cls := "Clockhouse$Division", name := "divide", desc := "(LClockhouse$Big;LClockhouse$Big;)V" } : MethodName) ({ cls := "Clockhouse$Division", name := "divide", desc := "(LClockhouse$Big;LClockhouse$Big;)V" } : MethodName)) ∈ lw_gw := am_w 971 (by decide +kernel) rfl
theorem w972 : (Cond.code ({ cls := "Clockhouse$Division", name := "divide", desc := "(LClockhouse$Big;LClockhouse$Big;)V" } : MethodName) prog_4_method_2_code (5 : Nat) (Option.none : Option FieldType)) ∈ lw_gw := am_w 972 (by decide +kernel) rfl
theorem w973 : (Cond.methodLink "Clockhouse$Division" (24 : Nat) ({ cls := "Clockhouse$Big", name := "clear", desc := "()V" } : MethodName)) ∈ lw_gw := am_w 973 (by decide +kernel) rfl
theorem w974 : (Cond.methodLink "Clockhouse$Division" (27 : Nat) ({ cls := "Clockhouse$Big", name := "become", desc := "(LClockhouse$Big;)V" } : MethodName)) ∈ lw_gw := am_w 974 (by decide +kernel) rfl
theorem w975 : (Cond.instanceMethod ({ cls := "Clockhouse$Big", name := "become", desc := "(LClockhouse$Big;)V" } : MethodName)) ∈ lw_gw := am_w 975 (by decide +kernel) rfl
theorem w976 : (Cond.selects "Clockhouse$Big" ({ cls := "Clockhouse$Big", name := "become", desc := "(LClockhouse$Big;)V" } : MethodName) ({ cls := "Clockhouse$Big", name := "become", desc := "(LClockhouse$Big;)V" } : MethodName)) ∈ lw_gw := am_w 976 (by decide +kernel) rfl
theorem w977 : (Cond.code ({ cls := "Clockhouse$Big", name := "become", desc := "(LClockhouse$Big;)V" } : MethodName) prog_2_method_7_code (2 : Nat) (Option.none : Option FieldType)) ∈ lw_gw := am_w 977 (by decide +kernel) rfl
theorem w978 : (Cond.methodLink "Clockhouse$Big" (22 : Nat) ({ cls := "java/lang/System", name := "arraycopy", desc := "(Ljava/lang/Object;ILjava/lang/Object;II)V" } : MethodName)) ∈ lw_gw := am_w 978 (by decide +kernel) rfl
theorem w979 : (Cond.constant "Clockhouse$Division" (35 : Nat) (1000000000 : Int32)) ∈ lw_gw := am_w 979 (by decide +kernel) rfl
theorem w980 : (Cond.methodLink "Clockhouse$Division" (36 : Nat) ({ cls := "Clockhouse$Big", name := "limb", desc := "(I)I" } : MethodName)) ∈ lw_gw := am_w 980 (by decide +kernel) rfl
theorem w981 : (Cond.methodLink "Clockhouse$Division" (40 : Nat) ({ cls := "Clockhouse$Big", name := "scaleUp", desc := "(I)V" } : MethodName)) ∈ lw_gw := am_w 981 (by decide +kernel) rfl
theorem w982 : (Cond.instanceMethod ({ cls := "Clockhouse$Big", name := "scaleUp", desc := "(I)V" } : MethodName)) ∈ lw_gw := am_w 982 (by decide +kernel) rfl
theorem w983 : (Cond.selects "Clockhouse$Big" ({ cls := "Clockhouse$Big", name := "scaleUp", desc := "(I)V" } : MethodName) ({ cls := "Clockhouse$Big", name := "scaleUp", desc := "(I)V" } : MethodName)) ∈ lw_gw := am_w 983 (by decide +kernel) rfl
theorem w984 : (Cond.code ({ cls := "Clockhouse$Big", name := "scaleUp", desc := "(I)V" } : MethodName) prog_2_method_13_code (7 : Nat) (Option.none : Option FieldType)) ∈ lw_gw := am_w 984 (by decide +kernel) rfl
theorem w985 : (Cond.methodLink "Clockhouse$Division" (44 : Nat) ({ cls := "Clockhouse$Division", name := "guessAt", desc := "(I)J" } : MethodName)) ∈ lw_gw := am_w 985 (by decide +kernel) rfl
theorem w987 : (Cond.instanceMethod ({ cls := "Clockhouse$Division", name := "guessAt", desc := "(I)J" } : MethodName)) ∈ lw_gw := am_w 987 (by decide +kernel) rfl
theorem w988 : (Cond.code ({ cls := "Clockhouse$Division", name := "guessAt", desc := "(I)J" } : MethodName) prog_4_method_3_code (14 : Nat) (Option.some FieldType.long)) ∈ lw_gw := am_w 988 (by decide +kernel) rfl
theorem w989 : (Cond.constantLong "Clockhouse$Division" (62 : Nat) (1000000000 : Int64)) ∈ lw_gw := am_w 989 (by decide +kernel) rfl
theorem w990 : (Cond.methodLink "Clockhouse$Division" (48 : Nat) ({ cls := "Clockhouse$Division", name := "takeAway", desc := "(IJ)I" } : MethodName)) ∈ lw_gw := am_w 990 (by decide +kernel) rfl
theorem w992 : (Cond.instanceMethod ({ cls := "Clockhouse$Division", name := "takeAway", desc := "(IJ)I" } : MethodName)) ∈ lw_gw := am_w 992 (by decide +kernel) rfl
theorem w993 : (Cond.code ({ cls := "Clockhouse$Division", name := "takeAway", desc := "(IJ)I" } : MethodName) prog_4_method_4_code (9 : Nat) (Option.some FieldType.int)) ∈ lw_gw := am_w 993 (by decide +kernel) rfl
theorem w994 : (Cond.methodLink "Clockhouse$Division" (64 : Nat) ({ cls := "java/lang/Math", name := "floorMod", desc := "(JJ)J" } : MethodName)) ∈ lw_gw := am_w 994 (by decide +kernel) rfl
theorem w995 : (Cond.methodLink "Clockhouse$Division" (52 : Nat) ({ cls := "Clockhouse$Big", name := "put", desc := "(II)V" } : MethodName)) ∈ lw_gw := am_w 995 (by decide +kernel) rfl
theorem w996 : (Cond.instanceMethod ({ cls := "Clockhouse$Big", name := "put", desc := "(II)V" } : MethodName)) ∈ lw_gw := am_w 996 (by decide +kernel) rfl
theorem w997 : (Cond.selects "Clockhouse$Big" ({ cls := "Clockhouse$Big", name := "put", desc := "(II)V" } : MethodName) ({ cls := "Clockhouse$Big", name := "put", desc := "(II)V" } : MethodName)) ∈ lw_gw := am_w 997 (by decide +kernel) rfl
theorem w998 : (Cond.code ({ cls := "Clockhouse$Big", name := "put", desc := "(II)V" } : MethodName) prog_2_method_3_code (3 : Nat) (Option.none : Option FieldType)) ∈ lw_gw := am_w 998 (by decide +kernel) rfl
theorem w999 : (Cond.methodLink "Clockhouse$Division" (70 : Nat) ({ cls := "java/lang/Math", name := "floorDiv", desc := "(JJ)J" } : MethodName)) ∈ lw_gw := am_w 999 (by decide +kernel) rfl
theorem w1000 : (Cond.static ({ cls := "java/lang/Math", name := "floorDiv", desc := "(JJ)J" } : MethodName)) ∈ lw_gw := am_w 1000 (by decide +kernel) rfl
theorem w1001 : (Cond.code ({ cls := "java/lang/Math", name := "floorDiv", desc := "(JJ)J" } : MethodName) prog_32_method_49_code (6 : Nat) (Option.some FieldType.long)) ∈ lw_gw := am_w 1001 (by decide +kernel) rfl
theorem w1002 : (Cond.methodLink "Clockhouse$Division" (73 : Nat) ({ cls := "Clockhouse$Division", name := "giveBack", desc := "(I)V" } : MethodName)) ∈ lw_gw := am_w 1002 (by decide +kernel) rfl
theorem w1004 : (Cond.instanceMethod ({ cls := "Clockhouse$Division", name := "giveBack", desc := "(I)V" } : MethodName)) ∈ lw_gw := am_w 1004 (by decide +kernel) rfl
theorem w1005 : (Cond.code ({ cls := "Clockhouse$Division", name := "giveBack", desc := "(I)V" } : MethodName) prog_4_method_5_code (5 : Nat) (Option.none : Option FieldType)) ∈ lw_gw := am_w 1005 (by decide +kernel) rfl
theorem w1006 : (Cond.methodLink "Clockhouse$Division" (56 : Nat) ({ cls := "Clockhouse$Big", name := "settle", desc := "(I)V" } : MethodName)) ∈ lw_gw := am_w 1006 (by decide +kernel) rfl
theorem w1007 : (Cond.methodLink "Clockhouse$Division" (59 : Nat) ({ cls := "Clockhouse$Big", name := "scaleDown", desc := "(I)V" } : MethodName)) ∈ lw_gw := am_w 1007 (by decide +kernel) rfl
theorem w1008 : (Cond.instanceMethod ({ cls := "Clockhouse$Big", name := "scaleDown", desc := "(I)V" } : MethodName)) ∈ lw_gw := am_w 1008 (by decide +kernel) rfl
theorem w1009 : (Cond.selects "Clockhouse$Big" ({ cls := "Clockhouse$Big", name := "scaleDown", desc := "(I)V" } : MethodName) ({ cls := "Clockhouse$Big", name := "scaleDown", desc := "(I)V" } : MethodName)) ∈ lw_gw := am_w 1009 (by decide +kernel) rfl
theorem w1010 : (Cond.code ({ cls := "Clockhouse$Big", name := "scaleDown", desc := "(I)V" } : MethodName) prog_2_method_14_code (7 : Nat) (Option.none : Option FieldType)) ∈ lw_gw := am_w 1010 (by decide +kernel) rfl
theorem w1011 : (Cond.methodLink "Clockhouse$BigRound" (47 : Nat) ({ cls := "Clockhouse$Big", name := "become", desc := "(LClockhouse$Big;)V" } : MethodName)) ∈ lw_gw := am_w 1011 (by decide +kernel) rfl
theorem w1012 : (Cond.methodLink "Clockhouse$BigRound" (55 : Nat) ({ cls := "Clockhouse$Big", name := "becomeSum", desc := "(LClockhouse$Big;LClockhouse$Big;)V" } : MethodName)) ∈ lw_gw := am_w 1012 (by decide +kernel) rfl
theorem w1013 : (Cond.methodLink "Clockhouse" (343 : Nat) ({ cls := "Clockhouse", name := "backOfSum", desc := "(LClockhouse$Big;LClockhouse$Big;)J" } : MethodName)) ∈ lw_gw := am_w 1013 (by decide +kernel) rfl
theorem w1015 : (Cond.instanceMethod ({ cls := "Clockhouse", name := "backOfSum", desc := "(LClockhouse$Big;LClockhouse$Big;)J" } : MethodName)) ∈ lw_gw := am_w 1015 (by decide +kernel) rfl
theorem w1016 : (Cond.code ({ cls := "Clockhouse", name := "backOfSum", desc := "(LClockhouse$Big;LClockhouse$Big;)J" } : MethodName) prog_1_method_74_code (5 : Nat) (Option.some FieldType.long)) ∈ lw_gw := am_w 1016 (by decide +kernel) rfl
theorem w1017 : (Cond.methodLink "Clockhouse" (469 : Nat) ({ cls := "Clockhouse$Big", name := "compareSize", desc := "(LClockhouse$Big;)I" } : MethodName)) ∈ lw_gw := am_w 1017 (by decide +kernel) rfl
theorem w1018 : (Cond.methodLink "Clockhouse" (103 : Nat) ({ cls := "Clockhouse$Big", name := "becomeProduct", desc := "(LClockhouse$Big;LClockhouse$Big;)V" } : MethodName)) ∈ lw_gw := am_w 1018 (by decide +kernel) rfl
theorem w1019 : (Cond.instanceMethod ({ cls := "Clockhouse$Big", name := "becomeProduct", desc := "(LClockhouse$Big;LClockhouse$Big;)V" } : MethodName)) ∈ lw_gw := am_w 1019 (by decide +kernel) rfl
theorem w1020 : (Cond.selects "Clockhouse$Big" ({ cls := "Clockhouse$Big", name := "becomeProduct", desc := "(LClockhouse$Big;LClockhouse$Big;)V" } : MethodName) ({ cls := "Clockhouse$Big", name := "becomeProduct", desc := "(LClockhouse$Big;LClockhouse$Big;)V" } : MethodName)) ∈ lw_gw := am_w 1020 (by decide +kernel) rfl
theorem w1021 : (Cond.code ({ cls := "Clockhouse$Big", name := "becomeProduct", desc := "(LClockhouse$Big;LClockhouse$Big;)V" } : MethodName) prog_2_method_12_code (9 : Nat) (Option.none : Option FieldType)) ∈ lw_gw := am_w 1021 (by decide +kernel) rfl
theorem w1022 : (Cond.methodLink "Clockhouse$Big" (59 : Nat) ({ cls := "Clockhouse$Big", name := "put", desc := "(II)V" } : MethodName)) ∈ lw_gw := am_w 1022 (by decide +kernel) rfl
theorem w1023 : (Cond.methodLink "Clockhouse" (347 : Nat) ({ cls := "Clockhouse", name := "backOfProduct", desc := "(LClockhouse$Big;LClockhouse$Big;)J" } : MethodName)) ∈ lw_gw := am_w 1023 (by decide +kernel) rfl
theorem w1025 : (Cond.instanceMethod ({ cls := "Clockhouse", name := "backOfProduct", desc := "(LClockhouse$Big;LClockhouse$Big;)J" } : MethodName)) ∈ lw_gw := am_w 1025 (by decide +kernel) rfl
theorem w1026 : (Cond.code ({ cls := "Clockhouse", name := "backOfProduct", desc := "(LClockhouse$Big;LClockhouse$Big;)J" } : MethodName) prog_1_method_75_code (5 : Nat) (Option.some FieldType.long)) ∈ lw_gw := am_w 1026 (by decide +kernel) rfl
theorem w1030 : (Cond.code ({ cls := "Clockhouse", name := "digest", desc := "()J" } : MethodName) prog_1_method_61_code (4 : Nat) (Option.some FieldType.long)) ∈ lw_gw := am_w 1030 (by decide +kernel) rfl
theorem w1031 : (Cond.constantLong "Clockhouse" (368 : Nat) (4906 : Int64)) ∈ lw_gw := am_w 1031 (by decide +kernel) rfl
theorem w1032 : (Cond.methodLink "Clockhouse" (370 : Nat) ({ cls := "Clockhouse", name := "mix", desc := "(JJ)J" } : MethodName)) ∈ lw_gw := am_w 1032 (by decide +kernel) rfl
theorem w1033 : (Cond.static ({ cls := "Clockhouse", name := "mix", desc := "(JJ)J" } : MethodName)) ∈ lw_gw := am_w 1033 (by decide +kernel) rfl
theorem w1034 : (Cond.code ({ cls := "Clockhouse", name := "mix", desc := "(JJ)J" } : MethodName) prog_1_method_85_code (4 : Nat) (Option.some FieldType.long)) ∈ lw_gw := am_w 1034 (by decide +kernel) rfl
theorem w1035 : (Cond.constantLong "Clockhouse" (473 : Nat) (31 : Int64)) ∈ lw_gw := am_w 1035 (by decide +kernel) rfl
theorem w1036 : (Cond.methodLink "Clockhouse" (374 : Nat) ({ cls := "Clockhouse", name := "mixNumber", desc := "(JI)J" } : MethodName)) ∈ lw_gw := am_w 1036 (by decide +kernel) rfl
theorem w1038 : (Cond.instanceMethod ({ cls := "Clockhouse", name := "mixNumber", desc := "(JI)J" } : MethodName)) ∈ lw_gw := am_w 1038 (by decide +kernel) rfl
theorem w1039 : (Cond.code ({ cls := "Clockhouse", name := "mixNumber", desc := "(JI)J" } : MethodName) prog_1_method_86_code (7 : Nat) (Option.some FieldType.long)) ∈ lw_gw := am_w 1039 (by decide +kernel) rfl
theorem w1040 : (Cond.methodLink "Clockhouse" (86 : Nat) ({ cls := "Clockhouse", name := "numberAt", desc := "(I)LClockhouse$Big;" } : MethodName)) ∈ lw_gw := am_w 1040 (by decide +kernel) rfl
theorem w1042 : (Cond.instanceMethod ({ cls := "Clockhouse", name := "numberAt", desc := "(I)LClockhouse$Big;" } : MethodName)) ∈ lw_gw := am_w 1042 (by decide +kernel) rfl
theorem w1043 : (Cond.code ({ cls := "Clockhouse", name := "numberAt", desc := "(I)LClockhouse$Big;" } : MethodName) prog_1_method_62_code (2 : Nat) (Option.some (FieldType.object "Clockhouse$Big"))) ∈ lw_gw := am_w 1043 (by decide +kernel) rfl
theorem w1044 : (Cond.classLink "Clockhouse" (407 : Nat) "java/lang/IndexOutOfBoundsException") ∈ lw_gw := am_w 1044 (by decide +kernel) rfl
theorem w1046 : (Cond.castable "java/lang/IndexOutOfBoundsException" "java/lang/IndexOutOfBoundsException") ∈ lw_ng := am_ng 1046 (by decide +kernel) rfl
theorem w1057 : (Cond.methodLink "Clockhouse" (94 : Nat) ({ cls := "Clockhouse$Big", name := "digitCount", desc := "()I" } : MethodName)) ∈ lw_gw := am_w 1057 (by decide +kernel) rfl
theorem w1058 : (Cond.instanceMethod ({ cls := "Clockhouse$Big", name := "digitCount", desc := "()I" } : MethodName)) ∈ lw_gw := am_w 1058 (by decide +kernel) rfl
theorem w1059 : (Cond.selects "Clockhouse$Big" ({ cls := "Clockhouse$Big", name := "digitCount", desc := "()I" } : MethodName) ({ cls := "Clockhouse$Big", name := "digitCount", desc := "()I" } : MethodName)) ∈ lw_gw := am_w 1059 (by decide +kernel) rfl
theorem w1060 : (Cond.code ({ cls := "Clockhouse$Big", name := "digitCount", desc := "()I" } : MethodName) prog_2_method_16_code (4 : Nat) (Option.some FieldType.int)) ∈ lw_gw := am_w 1060 (by decide +kernel) rfl
theorem w1061 : (Cond.methodLink "Clockhouse" (117 : Nat) ({ cls := "Clockhouse", name := "mod", desc := "(I)I" } : MethodName)) ∈ lw_gw := am_w 1061 (by decide +kernel) rfl
theorem w1062 : (Cond.instanceMethod ({ cls := "Clockhouse", name := "mod", desc := "(I)I" } : MethodName)) ∈ lw_gw := am_w 1062 (by decide +kernel) rfl
theorem w1063 : (Cond.selects "Clockhouse" ({ cls := "Clockhouse", name := "mod", desc := "(I)I" } : MethodName) ({ cls := "Clockhouse", name := "mod", desc := "(I)I" } : MethodName)) ∈ lw_gw := am_w 1063 (by decide +kernel) rfl
theorem w1064 : (Cond.code ({ cls := "Clockhouse", name := "mod", desc := "(I)I" } : MethodName) prog_1_method_27_code (3 : Nat) (Option.some FieldType.int)) ∈ lw_gw := am_w 1064 (by decide +kernel) rfl
theorem w1065 : (Cond.methodLink "Clockhouse" (475 : Nat) ({ cls := "Clockhouse", name := "gcd", desc := "(I)I" } : MethodName)) ∈ lw_gw := am_w 1065 (by decide +kernel) rfl
theorem w1066 : (Cond.instanceMethod ({ cls := "Clockhouse", name := "gcd", desc := "(I)I" } : MethodName)) ∈ lw_gw := am_w 1066 (by decide +kernel) rfl
theorem w1067 : (Cond.selects "Clockhouse" ({ cls := "Clockhouse", name := "gcd", desc := "(I)I" } : MethodName) ({ cls := "Clockhouse", name := "gcd", desc := "(I)I" } : MethodName)) ∈ lw_gw := am_w 1067 (by decide +kernel) rfl
theorem w1068 : (Cond.code ({ cls := "Clockhouse", name := "gcd", desc := "(I)I" } : MethodName) prog_1_method_28_code (3 : Nat) (Option.some FieldType.int)) ∈ lw_gw := am_w 1068 (by decide +kernel) rfl
theorem w1069 : (Cond.methodLink "Clockhouse" (224 : Nat) ({ cls := "Clockhouse$Round", name := "commonOf", desc := "(II)I" } : MethodName)) ∈ lw_gw := am_w 1069 (by decide +kernel) rfl
theorem w1070 : (Cond.methodLink "Clockhouse" (132 : Nat) ({ cls := "Clockhouse", name := "inverse", desc := "(I)I" } : MethodName)) ∈ lw_gw := am_w 1070 (by decide +kernel) rfl
theorem w1071 : (Cond.instanceMethod ({ cls := "Clockhouse", name := "inverse", desc := "(I)I" } : MethodName)) ∈ lw_gw := am_w 1071 (by decide +kernel) rfl
theorem w1072 : (Cond.selects "Clockhouse" ({ cls := "Clockhouse", name := "inverse", desc := "(I)I" } : MethodName) ({ cls := "Clockhouse", name := "inverse", desc := "(I)I" } : MethodName)) ∈ lw_gw := am_w 1072 (by decide +kernel) rfl
theorem w1073 : (Cond.code ({ cls := "Clockhouse", name := "inverse", desc := "(I)I" } : MethodName) prog_1_method_30_code (3 : Nat) (Option.some FieldType.int)) ∈ lw_gw := am_w 1073 (by decide +kernel) rfl
theorem w1074 : (Cond.methodLink "Clockhouse" (233 : Nat) ({ cls := "Clockhouse$Round", name := "invert", desc := "(II)I" } : MethodName)) ∈ lw_gw := am_w 1074 (by decide +kernel) rfl
theorem w1075 : (Cond.methodLink "Clockhouse" (128 : Nat) ({ cls := "Clockhouse", name := "power", desc := "(II)I" } : MethodName)) ∈ lw_gw := am_w 1075 (by decide +kernel) rfl
theorem w1076 : (Cond.instanceMethod ({ cls := "Clockhouse", name := "power", desc := "(II)I" } : MethodName)) ∈ lw_gw := am_w 1076 (by decide +kernel) rfl
theorem w1077 : (Cond.selects "Clockhouse" ({ cls := "Clockhouse", name := "power", desc := "(II)I" } : MethodName) ({ cls := "Clockhouse", name := "power", desc := "(II)I" } : MethodName)) ∈ lw_gw := am_w 1077 (by decide +kernel) rfl
theorem w1078 : (Cond.code ({ cls := "Clockhouse", name := "power", desc := "(II)I" } : MethodName) prog_1_method_29_code (5 : Nat) (Option.some FieldType.int)) ∈ lw_gw := am_w 1078 (by decide +kernel) rfl
theorem w1079 : (Cond.methodLink "Clockhouse" (229 : Nat) ({ cls := "Clockhouse$Round", name := "raise", desc := "(ILClockhouse$Big;I)I" } : MethodName)) ∈ lw_gw := am_w 1079 (by decide +kernel) rfl
theorem w1080 : (Cond.static ({ cls := "Clockhouse$Round", name := "raise", desc := "(ILClockhouse$Big;I)I" } : MethodName)) ∈ lw_gw := am_w 1080 (by decide +kernel) rfl
theorem w1081 : (Cond.code ({ cls := "Clockhouse$Round", name := "raise", desc := "(ILClockhouse$Big;I)I" } : MethodName) prog_9_method_5_code (6 : Nat) (Option.some FieldType.int)) ∈ lw_gw := am_w 1081 (by decide +kernel) rfl
theorem w1082 : (Cond.methodLink "Clockhouse$Round" (15 : Nat) ({ cls := "Clockhouse$Round", name := "invert", desc := "(II)I" } : MethodName)) ∈ lw_gw := am_w 1082 (by decide +kernel) rfl
theorem w1083 : (Cond.constant "Clockhouse$Round" (24 : Nat) (1000000000 : Int32)) ∈ lw_gw := am_w 1083 (by decide +kernel) rfl
theorem w1084 : (Cond.methodLink "Clockhouse$Round" (25 : Nat) ({ cls := "Clockhouse$Round", name := "raiseByInt", desc := "(III)I" } : MethodName)) ∈ lw_gw := am_w 1084 (by decide +kernel) rfl
theorem w1085 : (Cond.methodLink "Clockhouse$Round" (29 : Nat) ({ cls := "Clockhouse$Big", name := "limb", desc := "(I)I" } : MethodName)) ∈ lw_gw := am_w 1085 (by decide +kernel) rfl
theorem w1086 : (Cond.methodLink "Clockhouse" (478 : Nat) ({ cls := "Clockhouse", name := "solutions", desc := "(II)I" } : MethodName)) ∈ lw_gw := am_w 1086 (by decide +kernel) rfl
theorem w1087 : (Cond.instanceMethod ({ cls := "Clockhouse", name := "solutions", desc := "(II)I" } : MethodName)) ∈ lw_gw := am_w 1087 (by decide +kernel) rfl
theorem w1088 : (Cond.selects "Clockhouse" ({ cls := "Clockhouse", name := "solutions", desc := "(II)I" } : MethodName) ({ cls := "Clockhouse", name := "solutions", desc := "(II)I" } : MethodName)) ∈ lw_gw := am_w 1088 (by decide +kernel) rfl
theorem w1089 : (Cond.code ({ cls := "Clockhouse", name := "solutions", desc := "(II)I" } : MethodName) prog_1_method_31_code (6 : Nat) (Option.some FieldType.int)) ∈ lw_gw := am_w 1089 (by decide +kernel) rfl
theorem w1090 : (Cond.methodLink "Clockhouse" (236 : Nat) ({ cls := "Clockhouse$Round", name := "countSolutions", desc := "(III)I" } : MethodName)) ∈ lw_gw := am_w 1090 (by decide +kernel) rfl
theorem w1091 : (Cond.methodLink "Clockhouse" (378 : Nat) ({ cls := "Clockhouse", name := "mixRound", desc := "(JI)J" } : MethodName)) ∈ lw_gw := am_w 1091 (by decide +kernel) rfl
theorem w1093 : (Cond.instanceMethod ({ cls := "Clockhouse", name := "mixRound", desc := "(JI)J" } : MethodName)) ∈ lw_gw := am_w 1093 (by decide +kernel) rfl
theorem w1094 : (Cond.code ({ cls := "Clockhouse", name := "mixRound", desc := "(JI)J" } : MethodName) prog_1_method_87_code (7 : Nat) (Option.some FieldType.long)) ∈ lw_gw := am_w 1094 (by decide +kernel) rfl
theorem w1095 : (Cond.methodLink "Clockhouse" (481 : Nat) ({ cls := "Clockhouse", name := "order", desc := "(I)I" } : MethodName)) ∈ lw_gw := am_w 1095 (by decide +kernel) rfl
theorem w1096 : (Cond.instanceMethod ({ cls := "Clockhouse", name := "order", desc := "(I)I" } : MethodName)) ∈ lw_gw := am_w 1096 (by decide +kernel) rfl
theorem w1097 : (Cond.selects "Clockhouse" ({ cls := "Clockhouse", name := "order", desc := "(I)I" } : MethodName) ({ cls := "Clockhouse", name := "order", desc := "(I)I" } : MethodName)) ∈ lw_gw := am_w 1097 (by decide +kernel) rfl
theorem w1098 : (Cond.code ({ cls := "Clockhouse", name := "order", desc := "(I)I" } : MethodName) prog_1_method_34_code (3 : Nat) (Option.some FieldType.int)) ∈ lw_gw := am_w 1098 (by decide +kernel) rfl
theorem w1099 : (Cond.methodLink "Clockhouse" (250 : Nat) ({ cls := "Clockhouse$Round", name := "orderOf", desc := "(II)I" } : MethodName)) ∈ lw_gw := am_w 1099 (by decide +kernel) rfl
theorem w1100 : (Cond.methodLink "Clockhouse" (484 : Nat) ({ cls := "Clockhouse", name := "ofPowers", desc := "(II)I" } : MethodName)) ∈ lw_gw := am_w 1100 (by decide +kernel) rfl
theorem w1101 : (Cond.instanceMethod ({ cls := "Clockhouse", name := "ofPowers", desc := "(II)I" } : MethodName)) ∈ lw_gw := am_w 1101 (by decide +kernel) rfl
theorem w1102 : (Cond.selects "Clockhouse" ({ cls := "Clockhouse", name := "ofPowers", desc := "(II)I" } : MethodName) ({ cls := "Clockhouse", name := "ofPowers", desc := "(II)I" } : MethodName)) ∈ lw_gw := am_w 1102 (by decide +kernel) rfl
theorem w1103 : (Cond.code ({ cls := "Clockhouse", name := "ofPowers", desc := "(II)I" } : MethodName) prog_1_method_38_code (4 : Nat) (Option.some FieldType.int)) ∈ lw_gw := am_w 1103 (by decide +kernel) rfl
theorem w1104 : (Cond.classLink "Clockhouse" (75 : Nat) "java/lang/IllegalArgumentException") ∈ lw_gw := am_w 1104 (by decide +kernel) rfl
theorem w1107 : (Cond.methodLink "Clockhouse" (262 : Nat) ({ cls := "Clockhouse$PowerRow", name := "fill", desc := "(II)V" } : MethodName)) ∈ lw_gw := am_w 1107 (by decide +kernel) rfl
theorem w1108 : (Cond.instanceMethod ({ cls := "Clockhouse$PowerRow", name := "fill", desc := "(II)V" } : MethodName)) ∈ lw_gw := am_w 1108 (by decide +kernel) rfl
theorem w1109 : (Cond.selects "Clockhouse$PowerRow" ({ cls := "Clockhouse$PowerRow", name := "fill", desc := "(II)V" } : MethodName) ({ cls := "Clockhouse$PowerRow", name := "fill", desc := "(II)V" } : MethodName)) ∈ lw_gw := am_w 1109 (by decide +kernel) rfl
theorem w1110 : (Cond.code ({ cls := "Clockhouse$PowerRow", name := "fill", desc := "(II)V" } : MethodName) prog_8_method_2_code (5 : Nat) (Option.none : Option FieldType)) ∈ lw_gw := am_w 1110 (by decide +kernel) rfl
theorem w1111 : (Cond.methodLink "Clockhouse" (278 : Nat) ({ cls := "Clockhouse$PowerRow", name := "tellOf", desc := "(I)I" } : MethodName)) ∈ lw_gw := am_w 1111 (by decide +kernel) rfl
theorem w1112 : (Cond.instanceMethod ({ cls := "Clockhouse$PowerRow", name := "tellOf", desc := "(I)I" } : MethodName)) ∈ lw_gw := am_w 1112 (by decide +kernel) rfl
theorem w1113 : (Cond.selects "Clockhouse$PowerRow" ({ cls := "Clockhouse$PowerRow", name := "tellOf", desc := "(I)I" } : MethodName) ({ cls := "Clockhouse$PowerRow", name := "tellOf", desc := "(I)I" } : MethodName)) ∈ lw_gw := am_w 1113 (by decide +kernel) rfl
theorem w1114 : (Cond.code ({ cls := "Clockhouse$PowerRow", name := "tellOf", desc := "(I)I" } : MethodName) prog_8_method_3_code (2 : Nat) (Option.some FieldType.int)) ∈ lw_gw := am_w 1114 (by decide +kernel) rfl
theorem w1115 : (Cond.methodLink "Clockhouse$PowerRow" (25 : Nat) ({ cls := "Clockhouse$PowerRow", name := "sumOfRow", desc := "()I" } : MethodName)) ∈ lw_gw := am_w 1115 (by decide +kernel) rfl
theorem w1117 : (Cond.instanceMethod ({ cls := "Clockhouse$PowerRow", name := "sumOfRow", desc := "()I" } : MethodName)) ∈ lw_gw := am_w 1117 (by decide +kernel) rfl
theorem w1118 : (Cond.code ({ cls := "Clockhouse$PowerRow", name := "sumOfRow", desc := "()I" } : MethodName) prog_8_method_4_code (3 : Nat) (Option.some FieldType.int)) ∈ lw_gw := am_w 1118 (by decide +kernel) rfl
theorem w1119 : (Cond.methodLink "Clockhouse" (487 : Nat) ({ cls := "Clockhouse", name := "roots", desc := "(I)I" } : MethodName)) ∈ lw_gw := am_w 1119 (by decide +kernel) rfl
theorem w1120 : (Cond.instanceMethod ({ cls := "Clockhouse", name := "roots", desc := "(I)I" } : MethodName)) ∈ lw_gw := am_w 1120 (by decide +kernel) rfl
theorem w1121 : (Cond.selects "Clockhouse" ({ cls := "Clockhouse", name := "roots", desc := "(I)I" } : MethodName) ({ cls := "Clockhouse", name := "roots", desc := "(I)I" } : MethodName)) ∈ lw_gw := am_w 1121 (by decide +kernel) rfl
theorem w1122 : (Cond.code ({ cls := "Clockhouse", name := "roots", desc := "(I)I" } : MethodName) prog_1_method_39_code (3 : Nat) (Option.some FieldType.int)) ∈ lw_gw := am_w 1122 (by decide +kernel) rfl
theorem w1123 : (Cond.methodLink "Clockhouse" (281 : Nat) ({ cls := "Clockhouse$Round", name := "countRoots", desc := "(II)I" } : MethodName)) ∈ lw_gw := am_w 1123 (by decide +kernel) rfl
theorem w1124 : (Cond.static ({ cls := "Clockhouse$Round", name := "countRoots", desc := "(II)I" } : MethodName)) ∈ lw_gw := am_w 1124 (by decide +kernel) rfl
theorem w1125 : (Cond.code ({ cls := "Clockhouse$Round", name := "countRoots", desc := "(II)I" } : MethodName) prog_9_method_10_code (4 : Nat) (Option.some FieldType.int)) ∈ lw_gw := am_w 1125 (by decide +kernel) rfl
theorem w1126 : (Cond.methodLink "Clockhouse" (490 : Nat) ({ cls := "Clockhouse", name := "legendre", desc := "(I)I" } : MethodName)) ∈ lw_gw := am_w 1126 (by decide +kernel) rfl
theorem w1127 : (Cond.instanceMethod ({ cls := "Clockhouse", name := "legendre", desc := "(I)I" } : MethodName)) ∈ lw_gw := am_w 1127 (by decide +kernel) rfl
theorem w1128 : (Cond.selects "Clockhouse" ({ cls := "Clockhouse", name := "legendre", desc := "(I)I" } : MethodName) ({ cls := "Clockhouse", name := "legendre", desc := "(I)I" } : MethodName)) ∈ lw_gw := am_w 1128 (by decide +kernel) rfl
theorem w1129 : (Cond.code ({ cls := "Clockhouse", name := "legendre", desc := "(I)I" } : MethodName) prog_1_method_42_code (3 : Nat) (Option.some FieldType.int)) ∈ lw_gw := am_w 1129 (by decide +kernel) rfl
theorem w1130 : (Cond.methodLink "Clockhouse" (493 : Nat) ({ cls := "Clockhouse", name := "jacobi", desc := "(I)I" } : MethodName)) ∈ lw_gw := am_w 1130 (by decide +kernel) rfl
theorem w1131 : (Cond.instanceMethod ({ cls := "Clockhouse", name := "jacobi", desc := "(I)I" } : MethodName)) ∈ lw_gw := am_w 1131 (by decide +kernel) rfl
theorem w1132 : (Cond.selects "Clockhouse" ({ cls := "Clockhouse", name := "jacobi", desc := "(I)I" } : MethodName) ({ cls := "Clockhouse", name := "jacobi", desc := "(I)I" } : MethodName)) ∈ lw_gw := am_w 1132 (by decide +kernel) rfl
theorem w1133 : (Cond.code ({ cls := "Clockhouse", name := "jacobi", desc := "(I)I" } : MethodName) prog_1_method_43_code (3 : Nat) (Option.some FieldType.int)) ∈ lw_gw := am_w 1133 (by decide +kernel) rfl
theorem w1134 : (Cond.methodLink "Clockhouse" (496 : Nat) ({ cls := "Clockhouse", name := "broken", desc := "(I)I" } : MethodName)) ∈ lw_gw := am_w 1134 (by decide +kernel) rfl
theorem w1135 : (Cond.instanceMethod ({ cls := "Clockhouse", name := "broken", desc := "(I)I" } : MethodName)) ∈ lw_gw := am_w 1135 (by decide +kernel) rfl
theorem w1136 : (Cond.selects "Clockhouse" ({ cls := "Clockhouse", name := "broken", desc := "(I)I" } : MethodName) ({ cls := "Clockhouse", name := "broken", desc := "(I)I" } : MethodName)) ∈ lw_gw := am_w 1136 (by decide +kernel) rfl
theorem w1137 : (Cond.code ({ cls := "Clockhouse", name := "broken", desc := "(I)I" } : MethodName) prog_1_method_52_code (4 : Nat) (Option.some FieldType.int)) ∈ lw_gw := am_w 1137 (by decide +kernel) rfl
theorem w1138 : (Cond.methodLink "Clockhouse" (381 : Nat) ({ cls := "Clockhouse", name := "mixTexts", desc := "(JI)J" } : MethodName)) ∈ lw_gw := am_w 1138 (by decide +kernel) rfl
theorem w1140 : (Cond.instanceMethod ({ cls := "Clockhouse", name := "mixTexts", desc := "(JI)J" } : MethodName)) ∈ lw_gw := am_w 1140 (by decide +kernel) rfl
theorem w1141 : (Cond.code ({ cls := "Clockhouse", name := "mixTexts", desc := "(JI)J" } : MethodName) prog_1_method_88_code (7 : Nat) (Option.some FieldType.long)) ∈ lw_gw := am_w 1141 (by decide +kernel) rfl
theorem w1142 : (Cond.methodLink "Clockhouse" (446 : Nat) ({ cls := "Clockhouse$Big", name := "textLength", desc := "()I" } : MethodName)) ∈ lw_gw := am_w 1142 (by decide +kernel) rfl
theorem w1143 : (Cond.instanceMethod ({ cls := "Clockhouse$Big", name := "textLength", desc := "()I" } : MethodName)) ∈ lw_gw := am_w 1143 (by decide +kernel) rfl
theorem w1144 : (Cond.selects "Clockhouse$Big" ({ cls := "Clockhouse$Big", name := "textLength", desc := "()I" } : MethodName) ({ cls := "Clockhouse$Big", name := "textLength", desc := "()I" } : MethodName)) ∈ lw_gw := am_w 1144 (by decide +kernel) rfl
theorem w1145 : (Cond.code ({ cls := "Clockhouse$Big", name := "textLength", desc := "()I" } : MethodName) prog_2_method_17_code (1 : Nat) (Option.some FieldType.int)) ∈ lw_gw := am_w 1145 (by decide +kernel) rfl
theorem w1146 : (Cond.methodLink "Clockhouse$Big" (63 : Nat) ({ cls := "Clockhouse$Big", name := "digitCount", desc := "()I" } : MethodName)) ∈ lw_gw := am_w 1146 (by decide +kernel) rfl
theorem w1147 : (Cond.methodLink "Clockhouse" (335 : Nat) ({ cls := "Clockhouse", name := "writeResidues", desc := "(LClockhouse$Big;)V" } : MethodName)) ∈ lw_gw := am_w 1147 (by decide +kernel) rfl
theorem w1149 : (Cond.instanceMethod ({ cls := "Clockhouse", name := "writeResidues", desc := "(LClockhouse$Big;)V" } : MethodName)) ∈ lw_gw := am_w 1149 (by decide +kernel) rfl
theorem w1150 : (Cond.code ({ cls := "Clockhouse", name := "writeResidues", desc := "(LClockhouse$Big;)V" } : MethodName) prog_1_method_79_code (3 : Nat) (Option.none : Option FieldType)) ∈ lw_gw := am_w 1150 (by decide +kernel) rfl
theorem w1151 : (Cond.methodLink "Clockhouse" (449 : Nat) ({ cls := "java/lang/StringBuilder", name := "append", desc := "(C)Ljava/lang/StringBuilder;" } : MethodName)) ∈ lw_gw := am_w 1151 (by decide +kernel) rfl
theorem w1152 : (Cond.methodLink "Clockhouse" (453 : Nat) ({ cls := "Clockhouse", name := "writeSmall", desc := "(Ljava/lang/StringBuilder;I)V" } : MethodName)) ∈ lw_gw := am_w 1152 (by decide +kernel) rfl
theorem w1153 : (Cond.static ({ cls := "Clockhouse", name := "writeSmall", desc := "(Ljava/lang/StringBuilder;I)V" } : MethodName)) ∈ lw_gw := am_w 1153 (by decide +kernel) rfl
theorem w1154 : (Cond.code ({ cls := "Clockhouse", name := "writeSmall", desc := "(Ljava/lang/StringBuilder;I)V" } : MethodName) prog_1_method_80_code (2 : Nat) (Option.none : Option FieldType)) ∈ lw_gw := am_w 1154 (by decide +kernel) rfl
theorem w1155 : (Cond.methodLink "Clockhouse" (499 : Nat) ({ cls := "java/lang/StringBuilder", name := "length", desc := "()I" } : MethodName)) ∈ lw_gw := am_w 1155 (by decide +kernel) rfl
theorem w1156 : (Cond.methodLink "Clockhouse" (339 : Nat) ({ cls := "Clockhouse", name := "backOf", desc := "(LClockhouse$Big;)J" } : MethodName)) ∈ lw_gw := am_w 1156 (by decide +kernel) rfl
theorem w1158 : (Cond.instanceMethod ({ cls := "Clockhouse", name := "backOf", desc := "(LClockhouse$Big;)J" } : MethodName)) ∈ lw_gw := am_w 1158 (by decide +kernel) rfl
theorem w1159 : (Cond.code ({ cls := "Clockhouse", name := "backOf", desc := "(LClockhouse$Big;)J" } : MethodName) prog_1_method_73_code (4 : Nat) (Option.some FieldType.long)) ∈ lw_gw := am_w 1159 (by decide +kernel) rfl
theorem w1160 : (Cond.methodLink "Clockhouse" (397 : Nat) ({ cls := "Clockhouse", name := "lengthOfLong", desc := "(J)I" } : MethodName)) ∈ lw_gw := am_w 1160 (by decide +kernel) rfl
theorem w1162 : (Cond.instanceMethod ({ cls := "Clockhouse", name := "lengthOfLong", desc := "(J)I" } : MethodName)) ∈ lw_gw := am_w 1162 (by decide +kernel) rfl
theorem w1163 : (Cond.code ({ cls := "Clockhouse", name := "lengthOfLong", desc := "(J)I" } : MethodName) prog_1_method_78_code (3 : Nat) (Option.some FieldType.int)) ∈ lw_gw := am_w 1163 (by decide +kernel) rfl
theorem w1164 : (Cond.methodLink "Clockhouse" (384 : Nat) ({ cls := "Clockhouse", name := "units", desc := "()I" } : MethodName)) ∈ lw_gw := am_w 1164 (by decide +kernel) rfl
theorem w1165 : (Cond.methodLink "Clockhouse" (387 : Nat) ({ cls := "Clockhouse", name := "generator", desc := "(I)I" } : MethodName)) ∈ lw_gw := am_w 1165 (by decide +kernel) rfl
theorem w1166 : (Cond.instanceMethod ({ cls := "Clockhouse", name := "generator", desc := "(I)I" } : MethodName)) ∈ lw_gw := am_w 1166 (by decide +kernel) rfl
theorem w1167 : (Cond.selects "Clockhouse" ({ cls := "Clockhouse", name := "generator", desc := "(I)I" } : MethodName) ({ cls := "Clockhouse", name := "generator", desc := "(I)I" } : MethodName)) ∈ lw_gw := am_w 1167 (by decide +kernel) rfl
theorem w1168 : (Cond.code ({ cls := "Clockhouse", name := "generator", desc := "(I)I" } : MethodName) prog_1_method_35_code (2 : Nat) (Option.some FieldType.int)) ∈ lw_gw := am_w 1168 (by decide +kernel) rfl
theorem w1169 : (Cond.methodLink "Clockhouse" (240 : Nat) ({ cls := "Clockhouse", name := "needPlace", desc := "(I)V" } : MethodName)) ∈ lw_gw := am_w 1169 (by decide +kernel) rfl
theorem w1170 : (Cond.static ({ cls := "Clockhouse", name := "needPlace", desc := "(I)V" } : MethodName)) ∈ lw_gw := am_w 1170 (by decide +kernel) rfl
theorem w1171 : (Cond.code ({ cls := "Clockhouse", name := "needPlace", desc := "(I)V" } : MethodName) prog_1_method_64_code (1 : Nat) (Option.none : Option FieldType)) ∈ lw_gw := am_w 1171 (by decide +kernel) rfl
theorem w1173 : (Cond.methodLink "Clockhouse" (253 : Nat) ({ cls := "Clockhouse$Generators", name := "turnTo", desc := "(I)V" } : MethodName)) ∈ lw_gw := am_w 1173 (by decide +kernel) rfl
theorem w1174 : (Cond.instanceMethod ({ cls := "Clockhouse$Generators", name := "turnTo", desc := "(I)V" } : MethodName)) ∈ lw_gw := am_w 1174 (by decide +kernel) rfl
theorem w1175 : (Cond.selects "Clockhouse$Generators" ({ cls := "Clockhouse$Generators", name := "turnTo", desc := "(I)V" } : MethodName) ({ cls := "Clockhouse$Generators", name := "turnTo", desc := "(I)V" } : MethodName)) ∈ lw_gw := am_w 1175 (by decide +kernel) rfl
theorem w1176 : (Cond.code ({ cls := "Clockhouse$Generators", name := "turnTo", desc := "(I)V" } : MethodName) prog_5_method_2_code (3 : Nat) (Option.none : Option FieldType)) ∈ lw_gw := am_w 1176 (by decide +kernel) rfl
theorem w1177 : (Cond.methodLink "Clockhouse$Generators" (19 : Nat) ({ cls := "Clockhouse$Round", name := "countUnits", desc := "(I)I" } : MethodName)) ∈ lw_gw := am_w 1177 (by decide +kernel) rfl
theorem w1178 : (Cond.methodLink "Clockhouse$Generators" (31 : Nat) ({ cls := "Clockhouse$Round", name := "primeHolds", desc := "(I)Z" } : MethodName)) ∈ lw_gw := am_w 1178 (by decide +kernel) rfl
theorem w1179 : (Cond.methodLink "Clockhouse" (256 : Nat) ({ cls := "Clockhouse$Generators", name := "findAt", desc := "(I)I" } : MethodName)) ∈ lw_gw := am_w 1179 (by decide +kernel) rfl
theorem w1180 : (Cond.instanceMethod ({ cls := "Clockhouse$Generators", name := "findAt", desc := "(I)I" } : MethodName)) ∈ lw_gw := am_w 1180 (by decide +kernel) rfl
theorem w1181 : (Cond.selects "Clockhouse$Generators" ({ cls := "Clockhouse$Generators", name := "findAt", desc := "(I)I" } : MethodName) ({ cls := "Clockhouse$Generators", name := "findAt", desc := "(I)I" } : MethodName)) ∈ lw_gw := am_w 1181 (by decide +kernel) rfl
theorem w1182 : (Cond.code ({ cls := "Clockhouse$Generators", name := "findAt", desc := "(I)I" } : MethodName) prog_5_method_4_code (4 : Nat) (Option.some FieldType.int)) ∈ lw_gw := am_w 1182 (by decide +kernel) rfl
theorem w1183 : (Cond.methodLink "Clockhouse$Generators" (43 : Nat) ({ cls := "Clockhouse$Generators", name := "holds", desc := "(I)Z" } : MethodName)) ∈ lw_gw := am_w 1183 (by decide +kernel) rfl
theorem w1184 : (Cond.instanceMethod ({ cls := "Clockhouse$Generators", name := "holds", desc := "(I)Z" } : MethodName)) ∈ lw_gw := am_w 1184 (by decide +kernel) rfl
theorem w1185 : (Cond.selects "Clockhouse$Generators" ({ cls := "Clockhouse$Generators", name := "holds", desc := "(I)Z" } : MethodName) ({ cls := "Clockhouse$Generators", name := "holds", desc := "(I)Z" } : MethodName)) ∈ lw_gw := am_w 1185 (by decide +kernel) rfl
theorem w1186 : (Cond.code ({ cls := "Clockhouse$Generators", name := "holds", desc := "(I)Z" } : MethodName) prog_5_method_3_code (4 : Nat) (Option.some FieldType.boolean)) ∈ lw_gw := am_w 1186 (by decide +kernel) rfl
theorem w1187 : (Cond.methodLink "Clockhouse$Generators" (35 : Nat) ({ cls := "Clockhouse$Round", name := "commonOf", desc := "(II)I" } : MethodName)) ∈ lw_gw := am_w 1187 (by decide +kernel) rfl
theorem w1188 : (Cond.methodLink "Clockhouse$Generators" (39 : Nat) ({ cls := "Clockhouse$Round", name := "raiseByInt", desc := "(III)I" } : MethodName)) ∈ lw_gw := am_w 1188 (by decide +kernel) rfl
theorem w1189 : (Cond.methodLink "Clockhouse" (390 : Nat) ({ cls := "Clockhouse", name := "isPrime", desc := "()Z" } : MethodName)) ∈ lw_gw := am_w 1189 (by decide +kernel) rfl
theorem w1190 : (Cond.methodLink "Clockhouse" (393 : Nat) ({ cls := "Clockhouse", name := "mixRows", desc := "(J)J" } : MethodName)) ∈ lw_gw := am_w 1190 (by decide +kernel) rfl
theorem w1192 : (Cond.instanceMethod ({ cls := "Clockhouse", name := "mixRows", desc := "(J)J" } : MethodName)) ∈ lw_gw := am_w 1192 (by decide +kernel) rfl
theorem w1193 : (Cond.code ({ cls := "Clockhouse", name := "mixRows", desc := "(J)J" } : MethodName) prog_1_method_89_code (6 : Nat) (Option.some FieldType.long)) ∈ lw_gw := am_w 1193 (by decide +kernel) rfl
theorem w1194 : (Cond.methodLink "Clockhouse" (502 : Nat) ({ cls := "java/lang/String", name := "length", desc := "()I" } : MethodName)) ∈ lw_gw := am_w 1194 (by decide +kernel) rfl
theorem w1195 : (Cond.methodLink "Clockhouse" (401 : Nat) ({ cls := "Clockhouse", name := "books", desc := "(I)I" } : MethodName)) ∈ lw_gw := am_w 1195 (by decide +kernel) rfl
theorem w1196 : (Cond.instanceMethod ({ cls := "Clockhouse", name := "books", desc := "(I)I" } : MethodName)) ∈ lw_gw := am_w 1196 (by decide +kernel) rfl
theorem w1197 : (Cond.selects "Clockhouse" ({ cls := "Clockhouse", name := "books", desc := "(I)I" } : MethodName) ({ cls := "Clockhouse", name := "books", desc := "(I)I" } : MethodName)) ∈ lw_gw := am_w 1197 (by decide +kernel) rfl
theorem w1198 : (Cond.code ({ cls := "Clockhouse", name := "books", desc := "(I)I" } : MethodName) prog_1_method_59_code (2 : Nat) (Option.some FieldType.int)) ∈ lw_gw := am_w 1198 (by decide +kernel) rfl
theorem w1199 : (Cond.methodLink "Clockhouse" (404 : Nat) ({ cls := "Clockhouse", name := "isSound", desc := "()Z" } : MethodName)) ∈ lw_gw := am_w 1199 (by decide +kernel) rfl
theorem w1204 : (Cond.code ({ cls := "ClockhouseLaw$Out", name := "<init>", desc := "()V" } : MethodName) prog_13_method_1_code (1 : Nat) (Option.none : Option FieldType)) ∈ lw_gw := am_w 1204 (by decide +kernel) rfl
theorem w1205 : (Cond.methodLink "ClockhouseLaw$Out" (1 : Nat) ({ cls := "java/lang/Object", name := "<init>", desc := "()V" } : MethodName)) ∈ lw_gw := am_w 1205 (by decide +kernel) rfl
theorem w1206 : (Cond.fieldLinkNest "ClockhouseLaw" (13 : Nat) "ClockhouseLaw$Out" "n" "J" "ClockhouseLaw") ∈ lw_ng := am_ng 1206 (by decide +kernel) rfl
theorem w1207 : (Cond.fieldLinkNest "ClockhouseLaw" (80 : Nat) "ClockhouseLaw$Out" "s" "Ljava/lang/String;" "ClockhouseLaw") ∈ lw_ng := am_ng 1207 (by decide +kernel) rfl
theorem w1208 : (Cond.lays "ClockhouseLaw$Out" "ClockhouseLaw$Out" "n" "J") ∈ lw_gw := am_w 1208 (by decide +kernel) rfl
theorem w1210 : (Cond.lays "ClockhouseLaw$Out" "ClockhouseLaw$Out" "s" "Ljava/lang/String;") ∈ lw_gw := am_w 1210 (by decide +kernel) rfl
theorem w1215 : (Cond.codeWith ({ cls := "ClockhouseLaw", name := "dial", desc := "(LClockhouse;ILClockhouseLaw$Out;)I" } : MethodName) method_2_code (4 : Nat) (Option.some FieldType.int) [((0 : Nat), (10 : Nat), (13 : Nat), (19 : Nat))]) ∈ lw_gw := am_w 1215 (by decide +kernel) rfl
theorem w1216 : (Cond.classLink "ClockhouseLaw" (19 : Nat) "java/lang/IllegalArgumentException") ∈ lw_gw := am_w 1216 (by decide +kernel) rfl
theorem w1217 : (Cond.methodLink "ClockhouseLaw" (7 : Nat) ({ cls := "Clockhouse", name := "dial", desc := "(I)I" } : MethodName)) ∈ lw_gw := am_w 1217 (by decide +kernel) rfl
theorem w1218 : (Cond.instanceMethod ({ cls := "Clockhouse", name := "dial", desc := "(I)I" } : MethodName)) ∈ lw_gw := am_w 1218 (by decide +kernel) rfl
theorem w1219 : (Cond.selects "Clockhouse" ({ cls := "Clockhouse", name := "dial", desc := "(I)I" } : MethodName) ({ cls := "Clockhouse", name := "dial", desc := "(I)I" } : MethodName)) ∈ lw_gw := am_w 1219 (by decide +kernel) rfl
theorem w1220 : (Cond.code ({ cls := "Clockhouse", name := "dial", desc := "(I)I" } : MethodName) prog_1_method_2_code (3 : Nat) (Option.some FieldType.int)) ∈ lw_gw := am_w 1220 (by decide +kernel) rfl
theorem w1222 : (Cond.methodLink "Clockhouse" (82 : Nat) ({ cls := "Clockhouse$Past", name := "keep", desc := "(LClockhouse$State;)V" } : MethodName)) ∈ lw_gw := am_w 1222 (by decide +kernel) rfl
theorem w1223 : (Cond.instanceMethod ({ cls := "Clockhouse$Past", name := "keep", desc := "(LClockhouse$State;)V" } : MethodName)) ∈ lw_gw := am_w 1223 (by decide +kernel) rfl
theorem w1224 : (Cond.selects "Clockhouse$Past" ({ cls := "Clockhouse$Past", name := "keep", desc := "(LClockhouse$State;)V" } : MethodName) ({ cls := "Clockhouse$Past", name := "keep", desc := "(LClockhouse$State;)V" } : MethodName)) ∈ lw_gw := am_w 1224 (by decide +kernel) rfl
theorem w1225 : (Cond.code ({ cls := "Clockhouse$Past", name := "keep", desc := "(LClockhouse$State;)V" } : MethodName) prog_7_method_2_code (2 : Nat) (Option.none : Option FieldType)) ∈ lw_gw := am_w 1225 (by decide +kernel) rfl
theorem w1226 : (Cond.methodLink "Clockhouse$Past" (25 : Nat) ({ cls := "Clockhouse$State", name := "become", desc := "(LClockhouse$State;)V" } : MethodName)) ∈ lw_gw := am_w 1226 (by decide +kernel) rfl
theorem w1227 : (Cond.instanceMethod ({ cls := "Clockhouse$State", name := "become", desc := "(LClockhouse$State;)V" } : MethodName)) ∈ lw_gw := am_w 1227 (by decide +kernel) rfl
theorem w1228 : (Cond.selects "Clockhouse$State" ({ cls := "Clockhouse$State", name := "become", desc := "(LClockhouse$State;)V" } : MethodName) ({ cls := "Clockhouse$State", name := "become", desc := "(LClockhouse$State;)V" } : MethodName)) ∈ lw_gw := am_w 1228 (by decide +kernel) rfl
theorem w1229 : (Cond.code ({ cls := "Clockhouse$State", name := "become", desc := "(LClockhouse$State;)V" } : MethodName) prog_11_method_2_code (3 : Nat) (Option.none : Option FieldType)) ∈ lw_gw := am_w 1229 (by decide +kernel) rfl
theorem w1230 : (Cond.methodLink "Clockhouse$State" (32 : Nat) ({ cls := "Clockhouse$Big", name := "become", desc := "(LClockhouse$Big;)V" } : MethodName)) ∈ lw_gw := am_w 1230 (by decide +kernel) rfl
theorem w1231 : (Cond.methodLink "Clockhouse$State" (39 : Nat) ({ cls := "java/lang/System", name := "arraycopy", desc := "(Ljava/lang/Object;ILjava/lang/Object;II)V" } : MethodName)) ∈ lw_gw := am_w 1231 (by decide +kernel) rfl
theorem w1234 : (Cond.codeWith ({ cls := "ClockhouseLaw", name := "set", desc := "(LClockhouse;IILClockhouseLaw$Out;)I" } : MethodName) method_3_code (5 : Nat) (Option.some FieldType.int) [((0 : Nat), (11 : Nat), (14 : Nat), (25 : Nat))]) ∈ lw_gw := am_w 1234 (by decide +kernel) rfl
theorem w1235 : (Cond.classLink "ClockhouseLaw" (25 : Nat) "java/lang/IndexOutOfBoundsException") ∈ lw_gw := am_w 1235 (by decide +kernel) rfl
theorem w1236 : (Cond.methodLink "ClockhouseLaw" (21 : Nat) ({ cls := "Clockhouse", name := "set", desc := "(II)I" } : MethodName)) ∈ lw_gw := am_w 1236 (by decide +kernel) rfl
theorem w1237 : (Cond.instanceMethod ({ cls := "Clockhouse", name := "set", desc := "(II)I" } : MethodName)) ∈ lw_gw := am_w 1237 (by decide +kernel) rfl
theorem w1238 : (Cond.selects "Clockhouse" ({ cls := "Clockhouse", name := "set", desc := "(II)I" } : MethodName) ({ cls := "Clockhouse", name := "set", desc := "(II)I" } : MethodName)) ∈ lw_gw := am_w 1238 (by decide +kernel) rfl
theorem w1239 : (Cond.code ({ cls := "Clockhouse", name := "set", desc := "(II)I" } : MethodName) prog_1_method_3_code (4 : Nat) (Option.some FieldType.int)) ∈ lw_gw := am_w 1239 (by decide +kernel) rfl
theorem w1242 : (Cond.codeWith ({ cls := "ClockhouseLaw", name := "lengthen", desc := "(LClockhouse;IILClockhouseLaw$Out;)I" } : MethodName) method_4_code (5 : Nat) (Option.some FieldType.int) [((0 : Nat), (11 : Nat), (14 : Nat), (25 : Nat)), ((0 : Nat), (11 : Nat), (18 : Nat), (19 : Nat)), ((0 : Nat), (11 : Nat), (22 : Nat), (30 : Nat))]) ∈ lw_gw := am_w 1242 (by decide +kernel) rfl
theorem w1243 : (Cond.classLink "ClockhouseLaw" (30 : Nat) "java/lang/IllegalStateException") ∈ lw_gw := am_w 1243 (by decide +kernel) rfl
theorem w1244 : (Cond.methodLink "ClockhouseLaw" (27 : Nat) ({ cls := "Clockhouse", name := "lengthen", desc := "(II)I" } : MethodName)) ∈ lw_gw := am_w 1244 (by decide +kernel) rfl
theorem w1245 : (Cond.instanceMethod ({ cls := "Clockhouse", name := "lengthen", desc := "(II)I" } : MethodName)) ∈ lw_gw := am_w 1245 (by decide +kernel) rfl
theorem w1246 : (Cond.selects "Clockhouse" ({ cls := "Clockhouse", name := "lengthen", desc := "(II)I" } : MethodName) ({ cls := "Clockhouse", name := "lengthen", desc := "(II)I" } : MethodName)) ∈ lw_gw := am_w 1246 (by decide +kernel) rfl
theorem w1247 : (Cond.code ({ cls := "Clockhouse", name := "lengthen", desc := "(II)I" } : MethodName) prog_1_method_4_code (4 : Nat) (Option.some FieldType.int)) ∈ lw_gw := am_w 1247 (by decide +kernel) rfl
theorem w1248 : (Cond.constant "Clockhouse" (98 : Nat) (1000000000 : Int32)) ∈ lw_gw := am_w 1248 (by decide +kernel) rfl
theorem w1250 : (Cond.constantLong "Clockhouse" (101 : Nat) (1000000000 : Int64)) ∈ lw_gw := am_w 1250 (by decide +kernel) rfl
theorem w1251 : (Cond.methodLink "Clockhouse" (110 : Nat) ({ cls := "Clockhouse", name := "putNumber", desc := "(LClockhouse$Big;LClockhouse$Big;)I" } : MethodName)) ∈ lw_gw := am_w 1251 (by decide +kernel) rfl
theorem w1253 : (Cond.instanceMethod ({ cls := "Clockhouse", name := "putNumber", desc := "(LClockhouse$Big;LClockhouse$Big;)I" } : MethodName)) ∈ lw_gw := am_w 1253 (by decide +kernel) rfl
theorem w1254 : (Cond.code ({ cls := "Clockhouse", name := "putNumber", desc := "(LClockhouse$Big;LClockhouse$Big;)I" } : MethodName) prog_1_method_68_code (3 : Nat) (Option.some FieldType.int)) ∈ lw_gw := am_w 1254 (by decide +kernel) rfl
theorem w1255 : (Cond.classLink "Clockhouse" (168 : Nat) "java/lang/IllegalStateException") ∈ lw_gw := am_w 1255 (by decide +kernel) rfl
theorem w1257 : (Cond.castable "java/lang/IllegalStateException" "java/lang/IllegalStateException") ∈ lw_ng := am_ng 1257 (by decide +kernel) rfl
theorem w1271 : (Cond.methodLink "Clockhouse" (431 : Nat) ({ cls := "Clockhouse$Big", name := "become", desc := "(LClockhouse$Big;)V" } : MethodName)) ∈ lw_gw := am_w 1271 (by decide +kernel) rfl
theorem w1274 : (Cond.codeWith ({ cls := "ClockhouseLaw", name := "plus", desc := "(LClockhouse;IILClockhouseLaw$Out;)I" } : MethodName) method_5_code (5 : Nat) (Option.some FieldType.int) [((0 : Nat), (11 : Nat), (14 : Nat), (25 : Nat)), ((0 : Nat), (11 : Nat), (18 : Nat), (30 : Nat))]) ∈ lw_gw := am_w 1274 (by decide +kernel) rfl
theorem w1275 : (Cond.methodLink "ClockhouseLaw" (32 : Nat) ({ cls := "Clockhouse", name := "plus", desc := "(II)I" } : MethodName)) ∈ lw_gw := am_w 1275 (by decide +kernel) rfl
theorem w1276 : (Cond.instanceMethod ({ cls := "Clockhouse", name := "plus", desc := "(II)I" } : MethodName)) ∈ lw_gw := am_w 1276 (by decide +kernel) rfl
theorem w1277 : (Cond.selects "Clockhouse" ({ cls := "Clockhouse", name := "plus", desc := "(II)I" } : MethodName) ({ cls := "Clockhouse", name := "plus", desc := "(II)I" } : MethodName)) ∈ lw_gw := am_w 1277 (by decide +kernel) rfl
theorem w1278 : (Cond.code ({ cls := "Clockhouse", name := "plus", desc := "(II)I" } : MethodName) prog_1_method_5_code (5 : Nat) (Option.some FieldType.int)) ∈ lw_gw := am_w 1278 (by decide +kernel) rfl
theorem w1281 : (Cond.codeWith ({ cls := "ClockhouseLaw", name := "times", desc := "(LClockhouse;IILClockhouseLaw$Out;)I" } : MethodName) method_6_code (5 : Nat) (Option.some FieldType.int) [((0 : Nat), (11 : Nat), (14 : Nat), (25 : Nat)), ((0 : Nat), (11 : Nat), (18 : Nat), (30 : Nat))]) ∈ lw_gw := am_w 1281 (by decide +kernel) rfl
theorem w1282 : (Cond.methodLink "ClockhouseLaw" (35 : Nat) ({ cls := "Clockhouse", name := "times", desc := "(II)I" } : MethodName)) ∈ lw_gw := am_w 1282 (by decide +kernel) rfl
theorem w1283 : (Cond.instanceMethod ({ cls := "Clockhouse", name := "times", desc := "(II)I" } : MethodName)) ∈ lw_gw := am_w 1283 (by decide +kernel) rfl
theorem w1284 : (Cond.selects "Clockhouse" ({ cls := "Clockhouse", name := "times", desc := "(II)I" } : MethodName) ({ cls := "Clockhouse", name := "times", desc := "(II)I" } : MethodName)) ∈ lw_gw := am_w 1284 (by decide +kernel) rfl
theorem w1285 : (Cond.code ({ cls := "Clockhouse", name := "times", desc := "(II)I" } : MethodName) prog_1_method_6_code (5 : Nat) (Option.some FieldType.int)) ∈ lw_gw := am_w 1285 (by decide +kernel) rfl
theorem w1288 : (Cond.codeWith ({ cls := "ClockhouseLaw", name := "negate", desc := "(LClockhouse;ILClockhouseLaw$Out;)I" } : MethodName) method_7_code (4 : Nat) (Option.some FieldType.int) [((0 : Nat), (10 : Nat), (13 : Nat), (25 : Nat))]) ∈ lw_gw := am_w 1288 (by decide +kernel) rfl
theorem w1289 : (Cond.methodLink "ClockhouseLaw" (38 : Nat) ({ cls := "Clockhouse", name := "negate", desc := "(I)I" } : MethodName)) ∈ lw_gw := am_w 1289 (by decide +kernel) rfl
theorem w1290 : (Cond.instanceMethod ({ cls := "Clockhouse", name := "negate", desc := "(I)I" } : MethodName)) ∈ lw_gw := am_w 1290 (by decide +kernel) rfl
theorem w1291 : (Cond.selects "Clockhouse" ({ cls := "Clockhouse", name := "negate", desc := "(I)I" } : MethodName) ({ cls := "Clockhouse", name := "negate", desc := "(I)I" } : MethodName)) ∈ lw_gw := am_w 1291 (by decide +kernel) rfl
theorem w1292 : (Cond.code ({ cls := "Clockhouse", name := "negate", desc := "(I)I" } : MethodName) prog_1_method_7_code (3 : Nat) (Option.some FieldType.int)) ∈ lw_gw := am_w 1292 (by decide +kernel) rfl
theorem w1295 : (Cond.codeWith ({ cls := "ClockhouseLaw", name := "reduce", desc := "(LClockhouse;ILClockhouseLaw$Out;)I" } : MethodName) method_8_code (4 : Nat) (Option.some FieldType.int) [((0 : Nat), (10 : Nat), (13 : Nat), (25 : Nat))]) ∈ lw_gw := am_w 1295 (by decide +kernel) rfl
theorem w1296 : (Cond.methodLink "ClockhouseLaw" (41 : Nat) ({ cls := "Clockhouse", name := "reduce", desc := "(I)I" } : MethodName)) ∈ lw_gw := am_w 1296 (by decide +kernel) rfl
theorem w1297 : (Cond.instanceMethod ({ cls := "Clockhouse", name := "reduce", desc := "(I)I" } : MethodName)) ∈ lw_gw := am_w 1297 (by decide +kernel) rfl
theorem w1298 : (Cond.selects "Clockhouse" ({ cls := "Clockhouse", name := "reduce", desc := "(I)I" } : MethodName) ({ cls := "Clockhouse", name := "reduce", desc := "(I)I" } : MethodName)) ∈ lw_gw := am_w 1298 (by decide +kernel) rfl
theorem w1299 : (Cond.code ({ cls := "Clockhouse", name := "reduce", desc := "(I)I" } : MethodName) prog_1_method_8_code (2 : Nat) (Option.some FieldType.int)) ∈ lw_gw := am_w 1299 (by decide +kernel) rfl
theorem w1300 : (Cond.methodLink "Clockhouse" (121 : Nat) ({ cls := "Clockhouse", name := "putRound", desc := "(LClockhouse$Big;I)I" } : MethodName)) ∈ lw_gw := am_w 1300 (by decide +kernel) rfl
theorem w1302 : (Cond.instanceMethod ({ cls := "Clockhouse", name := "putRound", desc := "(LClockhouse$Big;I)I" } : MethodName)) ∈ lw_gw := am_w 1302 (by decide +kernel) rfl
theorem w1303 : (Cond.code ({ cls := "Clockhouse", name := "putRound", desc := "(LClockhouse$Big;I)I" } : MethodName) prog_1_method_69_code (3 : Nat) (Option.some FieldType.int)) ∈ lw_gw := am_w 1303 (by decide +kernel) rfl
theorem w1306 : (Cond.codeWith ({ cls := "ClockhouseLaw", name := "roundPlus", desc := "(LClockhouse;IILClockhouseLaw$Out;)I" } : MethodName) method_9_code (5 : Nat) (Option.some FieldType.int) [((0 : Nat), (11 : Nat), (14 : Nat), (25 : Nat))]) ∈ lw_gw := am_w 1306 (by decide +kernel) rfl
theorem w1307 : (Cond.methodLink "ClockhouseLaw" (44 : Nat) ({ cls := "Clockhouse", name := "roundPlus", desc := "(II)I" } : MethodName)) ∈ lw_gw := am_w 1307 (by decide +kernel) rfl
theorem w1308 : (Cond.instanceMethod ({ cls := "Clockhouse", name := "roundPlus", desc := "(II)I" } : MethodName)) ∈ lw_gw := am_w 1308 (by decide +kernel) rfl
theorem w1309 : (Cond.selects "Clockhouse" ({ cls := "Clockhouse", name := "roundPlus", desc := "(II)I" } : MethodName) ({ cls := "Clockhouse", name := "roundPlus", desc := "(II)I" } : MethodName)) ∈ lw_gw := am_w 1309 (by decide +kernel) rfl
theorem w1310 : (Cond.code ({ cls := "Clockhouse", name := "roundPlus", desc := "(II)I" } : MethodName) prog_1_method_9_code (6 : Nat) (Option.some FieldType.int)) ∈ lw_gw := am_w 1310 (by decide +kernel) rfl
theorem w1313 : (Cond.codeWith ({ cls := "ClockhouseLaw", name := "roundTimes", desc := "(LClockhouse;IILClockhouseLaw$Out;)I" } : MethodName) method_10_code (5 : Nat) (Option.some FieldType.int) [((0 : Nat), (11 : Nat), (14 : Nat), (25 : Nat))]) ∈ lw_gw := am_w 1313 (by decide +kernel) rfl
theorem w1314 : (Cond.methodLink "ClockhouseLaw" (47 : Nat) ({ cls := "Clockhouse", name := "roundTimes", desc := "(II)I" } : MethodName)) ∈ lw_gw := am_w 1314 (by decide +kernel) rfl
theorem w1315 : (Cond.instanceMethod ({ cls := "Clockhouse", name := "roundTimes", desc := "(II)I" } : MethodName)) ∈ lw_gw := am_w 1315 (by decide +kernel) rfl
theorem w1316 : (Cond.selects "Clockhouse" ({ cls := "Clockhouse", name := "roundTimes", desc := "(II)I" } : MethodName) ({ cls := "Clockhouse", name := "roundTimes", desc := "(II)I" } : MethodName)) ∈ lw_gw := am_w 1316 (by decide +kernel) rfl
theorem w1317 : (Cond.code ({ cls := "Clockhouse", name := "roundTimes", desc := "(II)I" } : MethodName) prog_1_method_10_code (6 : Nat) (Option.some FieldType.int)) ∈ lw_gw := am_w 1317 (by decide +kernel) rfl
theorem w1320 : (Cond.codeWith ({ cls := "ClockhouseLaw", name := "roundPower", desc := "(LClockhouse;IILClockhouseLaw$Out;)I" } : MethodName) method_11_code (5 : Nat) (Option.some FieldType.int) [((0 : Nat), (11 : Nat), (14 : Nat), (25 : Nat))]) ∈ lw_gw := am_w 1320 (by decide +kernel) rfl
theorem w1321 : (Cond.methodLink "ClockhouseLaw" (50 : Nat) ({ cls := "Clockhouse", name := "roundPower", desc := "(II)I" } : MethodName)) ∈ lw_gw := am_w 1321 (by decide +kernel) rfl
theorem w1322 : (Cond.instanceMethod ({ cls := "Clockhouse", name := "roundPower", desc := "(II)I" } : MethodName)) ∈ lw_gw := am_w 1322 (by decide +kernel) rfl
theorem w1323 : (Cond.selects "Clockhouse" ({ cls := "Clockhouse", name := "roundPower", desc := "(II)I" } : MethodName) ({ cls := "Clockhouse", name := "roundPower", desc := "(II)I" } : MethodName)) ∈ lw_gw := am_w 1323 (by decide +kernel) rfl
theorem w1324 : (Cond.code ({ cls := "Clockhouse", name := "roundPower", desc := "(II)I" } : MethodName) prog_1_method_11_code (3 : Nat) (Option.some FieldType.int)) ∈ lw_gw := am_w 1324 (by decide +kernel) rfl
theorem w1327 : (Cond.codeWith ({ cls := "ClockhouseLaw", name := "roundInverse", desc := "(LClockhouse;ILClockhouseLaw$Out;)I" } : MethodName) method_12_code (4 : Nat) (Option.some FieldType.int) [((0 : Nat), (10 : Nat), (13 : Nat), (25 : Nat))]) ∈ lw_gw := am_w 1327 (by decide +kernel) rfl
theorem w1328 : (Cond.methodLink "ClockhouseLaw" (53 : Nat) ({ cls := "Clockhouse", name := "roundInverse", desc := "(I)I" } : MethodName)) ∈ lw_gw := am_w 1328 (by decide +kernel) rfl
theorem w1329 : (Cond.instanceMethod ({ cls := "Clockhouse", name := "roundInverse", desc := "(I)I" } : MethodName)) ∈ lw_gw := am_w 1329 (by decide +kernel) rfl
theorem w1330 : (Cond.selects "Clockhouse" ({ cls := "Clockhouse", name := "roundInverse", desc := "(I)I" } : MethodName) ({ cls := "Clockhouse", name := "roundInverse", desc := "(I)I" } : MethodName)) ∈ lw_gw := am_w 1330 (by decide +kernel) rfl
theorem w1331 : (Cond.code ({ cls := "Clockhouse", name := "roundInverse", desc := "(I)I" } : MethodName) prog_1_method_12_code (2 : Nat) (Option.some FieldType.int)) ∈ lw_gw := am_w 1331 (by decide +kernel) rfl
theorem w1334 : (Cond.codeWith ({ cls := "ClockhouseLaw", name := "tell", desc := "(LClockhouse;IILClockhouseLaw$Out;)I" } : MethodName) method_13_code (5 : Nat) (Option.some FieldType.int) [((0 : Nat), (11 : Nat), (14 : Nat), (19 : Nat)), ((0 : Nat), (11 : Nat), (18 : Nat), (30 : Nat))]) ∈ lw_gw := am_w 1334 (by decide +kernel) rfl
theorem w1335 : (Cond.methodLink "ClockhouseLaw" (56 : Nat) ({ cls := "Clockhouse", name := "tell", desc := "(II)I" } : MethodName)) ∈ lw_gw := am_w 1335 (by decide +kernel) rfl
theorem w1336 : (Cond.instanceMethod ({ cls := "Clockhouse", name := "tell", desc := "(II)I" } : MethodName)) ∈ lw_gw := am_w 1336 (by decide +kernel) rfl
theorem w1337 : (Cond.selects "Clockhouse" ({ cls := "Clockhouse", name := "tell", desc := "(II)I" } : MethodName) ({ cls := "Clockhouse", name := "tell", desc := "(II)I" } : MethodName)) ∈ lw_gw := am_w 1337 (by decide +kernel) rfl
theorem w1338 : (Cond.code ({ cls := "Clockhouse", name := "tell", desc := "(II)I" } : MethodName) prog_1_method_13_code (3 : Nat) (Option.some FieldType.int)) ∈ lw_gw := am_w 1338 (by decide +kernel) rfl
theorem w1339 : (Cond.methodLink "Clockhouse" (135 : Nat) ({ cls := "Clockhouse", name := "needCongruence", desc := "(II)V" } : MethodName)) ∈ lw_gw := am_w 1339 (by decide +kernel) rfl
theorem w1340 : (Cond.static ({ cls := "Clockhouse", name := "needCongruence", desc := "(II)V" } : MethodName)) ∈ lw_gw := am_w 1340 (by decide +kernel) rfl
theorem w1341 : (Cond.code ({ cls := "Clockhouse", name := "needCongruence", desc := "(II)V" } : MethodName) prog_1_method_65_code (2 : Nat) (Option.none : Option FieldType)) ∈ lw_gw := am_w 1341 (by decide +kernel) rfl
theorem w1344 : (Cond.methodLink "Clockhouse" (139 : Nat) ({ cls := "Clockhouse", name := "needFreeRow", desc := "()V" } : MethodName)) ∈ lw_gw := am_w 1344 (by decide +kernel) rfl
theorem w1346 : (Cond.instanceMethod ({ cls := "Clockhouse", name := "needFreeRow", desc := "()V" } : MethodName)) ∈ lw_gw := am_w 1346 (by decide +kernel) rfl
theorem w1347 : (Cond.code ({ cls := "Clockhouse", name := "needFreeRow", desc := "()V" } : MethodName) prog_1_method_66_code (1 : Nat) (Option.none : Option FieldType)) ∈ lw_gw := am_w 1347 (by decide +kernel) rfl
theorem w1349 : (Cond.methodLink "Clockhouse" (142 : Nat) ({ cls := "Clockhouse", name := "addRow", desc := "(II)I" } : MethodName)) ∈ lw_gw := am_w 1349 (by decide +kernel) rfl
theorem w1351 : (Cond.instanceMethod ({ cls := "Clockhouse", name := "addRow", desc := "(II)I" } : MethodName)) ∈ lw_gw := am_w 1351 (by decide +kernel) rfl
theorem w1352 : (Cond.code ({ cls := "Clockhouse", name := "addRow", desc := "(II)I" } : MethodName) prog_1_method_70_code (3 : Nat) (Option.some FieldType.int)) ∈ lw_gw := am_w 1352 (by decide +kernel) rfl
theorem w1353 : (Cond.methodLink "Clockhouse" (434 : Nat) ({ cls := "Clockhouse$State", name := "addRow", desc := "(II)V" } : MethodName)) ∈ lw_gw := am_w 1353 (by decide +kernel) rfl
theorem w1354 : (Cond.instanceMethod ({ cls := "Clockhouse$State", name := "addRow", desc := "(II)V" } : MethodName)) ∈ lw_gw := am_w 1354 (by decide +kernel) rfl
theorem w1355 : (Cond.selects "Clockhouse$State" ({ cls := "Clockhouse$State", name := "addRow", desc := "(II)V" } : MethodName) ({ cls := "Clockhouse$State", name := "addRow", desc := "(II)V" } : MethodName)) ∈ lw_gw := am_w 1355 (by decide +kernel) rfl
theorem w1356 : (Cond.code ({ cls := "Clockhouse$State", name := "addRow", desc := "(II)V" } : MethodName) prog_11_method_3_code (3 : Nat) (Option.none : Option FieldType)) ∈ lw_gw := am_w 1356 (by decide +kernel) rfl
theorem w1357 : (Cond.methodLink "Clockhouse$State" (48 : Nat) ({ cls := "java/lang/Math", name := "floorMod", desc := "(II)I" } : MethodName)) ∈ lw_gw := am_w 1357 (by decide +kernel) rfl
theorem w1360 : (Cond.codeWith ({ cls := "ClockhouseLaw", name := "tellIf", desc := "(LClockhouse;IILClockhouseLaw$Out;)I" } : MethodName) method_14_code (5 : Nat) (Option.some FieldType.int) [((0 : Nat), (18 : Nat), (21 : Nat), (19 : Nat)), ((0 : Nat), (18 : Nat), (25 : Nat), (30 : Nat))]) ∈ lw_gw := am_w 1360 (by decide +kernel) rfl
theorem w1361 : (Cond.methodLink "ClockhouseLaw" (59 : Nat) ({ cls := "Clockhouse", name := "tellIf", desc := "(II)Z" } : MethodName)) ∈ lw_gw := am_w 1361 (by decide +kernel) rfl
theorem w1362 : (Cond.instanceMethod ({ cls := "Clockhouse", name := "tellIf", desc := "(II)Z" } : MethodName)) ∈ lw_gw := am_w 1362 (by decide +kernel) rfl
theorem w1363 : (Cond.selects "Clockhouse" ({ cls := "Clockhouse", name := "tellIf", desc := "(II)Z" } : MethodName) ({ cls := "Clockhouse", name := "tellIf", desc := "(II)Z" } : MethodName)) ∈ lw_gw := am_w 1363 (by decide +kernel) rfl
theorem w1364 : (Cond.code ({ cls := "Clockhouse", name := "tellIf", desc := "(II)Z" } : MethodName) prog_1_method_14_code (3 : Nat) (Option.some FieldType.boolean)) ∈ lw_gw := am_w 1364 (by decide +kernel) rfl
theorem w1365 : (Cond.methodLink "Clockhouse" (148 : Nat) ({ cls := "Clockhouse$Joiner", name := "admits", desc := "(II)Z" } : MethodName)) ∈ lw_gw := am_w 1365 (by decide +kernel) rfl
theorem w1368 : (Cond.codeWith ({ cls := "ClockhouseLaw", name := "drop", desc := "(LClockhouse;ILClockhouseLaw$Out;)I" } : MethodName) method_15_code (4 : Nat) (Option.some FieldType.int) [((0 : Nat), (10 : Nat), (13 : Nat), (25 : Nat))]) ∈ lw_gw := am_w 1368 (by decide +kernel) rfl
theorem w1369 : (Cond.methodLink "ClockhouseLaw" (63 : Nat) ({ cls := "Clockhouse", name := "drop", desc := "(I)I" } : MethodName)) ∈ lw_gw := am_w 1369 (by decide +kernel) rfl
theorem w1370 : (Cond.instanceMethod ({ cls := "Clockhouse", name := "drop", desc := "(I)I" } : MethodName)) ∈ lw_gw := am_w 1370 (by decide +kernel) rfl
theorem w1371 : (Cond.selects "Clockhouse" ({ cls := "Clockhouse", name := "drop", desc := "(I)I" } : MethodName) ({ cls := "Clockhouse", name := "drop", desc := "(I)I" } : MethodName)) ∈ lw_gw := am_w 1371 (by decide +kernel) rfl
theorem w1372 : (Cond.code ({ cls := "Clockhouse", name := "drop", desc := "(I)I" } : MethodName) prog_1_method_15_code (2 : Nat) (Option.some FieldType.int)) ∈ lw_gw := am_w 1372 (by decide +kernel) rfl
theorem w1373 : (Cond.methodLink "Clockhouse" (152 : Nat) ({ cls := "Clockhouse", name := "needRow", desc := "(I)V" } : MethodName)) ∈ lw_gw := am_w 1373 (by decide +kernel) rfl
theorem w1375 : (Cond.instanceMethod ({ cls := "Clockhouse", name := "needRow", desc := "(I)V" } : MethodName)) ∈ lw_gw := am_w 1375 (by decide +kernel) rfl
theorem w1376 : (Cond.code ({ cls := "Clockhouse", name := "needRow", desc := "(I)V" } : MethodName) prog_1_method_67_code (2 : Nat) (Option.none : Option FieldType)) ∈ lw_gw := am_w 1376 (by decide +kernel) rfl
theorem w1378 : (Cond.methodLink "Clockhouse" (156 : Nat) ({ cls := "Clockhouse$State", name := "removeRow", desc := "(I)V" } : MethodName)) ∈ lw_gw := am_w 1378 (by decide +kernel) rfl
theorem w1379 : (Cond.instanceMethod ({ cls := "Clockhouse$State", name := "removeRow", desc := "(I)V" } : MethodName)) ∈ lw_gw := am_w 1379 (by decide +kernel) rfl
theorem w1380 : (Cond.selects "Clockhouse$State" ({ cls := "Clockhouse$State", name := "removeRow", desc := "(I)V" } : MethodName) ({ cls := "Clockhouse$State", name := "removeRow", desc := "(I)V" } : MethodName)) ∈ lw_gw := am_w 1380 (by decide +kernel) rfl
theorem w1381 : (Cond.code ({ cls := "Clockhouse$State", name := "removeRow", desc := "(I)V" } : MethodName) prog_11_method_4_code (3 : Nat) (Option.none : Option FieldType)) ∈ lw_gw := am_w 1381 (by decide +kernel) rfl
theorem w1384 : (Cond.codeWith ({ cls := "ClockhouseLaw", name := "base", desc := "(LClockhouse;ILClockhouseLaw$Out;)I" } : MethodName) method_16_code (4 : Nat) (Option.some FieldType.int) [((0 : Nat), (10 : Nat), (13 : Nat), (19 : Nat)), ((0 : Nat), (10 : Nat), (16 : Nat), (30 : Nat))]) ∈ lw_gw := am_w 1384 (by decide +kernel) rfl
theorem w1385 : (Cond.methodLink "ClockhouseLaw" (66 : Nat) ({ cls := "Clockhouse", name := "base", desc := "(I)I" } : MethodName)) ∈ lw_gw := am_w 1385 (by decide +kernel) rfl
theorem w1386 : (Cond.instanceMethod ({ cls := "Clockhouse", name := "base", desc := "(I)I" } : MethodName)) ∈ lw_gw := am_w 1386 (by decide +kernel) rfl
theorem w1387 : (Cond.selects "Clockhouse" ({ cls := "Clockhouse", name := "base", desc := "(I)I" } : MethodName) ({ cls := "Clockhouse", name := "base", desc := "(I)I" } : MethodName)) ∈ lw_gw := am_w 1387 (by decide +kernel) rfl
theorem w1388 : (Cond.code ({ cls := "Clockhouse", name := "base", desc := "(I)I" } : MethodName) prog_1_method_16_code (2 : Nat) (Option.some FieldType.int)) ∈ lw_gw := am_w 1388 (by decide +kernel) rfl
theorem w1390 : (Cond.methodLink "Clockhouse" (164 : Nat) ({ cls := "Clockhouse$State", name := "takesBase", desc := "(I)Z" } : MethodName)) ∈ lw_gw := am_w 1390 (by decide +kernel) rfl
theorem w1391 : (Cond.instanceMethod ({ cls := "Clockhouse$State", name := "takesBase", desc := "(I)Z" } : MethodName)) ∈ lw_gw := am_w 1391 (by decide +kernel) rfl
theorem w1392 : (Cond.selects "Clockhouse$State" ({ cls := "Clockhouse$State", name := "takesBase", desc := "(I)Z" } : MethodName) ({ cls := "Clockhouse$State", name := "takesBase", desc := "(I)Z" } : MethodName)) ∈ lw_gw := am_w 1392 (by decide +kernel) rfl
theorem w1393 : (Cond.code ({ cls := "Clockhouse$State", name := "takesBase", desc := "(I)Z" } : MethodName) prog_11_method_6_code (3 : Nat) (Option.some FieldType.boolean)) ∈ lw_gw := am_w 1393 (by decide +kernel) rfl
theorem w1395 : (Cond.methodLink "Clockhouse" (173 : Nat) ({ cls := "Clockhouse$State", name := "addBase", desc := "(I)V" } : MethodName)) ∈ lw_gw := am_w 1395 (by decide +kernel) rfl
theorem w1396 : (Cond.instanceMethod ({ cls := "Clockhouse$State", name := "addBase", desc := "(I)V" } : MethodName)) ∈ lw_gw := am_w 1396 (by decide +kernel) rfl
theorem w1397 : (Cond.selects "Clockhouse$State" ({ cls := "Clockhouse$State", name := "addBase", desc := "(I)V" } : MethodName) ({ cls := "Clockhouse$State", name := "addBase", desc := "(I)V" } : MethodName)) ∈ lw_gw := am_w 1397 (by decide +kernel) rfl
theorem w1398 : (Cond.code ({ cls := "Clockhouse$State", name := "addBase", desc := "(I)V" } : MethodName) prog_11_method_7_code (2 : Nat) (Option.none : Option FieldType)) ∈ lw_gw := am_w 1398 (by decide +kernel) rfl
theorem w1401 : (Cond.codeWith ({ cls := "ClockhouseLaw", name := "unbase", desc := "(LClockhouse;LClockhouseLaw$Out;)I" } : MethodName) method_17_code (3 : Nat) (Option.some FieldType.int) [((0 : Nat), (9 : Nat), (12 : Nat), (30 : Nat))]) ∈ lw_gw := am_w 1401 (by decide +kernel) rfl
theorem w1402 : (Cond.methodLink "ClockhouseLaw" (69 : Nat) ({ cls := "Clockhouse", name := "unbase", desc := "()I" } : MethodName)) ∈ lw_gw := am_w 1402 (by decide +kernel) rfl
theorem w1403 : (Cond.instanceMethod ({ cls := "Clockhouse", name := "unbase", desc := "()I" } : MethodName)) ∈ lw_gw := am_w 1403 (by decide +kernel) rfl
theorem w1404 : (Cond.selects "Clockhouse" ({ cls := "Clockhouse", name := "unbase", desc := "()I" } : MethodName) ({ cls := "Clockhouse", name := "unbase", desc := "()I" } : MethodName)) ∈ lw_gw := am_w 1404 (by decide +kernel) rfl
theorem w1405 : (Cond.code ({ cls := "Clockhouse", name := "unbase", desc := "()I" } : MethodName) prog_1_method_17_code (1 : Nat) (Option.some FieldType.int)) ∈ lw_gw := am_w 1405 (by decide +kernel) rfl
theorem w1407 : (Cond.methodLink "Clockhouse" (181 : Nat) ({ cls := "Clockhouse$State", name := "removeBase", desc := "()I" } : MethodName)) ∈ lw_gw := am_w 1407 (by decide +kernel) rfl
theorem w1408 : (Cond.instanceMethod ({ cls := "Clockhouse$State", name := "removeBase", desc := "()I" } : MethodName)) ∈ lw_gw := am_w 1408 (by decide +kernel) rfl
theorem w1409 : (Cond.selects "Clockhouse$State" ({ cls := "Clockhouse$State", name := "removeBase", desc := "()I" } : MethodName) ({ cls := "Clockhouse$State", name := "removeBase", desc := "()I" } : MethodName)) ∈ lw_gw := am_w 1409 (by decide +kernel) rfl
theorem w1410 : (Cond.code ({ cls := "Clockhouse$State", name := "removeBase", desc := "()I" } : MethodName) prog_11_method_8_code (1 : Nat) (Option.some FieldType.int)) ∈ lw_gw := am_w 1410 (by decide +kernel) rfl
theorem w1413 : (Cond.codeWith ({ cls := "ClockhouseLaw", name := "undo", desc := "(LClockhouse;LClockhouseLaw$Out;)I" } : MethodName) method_18_code (3 : Nat) (Option.some FieldType.int) [((0 : Nat), (9 : Nat), (12 : Nat), (30 : Nat))]) ∈ lw_gw := am_w 1413 (by decide +kernel) rfl
theorem w1414 : (Cond.methodLink "ClockhouseLaw" (73 : Nat) ({ cls := "Clockhouse", name := "undo", desc := "()I" } : MethodName)) ∈ lw_gw := am_w 1414 (by decide +kernel) rfl
theorem w1415 : (Cond.instanceMethod ({ cls := "Clockhouse", name := "undo", desc := "()I" } : MethodName)) ∈ lw_gw := am_w 1415 (by decide +kernel) rfl
theorem w1416 : (Cond.selects "Clockhouse" ({ cls := "Clockhouse", name := "undo", desc := "()I" } : MethodName) ({ cls := "Clockhouse", name := "undo", desc := "()I" } : MethodName)) ∈ lw_gw := am_w 1416 (by decide +kernel) rfl
theorem w1417 : (Cond.code ({ cls := "Clockhouse", name := "undo", desc := "()I" } : MethodName) prog_1_method_18_code (1 : Nat) (Option.some FieldType.int)) ∈ lw_gw := am_w 1417 (by decide +kernel) rfl
theorem w1419 : (Cond.methodLink "Clockhouse" (189 : Nat) ({ cls := "Clockhouse$Past", name := "bringBack", desc := "(LClockhouse$State;)V" } : MethodName)) ∈ lw_gw := am_w 1419 (by decide +kernel) rfl
theorem w1420 : (Cond.instanceMethod ({ cls := "Clockhouse$Past", name := "bringBack", desc := "(LClockhouse$State;)V" } : MethodName)) ∈ lw_gw := am_w 1420 (by decide +kernel) rfl
theorem w1421 : (Cond.selects "Clockhouse$Past" ({ cls := "Clockhouse$Past", name := "bringBack", desc := "(LClockhouse$State;)V" } : MethodName) ({ cls := "Clockhouse$Past", name := "bringBack", desc := "(LClockhouse$State;)V" } : MethodName)) ∈ lw_gw := am_w 1421 (by decide +kernel) rfl
theorem w1422 : (Cond.code ({ cls := "Clockhouse$Past", name := "bringBack", desc := "(LClockhouse$State;)V" } : MethodName) prog_7_method_3_code (2 : Nat) (Option.none : Option FieldType)) ∈ lw_gw := am_w 1422 (by decide +kernel) rfl
theorem w1425 : (Cond.codeWith ({ cls := "ClockhouseLaw", name := "number", desc := "(LClockhouse;ILClockhouseLaw$Out;)I" } : MethodName) method_19_code (4 : Nat) (Option.some FieldType.int) [((0 : Nat), (9 : Nat), (12 : Nat), (25 : Nat))]) ∈ lw_gw := am_w 1425 (by decide +kernel) rfl
theorem w1426 : (Cond.methodLink "ClockhouseLaw" (76 : Nat) ({ cls := "Clockhouse", name := "number", desc := "(I)Ljava/lang/String;" } : MethodName)) ∈ lw_gw := am_w 1426 (by decide +kernel) rfl
theorem w1427 : (Cond.instanceMethod ({ cls := "Clockhouse", name := "number", desc := "(I)Ljava/lang/String;" } : MethodName)) ∈ lw_gw := am_w 1427 (by decide +kernel) rfl
theorem w1428 : (Cond.selects "Clockhouse" ({ cls := "Clockhouse", name := "number", desc := "(I)Ljava/lang/String;" } : MethodName) ({ cls := "Clockhouse", name := "number", desc := "(I)Ljava/lang/String;" } : MethodName)) ∈ lw_gw := am_w 1428 (by decide +kernel) rfl
theorem w1429 : (Cond.code ({ cls := "Clockhouse", name := "number", desc := "(I)Ljava/lang/String;" } : MethodName) prog_1_method_20_code (2 : Nat) (Option.some (FieldType.object "java/lang/String"))) ∈ lw_gw := am_w 1429 (by decide +kernel) rfl
theorem w1432 : (Cond.codeWith ({ cls := "ClockhouseLaw", name := "digits", desc := "(LClockhouse;ILClockhouseLaw$Out;)I" } : MethodName) method_20_code (4 : Nat) (Option.some FieldType.int) [((0 : Nat), (10 : Nat), (13 : Nat), (25 : Nat))]) ∈ lw_gw := am_w 1432 (by decide +kernel) rfl
theorem w1433 : (Cond.methodLink "ClockhouseLaw" (84 : Nat) ({ cls := "Clockhouse", name := "digits", desc := "(I)I" } : MethodName)) ∈ lw_gw := am_w 1433 (by decide +kernel) rfl
theorem w1434 : (Cond.instanceMethod ({ cls := "Clockhouse", name := "digits", desc := "(I)I" } : MethodName)) ∈ lw_gw := am_w 1434 (by decide +kernel) rfl
theorem w1435 : (Cond.selects "Clockhouse" ({ cls := "Clockhouse", name := "digits", desc := "(I)I" } : MethodName) ({ cls := "Clockhouse", name := "digits", desc := "(I)I" } : MethodName)) ∈ lw_gw := am_w 1435 (by decide +kernel) rfl
theorem w1436 : (Cond.code ({ cls := "Clockhouse", name := "digits", desc := "(I)I" } : MethodName) prog_1_method_21_code (2 : Nat) (Option.some FieldType.int)) ∈ lw_gw := am_w 1436 (by decide +kernel) rfl
theorem w1439 : (Cond.codeWith ({ cls := "ClockhouseLaw", name := "bigGcd", desc := "(LClockhouse;IILClockhouseLaw$Out;)I" } : MethodName) method_21_code (5 : Nat) (Option.some FieldType.int) [((0 : Nat), (10 : Nat), (13 : Nat), (25 : Nat))]) ∈ lw_gw := am_w 1439 (by decide +kernel) rfl
theorem w1440 : (Cond.methodLink "ClockhouseLaw" (87 : Nat) ({ cls := "Clockhouse", name := "bigGcd", desc := "(II)Ljava/lang/String;" } : MethodName)) ∈ lw_gw := am_w 1440 (by decide +kernel) rfl
theorem w1441 : (Cond.instanceMethod ({ cls := "Clockhouse", name := "bigGcd", desc := "(II)Ljava/lang/String;" } : MethodName)) ∈ lw_gw := am_w 1441 (by decide +kernel) rfl
theorem w1442 : (Cond.selects "Clockhouse" ({ cls := "Clockhouse", name := "bigGcd", desc := "(II)Ljava/lang/String;" } : MethodName) ({ cls := "Clockhouse", name := "bigGcd", desc := "(II)Ljava/lang/String;" } : MethodName)) ∈ lw_gw := am_w 1442 (by decide +kernel) rfl
theorem w1443 : (Cond.code ({ cls := "Clockhouse", name := "bigGcd", desc := "(II)Ljava/lang/String;" } : MethodName) prog_1_method_22_code (5 : Nat) (Option.some (FieldType.object "java/lang/String"))) ∈ lw_gw := am_w 1443 (by decide +kernel) rfl
theorem w1444 : (Cond.methodLink "Clockhouse" (199 : Nat) ({ cls := "Clockhouse$BigRound", name := "findGcd", desc := "(LClockhouse$Big;LClockhouse$Big;)V" } : MethodName)) ∈ lw_gw := am_w 1444 (by decide +kernel) rfl
theorem w1445 : (Cond.instanceMethod ({ cls := "Clockhouse$BigRound", name := "findGcd", desc := "(LClockhouse$Big;LClockhouse$Big;)V" } : MethodName)) ∈ lw_gw := am_w 1445 (by decide +kernel) rfl
theorem w1446 : (Cond.selects "Clockhouse$BigRound" ({ cls := "Clockhouse$BigRound", name := "findGcd", desc := "(LClockhouse$Big;LClockhouse$Big;)V" } : MethodName) ({ cls := "Clockhouse$BigRound", name := "findGcd", desc := "(LClockhouse$Big;LClockhouse$Big;)V" } : MethodName)) ∈ lw_gw := am_w 1446 (by decide +kernel) rfl
theorem w1447 : (Cond.code ({ cls := "Clockhouse$BigRound", name := "findGcd", desc := "(LClockhouse$Big;LClockhouse$Big;)V" } : MethodName) prog_3_method_3_code (7 : Nat) (Option.none : Option FieldType)) ∈ lw_gw := am_w 1447 (by decide +kernel) rfl
theorem w1448 : (Cond.methodLink "Clockhouse$BigRound" (61 : Nat) ({ cls := "Clockhouse$Big", name := "settle", desc := "(I)V" } : MethodName)) ∈ lw_gw := am_w 1448 (by decide +kernel) rfl
theorem w1451 : (Cond.codeWith ({ cls := "ClockhouseLaw", name := "bigMod", desc := "(LClockhouse;IILClockhouseLaw$Out;)I" } : MethodName) method_22_code (5 : Nat) (Option.some FieldType.int) [((0 : Nat), (10 : Nat), (13 : Nat), (25 : Nat))]) ∈ lw_gw := am_w 1451 (by decide +kernel) rfl
theorem w1452 : (Cond.methodLink "ClockhouseLaw" (91 : Nat) ({ cls := "Clockhouse", name := "bigMod", desc := "(II)Ljava/lang/String;" } : MethodName)) ∈ lw_gw := am_w 1452 (by decide +kernel) rfl
theorem w1453 : (Cond.instanceMethod ({ cls := "Clockhouse", name := "bigMod", desc := "(II)Ljava/lang/String;" } : MethodName)) ∈ lw_gw := am_w 1453 (by decide +kernel) rfl
theorem w1454 : (Cond.selects "Clockhouse" ({ cls := "Clockhouse", name := "bigMod", desc := "(II)Ljava/lang/String;" } : MethodName) ({ cls := "Clockhouse", name := "bigMod", desc := "(II)Ljava/lang/String;" } : MethodName)) ∈ lw_gw := am_w 1454 (by decide +kernel) rfl
theorem w1455 : (Cond.code ({ cls := "Clockhouse", name := "bigMod", desc := "(II)Ljava/lang/String;" } : MethodName) prog_1_method_23_code (5 : Nat) (Option.some (FieldType.object "java/lang/String"))) ∈ lw_gw := am_w 1455 (by decide +kernel) rfl
theorem w1459 : (Cond.codeWith ({ cls := "ClockhouseLaw", name := "bigInverse", desc := "(LClockhouse;IILClockhouseLaw$Out;)I" } : MethodName) method_23_code (5 : Nat) (Option.some FieldType.int) [((0 : Nat), (10 : Nat), (13 : Nat), (25 : Nat))]) ∈ lw_gw := am_w 1459 (by decide +kernel) rfl
theorem w1460 : (Cond.methodLink "ClockhouseLaw" (94 : Nat) ({ cls := "Clockhouse", name := "bigInverse", desc := "(II)Ljava/lang/String;" } : MethodName)) ∈ lw_gw := am_w 1460 (by decide +kernel) rfl
theorem w1461 : (Cond.instanceMethod ({ cls := "Clockhouse", name := "bigInverse", desc := "(II)Ljava/lang/String;" } : MethodName)) ∈ lw_gw := am_w 1461 (by decide +kernel) rfl
theorem w1462 : (Cond.selects "Clockhouse" ({ cls := "Clockhouse", name := "bigInverse", desc := "(II)Ljava/lang/String;" } : MethodName) ({ cls := "Clockhouse", name := "bigInverse", desc := "(II)Ljava/lang/String;" } : MethodName)) ∈ lw_gw := am_w 1462 (by decide +kernel) rfl
theorem w1463 : (Cond.code ({ cls := "Clockhouse", name := "bigInverse", desc := "(II)Ljava/lang/String;" } : MethodName) prog_1_method_24_code (5 : Nat) (Option.some (FieldType.object "java/lang/String"))) ∈ lw_gw := am_w 1463 (by decide +kernel) rfl
theorem w1464 : (Cond.methodLink "Clockhouse" (210 : Nat) ({ cls := "Clockhouse$BigRound", name := "findInverse", desc := "(LClockhouse$Big;LClockhouse$Big;)Z" } : MethodName)) ∈ lw_gw := am_w 1464 (by decide +kernel) rfl
theorem w1465 : (Cond.instanceMethod ({ cls := "Clockhouse$BigRound", name := "findInverse", desc := "(LClockhouse$Big;LClockhouse$Big;)Z" } : MethodName)) ∈ lw_gw := am_w 1465 (by decide +kernel) rfl
theorem w1466 : (Cond.selects "Clockhouse$BigRound" ({ cls := "Clockhouse$BigRound", name := "findInverse", desc := "(LClockhouse$Big;LClockhouse$Big;)Z" } : MethodName) ({ cls := "Clockhouse$BigRound", name := "findInverse", desc := "(LClockhouse$Big;LClockhouse$Big;)Z" } : MethodName)) ∈ lw_gw := am_w 1466 (by decide +kernel) rfl
theorem w1467 : (Cond.code ({ cls := "Clockhouse$BigRound", name := "findInverse", desc := "(LClockhouse$Big;LClockhouse$Big;)Z" } : MethodName) prog_3_method_4_code (10 : Nat) (Option.some FieldType.boolean)) ∈ lw_gw := am_w 1467 (by decide +kernel) rfl
theorem w1468 : (Cond.methodLink "Clockhouse$BigRound" (65 : Nat) ({ cls := "Clockhouse$BigRound", name := "findRest", desc := "(LClockhouse$Big;LClockhouse$Big;)V" } : MethodName)) ∈ lw_gw := am_w 1468 (by decide +kernel) rfl
theorem w1469 : (Cond.methodLink "Clockhouse$BigRound" (68 : Nat) ({ cls := "Clockhouse$Big", name := "becomeLong", desc := "(J)V" } : MethodName)) ∈ lw_gw := am_w 1469 (by decide +kernel) rfl
theorem w1470 : (Cond.methodLink "Clockhouse$BigRound" (75 : Nat) ({ cls := "Clockhouse$Big", name := "becomeProduct", desc := "(LClockhouse$Big;LClockhouse$Big;)V" } : MethodName)) ∈ lw_gw := am_w 1470 (by decide +kernel) rfl
theorem w1471 : (Cond.methodLink "Clockhouse$BigRound" (78 : Nat) ({ cls := "Clockhouse$Big", name := "limb", desc := "(I)I" } : MethodName)) ∈ lw_gw := am_w 1471 (by decide +kernel) rfl
theorem w1475 : (Cond.codeWith ({ cls := "ClockhouseLaw", name := "bigPower", desc := "(LClockhouse;IIILClockhouseLaw$Out;)I" } : MethodName) method_24_code (6 : Nat) (Option.some FieldType.int) [((0 : Nat), (12 : Nat), (15 : Nat), (25 : Nat))]) ∈ lw_gw := am_w 1475 (by decide +kernel) rfl
theorem w1476 : (Cond.methodLink "ClockhouseLaw" (97 : Nat) ({ cls := "Clockhouse", name := "bigPower", desc := "(III)Ljava/lang/String;" } : MethodName)) ∈ lw_gw := am_w 1476 (by decide +kernel) rfl
theorem w1477 : (Cond.instanceMethod ({ cls := "Clockhouse", name := "bigPower", desc := "(III)Ljava/lang/String;" } : MethodName)) ∈ lw_gw := am_w 1477 (by decide +kernel) rfl
theorem w1478 : (Cond.selects "Clockhouse" ({ cls := "Clockhouse", name := "bigPower", desc := "(III)Ljava/lang/String;" } : MethodName) ({ cls := "Clockhouse", name := "bigPower", desc := "(III)Ljava/lang/String;" } : MethodName)) ∈ lw_gw := am_w 1478 (by decide +kernel) rfl
theorem w1479 : (Cond.code ({ cls := "Clockhouse", name := "bigPower", desc := "(III)Ljava/lang/String;" } : MethodName) prog_1_method_25_code (7 : Nat) (Option.some (FieldType.object "java/lang/String"))) ∈ lw_gw := am_w 1479 (by decide +kernel) rfl
theorem w1480 : (Cond.methodLink "Clockhouse" (216 : Nat) ({ cls := "Clockhouse$BigRound", name := "findPower", desc := "(LClockhouse$Big;LClockhouse$Big;LClockhouse$Big;)Z" } : MethodName)) ∈ lw_gw := am_w 1480 (by decide +kernel) rfl
theorem w1481 : (Cond.instanceMethod ({ cls := "Clockhouse$BigRound", name := "findPower", desc := "(LClockhouse$Big;LClockhouse$Big;LClockhouse$Big;)Z" } : MethodName)) ∈ lw_gw := am_w 1481 (by decide +kernel) rfl
theorem w1482 : (Cond.selects "Clockhouse$BigRound" ({ cls := "Clockhouse$BigRound", name := "findPower", desc := "(LClockhouse$Big;LClockhouse$Big;LClockhouse$Big;)Z" } : MethodName) ({ cls := "Clockhouse$BigRound", name := "findPower", desc := "(LClockhouse$Big;LClockhouse$Big;LClockhouse$Big;)Z" } : MethodName)) ∈ lw_gw := am_w 1482 (by decide +kernel) rfl
theorem w1483 : (Cond.code ({ cls := "Clockhouse$BigRound", name := "findPower", desc := "(LClockhouse$Big;LClockhouse$Big;LClockhouse$Big;)Z" } : MethodName) prog_3_method_5_code (7 : Nat) (Option.some FieldType.boolean)) ∈ lw_gw := am_w 1483 (by decide +kernel) rfl
theorem w1484 : (Cond.methodLink "Clockhouse$BigRound" (82 : Nat) ({ cls := "Clockhouse$BigRound", name := "findInverse", desc := "(LClockhouse$Big;LClockhouse$Big;)Z" } : MethodName)) ∈ lw_gw := am_w 1484 (by decide +kernel) rfl
theorem w1485 : (Cond.methodLink "Clockhouse$BigRound" (86 : Nat) ({ cls := "Clockhouse$BigRound", name := "multiply", desc := "(LClockhouse$Big;LClockhouse$Big;LClockhouse$Big;)V" } : MethodName)) ∈ lw_gw := am_w 1485 (by decide +kernel) rfl
theorem w1487 : (Cond.instanceMethod ({ cls := "Clockhouse$BigRound", name := "multiply", desc := "(LClockhouse$Big;LClockhouse$Big;LClockhouse$Big;)V" } : MethodName)) ∈ lw_gw := am_w 1487 (by decide +kernel) rfl
theorem w1488 : (Cond.code ({ cls := "Clockhouse$BigRound", name := "multiply", desc := "(LClockhouse$Big;LClockhouse$Big;LClockhouse$Big;)V" } : MethodName) prog_3_method_6_code (4 : Nat) (Option.none : Option FieldType)) ∈ lw_gw := am_w 1488 (by decide +kernel) rfl
theorem w1489 : (Cond.methodLink "Clockhouse$BigRound" (90 : Nat) ({ cls := "Clockhouse$Big", name := "scaleDown", desc := "(I)V" } : MethodName)) ∈ lw_gw := am_w 1489 (by decide +kernel) rfl
theorem w1492 : (Cond.codeWith ({ cls := "ClockhouseLaw", name := "mod", desc := "(LClockhouse;ILClockhouseLaw$Out;)I" } : MethodName) method_25_code (4 : Nat) (Option.some FieldType.int) [((0 : Nat), (10 : Nat), (13 : Nat), (25 : Nat))]) ∈ lw_gw := am_w 1492 (by decide +kernel) rfl
theorem w1493 : (Cond.methodLink "ClockhouseLaw" (101 : Nat) ({ cls := "Clockhouse", name := "mod", desc := "(I)I" } : MethodName)) ∈ lw_gw := am_w 1493 (by decide +kernel) rfl
theorem w1496 : (Cond.codeWith ({ cls := "ClockhouseLaw", name := "gcd", desc := "(LClockhouse;ILClockhouseLaw$Out;)I" } : MethodName) method_26_code (4 : Nat) (Option.some FieldType.int) [((0 : Nat), (10 : Nat), (13 : Nat), (25 : Nat))]) ∈ lw_gw := am_w 1496 (by decide +kernel) rfl
theorem w1497 : (Cond.methodLink "ClockhouseLaw" (104 : Nat) ({ cls := "Clockhouse", name := "gcd", desc := "(I)I" } : MethodName)) ∈ lw_gw := am_w 1497 (by decide +kernel) rfl
theorem w1500 : (Cond.codeWith ({ cls := "ClockhouseLaw", name := "power", desc := "(LClockhouse;IILClockhouseLaw$Out;)I" } : MethodName) method_27_code (5 : Nat) (Option.some FieldType.int) [((0 : Nat), (11 : Nat), (14 : Nat), (25 : Nat))]) ∈ lw_gw := am_w 1500 (by decide +kernel) rfl
theorem w1501 : (Cond.methodLink "ClockhouseLaw" (107 : Nat) ({ cls := "Clockhouse", name := "power", desc := "(II)I" } : MethodName)) ∈ lw_gw := am_w 1501 (by decide +kernel) rfl
theorem w1504 : (Cond.codeWith ({ cls := "ClockhouseLaw", name := "inverse", desc := "(LClockhouse;ILClockhouseLaw$Out;)I" } : MethodName) method_28_code (4 : Nat) (Option.some FieldType.int) [((0 : Nat), (10 : Nat), (13 : Nat), (25 : Nat))]) ∈ lw_gw := am_w 1504 (by decide +kernel) rfl
theorem w1505 : (Cond.methodLink "ClockhouseLaw" (110 : Nat) ({ cls := "Clockhouse", name := "inverse", desc := "(I)I" } : MethodName)) ∈ lw_gw := am_w 1505 (by decide +kernel) rfl
theorem w1508 : (Cond.codeWith ({ cls := "ClockhouseLaw", name := "solutions", desc := "(LClockhouse;IILClockhouseLaw$Out;)I" } : MethodName) method_29_code (5 : Nat) (Option.some FieldType.int) [((0 : Nat), (11 : Nat), (14 : Nat), (25 : Nat))]) ∈ lw_gw := am_w 1508 (by decide +kernel) rfl
theorem w1509 : (Cond.methodLink "ClockhouseLaw" (113 : Nat) ({ cls := "Clockhouse", name := "solutions", desc := "(II)I" } : MethodName)) ∈ lw_gw := am_w 1509 (by decide +kernel) rfl
theorem w1512 : (Cond.codeWith ({ cls := "ClockhouseLaw", name := "solution", desc := "(LClockhouse;IIILClockhouseLaw$Out;)I" } : MethodName) method_30_code (6 : Nat) (Option.some FieldType.int) [((0 : Nat), (13 : Nat), (16 : Nat), (25 : Nat)), ((0 : Nat), (13 : Nat), (20 : Nat), (19 : Nat))]) ∈ lw_gw := am_w 1512 (by decide +kernel) rfl
theorem w1513 : (Cond.methodLink "ClockhouseLaw" (116 : Nat) ({ cls := "Clockhouse", name := "solution", desc := "(III)I" } : MethodName)) ∈ lw_gw := am_w 1513 (by decide +kernel) rfl
theorem w1514 : (Cond.instanceMethod ({ cls := "Clockhouse", name := "solution", desc := "(III)I" } : MethodName)) ∈ lw_gw := am_w 1514 (by decide +kernel) rfl
theorem w1515 : (Cond.selects "Clockhouse" ({ cls := "Clockhouse", name := "solution", desc := "(III)I" } : MethodName) ({ cls := "Clockhouse", name := "solution", desc := "(III)I" } : MethodName)) ∈ lw_gw := am_w 1515 (by decide +kernel) rfl
theorem w1516 : (Cond.code ({ cls := "Clockhouse", name := "solution", desc := "(III)I" } : MethodName) prog_1_method_32_code (7 : Nat) (Option.some FieldType.int)) ∈ lw_gw := am_w 1516 (by decide +kernel) rfl
theorem w1517 : (Cond.methodLink "Clockhouse" (243 : Nat) ({ cls := "Clockhouse$Round", name := "solutionAt", desc := "(IIII)I" } : MethodName)) ∈ lw_gw := am_w 1517 (by decide +kernel) rfl
theorem w1520 : (Cond.codeWith ({ cls := "ClockhouseLaw", name := "order", desc := "(LClockhouse;ILClockhouseLaw$Out;)I" } : MethodName) method_31_code (4 : Nat) (Option.some FieldType.int) [((0 : Nat), (10 : Nat), (13 : Nat), (25 : Nat))]) ∈ lw_gw := am_w 1520 (by decide +kernel) rfl
theorem w1521 : (Cond.methodLink "ClockhouseLaw" (120 : Nat) ({ cls := "Clockhouse", name := "order", desc := "(I)I" } : MethodName)) ∈ lw_gw := am_w 1521 (by decide +kernel) rfl
theorem w1524 : (Cond.codeWith ({ cls := "ClockhouseLaw", name := "generator", desc := "(LClockhouse;ILClockhouseLaw$Out;)I" } : MethodName) method_32_code (4 : Nat) (Option.some FieldType.int) [((0 : Nat), (10 : Nat), (13 : Nat), (19 : Nat))]) ∈ lw_gw := am_w 1524 (by decide +kernel) rfl
theorem w1525 : (Cond.methodLink "ClockhouseLaw" (123 : Nat) ({ cls := "Clockhouse", name := "generator", desc := "(I)I" } : MethodName)) ∈ lw_gw := am_w 1525 (by decide +kernel) rfl
theorem w1528 : (Cond.codeWith ({ cls := "ClockhouseLaw", name := "isGenerator", desc := "(LClockhouse;ILClockhouseLaw$Out;)I" } : MethodName) method_33_code (4 : Nat) (Option.some FieldType.int) [((0 : Nat), (17 : Nat), (20 : Nat), (25 : Nat))]) ∈ lw_gw := am_w 1528 (by decide +kernel) rfl
theorem w1529 : (Cond.methodLink "ClockhouseLaw" (126 : Nat) ({ cls := "Clockhouse", name := "isGenerator", desc := "(I)Z" } : MethodName)) ∈ lw_gw := am_w 1529 (by decide +kernel) rfl
theorem w1530 : (Cond.instanceMethod ({ cls := "Clockhouse", name := "isGenerator", desc := "(I)Z" } : MethodName)) ∈ lw_gw := am_w 1530 (by decide +kernel) rfl
theorem w1531 : (Cond.selects "Clockhouse" ({ cls := "Clockhouse", name := "isGenerator", desc := "(I)Z" } : MethodName) ({ cls := "Clockhouse", name := "isGenerator", desc := "(I)Z" } : MethodName)) ∈ lw_gw := am_w 1531 (by decide +kernel) rfl
theorem w1532 : (Cond.code ({ cls := "Clockhouse", name := "isGenerator", desc := "(I)Z" } : MethodName) prog_1_method_36_code (3 : Nat) (Option.some FieldType.boolean)) ∈ lw_gw := am_w 1532 (by decide +kernel) rfl
theorem w1533 : (Cond.methodLink "Clockhouse" (259 : Nat) ({ cls := "Clockhouse$Generators", name := "holds", desc := "(I)Z" } : MethodName)) ∈ lw_gw := am_w 1533 (by decide +kernel) rfl
theorem w1536 : (Cond.codeWith ({ cls := "ClockhouseLaw", name := "powers", desc := "(LClockhouse;ILClockhouseLaw$Out;)I" } : MethodName) method_34_code (4 : Nat) (Option.some FieldType.int) [((0 : Nat), (9 : Nat), (12 : Nat), (25 : Nat))]) ∈ lw_gw := am_w 1536 (by decide +kernel) rfl
theorem w1537 : (Cond.methodLink "ClockhouseLaw" (130 : Nat) ({ cls := "Clockhouse", name := "powers", desc := "(I)Ljava/lang/String;" } : MethodName)) ∈ lw_gw := am_w 1537 (by decide +kernel) rfl
theorem w1538 : (Cond.instanceMethod ({ cls := "Clockhouse", name := "powers", desc := "(I)Ljava/lang/String;" } : MethodName)) ∈ lw_gw := am_w 1538 (by decide +kernel) rfl
theorem w1539 : (Cond.selects "Clockhouse" ({ cls := "Clockhouse", name := "powers", desc := "(I)Ljava/lang/String;" } : MethodName) ({ cls := "Clockhouse", name := "powers", desc := "(I)Ljava/lang/String;" } : MethodName)) ∈ lw_gw := am_w 1539 (by decide +kernel) rfl
theorem w1540 : (Cond.code ({ cls := "Clockhouse", name := "powers", desc := "(I)Ljava/lang/String;" } : MethodName) prog_1_method_37_code (3 : Nat) (Option.some (FieldType.object "java/lang/String"))) ∈ lw_gw := am_w 1540 (by decide +kernel) rfl
theorem w1541 : (Cond.methodLink "Clockhouse" (268 : Nat) ({ cls := "Clockhouse$PowerRow", name := "writeTo", desc := "(Ljava/lang/StringBuilder;)V" } : MethodName)) ∈ lw_gw := am_w 1541 (by decide +kernel) rfl
theorem w1542 : (Cond.instanceMethod ({ cls := "Clockhouse$PowerRow", name := "writeTo", desc := "(Ljava/lang/StringBuilder;)V" } : MethodName)) ∈ lw_gw := am_w 1542 (by decide +kernel) rfl
theorem w1543 : (Cond.selects "Clockhouse$PowerRow" ({ cls := "Clockhouse$PowerRow", name := "writeTo", desc := "(Ljava/lang/StringBuilder;)V" } : MethodName) ({ cls := "Clockhouse$PowerRow", name := "writeTo", desc := "(Ljava/lang/StringBuilder;)V" } : MethodName)) ∈ lw_gw := am_w 1543 (by decide +kernel) rfl
theorem w1544 : (Cond.code ({ cls := "Clockhouse$PowerRow", name := "writeTo", desc := "(Ljava/lang/StringBuilder;)V" } : MethodName) prog_8_method_5_code (3 : Nat) (Option.none : Option FieldType)) ∈ lw_gw := am_w 1544 (by decide +kernel) rfl
theorem w1545 : (Cond.methodLink "Clockhouse$PowerRow" (29 : Nat) ({ cls := "java/lang/StringBuilder", name := "append", desc := "(C)Ljava/lang/StringBuilder;" } : MethodName)) ∈ lw_gw := am_w 1545 (by decide +kernel) rfl
theorem w1546 : (Cond.methodLinkNest "Clockhouse$PowerRow" (35 : Nat) ({ cls := "Clockhouse", name := "writeSmall", desc := "(Ljava/lang/StringBuilder;I)V" } : MethodName) "Clockhouse") ∈ lw_ng := am_ng 1546 (by decide +kernel) rfl
theorem w1549 : (Cond.codeWith ({ cls := "ClockhouseLaw", name := "ofPowers", desc := "(LClockhouse;IILClockhouseLaw$Out;)I" } : MethodName) method_35_code (5 : Nat) (Option.some FieldType.int) [((0 : Nat), (11 : Nat), (14 : Nat), (25 : Nat)), ((0 : Nat), (11 : Nat), (18 : Nat), (19 : Nat))]) ∈ lw_gw := am_w 1549 (by decide +kernel) rfl
theorem w1550 : (Cond.methodLink "ClockhouseLaw" (133 : Nat) ({ cls := "Clockhouse", name := "ofPowers", desc := "(II)I" } : MethodName)) ∈ lw_gw := am_w 1550 (by decide +kernel) rfl
theorem w1553 : (Cond.codeWith ({ cls := "ClockhouseLaw", name := "roots", desc := "(LClockhouse;ILClockhouseLaw$Out;)I" } : MethodName) method_36_code (4 : Nat) (Option.some FieldType.int) [((0 : Nat), (10 : Nat), (13 : Nat), (25 : Nat))]) ∈ lw_gw := am_w 1553 (by decide +kernel) rfl
theorem w1554 : (Cond.methodLink "ClockhouseLaw" (136 : Nat) ({ cls := "Clockhouse", name := "roots", desc := "(I)I" } : MethodName)) ∈ lw_gw := am_w 1554 (by decide +kernel) rfl
theorem w1557 : (Cond.codeWith ({ cls := "ClockhouseLaw", name := "root", desc := "(LClockhouse;IILClockhouseLaw$Out;)I" } : MethodName) method_37_code (5 : Nat) (Option.some FieldType.int) [((0 : Nat), (11 : Nat), (14 : Nat), (25 : Nat)), ((0 : Nat), (11 : Nat), (18 : Nat), (19 : Nat))]) ∈ lw_gw := am_w 1557 (by decide +kernel) rfl
theorem w1558 : (Cond.methodLink "ClockhouseLaw" (139 : Nat) ({ cls := "Clockhouse", name := "root", desc := "(II)I" } : MethodName)) ∈ lw_gw := am_w 1558 (by decide +kernel) rfl
theorem w1559 : (Cond.instanceMethod ({ cls := "Clockhouse", name := "root", desc := "(II)I" } : MethodName)) ∈ lw_gw := am_w 1559 (by decide +kernel) rfl
theorem w1560 : (Cond.selects "Clockhouse" ({ cls := "Clockhouse", name := "root", desc := "(II)I" } : MethodName) ({ cls := "Clockhouse", name := "root", desc := "(II)I" } : MethodName)) ∈ lw_gw := am_w 1560 (by decide +kernel) rfl
theorem w1561 : (Cond.code ({ cls := "Clockhouse", name := "root", desc := "(II)I" } : MethodName) prog_1_method_40_code (4 : Nat) (Option.some FieldType.int)) ∈ lw_gw := am_w 1561 (by decide +kernel) rfl
theorem w1562 : (Cond.methodLink "Clockhouse" (284 : Nat) ({ cls := "Clockhouse$Round", name := "rootAt", desc := "(III)I" } : MethodName)) ∈ lw_gw := am_w 1562 (by decide +kernel) rfl
theorem w1565 : (Cond.codeWith ({ cls := "ClockhouseLaw", name := "legendre", desc := "(LClockhouse;ILClockhouseLaw$Out;)I" } : MethodName) method_38_code (4 : Nat) (Option.some FieldType.int) [((0 : Nat), (10 : Nat), (13 : Nat), (25 : Nat))]) ∈ lw_gw := am_w 1565 (by decide +kernel) rfl
theorem w1566 : (Cond.methodLink "ClockhouseLaw" (142 : Nat) ({ cls := "Clockhouse", name := "legendre", desc := "(I)I" } : MethodName)) ∈ lw_gw := am_w 1566 (by decide +kernel) rfl
theorem w1569 : (Cond.codeWith ({ cls := "ClockhouseLaw", name := "jacobi", desc := "(LClockhouse;ILClockhouseLaw$Out;)I" } : MethodName) method_39_code (4 : Nat) (Option.some FieldType.int) [((0 : Nat), (10 : Nat), (13 : Nat), (25 : Nat))]) ∈ lw_gw := am_w 1569 (by decide +kernel) rfl
theorem w1570 : (Cond.methodLink "ClockhouseLaw" (145 : Nat) ({ cls := "Clockhouse", name := "jacobi", desc := "(I)I" } : MethodName)) ∈ lw_gw := am_w 1570 (by decide +kernel) rfl
theorem w1573 : (Cond.codeWith ({ cls := "ClockhouseLaw", name := "ofRow", desc := "(LClockhouse;IILClockhouseLaw$Out;)I" } : MethodName) method_40_code (5 : Nat) (Option.some FieldType.int) [((0 : Nat), (11 : Nat), (14 : Nat), (25 : Nat)), ((0 : Nat), (11 : Nat), (18 : Nat), (19 : Nat))]) ∈ lw_gw := am_w 1573 (by decide +kernel) rfl
theorem w1574 : (Cond.methodLink "ClockhouseLaw" (148 : Nat) ({ cls := "Clockhouse", name := "ofRow", desc := "(II)I" } : MethodName)) ∈ lw_gw := am_w 1574 (by decide +kernel) rfl
theorem w1575 : (Cond.instanceMethod ({ cls := "Clockhouse", name := "ofRow", desc := "(II)I" } : MethodName)) ∈ lw_gw := am_w 1575 (by decide +kernel) rfl
theorem w1576 : (Cond.selects "Clockhouse" ({ cls := "Clockhouse", name := "ofRow", desc := "(II)I" } : MethodName) ({ cls := "Clockhouse", name := "ofRow", desc := "(II)I" } : MethodName)) ∈ lw_gw := am_w 1576 (by decide +kernel) rfl
theorem w1577 : (Cond.code ({ cls := "Clockhouse", name := "ofRow", desc := "(II)I" } : MethodName) prog_1_method_45_code (3 : Nat) (Option.some FieldType.int)) ∈ lw_gw := am_w 1577 (by decide +kernel) rfl
theorem w1581 : (Cond.codeWith ({ cls := "ClockhouseLaw", name := "agree", desc := "(LClockhouse;IILClockhouseLaw$Out;)I" } : MethodName) method_41_code (5 : Nat) (Option.some FieldType.int) [((0 : Nat), (18 : Nat), (21 : Nat), (25 : Nat))]) ∈ lw_gw := am_w 1581 (by decide +kernel) rfl
theorem w1582 : (Cond.methodLink "ClockhouseLaw" (151 : Nat) ({ cls := "Clockhouse", name := "agree", desc := "(II)Z" } : MethodName)) ∈ lw_gw := am_w 1582 (by decide +kernel) rfl
theorem w1583 : (Cond.instanceMethod ({ cls := "Clockhouse", name := "agree", desc := "(II)Z" } : MethodName)) ∈ lw_gw := am_w 1583 (by decide +kernel) rfl
theorem w1584 : (Cond.selects "Clockhouse" ({ cls := "Clockhouse", name := "agree", desc := "(II)Z" } : MethodName) ({ cls := "Clockhouse", name := "agree", desc := "(II)Z" } : MethodName)) ∈ lw_gw := am_w 1584 (by decide +kernel) rfl
theorem w1585 : (Cond.code ({ cls := "Clockhouse", name := "agree", desc := "(II)Z" } : MethodName) prog_1_method_46_code (3 : Nat) (Option.some FieldType.boolean)) ∈ lw_gw := am_w 1585 (by decide +kernel) rfl
theorem w1588 : (Cond.codeWith ({ cls := "ClockhouseLaw", name := "wouldJoin", desc := "(LClockhouse;IILClockhouseLaw$Out;)I" } : MethodName) method_42_code (5 : Nat) (Option.some FieldType.int) [((0 : Nat), (18 : Nat), (21 : Nat), (19 : Nat))]) ∈ lw_gw := am_w 1588 (by decide +kernel) rfl
theorem w1589 : (Cond.methodLink "ClockhouseLaw" (154 : Nat) ({ cls := "Clockhouse", name := "wouldJoin", desc := "(II)Z" } : MethodName)) ∈ lw_gw := am_w 1589 (by decide +kernel) rfl
theorem w1590 : (Cond.instanceMethod ({ cls := "Clockhouse", name := "wouldJoin", desc := "(II)Z" } : MethodName)) ∈ lw_gw := am_w 1590 (by decide +kernel) rfl
theorem w1591 : (Cond.selects "Clockhouse" ({ cls := "Clockhouse", name := "wouldJoin", desc := "(II)Z" } : MethodName) ({ cls := "Clockhouse", name := "wouldJoin", desc := "(II)Z" } : MethodName)) ∈ lw_gw := am_w 1591 (by decide +kernel) rfl
theorem w1592 : (Cond.code ({ cls := "Clockhouse", name := "wouldJoin", desc := "(II)Z" } : MethodName) prog_1_method_48_code (3 : Nat) (Option.some FieldType.boolean)) ∈ lw_gw := am_w 1592 (by decide +kernel) rfl
theorem w1595 : (Cond.codeWith ({ cls := "ClockhouseLaw", name := "clash", desc := "(LClockhouse;ILClockhouseLaw$Out;)I" } : MethodName) method_43_code (4 : Nat) (Option.some FieldType.int) [((0 : Nat), (10 : Nat), (13 : Nat), (19 : Nat))]) ∈ lw_gw := am_w 1595 (by decide +kernel) rfl
theorem w1596 : (Cond.methodLink "ClockhouseLaw" (157 : Nat) ({ cls := "Clockhouse", name := "clash", desc := "(I)I" } : MethodName)) ∈ lw_gw := am_w 1596 (by decide +kernel) rfl
theorem w1597 : (Cond.instanceMethod ({ cls := "Clockhouse", name := "clash", desc := "(I)I" } : MethodName)) ∈ lw_gw := am_w 1597 (by decide +kernel) rfl
theorem w1598 : (Cond.selects "Clockhouse" ({ cls := "Clockhouse", name := "clash", desc := "(I)I" } : MethodName) ({ cls := "Clockhouse", name := "clash", desc := "(I)I" } : MethodName)) ∈ lw_gw := am_w 1598 (by decide +kernel) rfl
theorem w1599 : (Cond.code ({ cls := "Clockhouse", name := "clash", desc := "(I)I" } : MethodName) prog_1_method_51_code (2 : Nat) (Option.some FieldType.int)) ∈ lw_gw := am_w 1599 (by decide +kernel) rfl
theorem w1602 : (Cond.codeWith ({ cls := "ClockhouseLaw", name := "broken", desc := "(LClockhouse;ILClockhouseLaw$Out;)I" } : MethodName) method_44_code (4 : Nat) (Option.some FieldType.int) [((0 : Nat), (10 : Nat), (13 : Nat), (25 : Nat))]) ∈ lw_gw := am_w 1602 (by decide +kernel) rfl
theorem w1603 : (Cond.methodLink "ClockhouseLaw" (160 : Nat) ({ cls := "Clockhouse", name := "broken", desc := "(I)I" } : MethodName)) ∈ lw_gw := am_w 1603 (by decide +kernel) rfl
theorem w1606 : (Cond.codeWith ({ cls := "ClockhouseLaw", name := "residues", desc := "(LClockhouse;ILClockhouseLaw$Out;)I" } : MethodName) method_45_code (4 : Nat) (Option.some FieldType.int) [((0 : Nat), (9 : Nat), (12 : Nat), (25 : Nat))]) ∈ lw_gw := am_w 1606 (by decide +kernel) rfl
theorem w1607 : (Cond.methodLink "ClockhouseLaw" (163 : Nat) ({ cls := "Clockhouse", name := "residues", desc := "(I)Ljava/lang/String;" } : MethodName)) ∈ lw_gw := am_w 1607 (by decide +kernel) rfl
theorem w1608 : (Cond.instanceMethod ({ cls := "Clockhouse", name := "residues", desc := "(I)Ljava/lang/String;" } : MethodName)) ∈ lw_gw := am_w 1608 (by decide +kernel) rfl
theorem w1609 : (Cond.selects "Clockhouse" ({ cls := "Clockhouse", name := "residues", desc := "(I)Ljava/lang/String;" } : MethodName) ({ cls := "Clockhouse", name := "residues", desc := "(I)Ljava/lang/String;" } : MethodName)) ∈ lw_gw := am_w 1609 (by decide +kernel) rfl
theorem w1610 : (Cond.code ({ cls := "Clockhouse", name := "residues", desc := "(I)Ljava/lang/String;" } : MethodName) prog_1_method_55_code (2 : Nat) (Option.some (FieldType.object "java/lang/String"))) ∈ lw_gw := am_w 1610 (by decide +kernel) rfl
theorem w1613 : (Cond.codeWith ({ cls := "ClockhouseLaw", name := "back", desc := "(LClockhouse;ILClockhouseLaw$Out;)I" } : MethodName) method_46_code (4 : Nat) (Option.some FieldType.int) [((0 : Nat), (9 : Nat), (12 : Nat), (25 : Nat))]) ∈ lw_gw := am_w 1613 (by decide +kernel) rfl
theorem w1614 : (Cond.methodLink "ClockhouseLaw" (166 : Nat) ({ cls := "Clockhouse", name := "back", desc := "(I)Ljava/lang/String;" } : MethodName)) ∈ lw_gw := am_w 1614 (by decide +kernel) rfl
theorem w1615 : (Cond.instanceMethod ({ cls := "Clockhouse", name := "back", desc := "(I)Ljava/lang/String;" } : MethodName)) ∈ lw_gw := am_w 1615 (by decide +kernel) rfl
theorem w1616 : (Cond.selects "Clockhouse" ({ cls := "Clockhouse", name := "back", desc := "(I)Ljava/lang/String;" } : MethodName) ({ cls := "Clockhouse", name := "back", desc := "(I)Ljava/lang/String;" } : MethodName)) ∈ lw_gw := am_w 1616 (by decide +kernel) rfl
theorem w1617 : (Cond.code ({ cls := "Clockhouse", name := "back", desc := "(I)Ljava/lang/String;" } : MethodName) prog_1_method_56_code (2 : Nat) (Option.some (FieldType.object "java/lang/String"))) ∈ lw_gw := am_w 1617 (by decide +kernel) rfl
theorem w1620 : (Cond.codeWith ({ cls := "ClockhouseLaw", name := "sumBack", desc := "(LClockhouse;IILClockhouseLaw$Out;)I" } : MethodName) method_47_code (5 : Nat) (Option.some FieldType.int) [((0 : Nat), (10 : Nat), (13 : Nat), (25 : Nat))]) ∈ lw_gw := am_w 1620 (by decide +kernel) rfl
theorem w1621 : (Cond.methodLink "ClockhouseLaw" (169 : Nat) ({ cls := "Clockhouse", name := "sumBack", desc := "(II)Ljava/lang/String;" } : MethodName)) ∈ lw_gw := am_w 1621 (by decide +kernel) rfl
theorem w1622 : (Cond.instanceMethod ({ cls := "Clockhouse", name := "sumBack", desc := "(II)Ljava/lang/String;" } : MethodName)) ∈ lw_gw := am_w 1622 (by decide +kernel) rfl
theorem w1623 : (Cond.selects "Clockhouse" ({ cls := "Clockhouse", name := "sumBack", desc := "(II)Ljava/lang/String;" } : MethodName) ({ cls := "Clockhouse", name := "sumBack", desc := "(II)Ljava/lang/String;" } : MethodName)) ∈ lw_gw := am_w 1623 (by decide +kernel) rfl
theorem w1624 : (Cond.code ({ cls := "Clockhouse", name := "sumBack", desc := "(II)Ljava/lang/String;" } : MethodName) prog_1_method_57_code (5 : Nat) (Option.some (FieldType.object "java/lang/String"))) ∈ lw_gw := am_w 1624 (by decide +kernel) rfl
theorem w1627 : (Cond.codeWith ({ cls := "ClockhouseLaw", name := "productBack", desc := "(LClockhouse;IILClockhouseLaw$Out;)I" } : MethodName) method_48_code (5 : Nat) (Option.some FieldType.int) [((0 : Nat), (10 : Nat), (13 : Nat), (25 : Nat))]) ∈ lw_gw := am_w 1627 (by decide +kernel) rfl
theorem w1628 : (Cond.methodLink "ClockhouseLaw" (172 : Nat) ({ cls := "Clockhouse", name := "productBack", desc := "(II)Ljava/lang/String;" } : MethodName)) ∈ lw_gw := am_w 1628 (by decide +kernel) rfl
theorem w1629 : (Cond.instanceMethod ({ cls := "Clockhouse", name := "productBack", desc := "(II)Ljava/lang/String;" } : MethodName)) ∈ lw_gw := am_w 1629 (by decide +kernel) rfl
theorem w1630 : (Cond.selects "Clockhouse" ({ cls := "Clockhouse", name := "productBack", desc := "(II)Ljava/lang/String;" } : MethodName) ({ cls := "Clockhouse", name := "productBack", desc := "(II)Ljava/lang/String;" } : MethodName)) ∈ lw_gw := am_w 1630 (by decide +kernel) rfl
theorem w1631 : (Cond.code ({ cls := "Clockhouse", name := "productBack", desc := "(II)Ljava/lang/String;" } : MethodName) prog_1_method_58_code (5 : Nat) (Option.some (FieldType.object "java/lang/String"))) ∈ lw_gw := am_w 1631 (by decide +kernel) rfl
theorem w1634 : (Cond.codeWith ({ cls := "ClockhouseLaw", name := "books", desc := "(LClockhouse;ILClockhouseLaw$Out;)I" } : MethodName) method_49_code (4 : Nat) (Option.some FieldType.int) [((0 : Nat), (10 : Nat), (13 : Nat), (19 : Nat))]) ∈ lw_gw := am_w 1634 (by decide +kernel) rfl
theorem w1635 : (Cond.methodLink "ClockhouseLaw" (175 : Nat) ({ cls := "Clockhouse", name := "books", desc := "(I)I" } : MethodName)) ∈ lw_gw := am_w 1635 (by decide +kernel) rfl
theorem w2055 : (Cond.arrayClass FieldType.long) ∈ lw_gw := am_w 2055 (by decide +kernel) rfl
theorem w2481 : (Cond.sameMethod "java/lang/AbstractStringBuilder" "java/lang/AbstractStringBuilder" "setLength" "(I)V") ∈ lw_gw := am_w 2481 (by decide +kernel) rfl
theorem w2484 : (Cond.sameMethod "java/lang/AbstractStringBuilder" "java/lang/AbstractStringBuilder" "ensureCapacityInternal" "(I)V") ∈ lw_gw := am_w 2484 (by decide +kernel) rfl
theorem w2485 : (Cond.sameMethod "java/lang/AbstractStringBuilder" "java/lang/AbstractStringBuilder" "newCapacity" "(I)I") ∈ lw_gw := am_w 2485 (by decide +kernel) rfl
theorem w2489 : (Cond.sameMethod "java/lang/AbstractStringBuilder" "java/lang/AbstractStringBuilder" "append" "(I)Ljava/lang/AbstractStringBuilder;") ∈ lw_gw := am_w 2489 (by decide +kernel) rfl
theorem w2491 : (Cond.sameMethod "java/lang/AbstractStringBuilder" "java/lang/AbstractStringBuilder" "append" "(C)Ljava/lang/AbstractStringBuilder;") ∈ lw_gw := am_w 2491 (by decide +kernel) rfl
theorem w2492 : (Cond.selects "java/lang/StringBuilder" ({ cls := "java/lang/StringBuilder", name := "length", desc := "()I" } : MethodName) ({ cls := "java/lang/StringBuilder", name := "length", desc := "()I" } : MethodName)) ∈ lw_gw := am_w 2492 (by decide +kernel) rfl
theorem g_oi : Cond.instanceMethod objectInit ∈ lw_gw ∧ Cond.code objectInit ⟨#[0xb1]⟩ 1 none ∈ lw_gw := ⟨w129, w130⟩
theorem g_ar : Cond.arrayClass .int ∈ lw_gw ∧ Cond.arrayClass .byte ∈ lw_gw ∧ Cond.arrayClass .long ∈ lw_gw := ⟨w160, w352, w2055⟩
