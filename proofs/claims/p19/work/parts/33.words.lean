/-! WORDS OF THE TABLES -/
theorem w0 : (Cond.selects "Clockhouse" ({ cls := "Clockhouse", name := "isJammed", desc := "()Z" } : MethodName) ({ cls := "Clockhouse", name := "isJammed", desc := "()Z" } : MethodName)) ∈ lw_gw := am_w 0 (by decide +kernel) rfl
theorem w1 : (Cond.selects "Clockhouse" ({ cls := "Clockhouse", name := "joinRows", desc := "()V" } : MethodName) ({ cls := "Clockhouse", name := "joinRows", desc := "()V" } : MethodName)) ∈ lw_gw := am_w 1 (by decide +kernel) rfl
theorem w5 : (Cond.selects "Clockhouse" ({ cls := "Clockhouse", name := "numbersFit", desc := "()Z" } : MethodName) ({ cls := "Clockhouse", name := "numbersFit", desc := "()Z" } : MethodName)) ∈ lw_gw := am_w 5 (by decide +kernel) rfl
theorem w6 : (Cond.selects "Clockhouse" ({ cls := "Clockhouse", name := "slotsAreSound", desc := "()Z" } : MethodName) ({ cls := "Clockhouse", name := "slotsAreSound", desc := "()Z" } : MethodName)) ∈ lw_gw := am_w 6 (by decide +kernel) rfl
theorem w7 : (Cond.selects "Clockhouse" ({ cls := "Clockhouse", name := "rowsAreSound", desc := "()Z" } : MethodName) ({ cls := "Clockhouse", name := "rowsAreSound", desc := "()Z" } : MethodName)) ∈ lw_gw := am_w 7 (by decide +kernel) rfl
theorem w8 : (Cond.selects "Clockhouse" ({ cls := "Clockhouse", name := "clashPlace", desc := "(I)I" } : MethodName) ({ cls := "Clockhouse", name := "clashPlace", desc := "(I)I" } : MethodName)) ∈ lw_gw := am_w 8 (by decide +kernel) rfl
theorem w9 : (Cond.selects "Clockhouse" ({ cls := "Clockhouse", name := "backsAreSound", desc := "()Z" } : MethodName) ({ cls := "Clockhouse", name := "backsAreSound", desc := "()Z" } : MethodName)) ∈ lw_gw := am_w 9 (by decide +kernel) rfl
theorem w10 : (Cond.selects "Clockhouse$Big" ({ cls := "Clockhouse$Big", name := "joinSizes", desc := "(LClockhouse$Big;LClockhouse$Big;I)V" } : MethodName) ({ cls := "Clockhouse$Big", name := "joinSizes", desc := "(LClockhouse$Big;LClockhouse$Big;I)V" } : MethodName)) ∈ lw_gw := am_w 10 (by decide +kernel) rfl
theorem w11 : (Cond.selects "Clockhouse$Division" ({ cls := "Clockhouse$Division", name := "guessAt", desc := "(I)J" } : MethodName) ({ cls := "Clockhouse$Division", name := "guessAt", desc := "(I)J" } : MethodName)) ∈ lw_gw := am_w 11 (by decide +kernel) rfl
theorem w12 : (Cond.selects "Clockhouse$Division" ({ cls := "Clockhouse$Division", name := "takeAway", desc := "(IJ)I" } : MethodName) ({ cls := "Clockhouse$Division", name := "takeAway", desc := "(IJ)I" } : MethodName)) ∈ lw_gw := am_w 12 (by decide +kernel) rfl
theorem w13 : (Cond.selects "Clockhouse$Division" ({ cls := "Clockhouse$Division", name := "giveBack", desc := "(I)V" } : MethodName) ({ cls := "Clockhouse$Division", name := "giveBack", desc := "(I)V" } : MethodName)) ∈ lw_gw := am_w 13 (by decide +kernel) rfl
theorem w14 : (Cond.selects "Clockhouse" ({ cls := "Clockhouse", name := "backOfSum", desc := "(LClockhouse$Big;LClockhouse$Big;)J" } : MethodName) ({ cls := "Clockhouse", name := "backOfSum", desc := "(LClockhouse$Big;LClockhouse$Big;)J" } : MethodName)) ∈ lw_gw := am_w 14 (by decide +kernel) rfl
theorem w15 : (Cond.selects "Clockhouse" ({ cls := "Clockhouse", name := "backOfProduct", desc := "(LClockhouse$Big;LClockhouse$Big;)J" } : MethodName) ({ cls := "Clockhouse", name := "backOfProduct", desc := "(LClockhouse$Big;LClockhouse$Big;)J" } : MethodName)) ∈ lw_gw := am_w 15 (by decide +kernel) rfl
theorem w17 : (Cond.selects "Clockhouse" ({ cls := "Clockhouse", name := "numberAt", desc := "(I)LClockhouse$Big;" } : MethodName) ({ cls := "Clockhouse", name := "numberAt", desc := "(I)LClockhouse$Big;" } : MethodName)) ∈ lw_gw := am_w 17 (by decide +kernel) rfl
theorem w19 : (Cond.selects "Clockhouse$PowerRow" ({ cls := "Clockhouse$PowerRow", name := "sumOfRow", desc := "()I" } : MethodName) ({ cls := "Clockhouse$PowerRow", name := "sumOfRow", desc := "()I" } : MethodName)) ∈ lw_gw := am_w 19 (by decide +kernel) rfl
theorem w25 : (Cond.selects "Clockhouse" ({ cls := "Clockhouse", name := "putNumber", desc := "(LClockhouse$Big;LClockhouse$Big;)I" } : MethodName) ({ cls := "Clockhouse", name := "putNumber", desc := "(LClockhouse$Big;LClockhouse$Big;)I" } : MethodName)) ∈ lw_gw := am_w 25 (by decide +kernel) rfl
theorem w26 : (Cond.selects "Clockhouse" ({ cls := "Clockhouse", name := "putRound", desc := "(LClockhouse$Big;I)I" } : MethodName) ({ cls := "Clockhouse", name := "putRound", desc := "(LClockhouse$Big;I)I" } : MethodName)) ∈ lw_gw := am_w 26 (by decide +kernel) rfl
theorem w27 : (Cond.selects "Clockhouse" ({ cls := "Clockhouse", name := "needFreeRow", desc := "()V" } : MethodName) ({ cls := "Clockhouse", name := "needFreeRow", desc := "()V" } : MethodName)) ∈ lw_gw := am_w 27 (by decide +kernel) rfl
theorem w28 : (Cond.selects "Clockhouse" ({ cls := "Clockhouse", name := "addRow", desc := "(II)I" } : MethodName) ({ cls := "Clockhouse", name := "addRow", desc := "(II)I" } : MethodName)) ∈ lw_gw := am_w 28 (by decide +kernel) rfl
theorem w29 : (Cond.selects "Clockhouse" ({ cls := "Clockhouse", name := "needRow", desc := "(I)V" } : MethodName) ({ cls := "Clockhouse", name := "needRow", desc := "(I)V" } : MethodName)) ∈ lw_gw := am_w 29 (by decide +kernel) rfl
theorem w30 : (Cond.selects "Clockhouse$BigRound" ({ cls := "Clockhouse$BigRound", name := "multiply", desc := "(LClockhouse$Big;LClockhouse$Big;LClockhouse$Big;)V" } : MethodName) ({ cls := "Clockhouse$BigRound", name := "multiply", desc := "(LClockhouse$Big;LClockhouse$Big;LClockhouse$Big;)V" } : MethodName)) ∈ lw_gw := am_w 30 (by decide +kernel) rfl
theorem w74 : (Cond.initialized "Clockhouse") ∈ lw_gw := am_w 74 (by decide +kernel) rfl
theorem w75 : (Cond.initialized "Clockhouse$State") ∈ lw_gw := am_w 75 (by decide +kernel) rfl
theorem w76 : (Cond.initialized "Clockhouse$Big") ∈ lw_gw := am_w 76 (by decide +kernel) rfl
theorem w77 : (Cond.initialized "Clockhouse$Past") ∈ lw_gw := am_w 77 (by decide +kernel) rfl
theorem w78 : (Cond.initialized "Clockhouse$BigRound") ∈ lw_gw := am_w 78 (by decide +kernel) rfl
theorem w79 : (Cond.initialized "Clockhouse$Division") ∈ lw_gw := am_w 79 (by decide +kernel) rfl
theorem w80 : (Cond.initialized "Clockhouse$PowerRow") ∈ lw_gw := am_w 80 (by decide +kernel) rfl
theorem w81 : (Cond.initialized "Clockhouse$Generators") ∈ lw_gw := am_w 81 (by decide +kernel) rfl
theorem w82 : (Cond.initialized "Clockhouse$Joiner") ∈ lw_gw := am_w 82 (by decide +kernel) rfl
theorem w83 : (Cond.initialized "java/lang/AbstractStringBuilder") ∈ lw_gw := am_w 83 (by decide +kernel) rfl
theorem w84 : (Cond.initialized "java/lang/StringBuilder") ∈ lw_gw := am_w 84 (by decide +kernel) rfl
theorem w97 : (Cond.initialized "java/lang/IllegalArgumentException") ∈ lw_gw := am_w 97 (by decide +kernel) rfl
theorem w98 : (Cond.initialized "java/lang/System") ∈ lw_gw := am_w 98 (by decide +kernel) rfl
theorem w101 : (Cond.initialized "java/lang/Math") ∈ lw_gw := am_w 101 (by decide +kernel) rfl
theorem w108 : (Cond.initialized "java/lang/IndexOutOfBoundsException") ∈ lw_gw := am_w 108 (by decide +kernel) rfl
theorem w109 : (Cond.initialized "java/lang/IllegalStateException") ∈ lw_gw := am_w 109 (by decide +kernel) rfl
theorem w110 : (Cond.initialized "Clockhouse$Round") ∈ lw_gw := am_w 110 (by decide +kernel) rfl
theorem w115 : (Cond.initialized "Clockhouse$Sound") ∈ lw_gw := am_w 115 (by decide +kernel) rfl
theorem w120 : (Cond.code ({ cls := "Clockhouse", name := "<init>", desc := "()V" } : MethodName) prog_1_method_1_code (1 : Nat) (Option.none : Option FieldType)) ∈ lw_gw := am_w 120 (by decide +kernel) rfl
theorem w121 : (Cond.methodLink "Clockhouse" (1 : Nat) ({ cls := "java/lang/Object", name := "<init>", desc := "()V" } : MethodName)) ∈ lw_gw := am_w 121 (by decide +kernel) rfl
theorem w122 : (Cond.instanceMethod ({ cls := "java/lang/Object", name := "<init>", desc := "()V" } : MethodName)) ∈ lw_gw := am_w 122 (by decide +kernel) rfl
theorem w123 : (Cond.code ({ cls := "java/lang/Object", name := "<init>", desc := "()V" } : MethodName) object_method_1_code (1 : Nat) (Option.none : Option FieldType)) ∈ lw_gw := am_w 123 (by decide +kernel) rfl
theorem w124 : (Cond.classLink "Clockhouse" (7 : Nat) "Clockhouse$State") ∈ lw_gw := am_w 124 (by decide +kernel) rfl
theorem w125 : (Cond.instantiable "Clockhouse$State" (7 : Nat)) ∈ lw_gw := am_w 125 (by decide +kernel) rfl
theorem w126 : (Cond.methodLink "Clockhouse" (9 : Nat) ({ cls := "Clockhouse$State", name := "<init>", desc := "()V" } : MethodName)) ∈ lw_gw := am_w 126 (by decide +kernel) rfl
theorem w127 : (Cond.instanceMethod ({ cls := "Clockhouse$State", name := "<init>", desc := "()V" } : MethodName)) ∈ lw_gw := am_w 127 (by decide +kernel) rfl
theorem w128 : (Cond.code ({ cls := "Clockhouse$State", name := "<init>", desc := "()V" } : MethodName) prog_11_method_1_code (2 : Nat) (Option.none : Option FieldType)) ∈ lw_gw := am_w 128 (by decide +kernel) rfl
theorem w129 : (Cond.methodLink "Clockhouse$State" (3 : Nat) ({ cls := "java/lang/Object", name := "<init>", desc := "()V" } : MethodName)) ∈ lw_gw := am_w 129 (by decide +kernel) rfl
theorem w130 : (Cond.classLink "Clockhouse$State" (9 : Nat) "Clockhouse$Big") ∈ lw_gw := am_w 130 (by decide +kernel) rfl
theorem w131 : (Cond.arrayOver (FieldType.object "Clockhouse$Big")) ∈ lw_ng := am_ng 131 (by decide +kernel) rfl
theorem w132 : (Cond.instantiable "Clockhouse$Big" (3 : Nat)) ∈ lw_gw := am_w 132 (by decide +kernel) rfl
theorem w133 : (Cond.methodLinkNest "Clockhouse$State" (27 : Nat) ({ cls := "Clockhouse$Big", name := "<init>", desc := "()V" } : MethodName) "Clockhouse") ∈ lw_ng := am_ng 133 (by decide +kernel) rfl
theorem w134 : (Cond.instanceMethod ({ cls := "Clockhouse$Big", name := "<init>", desc := "()V" } : MethodName)) ∈ lw_gw := am_w 134 (by decide +kernel) rfl
theorem w135 : (Cond.code ({ cls := "Clockhouse$Big", name := "<init>", desc := "()V" } : MethodName) prog_2_method_1_code (1 : Nat) (Option.none : Option FieldType)) ∈ lw_gw := am_w 135 (by decide +kernel) rfl
theorem w136 : (Cond.methodLink "Clockhouse$Big" (3 : Nat) ({ cls := "java/lang/Object", name := "<init>", desc := "()V" } : MethodName)) ∈ lw_gw := am_w 136 (by decide +kernel) rfl
theorem w137 : (Cond.fieldLink "Clockhouse$Big" (9 : Nat) "Clockhouse$Big" "limbs" "[I") ∈ lw_gw := am_w 137 (by decide +kernel) rfl
theorem w138 : (Cond.fieldLinkNest "Clockhouse$Division" (31 : Nat) "Clockhouse$Big" "length" "I" "Clockhouse") ∈ lw_ng := am_ng 138 (by decide +kernel) rfl
theorem w139 : (Cond.fieldLinkNest "Clockhouse$BigRound" (58 : Nat) "Clockhouse$Big" "length" "I" "Clockhouse") ∈ lw_ng := am_ng 139 (by decide +kernel) rfl
theorem w140 : (Cond.fieldLink "Clockhouse$Big" (15 : Nat) "Clockhouse$Big" "length" "I") ∈ lw_gw := am_w 140 (by decide +kernel) rfl
theorem w141 : (Cond.fieldLinkNest "Clockhouse$Round" (21 : Nat) "Clockhouse$Big" "length" "I" "Clockhouse") ∈ lw_ng := am_ng 141 (by decide +kernel) rfl
theorem w142 : (Cond.fieldLinkNest "Clockhouse$BigRound" (51 : Nat) "Clockhouse$Big" "sign" "I" "Clockhouse") ∈ lw_ng := am_ng 142 (by decide +kernel) rfl
theorem w143 : (Cond.fieldLinkNest "Clockhouse$Round" (9 : Nat) "Clockhouse$Big" "sign" "I" "Clockhouse") ∈ lw_ng := am_ng 143 (by decide +kernel) rfl
theorem w144 : (Cond.fieldLink "Clockhouse$Big" (19 : Nat) "Clockhouse$Big" "sign" "I") ∈ lw_gw := am_w 144 (by decide +kernel) rfl
theorem w145 : (Cond.fieldLinkNest "Clockhouse" (114 : Nat) "Clockhouse$Big" "sign" "I" "Clockhouse") ∈ lw_ng := am_ng 145 (by decide +kernel) rfl
theorem w146 : (Cond.laysFinal "Clockhouse$Big" "Clockhouse$Big" "limbs" "[I") ∈ lw_gw := am_w 146 (by decide +kernel) rfl
theorem w148 : (Cond.lays "Clockhouse$Big" "Clockhouse$Big" "length" "I") ∈ lw_gw := am_w 148 (by decide +kernel) rfl
theorem w150 : (Cond.lays "Clockhouse$Big" "Clockhouse$Big" "sign" "I") ∈ lw_gw := am_w 150 (by decide +kernel) rfl
theorem w153 : (Cond.arrayClass FieldType.int) ∈ lw_gw := am_w 153 (by decide +kernel) rfl
theorem w154 : (Cond.fieldLinkNest "Clockhouse" (71 : Nat) "Clockhouse$State" "dial" "I" "Clockhouse") ∈ lw_ng := am_ng 154 (by decide +kernel) rfl
theorem w155 : (Cond.fieldLink "Clockhouse$State" (28 : Nat) "Clockhouse$State" "dial" "I") ∈ lw_gw := am_w 155 (by decide +kernel) rfl
theorem w156 : (Cond.fieldLink "Clockhouse$State" (11 : Nat) "Clockhouse$State" "numbers" "[LClockhouse$Big;") ∈ lw_gw := am_w 156 (by decide +kernel) rfl
theorem w157 : (Cond.fieldLinkNest "Clockhouse" (412 : Nat) "Clockhouse$State" "numbers" "[LClockhouse$Big;" "Clockhouse") ∈ lw_ng := am_ng 157 (by decide +kernel) rfl
theorem w158 : (Cond.fieldLink "Clockhouse$State" (36 : Nat) "Clockhouse$State" "rowCount" "I") ∈ lw_gw := am_w 158 (by decide +kernel) rfl
theorem w159 : (Cond.fieldLinkNest "Clockhouse" (159 : Nat) "Clockhouse$State" "rowCount" "I" "Clockhouse") ∈ lw_ng := am_ng 159 (by decide +kernel) rfl
theorem w160 : (Cond.fieldLink "Clockhouse$State" (17 : Nat) "Clockhouse$State" "rests" "[I") ∈ lw_gw := am_w 160 (by decide +kernel) rfl
theorem w161 : (Cond.fieldLinkNest "Clockhouse" (301 : Nat) "Clockhouse$State" "rests" "[I" "Clockhouse") ∈ lw_ng := am_ng 161 (by decide +kernel) rfl
theorem w162 : (Cond.fieldLink "Clockhouse$State" (21 : Nat) "Clockhouse$State" "sizes" "[I") ∈ lw_gw := am_w 162 (by decide +kernel) rfl
theorem w163 : (Cond.fieldLinkNest "Clockhouse" (305 : Nat) "Clockhouse$State" "sizes" "[I" "Clockhouse") ∈ lw_ng := am_ng 163 (by decide +kernel) rfl
theorem w164 : (Cond.fieldLink "Clockhouse$State" (45 : Nat) "Clockhouse$State" "baseCount" "I") ∈ lw_gw := am_w 164 (by decide +kernel) rfl
theorem w165 : (Cond.fieldLinkNest "Clockhouse" (176 : Nat) "Clockhouse$State" "baseCount" "I" "Clockhouse") ∈ lw_ng := am_ng 165 (by decide +kernel) rfl
theorem w166 : (Cond.fieldLink "Clockhouse$State" (24 : Nat) "Clockhouse$State" "bases" "[I") ∈ lw_gw := am_w 166 (by decide +kernel) rfl
theorem w167 : (Cond.fieldLinkNest "Clockhouse" (442 : Nat) "Clockhouse$State" "bases" "[I" "Clockhouse") ∈ lw_ng := am_ng 167 (by decide +kernel) rfl
theorem w168 : (Cond.lays "Clockhouse$State" "Clockhouse$State" "dial" "I") ∈ lw_gw := am_w 168 (by decide +kernel) rfl
theorem w170 : (Cond.laysFinal "Clockhouse$State" "Clockhouse$State" "numbers" "[LClockhouse$Big;") ∈ lw_gw := am_w 170 (by decide +kernel) rfl
theorem w172 : (Cond.lays "Clockhouse$State" "Clockhouse$State" "rowCount" "I") ∈ lw_gw := am_w 172 (by decide +kernel) rfl
theorem w174 : (Cond.laysFinal "Clockhouse$State" "Clockhouse$State" "rests" "[I") ∈ lw_gw := am_w 174 (by decide +kernel) rfl
theorem w176 : (Cond.laysFinal "Clockhouse$State" "Clockhouse$State" "sizes" "[I") ∈ lw_gw := am_w 176 (by decide +kernel) rfl
theorem w178 : (Cond.lays "Clockhouse$State" "Clockhouse$State" "baseCount" "I") ∈ lw_gw := am_w 178 (by decide +kernel) rfl
theorem w180 : (Cond.laysFinal "Clockhouse$State" "Clockhouse$State" "bases" "[I") ∈ lw_gw := am_w 180 (by decide +kernel) rfl
theorem w183 : (Cond.classLink "Clockhouse" (16 : Nat) "Clockhouse$Past") ∈ lw_gw := am_w 183 (by decide +kernel) rfl
theorem w184 : (Cond.instantiable "Clockhouse$Past" (3 : Nat)) ∈ lw_gw := am_w 184 (by decide +kernel) rfl
theorem w185 : (Cond.methodLink "Clockhouse" (18 : Nat) ({ cls := "Clockhouse$Past", name := "<init>", desc := "()V" } : MethodName)) ∈ lw_gw := am_w 185 (by decide +kernel) rfl
theorem w186 : (Cond.instanceMethod ({ cls := "Clockhouse$Past", name := "<init>", desc := "()V" } : MethodName)) ∈ lw_gw := am_w 186 (by decide +kernel) rfl
theorem w187 : (Cond.code ({ cls := "Clockhouse$Past", name := "<init>", desc := "()V" } : MethodName) prog_7_method_1_code (2 : Nat) (Option.none : Option FieldType)) ∈ lw_gw := am_w 187 (by decide +kernel) rfl
theorem w188 : (Cond.methodLink "Clockhouse$Past" (3 : Nat) ({ cls := "java/lang/Object", name := "<init>", desc := "()V" } : MethodName)) ∈ lw_gw := am_w 188 (by decide +kernel) rfl
theorem w189 : (Cond.classLink "Clockhouse$Past" (9 : Nat) "Clockhouse$State") ∈ lw_gw := am_w 189 (by decide +kernel) rfl
theorem w190 : (Cond.arrayOver (FieldType.object "Clockhouse$State")) ∈ lw_ng := am_ng 190 (by decide +kernel) rfl
theorem w191 : (Cond.methodLink "Clockhouse$Past" (17 : Nat) ({ cls := "Clockhouse$State", name := "<init>", desc := "()V" } : MethodName)) ∈ lw_gw := am_w 191 (by decide +kernel) rfl
theorem w192 : (Cond.fieldLink "Clockhouse$Past" (11 : Nat) "Clockhouse$Past" "ring" "[LClockhouse$State;") ∈ lw_gw := am_w 192 (by decide +kernel) rfl
theorem w193 : (Cond.fieldLink "Clockhouse$Past" (18 : Nat) "Clockhouse$Past" "oldest" "I") ∈ lw_gw := am_w 193 (by decide +kernel) rfl
theorem w194 : (Cond.fieldLink "Clockhouse$Past" (22 : Nat) "Clockhouse$Past" "count" "I") ∈ lw_gw := am_w 194 (by decide +kernel) rfl
theorem w195 : (Cond.fieldLinkNest "Clockhouse" (184 : Nat) "Clockhouse$Past" "count" "I" "Clockhouse") ∈ lw_ng := am_ng 195 (by decide +kernel) rfl
theorem w196 : (Cond.laysFinal "Clockhouse$Past" "Clockhouse$Past" "ring" "[LClockhouse$State;") ∈ lw_gw := am_w 196 (by decide +kernel) rfl
theorem w198 : (Cond.lays "Clockhouse$Past" "Clockhouse$Past" "oldest" "I") ∈ lw_gw := am_w 198 (by decide +kernel) rfl
theorem w200 : (Cond.lays "Clockhouse$Past" "Clockhouse$Past" "count" "I") ∈ lw_gw := am_w 200 (by decide +kernel) rfl
theorem w203 : (Cond.classLink "Clockhouse" (23 : Nat) "Clockhouse$Big") ∈ lw_gw := am_w 203 (by decide +kernel) rfl
theorem w204 : (Cond.methodLinkNest "Clockhouse" (25 : Nat) ({ cls := "Clockhouse$Big", name := "<init>", desc := "()V" } : MethodName) "Clockhouse") ∈ lw_ng := am_ng 204 (by decide +kernel) rfl
theorem w205 : (Cond.classLink "Clockhouse" (36 : Nat) "Clockhouse$BigRound") ∈ lw_gw := am_w 205 (by decide +kernel) rfl
theorem w206 : (Cond.instantiable "Clockhouse$BigRound" (7 : Nat)) ∈ lw_gw := am_w 206 (by decide +kernel) rfl
theorem w207 : (Cond.methodLinkNest "Clockhouse" (38 : Nat) ({ cls := "Clockhouse$BigRound", name := "<init>", desc := "()V" } : MethodName) "Clockhouse") ∈ lw_ng := am_ng 207 (by decide +kernel) rfl
theorem w208 : (Cond.instanceMethod ({ cls := "Clockhouse$BigRound", name := "<init>", desc := "()V" } : MethodName)) ∈ lw_gw := am_w 208 (by decide +kernel) rfl
theorem w209 : (Cond.code ({ cls := "Clockhouse$BigRound", name := "<init>", desc := "()V" } : MethodName) prog_3_method_1_code (1 : Nat) (Option.none : Option FieldType)) ∈ lw_gw := am_w 209 (by decide +kernel) rfl
theorem w210 : (Cond.methodLink "Clockhouse$BigRound" (3 : Nat) ({ cls := "java/lang/Object", name := "<init>", desc := "()V" } : MethodName)) ∈ lw_gw := am_w 210 (by decide +kernel) rfl
theorem w211 : (Cond.classLink "Clockhouse$BigRound" (9 : Nat) "Clockhouse$Big") ∈ lw_gw := am_w 211 (by decide +kernel) rfl
theorem w212 : (Cond.methodLinkNest "Clockhouse$BigRound" (11 : Nat) ({ cls := "Clockhouse$Big", name := "<init>", desc := "()V" } : MethodName) "Clockhouse") ∈ lw_ng := am_ng 212 (by decide +kernel) rfl
theorem w213 : (Cond.classLink "Clockhouse$BigRound" (18 : Nat) "Clockhouse$Division") ∈ lw_gw := am_w 213 (by decide +kernel) rfl
theorem w214 : (Cond.instantiable "Clockhouse$Division" (3 : Nat)) ∈ lw_gw := am_w 214 (by decide +kernel) rfl
theorem w215 : (Cond.methodLinkNest "Clockhouse$BigRound" (20 : Nat) ({ cls := "Clockhouse$Division", name := "<init>", desc := "()V" } : MethodName) "Clockhouse") ∈ lw_ng := am_ng 215 (by decide +kernel) rfl
theorem w216 : (Cond.instanceMethod ({ cls := "Clockhouse$Division", name := "<init>", desc := "()V" } : MethodName)) ∈ lw_gw := am_w 216 (by decide +kernel) rfl
theorem w217 : (Cond.code ({ cls := "Clockhouse$Division", name := "<init>", desc := "()V" } : MethodName) prog_4_method_1_code (1 : Nat) (Option.none : Option FieldType)) ∈ lw_gw := am_w 217 (by decide +kernel) rfl
theorem w218 : (Cond.methodLink "Clockhouse$Division" (3 : Nat) ({ cls := "java/lang/Object", name := "<init>", desc := "()V" } : MethodName)) ∈ lw_gw := am_w 218 (by decide +kernel) rfl
theorem w219 : (Cond.classLink "Clockhouse$Division" (9 : Nat) "Clockhouse$Big") ∈ lw_gw := am_w 219 (by decide +kernel) rfl
theorem w220 : (Cond.methodLinkNest "Clockhouse$Division" (11 : Nat) ({ cls := "Clockhouse$Big", name := "<init>", desc := "()V" } : MethodName) "Clockhouse") ∈ lw_ng := am_ng 220 (by decide +kernel) rfl
theorem w221 : (Cond.fieldLink "Clockhouse$Division" (12 : Nat) "Clockhouse$Division" "quotient" "LClockhouse$Big;") ∈ lw_gw := am_w 221 (by decide +kernel) rfl
theorem w222 : (Cond.fieldLinkNest "Clockhouse$BigRound" (72 : Nat) "Clockhouse$Division" "quotient" "LClockhouse$Big;" "Clockhouse") ∈ lw_ng := am_ng 222 (by decide +kernel) rfl
theorem w223 : (Cond.fieldLink "Clockhouse$Division" (18 : Nat) "Clockhouse$Division" "rest" "LClockhouse$Big;") ∈ lw_gw := am_w 223 (by decide +kernel) rfl
theorem w224 : (Cond.fieldLinkNest "Clockhouse$BigRound" (44 : Nat) "Clockhouse$Division" "rest" "LClockhouse$Big;" "Clockhouse") ∈ lw_ng := am_ng 224 (by decide +kernel) rfl
theorem w225 : (Cond.fieldLink "Clockhouse$Division" (21 : Nat) "Clockhouse$Division" "by" "LClockhouse$Big;") ∈ lw_gw := am_w 225 (by decide +kernel) rfl
theorem w226 : (Cond.laysFinal "Clockhouse$Division" "Clockhouse$Division" "quotient" "LClockhouse$Big;") ∈ lw_gw := am_w 226 (by decide +kernel) rfl
theorem w228 : (Cond.laysFinal "Clockhouse$Division" "Clockhouse$Division" "rest" "LClockhouse$Big;") ∈ lw_gw := am_w 228 (by decide +kernel) rfl
theorem w230 : (Cond.laysFinal "Clockhouse$Division" "Clockhouse$Division" "by" "LClockhouse$Big;") ∈ lw_gw := am_w 230 (by decide +kernel) rfl
theorem w233 : (Cond.fieldLink "Clockhouse$BigRound" (12 : Nat) "Clockhouse$BigRound" "found" "LClockhouse$Big;") ∈ lw_gw := am_w 233 (by decide +kernel) rfl
theorem w234 : (Cond.fieldLinkNest "Clockhouse" (202 : Nat) "Clockhouse$BigRound" "found" "LClockhouse$Big;" "Clockhouse") ∈ lw_ng := am_ng 234 (by decide +kernel) rfl
theorem w235 : (Cond.fieldLink "Clockhouse$BigRound" (21 : Nat) "Clockhouse$BigRound" "division" "LClockhouse$Division;") ∈ lw_gw := am_w 235 (by decide +kernel) rfl
theorem w236 : (Cond.fieldLink "Clockhouse$BigRound" (25 : Nat) "Clockhouse$BigRound" "first" "LClockhouse$Big;") ∈ lw_gw := am_w 236 (by decide +kernel) rfl
theorem w237 : (Cond.fieldLink "Clockhouse$BigRound" (28 : Nat) "Clockhouse$BigRound" "second" "LClockhouse$Big;") ∈ lw_gw := am_w 237 (by decide +kernel) rfl
theorem w238 : (Cond.fieldLink "Clockhouse$BigRound" (31 : Nat) "Clockhouse$BigRound" "third" "LClockhouse$Big;") ∈ lw_gw := am_w 238 (by decide +kernel) rfl
theorem w239 : (Cond.fieldLink "Clockhouse$BigRound" (34 : Nat) "Clockhouse$BigRound" "fourth" "LClockhouse$Big;") ∈ lw_gw := am_w 239 (by decide +kernel) rfl
theorem w240 : (Cond.fieldLink "Clockhouse$BigRound" (37 : Nat) "Clockhouse$BigRound" "product" "LClockhouse$Big;") ∈ lw_gw := am_w 240 (by decide +kernel) rfl
theorem w241 : (Cond.laysFinal "Clockhouse$BigRound" "Clockhouse$BigRound" "found" "LClockhouse$Big;") ∈ lw_gw := am_w 241 (by decide +kernel) rfl
theorem w243 : (Cond.laysFinal "Clockhouse$BigRound" "Clockhouse$BigRound" "division" "LClockhouse$Division;") ∈ lw_gw := am_w 243 (by decide +kernel) rfl
theorem w245 : (Cond.laysFinal "Clockhouse$BigRound" "Clockhouse$BigRound" "first" "LClockhouse$Big;") ∈ lw_gw := am_w 245 (by decide +kernel) rfl
theorem w247 : (Cond.laysFinal "Clockhouse$BigRound" "Clockhouse$BigRound" "second" "LClockhouse$Big;") ∈ lw_gw := am_w 247 (by decide +kernel) rfl
theorem w249 : (Cond.laysFinal "Clockhouse$BigRound" "Clockhouse$BigRound" "third" "LClockhouse$Big;") ∈ lw_gw := am_w 249 (by decide +kernel) rfl
theorem w251 : (Cond.laysFinal "Clockhouse$BigRound" "Clockhouse$BigRound" "fourth" "LClockhouse$Big;") ∈ lw_gw := am_w 251 (by decide +kernel) rfl
theorem w253 : (Cond.laysFinal "Clockhouse$BigRound" "Clockhouse$BigRound" "product" "LClockhouse$Big;") ∈ lw_gw := am_w 253 (by decide +kernel) rfl
theorem w256 : (Cond.classLink "Clockhouse" (43 : Nat) "Clockhouse$PowerRow") ∈ lw_gw := am_w 256 (by decide +kernel) rfl
theorem w257 : (Cond.instantiable "Clockhouse$PowerRow" (4 : Nat)) ∈ lw_gw := am_w 257 (by decide +kernel) rfl
theorem w258 : (Cond.methodLinkNest "Clockhouse" (45 : Nat) ({ cls := "Clockhouse$PowerRow", name := "<init>", desc := "()V" } : MethodName) "Clockhouse") ∈ lw_ng := am_ng 258 (by decide +kernel) rfl
theorem w259 : (Cond.instanceMethod ({ cls := "Clockhouse$PowerRow", name := "<init>", desc := "()V" } : MethodName)) ∈ lw_gw := am_w 259 (by decide +kernel) rfl
theorem w260 : (Cond.code ({ cls := "Clockhouse$PowerRow", name := "<init>", desc := "()V" } : MethodName) prog_8_method_1_code (1 : Nat) (Option.none : Option FieldType)) ∈ lw_gw := am_w 260 (by decide +kernel) rfl
theorem w261 : (Cond.methodLink "Clockhouse$PowerRow" (3 : Nat) ({ cls := "java/lang/Object", name := "<init>", desc := "()V" } : MethodName)) ∈ lw_gw := am_w 261 (by decide +kernel) rfl
theorem w262 : (Cond.fieldLink "Clockhouse$PowerRow" (9 : Nat) "Clockhouse$PowerRow" "row" "[I") ∈ lw_gw := am_w 262 (by decide +kernel) rfl
theorem w263 : (Cond.fieldLink "Clockhouse$PowerRow" (15 : Nat) "Clockhouse$PowerRow" "placeOf" "[I") ∈ lw_gw := am_w 263 (by decide +kernel) rfl
theorem w264 : (Cond.fieldLink "Clockhouse$PowerRow" (18 : Nat) "Clockhouse$PowerRow" "count" "I") ∈ lw_gw := am_w 264 (by decide +kernel) rfl
theorem w265 : (Cond.fieldLink "Clockhouse$PowerRow" (22 : Nat) "Clockhouse$PowerRow" "tail" "I") ∈ lw_gw := am_w 265 (by decide +kernel) rfl
theorem w266 : (Cond.laysFinal "Clockhouse$PowerRow" "Clockhouse$PowerRow" "row" "[I") ∈ lw_gw := am_w 266 (by decide +kernel) rfl
theorem w268 : (Cond.laysFinal "Clockhouse$PowerRow" "Clockhouse$PowerRow" "placeOf" "[I") ∈ lw_gw := am_w 268 (by decide +kernel) rfl
theorem w270 : (Cond.lays "Clockhouse$PowerRow" "Clockhouse$PowerRow" "count" "I") ∈ lw_gw := am_w 270 (by decide +kernel) rfl
theorem w272 : (Cond.lays "Clockhouse$PowerRow" "Clockhouse$PowerRow" "tail" "I") ∈ lw_gw := am_w 272 (by decide +kernel) rfl
theorem w275 : (Cond.classLink "Clockhouse" (50 : Nat) "Clockhouse$Generators") ∈ lw_gw := am_w 275 (by decide +kernel) rfl
theorem w276 : (Cond.instantiable "Clockhouse$Generators" (4 : Nat)) ∈ lw_gw := am_w 276 (by decide +kernel) rfl
theorem w277 : (Cond.methodLinkNest "Clockhouse" (52 : Nat) ({ cls := "Clockhouse$Generators", name := "<init>", desc := "()V" } : MethodName) "Clockhouse") ∈ lw_ng := am_ng 277 (by decide +kernel) rfl
theorem w278 : (Cond.instanceMethod ({ cls := "Clockhouse$Generators", name := "<init>", desc := "()V" } : MethodName)) ∈ lw_gw := am_w 278 (by decide +kernel) rfl
theorem w279 : (Cond.code ({ cls := "Clockhouse$Generators", name := "<init>", desc := "()V" } : MethodName) prog_5_method_1_code (1 : Nat) (Option.none : Option FieldType)) ∈ lw_gw := am_w 279 (by decide +kernel) rfl
theorem w280 : (Cond.methodLink "Clockhouse$Generators" (3 : Nat) ({ cls := "java/lang/Object", name := "<init>", desc := "()V" } : MethodName)) ∈ lw_gw := am_w 280 (by decide +kernel) rfl
theorem w281 : (Cond.fieldLink "Clockhouse$Generators" (9 : Nat) "Clockhouse$Generators" "primes" "[I") ∈ lw_gw := am_w 281 (by decide +kernel) rfl
theorem w282 : (Cond.fieldLink "Clockhouse$Generators" (28 : Nat) "Clockhouse$Generators" "primeCount" "I") ∈ lw_gw := am_w 282 (by decide +kernel) rfl
theorem w283 : (Cond.fieldLink "Clockhouse$Generators" (15 : Nat) "Clockhouse$Generators" "m" "I") ∈ lw_gw := am_w 283 (by decide +kernel) rfl
theorem w284 : (Cond.fieldLink "Clockhouse$Generators" (25 : Nat) "Clockhouse$Generators" "unitCount" "I") ∈ lw_gw := am_w 284 (by decide +kernel) rfl
theorem w285 : (Cond.laysFinal "Clockhouse$Generators" "Clockhouse$Generators" "primes" "[I") ∈ lw_gw := am_w 285 (by decide +kernel) rfl
theorem w287 : (Cond.lays "Clockhouse$Generators" "Clockhouse$Generators" "primeCount" "I") ∈ lw_gw := am_w 287 (by decide +kernel) rfl
theorem w289 : (Cond.lays "Clockhouse$Generators" "Clockhouse$Generators" "m" "I") ∈ lw_gw := am_w 289 (by decide +kernel) rfl
theorem w291 : (Cond.lays "Clockhouse$Generators" "Clockhouse$Generators" "unitCount" "I") ∈ lw_gw := am_w 291 (by decide +kernel) rfl
theorem w294 : (Cond.classLink "Clockhouse" (57 : Nat) "Clockhouse$Joiner") ∈ lw_gw := am_w 294 (by decide +kernel) rfl
theorem w295 : (Cond.instantiable "Clockhouse$Joiner" (3 : Nat)) ∈ lw_gw := am_w 295 (by decide +kernel) rfl
theorem w296 : (Cond.methodLinkNest "Clockhouse" (59 : Nat) ({ cls := "Clockhouse$Joiner", name := "<init>", desc := "()V" } : MethodName) "Clockhouse") ∈ lw_ng := am_ng 296 (by decide +kernel) rfl
theorem w297 : (Cond.instanceMethod ({ cls := "Clockhouse$Joiner", name := "<init>", desc := "()V" } : MethodName)) ∈ lw_gw := am_w 297 (by decide +kernel) rfl
theorem w298 : (Cond.code ({ cls := "Clockhouse$Joiner", name := "<init>", desc := "()V" } : MethodName) prog_6_method_1_code (1 : Nat) (Option.none : Option FieldType)) ∈ lw_gw := am_w 298 (by decide +kernel) rfl
theorem w299 : (Cond.methodLink "Clockhouse$Joiner" (1 : Nat) ({ cls := "java/lang/Object", name := "<init>", desc := "()V" } : MethodName)) ∈ lw_gw := am_w 299 (by decide +kernel) rfl
theorem w300 : (Cond.fieldLink "Clockhouse$Joiner" (7 : Nat) "Clockhouse$Joiner" "joined" "Z") ∈ lw_gw := am_w 300 (by decide +kernel) rfl
theorem w301 : (Cond.fieldLinkNest "Clockhouse" (311 : Nat) "Clockhouse$Joiner" "joined" "Z" "Clockhouse") ∈ lw_ng := am_ng 301 (by decide +kernel) rfl
theorem w302 : (Cond.fieldLink "Clockhouse$Joiner" (13 : Nat) "Clockhouse$Joiner" "joint" "J") ∈ lw_gw := am_w 302 (by decide +kernel) rfl
theorem w303 : (Cond.fieldLinkNest "Clockhouse" (315 : Nat) "Clockhouse$Joiner" "joint" "J" "Clockhouse") ∈ lw_ng := am_ng 303 (by decide +kernel) rfl
theorem w304 : (Cond.fieldLink "Clockhouse$Joiner" (17 : Nat) "Clockhouse$Joiner" "whole" "J") ∈ lw_gw := am_w 304 (by decide +kernel) rfl
theorem w305 : (Cond.fieldLinkNest "Clockhouse" (325 : Nat) "Clockhouse$Joiner" "whole" "J" "Clockhouse") ∈ lw_ng := am_ng 305 (by decide +kernel) rfl
theorem w306 : (Cond.lays "Clockhouse$Joiner" "Clockhouse$Joiner" "joined" "Z") ∈ lw_gw := am_w 306 (by decide +kernel) rfl
theorem w308 : (Cond.lays "Clockhouse$Joiner" "Clockhouse$Joiner" "joint" "J") ∈ lw_gw := am_w 308 (by decide +kernel) rfl
theorem w310 : (Cond.lays "Clockhouse$Joiner" "Clockhouse$Joiner" "whole" "J") ∈ lw_gw := am_w 310 (by decide +kernel) rfl
theorem w313 : (Cond.classLink "Clockhouse" (64 : Nat) "java/lang/StringBuilder") ∈ lw_gw := am_w 313 (by decide +kernel) rfl
theorem w314 : (Cond.instantiable "java/lang/StringBuilder" (4 : Nat)) ∈ lw_gw := am_w 314 (by decide +kernel) rfl
theorem w315 : (Cond.methodLink "Clockhouse" (66 : Nat) ({ cls := "java/lang/StringBuilder", name := "<init>", desc := "()V" } : MethodName)) ∈ lw_gw := am_w 315 (by decide +kernel) rfl
theorem w316 : (Cond.instanceMethod ({ cls := "java/lang/StringBuilder", name := "<init>", desc := "()V" } : MethodName)) ∈ lw_gw := am_w 316 (by decide +kernel) rfl
theorem w317 : (Cond.code ({ cls := "java/lang/StringBuilder", name := "<init>", desc := "()V" } : MethodName) prog_36_method_1_code (1 : Nat) (Option.none : Option FieldType)) ∈ lw_gw := am_w 317 (by decide +kernel) rfl
theorem w318 : (Cond.methodLink "java/lang/StringBuilder" (1 : Nat) ({ cls := "java/lang/AbstractStringBuilder", name := "<init>", desc := "(I)V" } : MethodName)) ∈ lw_gw := am_w 318 (by decide +kernel) rfl
theorem w319 : (Cond.instanceMethod ({ cls := "java/lang/AbstractStringBuilder", name := "<init>", desc := "(I)V" } : MethodName)) ∈ lw_gw := am_w 319 (by decide +kernel) rfl
theorem w320 : (Cond.code ({ cls := "java/lang/AbstractStringBuilder", name := "<init>", desc := "(I)V" } : MethodName) prog_18_method_2_code (2 : Nat) (Option.none : Option FieldType)) ∈ lw_gw := am_w 320 (by decide +kernel) rfl
theorem w321 : (Cond.methodLink "java/lang/AbstractStringBuilder" (3 : Nat) ({ cls := "java/lang/Object", name := "<init>", desc := "()V" } : MethodName)) ∈ lw_gw := am_w 321 (by decide +kernel) rfl
theorem w322 : (Cond.fieldLink "java/lang/AbstractStringBuilder" (18 : Nat) "java/lang/String" "COMPACT_STRINGS" "Z") ∈ lw_gw := am_w 322 (by decide +kernel) rfl
theorem w331 : (Cond.fieldLink "java/lang/AbstractStringBuilder" (15 : Nat) "java/lang/AbstractStringBuilder" "value" "[B") ∈ lw_gw := am_w 331 (by decide +kernel) rfl
theorem w332 : (Cond.fieldLink "java/lang/AbstractStringBuilder" (22 : Nat) "java/lang/AbstractStringBuilder" "coder" "B") ∈ lw_gw := am_w 332 (by decide +kernel) rfl
theorem w336 : (Cond.lays "java/lang/StringBuilder" "java/lang/AbstractStringBuilder" "value" "[B") ∈ lw_gw := am_w 336 (by decide +kernel) rfl
theorem w338 : (Cond.lays "java/lang/StringBuilder" "java/lang/AbstractStringBuilder" "coder" "B") ∈ lw_gw := am_w 338 (by decide +kernel) rfl
theorem w340 : (Cond.lays "java/lang/StringBuilder" "java/lang/AbstractStringBuilder" "maybeLatin1" "Z") ∈ lw_gw := am_w 340 (by decide +kernel) rfl
theorem w342 : (Cond.lays "java/lang/StringBuilder" "java/lang/AbstractStringBuilder" "count" "I") ∈ lw_gw := am_w 342 (by decide +kernel) rfl
theorem w345 : (Cond.arrayClass FieldType.byte) ∈ lw_gw := am_w 345 (by decide +kernel) rfl
theorem w346 : (Cond.fieldLink "Clockhouse" (10 : Nat) "Clockhouse" "state" "LClockhouse$State;") ∈ lw_gw := am_w 346 (by decide +kernel) rfl
theorem w347 : (Cond.fieldLink "Clockhouse" (19 : Nat) "Clockhouse" "past" "LClockhouse$Past;") ∈ lw_gw := am_w 347 (by decide +kernel) rfl
theorem w348 : (Cond.fieldLink "Clockhouse" (350 : Nat) "Clockhouse" "jams" "I") ∈ lw_gw := am_w 348 (by decide +kernel) rfl
theorem w349 : (Cond.fieldLink "Clockhouse" (353 : Nat) "Clockhouse" "misses" "I") ∈ lw_gw := am_w 349 (by decide +kernel) rfl
theorem w350 : (Cond.fieldLink "Clockhouse" (192 : Nat) "Clockhouse" "knocks" "I") ∈ lw_gw := am_w 350 (by decide +kernel) rfl
theorem w351 : (Cond.fieldLink "Clockhouse" (26 : Nat) "Clockhouse" "work" "LClockhouse$Big;") ∈ lw_gw := am_w 351 (by decide +kernel) rfl
theorem w352 : (Cond.fieldLink "Clockhouse" (30 : Nat) "Clockhouse" "extra" "LClockhouse$Big;") ∈ lw_gw := am_w 352 (by decide +kernel) rfl
theorem w353 : (Cond.fieldLink "Clockhouse" (33 : Nat) "Clockhouse" "spanWork" "LClockhouse$Big;") ∈ lw_gw := am_w 353 (by decide +kernel) rfl
theorem w354 : (Cond.fieldLink "Clockhouse" (39 : Nat) "Clockhouse" "bigRound" "LClockhouse$BigRound;") ∈ lw_gw := am_w 354 (by decide +kernel) rfl
theorem w355 : (Cond.fieldLink "Clockhouse" (46 : Nat) "Clockhouse" "powerRow" "LClockhouse$PowerRow;") ∈ lw_gw := am_w 355 (by decide +kernel) rfl
theorem w356 : (Cond.fieldLink "Clockhouse" (53 : Nat) "Clockhouse" "generators" "LClockhouse$Generators;") ∈ lw_gw := am_w 356 (by decide +kernel) rfl
theorem w357 : (Cond.fieldLink "Clockhouse" (60 : Nat) "Clockhouse" "joiner" "LClockhouse$Joiner;") ∈ lw_gw := am_w 357 (by decide +kernel) rfl
theorem w358 : (Cond.fieldLink "Clockhouse" (67 : Nat) "Clockhouse" "builder" "Ljava/lang/StringBuilder;") ∈ lw_gw := am_w 358 (by decide +kernel) rfl
theorem w359 : (Cond.laysFinal "Clockhouse" "Clockhouse" "state" "LClockhouse$State;") ∈ lw_gw := am_w 359 (by decide +kernel) rfl
theorem w361 : (Cond.laysFinal "Clockhouse" "Clockhouse" "past" "LClockhouse$Past;") ∈ lw_gw := am_w 361 (by decide +kernel) rfl
theorem w363 : (Cond.lays "Clockhouse" "Clockhouse" "jams" "I") ∈ lw_gw := am_w 363 (by decide +kernel) rfl
theorem w365 : (Cond.lays "Clockhouse" "Clockhouse" "misses" "I") ∈ lw_gw := am_w 365 (by decide +kernel) rfl
theorem w367 : (Cond.lays "Clockhouse" "Clockhouse" "knocks" "I") ∈ lw_gw := am_w 367 (by decide +kernel) rfl
theorem w369 : (Cond.laysFinal "Clockhouse" "Clockhouse" "work" "LClockhouse$Big;") ∈ lw_gw := am_w 369 (by decide +kernel) rfl
theorem w371 : (Cond.laysFinal "Clockhouse" "Clockhouse" "extra" "LClockhouse$Big;") ∈ lw_gw := am_w 371 (by decide +kernel) rfl
theorem w373 : (Cond.laysFinal "Clockhouse" "Clockhouse" "spanWork" "LClockhouse$Big;") ∈ lw_gw := am_w 373 (by decide +kernel) rfl
theorem w375 : (Cond.laysFinal "Clockhouse" "Clockhouse" "bigRound" "LClockhouse$BigRound;") ∈ lw_gw := am_w 375 (by decide +kernel) rfl
theorem w377 : (Cond.laysFinal "Clockhouse" "Clockhouse" "powerRow" "LClockhouse$PowerRow;") ∈ lw_gw := am_w 377 (by decide +kernel) rfl
theorem w379 : (Cond.laysFinal "Clockhouse" "Clockhouse" "generators" "LClockhouse$Generators;") ∈ lw_gw := am_w 379 (by decide +kernel) rfl
theorem w381 : (Cond.laysFinal "Clockhouse" "Clockhouse" "joiner" "LClockhouse$Joiner;") ∈ lw_gw := am_w 381 (by decide +kernel) rfl
theorem w383 : (Cond.laysFinal "Clockhouse" "Clockhouse" "builder" "Ljava/lang/StringBuilder;") ∈ lw_gw := am_w 383 (by decide +kernel) rfl
theorem w389 : (Cond.code ({ cls := "Clockhouse", name := "knock", desc := "()I" } : MethodName) prog_1_method_19_code (1 : Nat) (Option.some FieldType.int)) ∈ lw_gw := am_w 389 (by decide +kernel) rfl
theorem w393 : (Cond.code ({ cls := "Clockhouse", name := "size", desc := "()I" } : MethodName) prog_1_method_26_code (1 : Nat) (Option.some FieldType.int)) ∈ lw_gw := am_w 393 (by decide +kernel) rfl
theorem w397 : (Cond.code ({ cls := "Clockhouse", name := "units", desc := "()I" } : MethodName) prog_1_method_33_code (1 : Nat) (Option.some FieldType.int)) ∈ lw_gw := am_w 397 (by decide +kernel) rfl
theorem w398 : (Cond.methodLink "Clockhouse" (220 : Nat) ({ cls := "Clockhouse", name := "isJammed", desc := "()Z" } : MethodName)) ∈ lw_gw := am_w 398 (by decide +kernel) rfl
theorem w400 : (Cond.instanceMethod ({ cls := "Clockhouse", name := "isJammed", desc := "()Z" } : MethodName)) ∈ lw_gw := am_w 400 (by decide +kernel) rfl
theorem w401 : (Cond.code ({ cls := "Clockhouse", name := "isJammed", desc := "()Z" } : MethodName) prog_1_method_63_code (1 : Nat) (Option.some FieldType.boolean)) ∈ lw_gw := am_w 401 (by decide +kernel) rfl
theorem w402 : (Cond.methodLink "Clockhouse" (247 : Nat) ({ cls := "Clockhouse$Round", name := "countUnits", desc := "(I)I" } : MethodName)) ∈ lw_gw := am_w 402 (by decide +kernel) rfl
theorem w403 : (Cond.static ({ cls := "Clockhouse$Round", name := "countUnits", desc := "(I)I" } : MethodName)) ∈ lw_gw := am_w 403 (by decide +kernel) rfl
theorem w404 : (Cond.code ({ cls := "Clockhouse$Round", name := "countUnits", desc := "(I)I" } : MethodName) prog_9_method_8_code (3 : Nat) (Option.some FieldType.int)) ∈ lw_gw := am_w 404 (by decide +kernel) rfl
theorem w405 : (Cond.methodLink "Clockhouse$Round" (33 : Nat) ({ cls := "Clockhouse$Round", name := "commonOf", desc := "(II)I" } : MethodName)) ∈ lw_gw := am_w 405 (by decide +kernel) rfl
theorem w406 : (Cond.static ({ cls := "Clockhouse$Round", name := "commonOf", desc := "(II)I" } : MethodName)) ∈ lw_gw := am_w 406 (by decide +kernel) rfl
theorem w407 : (Cond.code ({ cls := "Clockhouse$Round", name := "commonOf", desc := "(II)I" } : MethodName) prog_9_method_2_code (6 : Nat) (Option.some FieldType.int)) ∈ lw_gw := am_w 407 (by decide +kernel) rfl
theorem w411 : (Cond.code ({ cls := "Clockhouse", name := "isPrime", desc := "()Z" } : MethodName) prog_1_method_41_code (1 : Nat) (Option.some FieldType.boolean)) ∈ lw_gw := am_w 411 (by decide +kernel) rfl
theorem w412 : (Cond.methodLink "Clockhouse" (287 : Nat) ({ cls := "Clockhouse$Round", name := "primeHolds", desc := "(I)Z" } : MethodName)) ∈ lw_gw := am_w 412 (by decide +kernel) rfl
theorem w413 : (Cond.static ({ cls := "Clockhouse$Round", name := "primeHolds", desc := "(I)Z" } : MethodName)) ∈ lw_gw := am_w 413 (by decide +kernel) rfl
theorem w414 : (Cond.code ({ cls := "Clockhouse$Round", name := "primeHolds", desc := "(I)Z" } : MethodName) prog_9_method_12_code (2 : Nat) (Option.some FieldType.boolean)) ∈ lw_gw := am_w 414 (by decide +kernel) rfl
theorem w418 : (Cond.code ({ cls := "Clockhouse", name := "rows", desc := "()I" } : MethodName) prog_1_method_44_code (1 : Nat) (Option.some FieldType.int)) ∈ lw_gw := am_w 418 (by decide +kernel) rfl
theorem w422 : (Cond.code ({ cls := "Clockhouse", name := "isJoined", desc := "()Z" } : MethodName) prog_1_method_47_code (1 : Nat) (Option.some FieldType.boolean)) ∈ lw_gw := am_w 422 (by decide +kernel) rfl
theorem w423 : (Cond.methodLink "Clockhouse" (145 : Nat) ({ cls := "Clockhouse", name := "joinRows", desc := "()V" } : MethodName)) ∈ lw_gw := am_w 423 (by decide +kernel) rfl
theorem w425 : (Cond.instanceMethod ({ cls := "Clockhouse", name := "joinRows", desc := "()V" } : MethodName)) ∈ lw_gw := am_w 425 (by decide +kernel) rfl
theorem w426 : (Cond.code ({ cls := "Clockhouse", name := "joinRows", desc := "()V" } : MethodName) prog_1_method_71_code (2 : Nat) (Option.none : Option FieldType)) ∈ lw_gw := am_w 426 (by decide +kernel) rfl
theorem w427 : (Cond.methodLink "Clockhouse" (436 : Nat) ({ cls := "Clockhouse$Joiner", name := "clear", desc := "()V" } : MethodName)) ∈ lw_gw := am_w 427 (by decide +kernel) rfl
theorem w428 : (Cond.instanceMethod ({ cls := "Clockhouse$Joiner", name := "clear", desc := "()V" } : MethodName)) ∈ lw_gw := am_w 428 (by decide +kernel) rfl
theorem w429 : (Cond.selects "Clockhouse$Joiner" ({ cls := "Clockhouse$Joiner", name := "clear", desc := "()V" } : MethodName) ({ cls := "Clockhouse$Joiner", name := "clear", desc := "()V" } : MethodName)) ∈ lw_gw := am_w 429 (by decide +kernel) rfl
theorem w430 : (Cond.code ({ cls := "Clockhouse$Joiner", name := "clear", desc := "()V" } : MethodName) prog_6_method_2_code (1 : Nat) (Option.none : Option FieldType)) ∈ lw_gw := am_w 430 (by decide +kernel) rfl
theorem w431 : (Cond.methodLink "Clockhouse" (439 : Nat) ({ cls := "Clockhouse$Joiner", name := "join", desc := "(II)V" } : MethodName)) ∈ lw_gw := am_w 431 (by decide +kernel) rfl
theorem w432 : (Cond.instanceMethod ({ cls := "Clockhouse$Joiner", name := "join", desc := "(II)V" } : MethodName)) ∈ lw_gw := am_w 432 (by decide +kernel) rfl
theorem w433 : (Cond.selects "Clockhouse$Joiner" ({ cls := "Clockhouse$Joiner", name := "join", desc := "(II)V" } : MethodName) ({ cls := "Clockhouse$Joiner", name := "join", desc := "(II)V" } : MethodName)) ∈ lw_gw := am_w 433 (by decide +kernel) rfl
theorem w434 : (Cond.code ({ cls := "Clockhouse$Joiner", name := "join", desc := "(II)V" } : MethodName) prog_6_method_4_code (9 : Nat) (Option.none : Option FieldType)) ∈ lw_gw := am_w 434 (by decide +kernel) rfl
theorem w435 : (Cond.methodLink "Clockhouse$Joiner" (26 : Nat) ({ cls := "Clockhouse$Joiner", name := "admits", desc := "(II)Z" } : MethodName)) ∈ lw_gw := am_w 435 (by decide +kernel) rfl
theorem w436 : (Cond.instanceMethod ({ cls := "Clockhouse$Joiner", name := "admits", desc := "(II)Z" } : MethodName)) ∈ lw_gw := am_w 436 (by decide +kernel) rfl
theorem w437 : (Cond.selects "Clockhouse$Joiner" ({ cls := "Clockhouse$Joiner", name := "admits", desc := "(II)Z" } : MethodName) ({ cls := "Clockhouse$Joiner", name := "admits", desc := "(II)Z" } : MethodName)) ∈ lw_gw := am_w 437 (by decide +kernel) rfl
theorem w438 : (Cond.code ({ cls := "Clockhouse$Joiner", name := "admits", desc := "(II)Z" } : MethodName) prog_6_method_3_code (4 : Nat) (Option.some FieldType.boolean)) ∈ lw_gw := am_w 438 (by decide +kernel) rfl
theorem w439 : (Cond.methodLink "Clockhouse$Joiner" (20 : Nat) ({ cls := "Clockhouse$Round", name := "commonOf", desc := "(II)I" } : MethodName)) ∈ lw_gw := am_w 439 (by decide +kernel) rfl
theorem w440 : (Cond.methodLink "Clockhouse$Joiner" (30 : Nat) ({ cls := "java/lang/Math", name := "floorMod", desc := "(JJ)J" } : MethodName)) ∈ lw_gw := am_w 440 (by decide +kernel) rfl
theorem w441 : (Cond.static ({ cls := "java/lang/Math", name := "floorMod", desc := "(JJ)J" } : MethodName)) ∈ lw_gw := am_w 441 (by decide +kernel) rfl
theorem w442 : (Cond.code ({ cls := "java/lang/Math", name := "floorMod", desc := "(JJ)J" } : MethodName) prog_32_method_52_code (6 : Nat) (Option.some FieldType.long)) ∈ lw_gw := am_w 442 (by decide +kernel) rfl
theorem w443 : (Cond.methodLink "Clockhouse$Joiner" (36 : Nat) ({ cls := "Clockhouse$Round", name := "invert", desc := "(II)I" } : MethodName)) ∈ lw_gw := am_w 443 (by decide +kernel) rfl
theorem w444 : (Cond.static ({ cls := "Clockhouse$Round", name := "invert", desc := "(II)I" } : MethodName)) ∈ lw_gw := am_w 444 (by decide +kernel) rfl
theorem w445 : (Cond.code ({ cls := "Clockhouse$Round", name := "invert", desc := "(II)I" } : MethodName) prog_9_method_3_code (10 : Nat) (Option.some FieldType.int)) ∈ lw_gw := am_w 445 (by decide +kernel) rfl
theorem w454 : (Cond.methodLink "Clockhouse" (90 : Nat) ({ cls := "Clockhouse$Big", name := "becomeLong", desc := "(J)V" } : MethodName)) ∈ lw_gw := am_w 454 (by decide +kernel) rfl
theorem w455 : (Cond.instanceMethod ({ cls := "Clockhouse$Big", name := "becomeLong", desc := "(J)V" } : MethodName)) ∈ lw_gw := am_w 455 (by decide +kernel) rfl
theorem w456 : (Cond.selects "Clockhouse$Big" ({ cls := "Clockhouse$Big", name := "becomeLong", desc := "(J)V" } : MethodName) ({ cls := "Clockhouse$Big", name := "becomeLong", desc := "(J)V" } : MethodName)) ∈ lw_gw := am_w 456 (by decide +kernel) rfl
theorem w457 : (Cond.code ({ cls := "Clockhouse$Big", name := "becomeLong", desc := "(J)V" } : MethodName) prog_2_method_8_code (6 : Nat) (Option.none : Option FieldType)) ∈ lw_gw := am_w 457 (by decide +kernel) rfl
theorem w458 : (Cond.methodLink "Clockhouse$Big" (28 : Nat) ({ cls := "Clockhouse$Big", name := "clear", desc := "()V" } : MethodName)) ∈ lw_gw := am_w 458 (by decide +kernel) rfl
theorem w459 : (Cond.instanceMethod ({ cls := "Clockhouse$Big", name := "clear", desc := "()V" } : MethodName)) ∈ lw_gw := am_w 459 (by decide +kernel) rfl
theorem w460 : (Cond.selects "Clockhouse$Big" ({ cls := "Clockhouse$Big", name := "clear", desc := "()V" } : MethodName) ({ cls := "Clockhouse$Big", name := "clear", desc := "()V" } : MethodName)) ∈ lw_gw := am_w 460 (by decide +kernel) rfl
theorem w461 : (Cond.code ({ cls := "Clockhouse$Big", name := "clear", desc := "()V" } : MethodName) prog_2_method_6_code (2 : Nat) (Option.none : Option FieldType)) ∈ lw_gw := am_w 461 (by decide +kernel) rfl
theorem w462 : (Cond.constantLong "Clockhouse$Big" (31 : Nat) (1000000000 : Int64)) ∈ lw_gw := am_w 462 (by decide +kernel) rfl
theorem w463 : (Cond.methodLink "Clockhouse$Big" (33 : Nat) ({ cls := "Clockhouse$Big", name := "settle", desc := "(I)V" } : MethodName)) ∈ lw_gw := am_w 463 (by decide +kernel) rfl
theorem w464 : (Cond.instanceMethod ({ cls := "Clockhouse$Big", name := "settle", desc := "(I)V" } : MethodName)) ∈ lw_gw := am_w 464 (by decide +kernel) rfl
theorem w465 : (Cond.selects "Clockhouse$Big" ({ cls := "Clockhouse$Big", name := "settle", desc := "(I)V" } : MethodName) ({ cls := "Clockhouse$Big", name := "settle", desc := "(I)V" } : MethodName)) ∈ lw_gw := am_w 465 (by decide +kernel) rfl
theorem w466 : (Cond.code ({ cls := "Clockhouse$Big", name := "settle", desc := "(I)V" } : MethodName) prog_2_method_5_code (3 : Nat) (Option.none : Option FieldType)) ∈ lw_gw := am_w 466 (by decide +kernel) rfl
theorem w530 : (Cond.static ({ cls := "java/lang/System", name := "arraycopy", desc := "(Ljava/lang/Object;ILjava/lang/Object;II)V" } : MethodName)) ∈ lw_gw := am_w 530 (by decide +kernel) rfl
theorem w531 : (Cond.native ({ cls := "java/lang/System", name := "arraycopy", desc := "(Ljava/lang/Object;ILjava/lang/Object;II)V" } : MethodName)) ∈ lw_gw := am_w 531 (by decide +kernel) rfl
theorem w841 : (Cond.methodLink "Clockhouse$Big" (55 : Nat) ({ cls := "Clockhouse$Big", name := "limb", desc := "(I)I" } : MethodName)) ∈ lw_gw := am_w 841 (by decide +kernel) rfl
theorem w842 : (Cond.instanceMethod ({ cls := "Clockhouse$Big", name := "limb", desc := "(I)I" } : MethodName)) ∈ lw_gw := am_w 842 (by decide +kernel) rfl
theorem w843 : (Cond.selects "Clockhouse$Big" ({ cls := "Clockhouse$Big", name := "limb", desc := "(I)I" } : MethodName) ({ cls := "Clockhouse$Big", name := "limb", desc := "(I)I" } : MethodName)) ∈ lw_gw := am_w 843 (by decide +kernel) rfl
theorem w844 : (Cond.code ({ cls := "Clockhouse$Big", name := "limb", desc := "(I)I" } : MethodName) prog_2_method_2_code (2 : Nat) (Option.some FieldType.int)) ∈ lw_gw := am_w 844 (by decide +kernel) rfl
theorem w856 : (Cond.code ({ cls := "Clockhouse", name := "bases", desc := "()I" } : MethodName) prog_1_method_53_code (1 : Nat) (Option.some FieldType.int)) ∈ lw_gw := am_w 856 (by decide +kernel) rfl
theorem w861 : (Cond.methodLink "Clockhouse" (331 : Nat) ({ cls := "Clockhouse$State", name := "spanOfBases", desc := "()J" } : MethodName)) ∈ lw_gw := am_w 861 (by decide +kernel) rfl
theorem w862 : (Cond.instanceMethod ({ cls := "Clockhouse$State", name := "spanOfBases", desc := "()J" } : MethodName)) ∈ lw_gw := am_w 862 (by decide +kernel) rfl
theorem w863 : (Cond.selects "Clockhouse$State" ({ cls := "Clockhouse$State", name := "spanOfBases", desc := "()J" } : MethodName) ({ cls := "Clockhouse$State", name := "spanOfBases", desc := "()J" } : MethodName)) ∈ lw_gw := am_w 863 (by decide +kernel) rfl
theorem w864 : (Cond.code ({ cls := "Clockhouse$State", name := "spanOfBases", desc := "()J" } : MethodName) prog_11_method_9_code (4 : Nat) (Option.some FieldType.long)) ∈ lw_gw := am_w 864 (by decide +kernel) rfl
theorem w868 : (Cond.code ({ cls := "Clockhouse", name := "isSound", desc := "()Z" } : MethodName) prog_1_method_60_code (1 : Nat) (Option.some FieldType.boolean)) ∈ lw_gw := am_w 868 (by decide +kernel) rfl
theorem w869 : (Cond.methodLink "Clockhouse" (356 : Nat) ({ cls := "Clockhouse", name := "numbersFit", desc := "()Z" } : MethodName)) ∈ lw_gw := am_w 869 (by decide +kernel) rfl
theorem w871 : (Cond.instanceMethod ({ cls := "Clockhouse", name := "numbersFit", desc := "()Z" } : MethodName)) ∈ lw_gw := am_w 871 (by decide +kernel) rfl
theorem w872 : (Cond.code ({ cls := "Clockhouse", name := "numbersFit", desc := "()Z" } : MethodName) prog_1_method_81_code (2 : Nat) (Option.some FieldType.boolean)) ∈ lw_gw := am_w 872 (by decide +kernel) rfl
theorem w873 : (Cond.methodLink "Clockhouse" (426 : Nat) ({ cls := "Clockhouse$Big", name := "isTooLong", desc := "()Z" } : MethodName)) ∈ lw_gw := am_w 873 (by decide +kernel) rfl
theorem w874 : (Cond.instanceMethod ({ cls := "Clockhouse$Big", name := "isTooLong", desc := "()Z" } : MethodName)) ∈ lw_gw := am_w 874 (by decide +kernel) rfl
theorem w875 : (Cond.selects "Clockhouse$Big" ({ cls := "Clockhouse$Big", name := "isTooLong", desc := "()Z" } : MethodName) ({ cls := "Clockhouse$Big", name := "isTooLong", desc := "()Z" } : MethodName)) ∈ lw_gw := am_w 875 (by decide +kernel) rfl
theorem w876 : (Cond.code ({ cls := "Clockhouse$Big", name := "isTooLong", desc := "()Z" } : MethodName) prog_2_method_4_code (1 : Nat) (Option.some FieldType.boolean)) ∈ lw_gw := am_w 876 (by decide +kernel) rfl
theorem w877 : (Cond.methodLink "Clockhouse" (359 : Nat) ({ cls := "Clockhouse", name := "slotsAreSound", desc := "()Z" } : MethodName)) ∈ lw_gw := am_w 877 (by decide +kernel) rfl
theorem w879 : (Cond.instanceMethod ({ cls := "Clockhouse", name := "slotsAreSound", desc := "()Z" } : MethodName)) ∈ lw_gw := am_w 879 (by decide +kernel) rfl
theorem w880 : (Cond.code ({ cls := "Clockhouse", name := "slotsAreSound", desc := "()Z" } : MethodName) prog_1_method_82_code (7 : Nat) (Option.some FieldType.boolean)) ∈ lw_gw := am_w 880 (by decide +kernel) rfl
theorem w881 : (Cond.methodLink "Clockhouse" (290 : Nat) ({ cls := "Clockhouse$Round", name := "oddPrimeHolds", desc := "(I)Z" } : MethodName)) ∈ lw_gw := am_w 881 (by decide +kernel) rfl
theorem w882 : (Cond.static ({ cls := "Clockhouse$Round", name := "oddPrimeHolds", desc := "(I)Z" } : MethodName)) ∈ lw_gw := am_w 882 (by decide +kernel) rfl
theorem w883 : (Cond.code ({ cls := "Clockhouse$Round", name := "oddPrimeHolds", desc := "(I)Z" } : MethodName) prog_9_method_13_code (1 : Nat) (Option.some FieldType.boolean)) ∈ lw_gw := am_w 883 (by decide +kernel) rfl
theorem w884 : (Cond.methodLink "Clockhouse$Round" (36 : Nat) ({ cls := "Clockhouse$Round", name := "primeHolds", desc := "(I)Z" } : MethodName)) ∈ lw_gw := am_w 884 (by decide +kernel) rfl
theorem w885 : (Cond.methodLink "Clockhouse" (125 : Nat) ({ cls := "Clockhouse$Big", name := "restBy", desc := "(I)I" } : MethodName)) ∈ lw_gw := am_w 885 (by decide +kernel) rfl
theorem w886 : (Cond.instanceMethod ({ cls := "Clockhouse$Big", name := "restBy", desc := "(I)I" } : MethodName)) ∈ lw_gw := am_w 886 (by decide +kernel) rfl
theorem w887 : (Cond.selects "Clockhouse$Big" ({ cls := "Clockhouse$Big", name := "restBy", desc := "(I)I" } : MethodName) ({ cls := "Clockhouse$Big", name := "restBy", desc := "(I)I" } : MethodName)) ∈ lw_gw := am_w 887 (by decide +kernel) rfl
theorem w888 : (Cond.code ({ cls := "Clockhouse$Big", name := "restBy", desc := "(I)I" } : MethodName) prog_2_method_15_code (5 : Nat) (Option.some FieldType.int)) ∈ lw_gw := am_w 888 (by decide +kernel) rfl
theorem w889 : (Cond.methodLink "Clockhouse" (457 : Nat) ({ cls := "Clockhouse$Sound", name := "powersHold", desc := "(II)Z" } : MethodName)) ∈ lw_gw := am_w 889 (by decide +kernel) rfl
theorem w890 : (Cond.static ({ cls := "Clockhouse$Sound", name := "powersHold", desc := "(II)Z" } : MethodName)) ∈ lw_gw := am_w 890 (by decide +kernel) rfl
theorem w891 : (Cond.code ({ cls := "Clockhouse$Sound", name := "powersHold", desc := "(II)Z" } : MethodName) prog_10_method_2_code (4 : Nat) (Option.some FieldType.boolean)) ∈ lw_gw := am_w 891 (by decide +kernel) rfl
theorem w892 : (Cond.methodLink "Clockhouse$Sound" (9 : Nat) ({ cls := "Clockhouse$Round", name := "raiseByInt", desc := "(III)I" } : MethodName)) ∈ lw_gw := am_w 892 (by decide +kernel) rfl
theorem w893 : (Cond.static ({ cls := "Clockhouse$Round", name := "raiseByInt", desc := "(III)I" } : MethodName)) ∈ lw_gw := am_w 893 (by decide +kernel) rfl
theorem w894 : (Cond.code ({ cls := "Clockhouse$Round", name := "raiseByInt", desc := "(III)I" } : MethodName) prog_9_method_4_code (7 : Nat) (Option.some FieldType.int)) ∈ lw_gw := am_w 894 (by decide +kernel) rfl
theorem w895 : (Cond.methodLink "Clockhouse" (462 : Nat) ({ cls := "Clockhouse$Sound", name := "inverseHolds", desc := "(III)Z" } : MethodName)) ∈ lw_gw := am_w 895 (by decide +kernel) rfl
theorem w896 : (Cond.static ({ cls := "Clockhouse$Sound", name := "inverseHolds", desc := "(III)Z" } : MethodName)) ∈ lw_gw := am_w 896 (by decide +kernel) rfl
theorem w897 : (Cond.code ({ cls := "Clockhouse$Sound", name := "inverseHolds", desc := "(III)Z" } : MethodName) prog_10_method_3_code (7 : Nat) (Option.some FieldType.boolean)) ∈ lw_gw := am_w 897 (by decide +kernel) rfl
theorem w898 : (Cond.methodLink "Clockhouse$Sound" (15 : Nat) ({ cls := "Clockhouse$Round", name := "invert", desc := "(II)I" } : MethodName)) ∈ lw_gw := am_w 898 (by decide +kernel) rfl
theorem w899 : (Cond.methodLink "Clockhouse$Sound" (19 : Nat) ({ cls := "Clockhouse$Round", name := "countSolutions", desc := "(III)I" } : MethodName)) ∈ lw_gw := am_w 899 (by decide +kernel) rfl
theorem w900 : (Cond.static ({ cls := "Clockhouse$Round", name := "countSolutions", desc := "(III)I" } : MethodName)) ∈ lw_gw := am_w 900 (by decide +kernel) rfl
theorem w901 : (Cond.code ({ cls := "Clockhouse$Round", name := "countSolutions", desc := "(III)I" } : MethodName) prog_9_method_6_code (5 : Nat) (Option.some FieldType.int)) ∈ lw_gw := am_w 901 (by decide +kernel) rfl
theorem w902 : (Cond.methodLink "Clockhouse$Sound" (22 : Nat) ({ cls := "Clockhouse$Round", name := "commonOf", desc := "(II)I" } : MethodName)) ∈ lw_gw := am_w 902 (by decide +kernel) rfl
theorem w903 : (Cond.methodLink "Clockhouse$Sound" (25 : Nat) ({ cls := "Clockhouse$Round", name := "orderOf", desc := "(II)I" } : MethodName)) ∈ lw_gw := am_w 903 (by decide +kernel) rfl
theorem w904 : (Cond.static ({ cls := "Clockhouse$Round", name := "orderOf", desc := "(II)I" } : MethodName)) ∈ lw_gw := am_w 904 (by decide +kernel) rfl
theorem w905 : (Cond.code ({ cls := "Clockhouse$Round", name := "orderOf", desc := "(II)I" } : MethodName) prog_9_method_9_code (4 : Nat) (Option.some FieldType.int)) ∈ lw_gw := am_w 905 (by decide +kernel) rfl
theorem w906 : (Cond.methodLink "Clockhouse$Sound" (28 : Nat) ({ cls := "Clockhouse$Round", name := "solutionAt", desc := "(IIII)I" } : MethodName)) ∈ lw_gw := am_w 906 (by decide +kernel) rfl
theorem w907 : (Cond.static ({ cls := "Clockhouse$Round", name := "solutionAt", desc := "(IIII)I" } : MethodName)) ∈ lw_gw := am_w 907 (by decide +kernel) rfl
theorem w908 : (Cond.code ({ cls := "Clockhouse$Round", name := "solutionAt", desc := "(IIII)I" } : MethodName) prog_9_method_7_code (6 : Nat) (Option.some FieldType.int)) ∈ lw_gw := am_w 908 (by decide +kernel) rfl
theorem w909 : (Cond.methodLink "Clockhouse" (466 : Nat) ({ cls := "Clockhouse$Sound", name := "solutionsHold", desc := "(III)Z" } : MethodName)) ∈ lw_gw := am_w 909 (by decide +kernel) rfl
theorem w910 : (Cond.static ({ cls := "Clockhouse$Sound", name := "solutionsHold", desc := "(III)Z" } : MethodName)) ∈ lw_gw := am_w 910 (by decide +kernel) rfl
theorem w911 : (Cond.code ({ cls := "Clockhouse$Sound", name := "solutionsHold", desc := "(III)Z" } : MethodName) prog_10_method_4_code (5 : Nat) (Option.some FieldType.boolean)) ∈ lw_gw := am_w 911 (by decide +kernel) rfl
theorem w912 : (Cond.methodLink "Clockhouse" (293 : Nat) ({ cls := "Clockhouse$Round", name := "legendreOf", desc := "(II)I" } : MethodName)) ∈ lw_gw := am_w 912 (by decide +kernel) rfl
theorem w913 : (Cond.static ({ cls := "Clockhouse$Round", name := "legendreOf", desc := "(II)I" } : MethodName)) ∈ lw_gw := am_w 913 (by decide +kernel) rfl
theorem w914 : (Cond.code ({ cls := "Clockhouse$Round", name := "legendreOf", desc := "(II)I" } : MethodName) prog_9_method_14_code (2 : Nat) (Option.some FieldType.int)) ∈ lw_gw := am_w 914 (by decide +kernel) rfl
theorem w915 : (Cond.methodLink "Clockhouse$Round" (40 : Nat) ({ cls := "Clockhouse$Round", name := "rootAt", desc := "(III)I" } : MethodName)) ∈ lw_gw := am_w 915 (by decide +kernel) rfl
theorem w916 : (Cond.static ({ cls := "Clockhouse$Round", name := "rootAt", desc := "(III)I" } : MethodName)) ∈ lw_gw := am_w 916 (by decide +kernel) rfl
theorem w917 : (Cond.code ({ cls := "Clockhouse$Round", name := "rootAt", desc := "(III)I" } : MethodName) prog_9_method_11_code (5 : Nat) (Option.some FieldType.int)) ∈ lw_gw := am_w 917 (by decide +kernel) rfl
theorem w918 : (Cond.methodLink "Clockhouse" (296 : Nat) ({ cls := "Clockhouse$Round", name := "jacobiOf", desc := "(II)I" } : MethodName)) ∈ lw_gw := am_w 918 (by decide +kernel) rfl
theorem w919 : (Cond.static ({ cls := "Clockhouse$Round", name := "jacobiOf", desc := "(II)I" } : MethodName)) ∈ lw_gw := am_w 919 (by decide +kernel) rfl
theorem w920 : (Cond.code ({ cls := "Clockhouse$Round", name := "jacobiOf", desc := "(II)I" } : MethodName) prog_9_method_15_code (6 : Nat) (Option.some FieldType.int)) ∈ lw_gw := am_w 920 (by decide +kernel) rfl
theorem w921 : (Cond.methodLink "Clockhouse$Round" (43 : Nat) ({ cls := "Clockhouse$Round", name := "legendreOf", desc := "(II)I" } : MethodName)) ∈ lw_gw := am_w 921 (by decide +kernel) rfl
theorem w922 : (Cond.methodLink "Clockhouse" (362 : Nat) ({ cls := "Clockhouse", name := "rowsAreSound", desc := "()Z" } : MethodName)) ∈ lw_gw := am_w 922 (by decide +kernel) rfl
theorem w924 : (Cond.instanceMethod ({ cls := "Clockhouse", name := "rowsAreSound", desc := "()Z" } : MethodName)) ∈ lw_gw := am_w 924 (by decide +kernel) rfl
theorem w925 : (Cond.code ({ cls := "Clockhouse", name := "rowsAreSound", desc := "()Z" } : MethodName) prog_1_method_83_code (3 : Nat) (Option.some FieldType.boolean)) ∈ lw_gw := am_w 925 (by decide +kernel) rfl
theorem w926 : (Cond.methodLink "Clockhouse" (328 : Nat) ({ cls := "Clockhouse", name := "clashPlace", desc := "(I)I" } : MethodName)) ∈ lw_gw := am_w 926 (by decide +kernel) rfl
theorem w928 : (Cond.instanceMethod ({ cls := "Clockhouse", name := "clashPlace", desc := "(I)I" } : MethodName)) ∈ lw_gw := am_w 928 (by decide +kernel) rfl
theorem w929 : (Cond.code ({ cls := "Clockhouse", name := "clashPlace", desc := "(I)I" } : MethodName) prog_1_method_72_code (4 : Nat) (Option.some FieldType.int)) ∈ lw_gw := am_w 929 (by decide +kernel) rfl
theorem w930 : (Cond.methodLink "Clockhouse" (308 : Nat) ({ cls := "Clockhouse$State", name := "rowsAgree", desc := "(II)Z" } : MethodName)) ∈ lw_gw := am_w 930 (by decide +kernel) rfl
theorem w931 : (Cond.instanceMethod ({ cls := "Clockhouse$State", name := "rowsAgree", desc := "(II)Z" } : MethodName)) ∈ lw_gw := am_w 931 (by decide +kernel) rfl
theorem w932 : (Cond.selects "Clockhouse$State" ({ cls := "Clockhouse$State", name := "rowsAgree", desc := "(II)Z" } : MethodName) ({ cls := "Clockhouse$State", name := "rowsAgree", desc := "(II)Z" } : MethodName)) ∈ lw_gw := am_w 932 (by decide +kernel) rfl
theorem w933 : (Cond.code ({ cls := "Clockhouse$State", name := "rowsAgree", desc := "(II)Z" } : MethodName) prog_11_method_5_code (4 : Nat) (Option.some FieldType.boolean)) ∈ lw_gw := am_w 933 (by decide +kernel) rfl
theorem w934 : (Cond.methodLink "Clockhouse$State" (54 : Nat) ({ cls := "Clockhouse$Round", name := "commonOf", desc := "(II)I" } : MethodName)) ∈ lw_gw := am_w 934 (by decide +kernel) rfl
theorem w935 : (Cond.methodLink "Clockhouse" (365 : Nat) ({ cls := "Clockhouse", name := "backsAreSound", desc := "()Z" } : MethodName)) ∈ lw_gw := am_w 935 (by decide +kernel) rfl
theorem w937 : (Cond.instanceMethod ({ cls := "Clockhouse", name := "backsAreSound", desc := "()Z" } : MethodName)) ∈ lw_gw := am_w 937 (by decide +kernel) rfl
theorem w938 : (Cond.code ({ cls := "Clockhouse", name := "backsAreSound", desc := "()Z" } : MethodName) prog_1_method_84_code (4 : Nat) (Option.some FieldType.boolean)) ∈ lw_gw := am_w 938 (by decide +kernel) rfl
theorem w939 : (Cond.methodLink "Clockhouse" (107 : Nat) ({ cls := "Clockhouse$Big", name := "becomeSum", desc := "(LClockhouse$Big;LClockhouse$Big;)V" } : MethodName)) ∈ lw_gw := am_w 939 (by decide +kernel) rfl
theorem w940 : (Cond.instanceMethod ({ cls := "Clockhouse$Big", name := "becomeSum", desc := "(LClockhouse$Big;LClockhouse$Big;)V" } : MethodName)) ∈ lw_gw := am_w 940 (by decide +kernel) rfl
theorem w941 : (Cond.selects "Clockhouse$Big" ({ cls := "Clockhouse$Big", name := "becomeSum", desc := "(LClockhouse$Big;LClockhouse$Big;)V" } : MethodName) ({ cls := "Clockhouse$Big", name := "becomeSum", desc := "(LClockhouse$Big;LClockhouse$Big;)V" } : MethodName)) ∈ lw_gw := am_w 941 (by decide +kernel) rfl
theorem w942 : (Cond.code ({ cls := "Clockhouse$Big", name := "becomeSum", desc := "(LClockhouse$Big;LClockhouse$Big;)V" } : MethodName) prog_2_method_10_code (4 : Nat) (Option.none : Option FieldType)) ∈ lw_gw := am_w 942 (by decide +kernel) rfl
theorem w943 : (Cond.methodLink "Clockhouse$Big" (37 : Nat) ({ cls := "Clockhouse$Big", name := "joinSizes", desc := "(LClockhouse$Big;LClockhouse$Big;I)V" } : MethodName)) ∈ lw_gw := am_w 943 (by decide +kernel) rfl
theorem w945 : (Cond.instanceMethod ({ cls := "Clockhouse$Big", name := "joinSizes", desc := "(LClockhouse$Big;LClockhouse$Big;I)V" } : MethodName)) ∈ lw_gw := am_w 945 (by decide +kernel) rfl
theorem w946 : (Cond.code ({ cls := "Clockhouse$Big", name := "joinSizes", desc := "(LClockhouse$Big;LClockhouse$Big;I)V" } : MethodName) prog_2_method_11_code (7 : Nat) (Option.none : Option FieldType)) ∈ lw_gw := am_w 946 (by decide +kernel) rfl
theorem w947 : (Cond.constant "Clockhouse$Big" (45 : Nat) (1000000000 : Int32)) ∈ lw_gw := am_w 947 (by decide +kernel) rfl
theorem w948 : (Cond.methodLink "Clockhouse$Big" (46 : Nat) ({ cls := "java/lang/Math", name := "floorMod", desc := "(II)I" } : MethodName)) ∈ lw_gw := am_w 948 (by decide +kernel) rfl
theorem w949 : (Cond.static ({ cls := "java/lang/Math", name := "floorMod", desc := "(II)I" } : MethodName)) ∈ lw_gw := am_w 949 (by decide +kernel) rfl
theorem w950 : (Cond.code ({ cls := "java/lang/Math", name := "floorMod", desc := "(II)I" } : MethodName) prog_32_method_50_code (3 : Nat) (Option.some FieldType.int)) ∈ lw_gw := am_w 950 (by decide +kernel) rfl
theorem w951 : (Cond.methodLink "Clockhouse$Big" (52 : Nat) ({ cls := "java/lang/Math", name := "floorDiv", desc := "(II)I" } : MethodName)) ∈ lw_gw := am_w 951 (by decide +kernel) rfl
theorem w952 : (Cond.static ({ cls := "java/lang/Math", name := "floorDiv", desc := "(II)I" } : MethodName)) ∈ lw_gw := am_w 952 (by decide +kernel) rfl
theorem w953 : (Cond.code ({ cls := "java/lang/Math", name := "floorDiv", desc := "(II)I" } : MethodName) prog_32_method_47_code (3 : Nat) (Option.some FieldType.int)) ∈ lw_gw := am_w 953 (by decide +kernel) rfl
theorem w954 : (Cond.methodLink "Clockhouse$Big" (41 : Nat) ({ cls := "Clockhouse$Big", name := "compareSize", desc := "(LClockhouse$Big;)I" } : MethodName)) ∈ lw_gw := am_w 954 (by decide +kernel) rfl
theorem w955 : (Cond.instanceMethod ({ cls := "Clockhouse$Big", name := "compareSize", desc := "(LClockhouse$Big;)I" } : MethodName)) ∈ lw_gw := am_w 955 (by decide +kernel) rfl
theorem w956 : (Cond.selects "Clockhouse$Big" ({ cls := "Clockhouse$Big", name := "compareSize", desc := "(LClockhouse$Big;)I" } : MethodName) ({ cls := "Clockhouse$Big", name := "compareSize", desc := "(LClockhouse$Big;)I" } : MethodName)) ∈ lw_gw := am_w 956 (by decide +kernel) rfl
theorem w957 : (Cond.code ({ cls := "Clockhouse$Big", name := "compareSize", desc := "(LClockhouse$Big;)I" } : MethodName) prog_2_method_9_code (3 : Nat) (Option.some FieldType.int)) ∈ lw_gw := am_w 957 (by decide +kernel) rfl
theorem w958 : (Cond.methodLink "Clockhouse" (207 : Nat) ({ cls := "Clockhouse$BigRound", name := "findRest", desc := "(LClockhouse$Big;LClockhouse$Big;)V" } : MethodName)) ∈ lw_gw := am_w 958 (by decide +kernel) rfl
theorem w959 : (Cond.instanceMethod ({ cls := "Clockhouse$BigRound", name := "findRest", desc := "(LClockhouse$Big;LClockhouse$Big;)V" } : MethodName)) ∈ lw_gw := am_w 959 (by decide +kernel) rfl
theorem w960 : (Cond.selects "Clockhouse$BigRound" ({ cls := "Clockhouse$BigRound", name := "findRest", desc := "(LClockhouse$Big;LClockhouse$Big;)V" } : MethodName) ({ cls := "Clockhouse$BigRound", name := "findRest", desc := "(LClockhouse$Big;LClockhouse$Big;)V" } : MethodName)) ∈ lw_gw := am_w 960 (by decide +kernel) rfl
theorem w961 : (Cond.code ({ cls := "Clockhouse$BigRound", name := "findRest", desc := "(LClockhouse$Big;LClockhouse$Big;)V" } : MethodName) prog_3_method_2_code (3 : Nat) (Option.none : Option FieldType)) ∈ lw_gw := am_w 961 (by decide +kernel) rfl
theorem w962 : (Cond.methodLink "Clockhouse$BigRound" (40 : Nat) ({ cls := "Clockhouse$Division", name := "divide", desc := "(LClockhouse$Big;LClockhouse$Big;)V" } : MethodName)) ∈ lw_gw := am_w 962 (by decide +kernel) rfl
theorem w963 : (Cond.instanceMethod ({ cls := "Clockhouse$Division", name := "divide", desc := "(LClockhouse$Big;LClockhouse$Big;)V" } : MethodName)) ∈ lw_gw := am_w 963 (by decide +kernel) rfl
theorem w964 : (Cond.selects "Clockhouse$Division" ({ cls := "Clockhouse$Division", name := "divide", desc := "(LClockhouse$Big;LClockhouse$Big;)V" } : MethodName) ({ cls := "Clockhouse$Division", name := "divide", desc := "(LClockhouse$Big;LClockhouse$Big;)V" } : MethodName)) ∈ lw_gw := am_w 964 (by decide +kernel) rfl
theorem w965 : (Cond.code ({ cls := "Clockhouse$Division", name := "divide", desc := "(LClockhouse$Big;LClockhouse$Big;)V" } : MethodName) prog_4_method_2_code (5 : Nat) (Option.none : Option FieldType)) ∈ lw_gw := am_w 965 (by decide +kernel) rfl
theorem w966 : (Cond.methodLink "Clockhouse$Division" (24 : Nat) ({ cls := "Clockhouse$Big", name := "clear", desc := "()V" } : MethodName)) ∈ lw_gw := am_w 966 (by decide +kernel) rfl
theorem w967 : (Cond.methodLink "Clockhouse$Division" (27 : Nat) ({ cls := "Clockhouse$Big", name := "become", desc := "(LClockhouse$Big;)V" } : MethodName)) ∈ lw_gw := am_w 967 (by decide +kernel) rfl
theorem w968 : (Cond.instanceMethod ({ cls := "Clockhouse$Big", name := "become", desc := "(LClockhouse$Big;)V" } : MethodName)) ∈ lw_gw := am_w 968 (by decide +kernel) rfl
theorem w969 : (Cond.selects "Clockhouse$Big" ({ cls := "Clockhouse$Big", name := "become", desc := "(LClockhouse$Big;)V" } : MethodName) ({ cls := "Clockhouse$Big", name := "become", desc := "(LClockhouse$Big;)V" } : MethodName)) ∈ lw_gw := am_w 969 (by decide +kernel) rfl
theorem w970 : (Cond.code ({ cls := "Clockhouse$Big", name := "become", desc := "(LClockhouse$Big;)V" } : MethodName) prog_2_method_7_code (2 : Nat) (Option.none : Option FieldType)) ∈ lw_gw := am_w 970 (by decide +kernel) rfl
theorem w971 : (Cond.methodLink "Clockhouse$Big" (22 : Nat) ({ cls := "java/lang/System", name := "arraycopy", desc := "(Ljava/lang/Object;ILjava/lang/Object;II)V" } : MethodName)) ∈ lw_gw := am_w 971 (by decide +kernel) rfl
theorem w972 : (Cond.constant "Clockhouse$Division" (35 : Nat) (1000000000 : Int32)) ∈ lw_gw := am_w 972 (by decide +kernel) rfl
theorem w973 : (Cond.methodLink "Clockhouse$Division" (36 : Nat) ({ cls := "Clockhouse$Big", name := "limb", desc := "(I)I" } : MethodName)) ∈ lw_gw := am_w 973 (by decide +kernel) rfl
theorem w974 : (Cond.methodLink "Clockhouse$Division" (40 : Nat) ({ cls := "Clockhouse$Big", name := "scaleUp", desc := "(I)V" } : MethodName)) ∈ lw_gw := am_w 974 (by decide +kernel) rfl
theorem w975 : (Cond.instanceMethod ({ cls := "Clockhouse$Big", name := "scaleUp", desc := "(I)V" } : MethodName)) ∈ lw_gw := am_w 975 (by decide +kernel) rfl
theorem w976 : (Cond.selects "Clockhouse$Big" ({ cls := "Clockhouse$Big", name := "scaleUp", desc := "(I)V" } : MethodName) ({ cls := "Clockhouse$Big", name := "scaleUp", desc := "(I)V" } : MethodName)) ∈ lw_gw := am_w 976 (by decide +kernel) rfl
theorem w977 : (Cond.code ({ cls := "Clockhouse$Big", name := "scaleUp", desc := "(I)V" } : MethodName) prog_2_method_13_code (7 : Nat) (Option.none : Option FieldType)) ∈ lw_gw := am_w 977 (by decide +kernel) rfl
theorem w978 : (Cond.methodLink "Clockhouse$Division" (44 : Nat) ({ cls := "Clockhouse$Division", name := "guessAt", desc := "(I)J" } : MethodName)) ∈ lw_gw := am_w 978 (by decide +kernel) rfl
theorem w980 : (Cond.instanceMethod ({ cls := "Clockhouse$Division", name := "guessAt", desc := "(I)J" } : MethodName)) ∈ lw_gw := am_w 980 (by decide +kernel) rfl
theorem w981 : (Cond.code ({ cls := "Clockhouse$Division", name := "guessAt", desc := "(I)J" } : MethodName) prog_4_method_3_code (14 : Nat) (Option.some FieldType.long)) ∈ lw_gw := am_w 981 (by decide +kernel) rfl
theorem w982 : (Cond.constantLong "Clockhouse$Division" (62 : Nat) (1000000000 : Int64)) ∈ lw_gw := am_w 982 (by decide +kernel) rfl
theorem w983 : (Cond.methodLink "Clockhouse$Division" (48 : Nat) ({ cls := "Clockhouse$Division", name := "takeAway", desc := "(IJ)I" } : MethodName)) ∈ lw_gw := am_w 983 (by decide +kernel) rfl
theorem w985 : (Cond.instanceMethod ({ cls := "Clockhouse$Division", name := "takeAway", desc := "(IJ)I" } : MethodName)) ∈ lw_gw := am_w 985 (by decide +kernel) rfl
theorem w986 : (Cond.code ({ cls := "Clockhouse$Division", name := "takeAway", desc := "(IJ)I" } : MethodName) prog_4_method_4_code (9 : Nat) (Option.some FieldType.int)) ∈ lw_gw := am_w 986 (by decide +kernel) rfl
theorem w987 : (Cond.methodLink "Clockhouse$Division" (64 : Nat) ({ cls := "java/lang/Math", name := "floorMod", desc := "(JJ)J" } : MethodName)) ∈ lw_gw := am_w 987 (by decide +kernel) rfl
theorem w988 : (Cond.methodLink "Clockhouse$Division" (52 : Nat) ({ cls := "Clockhouse$Big", name := "put", desc := "(II)V" } : MethodName)) ∈ lw_gw := am_w 988 (by decide +kernel) rfl
theorem w989 : (Cond.instanceMethod ({ cls := "Clockhouse$Big", name := "put", desc := "(II)V" } : MethodName)) ∈ lw_gw := am_w 989 (by decide +kernel) rfl
theorem w990 : (Cond.selects "Clockhouse$Big" ({ cls := "Clockhouse$Big", name := "put", desc := "(II)V" } : MethodName) ({ cls := "Clockhouse$Big", name := "put", desc := "(II)V" } : MethodName)) ∈ lw_gw := am_w 990 (by decide +kernel) rfl
theorem w991 : (Cond.code ({ cls := "Clockhouse$Big", name := "put", desc := "(II)V" } : MethodName) prog_2_method_3_code (3 : Nat) (Option.none : Option FieldType)) ∈ lw_gw := am_w 991 (by decide +kernel) rfl
theorem w992 : (Cond.methodLink "Clockhouse$Division" (70 : Nat) ({ cls := "java/lang/Math", name := "floorDiv", desc := "(JJ)J" } : MethodName)) ∈ lw_gw := am_w 992 (by decide +kernel) rfl
theorem w993 : (Cond.static ({ cls := "java/lang/Math", name := "floorDiv", desc := "(JJ)J" } : MethodName)) ∈ lw_gw := am_w 993 (by decide +kernel) rfl
theorem w994 : (Cond.code ({ cls := "java/lang/Math", name := "floorDiv", desc := "(JJ)J" } : MethodName) prog_32_method_49_code (6 : Nat) (Option.some FieldType.long)) ∈ lw_gw := am_w 994 (by decide +kernel) rfl
theorem w995 : (Cond.methodLink "Clockhouse$Division" (73 : Nat) ({ cls := "Clockhouse$Division", name := "giveBack", desc := "(I)V" } : MethodName)) ∈ lw_gw := am_w 995 (by decide +kernel) rfl
theorem w997 : (Cond.instanceMethod ({ cls := "Clockhouse$Division", name := "giveBack", desc := "(I)V" } : MethodName)) ∈ lw_gw := am_w 997 (by decide +kernel) rfl
theorem w998 : (Cond.code ({ cls := "Clockhouse$Division", name := "giveBack", desc := "(I)V" } : MethodName) prog_4_method_5_code (5 : Nat) (Option.none : Option FieldType)) ∈ lw_gw := am_w 998 (by decide +kernel) rfl
theorem w999 : (Cond.methodLink "Clockhouse$Division" (56 : Nat) ({ cls := "Clockhouse$Big", name := "settle", desc := "(I)V" } : MethodName)) ∈ lw_gw := am_w 999 (by decide +kernel) rfl
theorem w1000 : (Cond.methodLink "Clockhouse$Division" (59 : Nat) ({ cls := "Clockhouse$Big", name := "scaleDown", desc := "(I)V" } : MethodName)) ∈ lw_gw := am_w 1000 (by decide +kernel) rfl
theorem w1001 : (Cond.instanceMethod ({ cls := "Clockhouse$Big", name := "scaleDown", desc := "(I)V" } : MethodName)) ∈ lw_gw := am_w 1001 (by decide +kernel) rfl
theorem w1002 : (Cond.selects "Clockhouse$Big" ({ cls := "Clockhouse$Big", name := "scaleDown", desc := "(I)V" } : MethodName) ({ cls := "Clockhouse$Big", name := "scaleDown", desc := "(I)V" } : MethodName)) ∈ lw_gw := am_w 1002 (by decide +kernel) rfl
theorem w1003 : (Cond.code ({ cls := "Clockhouse$Big", name := "scaleDown", desc := "(I)V" } : MethodName) prog_2_method_14_code (7 : Nat) (Option.none : Option FieldType)) ∈ lw_gw := am_w 1003 (by decide +kernel) rfl
theorem w1004 : (Cond.methodLink "Clockhouse$BigRound" (47 : Nat) ({ cls := "Clockhouse$Big", name := "become", desc := "(LClockhouse$Big;)V" } : MethodName)) ∈ lw_gw := am_w 1004 (by decide +kernel) rfl
theorem w1005 : (Cond.methodLink "Clockhouse$BigRound" (55 : Nat) ({ cls := "Clockhouse$Big", name := "becomeSum", desc := "(LClockhouse$Big;LClockhouse$Big;)V" } : MethodName)) ∈ lw_gw := am_w 1005 (by decide +kernel) rfl
theorem w1006 : (Cond.methodLink "Clockhouse" (343 : Nat) ({ cls := "Clockhouse", name := "backOfSum", desc := "(LClockhouse$Big;LClockhouse$Big;)J" } : MethodName)) ∈ lw_gw := am_w 1006 (by decide +kernel) rfl
theorem w1008 : (Cond.instanceMethod ({ cls := "Clockhouse", name := "backOfSum", desc := "(LClockhouse$Big;LClockhouse$Big;)J" } : MethodName)) ∈ lw_gw := am_w 1008 (by decide +kernel) rfl
theorem w1009 : (Cond.code ({ cls := "Clockhouse", name := "backOfSum", desc := "(LClockhouse$Big;LClockhouse$Big;)J" } : MethodName) prog_1_method_74_code (5 : Nat) (Option.some FieldType.long)) ∈ lw_gw := am_w 1009 (by decide +kernel) rfl
theorem w1010 : (Cond.methodLink "Clockhouse" (469 : Nat) ({ cls := "Clockhouse$Big", name := "compareSize", desc := "(LClockhouse$Big;)I" } : MethodName)) ∈ lw_gw := am_w 1010 (by decide +kernel) rfl
theorem w1011 : (Cond.methodLink "Clockhouse" (103 : Nat) ({ cls := "Clockhouse$Big", name := "becomeProduct", desc := "(LClockhouse$Big;LClockhouse$Big;)V" } : MethodName)) ∈ lw_gw := am_w 1011 (by decide +kernel) rfl
theorem w1012 : (Cond.instanceMethod ({ cls := "Clockhouse$Big", name := "becomeProduct", desc := "(LClockhouse$Big;LClockhouse$Big;)V" } : MethodName)) ∈ lw_gw := am_w 1012 (by decide +kernel) rfl
theorem w1013 : (Cond.selects "Clockhouse$Big" ({ cls := "Clockhouse$Big", name := "becomeProduct", desc := "(LClockhouse$Big;LClockhouse$Big;)V" } : MethodName) ({ cls := "Clockhouse$Big", name := "becomeProduct", desc := "(LClockhouse$Big;LClockhouse$Big;)V" } : MethodName)) ∈ lw_gw := am_w 1013 (by decide +kernel) rfl
theorem w1014 : (Cond.code ({ cls := "Clockhouse$Big", name := "becomeProduct", desc := "(LClockhouse$Big;LClockhouse$Big;)V" } : MethodName) prog_2_method_12_code (9 : Nat) (Option.none : Option FieldType)) ∈ lw_gw := am_w 1014 (by decide +kernel) rfl
theorem w1015 : (Cond.methodLink "Clockhouse$Big" (59 : Nat) ({ cls := "Clockhouse$Big", name := "put", desc := "(II)V" } : MethodName)) ∈ lw_gw := am_w 1015 (by decide +kernel) rfl
theorem w1016 : (Cond.methodLink "Clockhouse" (347 : Nat) ({ cls := "Clockhouse", name := "backOfProduct", desc := "(LClockhouse$Big;LClockhouse$Big;)J" } : MethodName)) ∈ lw_gw := am_w 1016 (by decide +kernel) rfl
theorem w1018 : (Cond.instanceMethod ({ cls := "Clockhouse", name := "backOfProduct", desc := "(LClockhouse$Big;LClockhouse$Big;)J" } : MethodName)) ∈ lw_gw := am_w 1018 (by decide +kernel) rfl
theorem w1019 : (Cond.code ({ cls := "Clockhouse", name := "backOfProduct", desc := "(LClockhouse$Big;LClockhouse$Big;)J" } : MethodName) prog_1_method_75_code (5 : Nat) (Option.some FieldType.long)) ∈ lw_gw := am_w 1019 (by decide +kernel) rfl
theorem w1027 : (Cond.code ({ cls := "Clockhouse", name := "mix", desc := "(JJ)J" } : MethodName) prog_1_method_85_code (4 : Nat) (Option.some FieldType.long)) ∈ lw_gw := am_w 1027 (by decide +kernel) rfl
theorem w1028 : (Cond.constantLong "Clockhouse" (473 : Nat) (31 : Int64)) ∈ lw_gw := am_w 1028 (by decide +kernel) rfl
theorem w1033 : (Cond.methodLink "Clockhouse" (86 : Nat) ({ cls := "Clockhouse", name := "numberAt", desc := "(I)LClockhouse$Big;" } : MethodName)) ∈ lw_gw := am_w 1033 (by decide +kernel) rfl
theorem w1035 : (Cond.instanceMethod ({ cls := "Clockhouse", name := "numberAt", desc := "(I)LClockhouse$Big;" } : MethodName)) ∈ lw_gw := am_w 1035 (by decide +kernel) rfl
theorem w1036 : (Cond.code ({ cls := "Clockhouse", name := "numberAt", desc := "(I)LClockhouse$Big;" } : MethodName) prog_1_method_62_code (2 : Nat) (Option.some (FieldType.object "Clockhouse$Big"))) ∈ lw_gw := am_w 1036 (by decide +kernel) rfl
theorem w1037 : (Cond.classLink "Clockhouse" (407 : Nat) "java/lang/IndexOutOfBoundsException") ∈ lw_gw := am_w 1037 (by decide +kernel) rfl
theorem w1050 : (Cond.methodLink "Clockhouse" (94 : Nat) ({ cls := "Clockhouse$Big", name := "digitCount", desc := "()I" } : MethodName)) ∈ lw_gw := am_w 1050 (by decide +kernel) rfl
theorem w1051 : (Cond.instanceMethod ({ cls := "Clockhouse$Big", name := "digitCount", desc := "()I" } : MethodName)) ∈ lw_gw := am_w 1051 (by decide +kernel) rfl
theorem w1052 : (Cond.selects "Clockhouse$Big" ({ cls := "Clockhouse$Big", name := "digitCount", desc := "()I" } : MethodName) ({ cls := "Clockhouse$Big", name := "digitCount", desc := "()I" } : MethodName)) ∈ lw_gw := am_w 1052 (by decide +kernel) rfl
theorem w1053 : (Cond.code ({ cls := "Clockhouse$Big", name := "digitCount", desc := "()I" } : MethodName) prog_2_method_16_code (4 : Nat) (Option.some FieldType.int)) ∈ lw_gw := am_w 1053 (by decide +kernel) rfl
theorem w1054 : (Cond.methodLink "Clockhouse" (117 : Nat) ({ cls := "Clockhouse", name := "mod", desc := "(I)I" } : MethodName)) ∈ lw_gw := am_w 1054 (by decide +kernel) rfl
theorem w1055 : (Cond.instanceMethod ({ cls := "Clockhouse", name := "mod", desc := "(I)I" } : MethodName)) ∈ lw_gw := am_w 1055 (by decide +kernel) rfl
theorem w1056 : (Cond.selects "Clockhouse" ({ cls := "Clockhouse", name := "mod", desc := "(I)I" } : MethodName) ({ cls := "Clockhouse", name := "mod", desc := "(I)I" } : MethodName)) ∈ lw_gw := am_w 1056 (by decide +kernel) rfl
theorem w1057 : (Cond.code ({ cls := "Clockhouse", name := "mod", desc := "(I)I" } : MethodName) prog_1_method_27_code (3 : Nat) (Option.some FieldType.int)) ∈ lw_gw := am_w 1057 (by decide +kernel) rfl
theorem w1061 : (Cond.code ({ cls := "Clockhouse", name := "gcd", desc := "(I)I" } : MethodName) prog_1_method_28_code (3 : Nat) (Option.some FieldType.int)) ∈ lw_gw := am_w 1061 (by decide +kernel) rfl
theorem w1062 : (Cond.methodLink "Clockhouse" (224 : Nat) ({ cls := "Clockhouse$Round", name := "commonOf", desc := "(II)I" } : MethodName)) ∈ lw_gw := am_w 1062 (by decide +kernel) rfl
theorem w1063 : (Cond.methodLink "Clockhouse" (132 : Nat) ({ cls := "Clockhouse", name := "inverse", desc := "(I)I" } : MethodName)) ∈ lw_gw := am_w 1063 (by decide +kernel) rfl
theorem w1064 : (Cond.instanceMethod ({ cls := "Clockhouse", name := "inverse", desc := "(I)I" } : MethodName)) ∈ lw_gw := am_w 1064 (by decide +kernel) rfl
theorem w1065 : (Cond.selects "Clockhouse" ({ cls := "Clockhouse", name := "inverse", desc := "(I)I" } : MethodName) ({ cls := "Clockhouse", name := "inverse", desc := "(I)I" } : MethodName)) ∈ lw_gw := am_w 1065 (by decide +kernel) rfl
theorem w1066 : (Cond.code ({ cls := "Clockhouse", name := "inverse", desc := "(I)I" } : MethodName) prog_1_method_30_code (3 : Nat) (Option.some FieldType.int)) ∈ lw_gw := am_w 1066 (by decide +kernel) rfl
theorem w1067 : (Cond.methodLink "Clockhouse" (233 : Nat) ({ cls := "Clockhouse$Round", name := "invert", desc := "(II)I" } : MethodName)) ∈ lw_gw := am_w 1067 (by decide +kernel) rfl
theorem w1068 : (Cond.methodLink "Clockhouse" (128 : Nat) ({ cls := "Clockhouse", name := "power", desc := "(II)I" } : MethodName)) ∈ lw_gw := am_w 1068 (by decide +kernel) rfl
theorem w1069 : (Cond.instanceMethod ({ cls := "Clockhouse", name := "power", desc := "(II)I" } : MethodName)) ∈ lw_gw := am_w 1069 (by decide +kernel) rfl
theorem w1070 : (Cond.selects "Clockhouse" ({ cls := "Clockhouse", name := "power", desc := "(II)I" } : MethodName) ({ cls := "Clockhouse", name := "power", desc := "(II)I" } : MethodName)) ∈ lw_gw := am_w 1070 (by decide +kernel) rfl
theorem w1071 : (Cond.code ({ cls := "Clockhouse", name := "power", desc := "(II)I" } : MethodName) prog_1_method_29_code (5 : Nat) (Option.some FieldType.int)) ∈ lw_gw := am_w 1071 (by decide +kernel) rfl
theorem w1072 : (Cond.methodLink "Clockhouse" (229 : Nat) ({ cls := "Clockhouse$Round", name := "raise", desc := "(ILClockhouse$Big;I)I" } : MethodName)) ∈ lw_gw := am_w 1072 (by decide +kernel) rfl
theorem w1073 : (Cond.static ({ cls := "Clockhouse$Round", name := "raise", desc := "(ILClockhouse$Big;I)I" } : MethodName)) ∈ lw_gw := am_w 1073 (by decide +kernel) rfl
theorem w1074 : (Cond.code ({ cls := "Clockhouse$Round", name := "raise", desc := "(ILClockhouse$Big;I)I" } : MethodName) prog_9_method_5_code (6 : Nat) (Option.some FieldType.int)) ∈ lw_gw := am_w 1074 (by decide +kernel) rfl
theorem w1075 : (Cond.methodLink "Clockhouse$Round" (15 : Nat) ({ cls := "Clockhouse$Round", name := "invert", desc := "(II)I" } : MethodName)) ∈ lw_gw := am_w 1075 (by decide +kernel) rfl
theorem w1076 : (Cond.constant "Clockhouse$Round" (24 : Nat) (1000000000 : Int32)) ∈ lw_gw := am_w 1076 (by decide +kernel) rfl
theorem w1077 : (Cond.methodLink "Clockhouse$Round" (25 : Nat) ({ cls := "Clockhouse$Round", name := "raiseByInt", desc := "(III)I" } : MethodName)) ∈ lw_gw := am_w 1077 (by decide +kernel) rfl
theorem w1078 : (Cond.methodLink "Clockhouse$Round" (29 : Nat) ({ cls := "Clockhouse$Big", name := "limb", desc := "(I)I" } : MethodName)) ∈ lw_gw := am_w 1078 (by decide +kernel) rfl
theorem w1082 : (Cond.code ({ cls := "Clockhouse", name := "solutions", desc := "(II)I" } : MethodName) prog_1_method_31_code (6 : Nat) (Option.some FieldType.int)) ∈ lw_gw := am_w 1082 (by decide +kernel) rfl
theorem w1083 : (Cond.methodLink "Clockhouse" (236 : Nat) ({ cls := "Clockhouse$Round", name := "countSolutions", desc := "(III)I" } : MethodName)) ∈ lw_gw := am_w 1083 (by decide +kernel) rfl
theorem w1091 : (Cond.code ({ cls := "Clockhouse", name := "order", desc := "(I)I" } : MethodName) prog_1_method_34_code (3 : Nat) (Option.some FieldType.int)) ∈ lw_gw := am_w 1091 (by decide +kernel) rfl
theorem w1092 : (Cond.methodLink "Clockhouse" (250 : Nat) ({ cls := "Clockhouse$Round", name := "orderOf", desc := "(II)I" } : MethodName)) ∈ lw_gw := am_w 1092 (by decide +kernel) rfl
theorem w1096 : (Cond.code ({ cls := "Clockhouse", name := "ofPowers", desc := "(II)I" } : MethodName) prog_1_method_38_code (4 : Nat) (Option.some FieldType.int)) ∈ lw_gw := am_w 1096 (by decide +kernel) rfl
theorem w1097 : (Cond.classLink "Clockhouse" (75 : Nat) "java/lang/IllegalArgumentException") ∈ lw_gw := am_w 1097 (by decide +kernel) rfl
theorem w1100 : (Cond.methodLink "Clockhouse" (262 : Nat) ({ cls := "Clockhouse$PowerRow", name := "fill", desc := "(II)V" } : MethodName)) ∈ lw_gw := am_w 1100 (by decide +kernel) rfl
theorem w1101 : (Cond.instanceMethod ({ cls := "Clockhouse$PowerRow", name := "fill", desc := "(II)V" } : MethodName)) ∈ lw_gw := am_w 1101 (by decide +kernel) rfl
theorem w1102 : (Cond.selects "Clockhouse$PowerRow" ({ cls := "Clockhouse$PowerRow", name := "fill", desc := "(II)V" } : MethodName) ({ cls := "Clockhouse$PowerRow", name := "fill", desc := "(II)V" } : MethodName)) ∈ lw_gw := am_w 1102 (by decide +kernel) rfl
theorem w1103 : (Cond.code ({ cls := "Clockhouse$PowerRow", name := "fill", desc := "(II)V" } : MethodName) prog_8_method_2_code (5 : Nat) (Option.none : Option FieldType)) ∈ lw_gw := am_w 1103 (by decide +kernel) rfl
theorem w1104 : (Cond.methodLink "Clockhouse" (278 : Nat) ({ cls := "Clockhouse$PowerRow", name := "tellOf", desc := "(I)I" } : MethodName)) ∈ lw_gw := am_w 1104 (by decide +kernel) rfl
theorem w1105 : (Cond.instanceMethod ({ cls := "Clockhouse$PowerRow", name := "tellOf", desc := "(I)I" } : MethodName)) ∈ lw_gw := am_w 1105 (by decide +kernel) rfl
theorem w1106 : (Cond.selects "Clockhouse$PowerRow" ({ cls := "Clockhouse$PowerRow", name := "tellOf", desc := "(I)I" } : MethodName) ({ cls := "Clockhouse$PowerRow", name := "tellOf", desc := "(I)I" } : MethodName)) ∈ lw_gw := am_w 1106 (by decide +kernel) rfl
theorem w1107 : (Cond.code ({ cls := "Clockhouse$PowerRow", name := "tellOf", desc := "(I)I" } : MethodName) prog_8_method_3_code (2 : Nat) (Option.some FieldType.int)) ∈ lw_gw := am_w 1107 (by decide +kernel) rfl
theorem w1108 : (Cond.methodLink "Clockhouse$PowerRow" (25 : Nat) ({ cls := "Clockhouse$PowerRow", name := "sumOfRow", desc := "()I" } : MethodName)) ∈ lw_gw := am_w 1108 (by decide +kernel) rfl
theorem w1110 : (Cond.instanceMethod ({ cls := "Clockhouse$PowerRow", name := "sumOfRow", desc := "()I" } : MethodName)) ∈ lw_gw := am_w 1110 (by decide +kernel) rfl
theorem w1111 : (Cond.code ({ cls := "Clockhouse$PowerRow", name := "sumOfRow", desc := "()I" } : MethodName) prog_8_method_4_code (3 : Nat) (Option.some FieldType.int)) ∈ lw_gw := am_w 1111 (by decide +kernel) rfl
theorem w1115 : (Cond.code ({ cls := "Clockhouse", name := "roots", desc := "(I)I" } : MethodName) prog_1_method_39_code (3 : Nat) (Option.some FieldType.int)) ∈ lw_gw := am_w 1115 (by decide +kernel) rfl
theorem w1116 : (Cond.methodLink "Clockhouse" (281 : Nat) ({ cls := "Clockhouse$Round", name := "countRoots", desc := "(II)I" } : MethodName)) ∈ lw_gw := am_w 1116 (by decide +kernel) rfl
theorem w1117 : (Cond.static ({ cls := "Clockhouse$Round", name := "countRoots", desc := "(II)I" } : MethodName)) ∈ lw_gw := am_w 1117 (by decide +kernel) rfl
theorem w1118 : (Cond.code ({ cls := "Clockhouse$Round", name := "countRoots", desc := "(II)I" } : MethodName) prog_9_method_10_code (4 : Nat) (Option.some FieldType.int)) ∈ lw_gw := am_w 1118 (by decide +kernel) rfl
theorem w1122 : (Cond.code ({ cls := "Clockhouse", name := "legendre", desc := "(I)I" } : MethodName) prog_1_method_42_code (3 : Nat) (Option.some FieldType.int)) ∈ lw_gw := am_w 1122 (by decide +kernel) rfl
theorem w1126 : (Cond.code ({ cls := "Clockhouse", name := "jacobi", desc := "(I)I" } : MethodName) prog_1_method_43_code (3 : Nat) (Option.some FieldType.int)) ∈ lw_gw := am_w 1126 (by decide +kernel) rfl
theorem w1130 : (Cond.code ({ cls := "Clockhouse", name := "broken", desc := "(I)I" } : MethodName) prog_1_method_52_code (4 : Nat) (Option.some FieldType.int)) ∈ lw_gw := am_w 1130 (by decide +kernel) rfl
theorem w1135 : (Cond.methodLink "Clockhouse" (446 : Nat) ({ cls := "Clockhouse$Big", name := "textLength", desc := "()I" } : MethodName)) ∈ lw_gw := am_w 1135 (by decide +kernel) rfl
theorem w1136 : (Cond.instanceMethod ({ cls := "Clockhouse$Big", name := "textLength", desc := "()I" } : MethodName)) ∈ lw_gw := am_w 1136 (by decide +kernel) rfl
theorem w1137 : (Cond.selects "Clockhouse$Big" ({ cls := "Clockhouse$Big", name := "textLength", desc := "()I" } : MethodName) ({ cls := "Clockhouse$Big", name := "textLength", desc := "()I" } : MethodName)) ∈ lw_gw := am_w 1137 (by decide +kernel) rfl
theorem w1138 : (Cond.code ({ cls := "Clockhouse$Big", name := "textLength", desc := "()I" } : MethodName) prog_2_method_17_code (1 : Nat) (Option.some FieldType.int)) ∈ lw_gw := am_w 1138 (by decide +kernel) rfl
theorem w1139 : (Cond.methodLink "Clockhouse$Big" (63 : Nat) ({ cls := "Clockhouse$Big", name := "digitCount", desc := "()I" } : MethodName)) ∈ lw_gw := am_w 1139 (by decide +kernel) rfl
theorem w1152 : (Cond.code ({ cls := "Clockhouse", name := "backOf", desc := "(LClockhouse$Big;)J" } : MethodName) prog_1_method_73_code (4 : Nat) (Option.some FieldType.long)) ∈ lw_gw := am_w 1152 (by decide +kernel) rfl
theorem w1156 : (Cond.code ({ cls := "Clockhouse", name := "lengthOfLong", desc := "(J)I" } : MethodName) prog_1_method_78_code (3 : Nat) (Option.some FieldType.int)) ∈ lw_gw := am_w 1156 (by decide +kernel) rfl
theorem w1161 : (Cond.code ({ cls := "Clockhouse", name := "generator", desc := "(I)I" } : MethodName) prog_1_method_35_code (2 : Nat) (Option.some FieldType.int)) ∈ lw_gw := am_w 1161 (by decide +kernel) rfl
theorem w1162 : (Cond.methodLink "Clockhouse" (240 : Nat) ({ cls := "Clockhouse", name := "needPlace", desc := "(I)V" } : MethodName)) ∈ lw_gw := am_w 1162 (by decide +kernel) rfl
theorem w1163 : (Cond.static ({ cls := "Clockhouse", name := "needPlace", desc := "(I)V" } : MethodName)) ∈ lw_gw := am_w 1163 (by decide +kernel) rfl
theorem w1164 : (Cond.code ({ cls := "Clockhouse", name := "needPlace", desc := "(I)V" } : MethodName) prog_1_method_64_code (1 : Nat) (Option.none : Option FieldType)) ∈ lw_gw := am_w 1164 (by decide +kernel) rfl
theorem w1166 : (Cond.methodLink "Clockhouse" (253 : Nat) ({ cls := "Clockhouse$Generators", name := "turnTo", desc := "(I)V" } : MethodName)) ∈ lw_gw := am_w 1166 (by decide +kernel) rfl
theorem w1167 : (Cond.instanceMethod ({ cls := "Clockhouse$Generators", name := "turnTo", desc := "(I)V" } : MethodName)) ∈ lw_gw := am_w 1167 (by decide +kernel) rfl
theorem w1168 : (Cond.selects "Clockhouse$Generators" ({ cls := "Clockhouse$Generators", name := "turnTo", desc := "(I)V" } : MethodName) ({ cls := "Clockhouse$Generators", name := "turnTo", desc := "(I)V" } : MethodName)) ∈ lw_gw := am_w 1168 (by decide +kernel) rfl
theorem w1169 : (Cond.code ({ cls := "Clockhouse$Generators", name := "turnTo", desc := "(I)V" } : MethodName) prog_5_method_2_code (3 : Nat) (Option.none : Option FieldType)) ∈ lw_gw := am_w 1169 (by decide +kernel) rfl
theorem w1170 : (Cond.methodLink "Clockhouse$Generators" (19 : Nat) ({ cls := "Clockhouse$Round", name := "countUnits", desc := "(I)I" } : MethodName)) ∈ lw_gw := am_w 1170 (by decide +kernel) rfl
theorem w1171 : (Cond.methodLink "Clockhouse$Generators" (31 : Nat) ({ cls := "Clockhouse$Round", name := "primeHolds", desc := "(I)Z" } : MethodName)) ∈ lw_gw := am_w 1171 (by decide +kernel) rfl
theorem w1172 : (Cond.methodLink "Clockhouse" (256 : Nat) ({ cls := "Clockhouse$Generators", name := "findAt", desc := "(I)I" } : MethodName)) ∈ lw_gw := am_w 1172 (by decide +kernel) rfl
theorem w1173 : (Cond.instanceMethod ({ cls := "Clockhouse$Generators", name := "findAt", desc := "(I)I" } : MethodName)) ∈ lw_gw := am_w 1173 (by decide +kernel) rfl
theorem w1174 : (Cond.selects "Clockhouse$Generators" ({ cls := "Clockhouse$Generators", name := "findAt", desc := "(I)I" } : MethodName) ({ cls := "Clockhouse$Generators", name := "findAt", desc := "(I)I" } : MethodName)) ∈ lw_gw := am_w 1174 (by decide +kernel) rfl
theorem w1175 : (Cond.code ({ cls := "Clockhouse$Generators", name := "findAt", desc := "(I)I" } : MethodName) prog_5_method_4_code (4 : Nat) (Option.some FieldType.int)) ∈ lw_gw := am_w 1175 (by decide +kernel) rfl
theorem w1176 : (Cond.methodLink "Clockhouse$Generators" (43 : Nat) ({ cls := "Clockhouse$Generators", name := "holds", desc := "(I)Z" } : MethodName)) ∈ lw_gw := am_w 1176 (by decide +kernel) rfl
theorem w1177 : (Cond.instanceMethod ({ cls := "Clockhouse$Generators", name := "holds", desc := "(I)Z" } : MethodName)) ∈ lw_gw := am_w 1177 (by decide +kernel) rfl
theorem w1178 : (Cond.selects "Clockhouse$Generators" ({ cls := "Clockhouse$Generators", name := "holds", desc := "(I)Z" } : MethodName) ({ cls := "Clockhouse$Generators", name := "holds", desc := "(I)Z" } : MethodName)) ∈ lw_gw := am_w 1178 (by decide +kernel) rfl
theorem w1179 : (Cond.code ({ cls := "Clockhouse$Generators", name := "holds", desc := "(I)Z" } : MethodName) prog_5_method_3_code (4 : Nat) (Option.some FieldType.boolean)) ∈ lw_gw := am_w 1179 (by decide +kernel) rfl
theorem w1180 : (Cond.methodLink "Clockhouse$Generators" (35 : Nat) ({ cls := "Clockhouse$Round", name := "commonOf", desc := "(II)I" } : MethodName)) ∈ lw_gw := am_w 1180 (by decide +kernel) rfl
theorem w1181 : (Cond.methodLink "Clockhouse$Generators" (39 : Nat) ({ cls := "Clockhouse$Round", name := "raiseByInt", desc := "(III)I" } : MethodName)) ∈ lw_gw := am_w 1181 (by decide +kernel) rfl
theorem w1191 : (Cond.code ({ cls := "Clockhouse", name := "books", desc := "(I)I" } : MethodName) prog_1_method_59_code (2 : Nat) (Option.some FieldType.int)) ∈ lw_gw := am_w 1191 (by decide +kernel) rfl
theorem w1213 : (Cond.code ({ cls := "Clockhouse", name := "dial", desc := "(I)I" } : MethodName) prog_1_method_2_code (3 : Nat) (Option.some FieldType.int)) ∈ lw_gw := am_w 1213 (by decide +kernel) rfl
theorem w1215 : (Cond.methodLink "Clockhouse" (82 : Nat) ({ cls := "Clockhouse$Past", name := "keep", desc := "(LClockhouse$State;)V" } : MethodName)) ∈ lw_gw := am_w 1215 (by decide +kernel) rfl
theorem w1216 : (Cond.instanceMethod ({ cls := "Clockhouse$Past", name := "keep", desc := "(LClockhouse$State;)V" } : MethodName)) ∈ lw_gw := am_w 1216 (by decide +kernel) rfl
theorem w1217 : (Cond.selects "Clockhouse$Past" ({ cls := "Clockhouse$Past", name := "keep", desc := "(LClockhouse$State;)V" } : MethodName) ({ cls := "Clockhouse$Past", name := "keep", desc := "(LClockhouse$State;)V" } : MethodName)) ∈ lw_gw := am_w 1217 (by decide +kernel) rfl
theorem w1218 : (Cond.code ({ cls := "Clockhouse$Past", name := "keep", desc := "(LClockhouse$State;)V" } : MethodName) prog_7_method_2_code (2 : Nat) (Option.none : Option FieldType)) ∈ lw_gw := am_w 1218 (by decide +kernel) rfl
theorem w1219 : (Cond.methodLink "Clockhouse$Past" (25 : Nat) ({ cls := "Clockhouse$State", name := "become", desc := "(LClockhouse$State;)V" } : MethodName)) ∈ lw_gw := am_w 1219 (by decide +kernel) rfl
theorem w1220 : (Cond.instanceMethod ({ cls := "Clockhouse$State", name := "become", desc := "(LClockhouse$State;)V" } : MethodName)) ∈ lw_gw := am_w 1220 (by decide +kernel) rfl
theorem w1221 : (Cond.selects "Clockhouse$State" ({ cls := "Clockhouse$State", name := "become", desc := "(LClockhouse$State;)V" } : MethodName) ({ cls := "Clockhouse$State", name := "become", desc := "(LClockhouse$State;)V" } : MethodName)) ∈ lw_gw := am_w 1221 (by decide +kernel) rfl
theorem w1222 : (Cond.code ({ cls := "Clockhouse$State", name := "become", desc := "(LClockhouse$State;)V" } : MethodName) prog_11_method_2_code (3 : Nat) (Option.none : Option FieldType)) ∈ lw_gw := am_w 1222 (by decide +kernel) rfl
theorem w1223 : (Cond.methodLink "Clockhouse$State" (32 : Nat) ({ cls := "Clockhouse$Big", name := "become", desc := "(LClockhouse$Big;)V" } : MethodName)) ∈ lw_gw := am_w 1223 (by decide +kernel) rfl
theorem w1224 : (Cond.methodLink "Clockhouse$State" (39 : Nat) ({ cls := "java/lang/System", name := "arraycopy", desc := "(Ljava/lang/Object;ILjava/lang/Object;II)V" } : MethodName)) ∈ lw_gw := am_w 1224 (by decide +kernel) rfl
theorem w1232 : (Cond.code ({ cls := "Clockhouse", name := "set", desc := "(II)I" } : MethodName) prog_1_method_3_code (4 : Nat) (Option.some FieldType.int)) ∈ lw_gw := am_w 1232 (by decide +kernel) rfl
theorem w1240 : (Cond.code ({ cls := "Clockhouse", name := "lengthen", desc := "(II)I" } : MethodName) prog_1_method_4_code (4 : Nat) (Option.some FieldType.int)) ∈ lw_gw := am_w 1240 (by decide +kernel) rfl
theorem w1241 : (Cond.constant "Clockhouse" (98 : Nat) (1000000000 : Int32)) ∈ lw_gw := am_w 1241 (by decide +kernel) rfl
theorem w1243 : (Cond.constantLong "Clockhouse" (101 : Nat) (1000000000 : Int64)) ∈ lw_gw := am_w 1243 (by decide +kernel) rfl
theorem w1244 : (Cond.methodLink "Clockhouse" (110 : Nat) ({ cls := "Clockhouse", name := "putNumber", desc := "(LClockhouse$Big;LClockhouse$Big;)I" } : MethodName)) ∈ lw_gw := am_w 1244 (by decide +kernel) rfl
theorem w1246 : (Cond.instanceMethod ({ cls := "Clockhouse", name := "putNumber", desc := "(LClockhouse$Big;LClockhouse$Big;)I" } : MethodName)) ∈ lw_gw := am_w 1246 (by decide +kernel) rfl
theorem w1247 : (Cond.code ({ cls := "Clockhouse", name := "putNumber", desc := "(LClockhouse$Big;LClockhouse$Big;)I" } : MethodName) prog_1_method_68_code (3 : Nat) (Option.some FieldType.int)) ∈ lw_gw := am_w 1247 (by decide +kernel) rfl
theorem w1248 : (Cond.classLink "Clockhouse" (168 : Nat) "java/lang/IllegalStateException") ∈ lw_gw := am_w 1248 (by decide +kernel) rfl
theorem w1264 : (Cond.methodLink "Clockhouse" (431 : Nat) ({ cls := "Clockhouse$Big", name := "become", desc := "(LClockhouse$Big;)V" } : MethodName)) ∈ lw_gw := am_w 1264 (by decide +kernel) rfl
theorem w1271 : (Cond.code ({ cls := "Clockhouse", name := "plus", desc := "(II)I" } : MethodName) prog_1_method_5_code (5 : Nat) (Option.some FieldType.int)) ∈ lw_gw := am_w 1271 (by decide +kernel) rfl
theorem w1278 : (Cond.code ({ cls := "Clockhouse", name := "times", desc := "(II)I" } : MethodName) prog_1_method_6_code (5 : Nat) (Option.some FieldType.int)) ∈ lw_gw := am_w 1278 (by decide +kernel) rfl
theorem w1285 : (Cond.code ({ cls := "Clockhouse", name := "negate", desc := "(I)I" } : MethodName) prog_1_method_7_code (3 : Nat) (Option.some FieldType.int)) ∈ lw_gw := am_w 1285 (by decide +kernel) rfl
theorem w1292 : (Cond.code ({ cls := "Clockhouse", name := "reduce", desc := "(I)I" } : MethodName) prog_1_method_8_code (2 : Nat) (Option.some FieldType.int)) ∈ lw_gw := am_w 1292 (by decide +kernel) rfl
theorem w1293 : (Cond.methodLink "Clockhouse" (121 : Nat) ({ cls := "Clockhouse", name := "putRound", desc := "(LClockhouse$Big;I)I" } : MethodName)) ∈ lw_gw := am_w 1293 (by decide +kernel) rfl
theorem w1295 : (Cond.instanceMethod ({ cls := "Clockhouse", name := "putRound", desc := "(LClockhouse$Big;I)I" } : MethodName)) ∈ lw_gw := am_w 1295 (by decide +kernel) rfl
theorem w1296 : (Cond.code ({ cls := "Clockhouse", name := "putRound", desc := "(LClockhouse$Big;I)I" } : MethodName) prog_1_method_69_code (3 : Nat) (Option.some FieldType.int)) ∈ lw_gw := am_w 1296 (by decide +kernel) rfl
theorem w1303 : (Cond.code ({ cls := "Clockhouse", name := "roundPlus", desc := "(II)I" } : MethodName) prog_1_method_9_code (6 : Nat) (Option.some FieldType.int)) ∈ lw_gw := am_w 1303 (by decide +kernel) rfl
theorem w1310 : (Cond.code ({ cls := "Clockhouse", name := "roundTimes", desc := "(II)I" } : MethodName) prog_1_method_10_code (6 : Nat) (Option.some FieldType.int)) ∈ lw_gw := am_w 1310 (by decide +kernel) rfl
theorem w1317 : (Cond.code ({ cls := "Clockhouse", name := "roundPower", desc := "(II)I" } : MethodName) prog_1_method_11_code (3 : Nat) (Option.some FieldType.int)) ∈ lw_gw := am_w 1317 (by decide +kernel) rfl
theorem w1324 : (Cond.code ({ cls := "Clockhouse", name := "roundInverse", desc := "(I)I" } : MethodName) prog_1_method_12_code (2 : Nat) (Option.some FieldType.int)) ∈ lw_gw := am_w 1324 (by decide +kernel) rfl
theorem w1331 : (Cond.code ({ cls := "Clockhouse", name := "tell", desc := "(II)I" } : MethodName) prog_1_method_13_code (3 : Nat) (Option.some FieldType.int)) ∈ lw_gw := am_w 1331 (by decide +kernel) rfl
theorem w1332 : (Cond.methodLink "Clockhouse" (135 : Nat) ({ cls := "Clockhouse", name := "needCongruence", desc := "(II)V" } : MethodName)) ∈ lw_gw := am_w 1332 (by decide +kernel) rfl
theorem w1333 : (Cond.static ({ cls := "Clockhouse", name := "needCongruence", desc := "(II)V" } : MethodName)) ∈ lw_gw := am_w 1333 (by decide +kernel) rfl
theorem w1334 : (Cond.code ({ cls := "Clockhouse", name := "needCongruence", desc := "(II)V" } : MethodName) prog_1_method_65_code (2 : Nat) (Option.none : Option FieldType)) ∈ lw_gw := am_w 1334 (by decide +kernel) rfl
theorem w1337 : (Cond.methodLink "Clockhouse" (139 : Nat) ({ cls := "Clockhouse", name := "needFreeRow", desc := "()V" } : MethodName)) ∈ lw_gw := am_w 1337 (by decide +kernel) rfl
theorem w1339 : (Cond.instanceMethod ({ cls := "Clockhouse", name := "needFreeRow", desc := "()V" } : MethodName)) ∈ lw_gw := am_w 1339 (by decide +kernel) rfl
theorem w1340 : (Cond.code ({ cls := "Clockhouse", name := "needFreeRow", desc := "()V" } : MethodName) prog_1_method_66_code (1 : Nat) (Option.none : Option FieldType)) ∈ lw_gw := am_w 1340 (by decide +kernel) rfl
theorem w1342 : (Cond.methodLink "Clockhouse" (142 : Nat) ({ cls := "Clockhouse", name := "addRow", desc := "(II)I" } : MethodName)) ∈ lw_gw := am_w 1342 (by decide +kernel) rfl
theorem w1344 : (Cond.instanceMethod ({ cls := "Clockhouse", name := "addRow", desc := "(II)I" } : MethodName)) ∈ lw_gw := am_w 1344 (by decide +kernel) rfl
theorem w1345 : (Cond.code ({ cls := "Clockhouse", name := "addRow", desc := "(II)I" } : MethodName) prog_1_method_70_code (3 : Nat) (Option.some FieldType.int)) ∈ lw_gw := am_w 1345 (by decide +kernel) rfl
theorem w1346 : (Cond.methodLink "Clockhouse" (434 : Nat) ({ cls := "Clockhouse$State", name := "addRow", desc := "(II)V" } : MethodName)) ∈ lw_gw := am_w 1346 (by decide +kernel) rfl
theorem w1347 : (Cond.instanceMethod ({ cls := "Clockhouse$State", name := "addRow", desc := "(II)V" } : MethodName)) ∈ lw_gw := am_w 1347 (by decide +kernel) rfl
theorem w1348 : (Cond.selects "Clockhouse$State" ({ cls := "Clockhouse$State", name := "addRow", desc := "(II)V" } : MethodName) ({ cls := "Clockhouse$State", name := "addRow", desc := "(II)V" } : MethodName)) ∈ lw_gw := am_w 1348 (by decide +kernel) rfl
theorem w1349 : (Cond.code ({ cls := "Clockhouse$State", name := "addRow", desc := "(II)V" } : MethodName) prog_11_method_3_code (3 : Nat) (Option.none : Option FieldType)) ∈ lw_gw := am_w 1349 (by decide +kernel) rfl
theorem w1350 : (Cond.methodLink "Clockhouse$State" (48 : Nat) ({ cls := "java/lang/Math", name := "floorMod", desc := "(II)I" } : MethodName)) ∈ lw_gw := am_w 1350 (by decide +kernel) rfl
theorem w1357 : (Cond.code ({ cls := "Clockhouse", name := "tellIf", desc := "(II)Z" } : MethodName) prog_1_method_14_code (3 : Nat) (Option.some FieldType.boolean)) ∈ lw_gw := am_w 1357 (by decide +kernel) rfl
theorem w1358 : (Cond.methodLink "Clockhouse" (148 : Nat) ({ cls := "Clockhouse$Joiner", name := "admits", desc := "(II)Z" } : MethodName)) ∈ lw_gw := am_w 1358 (by decide +kernel) rfl
theorem w1365 : (Cond.code ({ cls := "Clockhouse", name := "drop", desc := "(I)I" } : MethodName) prog_1_method_15_code (2 : Nat) (Option.some FieldType.int)) ∈ lw_gw := am_w 1365 (by decide +kernel) rfl
theorem w1366 : (Cond.methodLink "Clockhouse" (152 : Nat) ({ cls := "Clockhouse", name := "needRow", desc := "(I)V" } : MethodName)) ∈ lw_gw := am_w 1366 (by decide +kernel) rfl
theorem w1368 : (Cond.instanceMethod ({ cls := "Clockhouse", name := "needRow", desc := "(I)V" } : MethodName)) ∈ lw_gw := am_w 1368 (by decide +kernel) rfl
theorem w1369 : (Cond.code ({ cls := "Clockhouse", name := "needRow", desc := "(I)V" } : MethodName) prog_1_method_67_code (2 : Nat) (Option.none : Option FieldType)) ∈ lw_gw := am_w 1369 (by decide +kernel) rfl
theorem w1371 : (Cond.methodLink "Clockhouse" (156 : Nat) ({ cls := "Clockhouse$State", name := "removeRow", desc := "(I)V" } : MethodName)) ∈ lw_gw := am_w 1371 (by decide +kernel) rfl
theorem w1372 : (Cond.instanceMethod ({ cls := "Clockhouse$State", name := "removeRow", desc := "(I)V" } : MethodName)) ∈ lw_gw := am_w 1372 (by decide +kernel) rfl
theorem w1373 : (Cond.selects "Clockhouse$State" ({ cls := "Clockhouse$State", name := "removeRow", desc := "(I)V" } : MethodName) ({ cls := "Clockhouse$State", name := "removeRow", desc := "(I)V" } : MethodName)) ∈ lw_gw := am_w 1373 (by decide +kernel) rfl
theorem w1374 : (Cond.code ({ cls := "Clockhouse$State", name := "removeRow", desc := "(I)V" } : MethodName) prog_11_method_4_code (3 : Nat) (Option.none : Option FieldType)) ∈ lw_gw := am_w 1374 (by decide +kernel) rfl
theorem w1381 : (Cond.code ({ cls := "Clockhouse", name := "base", desc := "(I)I" } : MethodName) prog_1_method_16_code (2 : Nat) (Option.some FieldType.int)) ∈ lw_gw := am_w 1381 (by decide +kernel) rfl
theorem w1383 : (Cond.methodLink "Clockhouse" (164 : Nat) ({ cls := "Clockhouse$State", name := "takesBase", desc := "(I)Z" } : MethodName)) ∈ lw_gw := am_w 1383 (by decide +kernel) rfl
theorem w1384 : (Cond.instanceMethod ({ cls := "Clockhouse$State", name := "takesBase", desc := "(I)Z" } : MethodName)) ∈ lw_gw := am_w 1384 (by decide +kernel) rfl
theorem w1385 : (Cond.selects "Clockhouse$State" ({ cls := "Clockhouse$State", name := "takesBase", desc := "(I)Z" } : MethodName) ({ cls := "Clockhouse$State", name := "takesBase", desc := "(I)Z" } : MethodName)) ∈ lw_gw := am_w 1385 (by decide +kernel) rfl
theorem w1386 : (Cond.code ({ cls := "Clockhouse$State", name := "takesBase", desc := "(I)Z" } : MethodName) prog_11_method_6_code (3 : Nat) (Option.some FieldType.boolean)) ∈ lw_gw := am_w 1386 (by decide +kernel) rfl
theorem w1388 : (Cond.methodLink "Clockhouse" (173 : Nat) ({ cls := "Clockhouse$State", name := "addBase", desc := "(I)V" } : MethodName)) ∈ lw_gw := am_w 1388 (by decide +kernel) rfl
theorem w1389 : (Cond.instanceMethod ({ cls := "Clockhouse$State", name := "addBase", desc := "(I)V" } : MethodName)) ∈ lw_gw := am_w 1389 (by decide +kernel) rfl
theorem w1390 : (Cond.selects "Clockhouse$State" ({ cls := "Clockhouse$State", name := "addBase", desc := "(I)V" } : MethodName) ({ cls := "Clockhouse$State", name := "addBase", desc := "(I)V" } : MethodName)) ∈ lw_gw := am_w 1390 (by decide +kernel) rfl
theorem w1391 : (Cond.code ({ cls := "Clockhouse$State", name := "addBase", desc := "(I)V" } : MethodName) prog_11_method_7_code (2 : Nat) (Option.none : Option FieldType)) ∈ lw_gw := am_w 1391 (by decide +kernel) rfl
theorem w1398 : (Cond.code ({ cls := "Clockhouse", name := "unbase", desc := "()I" } : MethodName) prog_1_method_17_code (1 : Nat) (Option.some FieldType.int)) ∈ lw_gw := am_w 1398 (by decide +kernel) rfl
theorem w1400 : (Cond.methodLink "Clockhouse" (181 : Nat) ({ cls := "Clockhouse$State", name := "removeBase", desc := "()I" } : MethodName)) ∈ lw_gw := am_w 1400 (by decide +kernel) rfl
theorem w1401 : (Cond.instanceMethod ({ cls := "Clockhouse$State", name := "removeBase", desc := "()I" } : MethodName)) ∈ lw_gw := am_w 1401 (by decide +kernel) rfl
theorem w1402 : (Cond.selects "Clockhouse$State" ({ cls := "Clockhouse$State", name := "removeBase", desc := "()I" } : MethodName) ({ cls := "Clockhouse$State", name := "removeBase", desc := "()I" } : MethodName)) ∈ lw_gw := am_w 1402 (by decide +kernel) rfl
theorem w1403 : (Cond.code ({ cls := "Clockhouse$State", name := "removeBase", desc := "()I" } : MethodName) prog_11_method_8_code (1 : Nat) (Option.some FieldType.int)) ∈ lw_gw := am_w 1403 (by decide +kernel) rfl
theorem w1410 : (Cond.code ({ cls := "Clockhouse", name := "undo", desc := "()I" } : MethodName) prog_1_method_18_code (1 : Nat) (Option.some FieldType.int)) ∈ lw_gw := am_w 1410 (by decide +kernel) rfl
theorem w1412 : (Cond.methodLink "Clockhouse" (189 : Nat) ({ cls := "Clockhouse$Past", name := "bringBack", desc := "(LClockhouse$State;)V" } : MethodName)) ∈ lw_gw := am_w 1412 (by decide +kernel) rfl
theorem w1413 : (Cond.instanceMethod ({ cls := "Clockhouse$Past", name := "bringBack", desc := "(LClockhouse$State;)V" } : MethodName)) ∈ lw_gw := am_w 1413 (by decide +kernel) rfl
theorem w1414 : (Cond.selects "Clockhouse$Past" ({ cls := "Clockhouse$Past", name := "bringBack", desc := "(LClockhouse$State;)V" } : MethodName) ({ cls := "Clockhouse$Past", name := "bringBack", desc := "(LClockhouse$State;)V" } : MethodName)) ∈ lw_gw := am_w 1414 (by decide +kernel) rfl
theorem w1415 : (Cond.code ({ cls := "Clockhouse$Past", name := "bringBack", desc := "(LClockhouse$State;)V" } : MethodName) prog_7_method_3_code (2 : Nat) (Option.none : Option FieldType)) ∈ lw_gw := am_w 1415 (by decide +kernel) rfl
theorem w1429 : (Cond.code ({ cls := "Clockhouse", name := "digits", desc := "(I)I" } : MethodName) prog_1_method_21_code (2 : Nat) (Option.some FieldType.int)) ∈ lw_gw := am_w 1429 (by decide +kernel) rfl
theorem w1440 : (Cond.code ({ cls := "Clockhouse$BigRound", name := "findGcd", desc := "(LClockhouse$Big;LClockhouse$Big;)V" } : MethodName) prog_3_method_3_code (7 : Nat) (Option.none : Option FieldType)) ∈ lw_gw := am_w 1440 (by decide +kernel) rfl
theorem w1441 : (Cond.methodLink "Clockhouse$BigRound" (61 : Nat) ({ cls := "Clockhouse$Big", name := "settle", desc := "(I)V" } : MethodName)) ∈ lw_gw := am_w 1441 (by decide +kernel) rfl
theorem w1458 : (Cond.instanceMethod ({ cls := "Clockhouse$BigRound", name := "findInverse", desc := "(LClockhouse$Big;LClockhouse$Big;)Z" } : MethodName)) ∈ lw_gw := am_w 1458 (by decide +kernel) rfl
theorem w1459 : (Cond.selects "Clockhouse$BigRound" ({ cls := "Clockhouse$BigRound", name := "findInverse", desc := "(LClockhouse$Big;LClockhouse$Big;)Z" } : MethodName) ({ cls := "Clockhouse$BigRound", name := "findInverse", desc := "(LClockhouse$Big;LClockhouse$Big;)Z" } : MethodName)) ∈ lw_gw := am_w 1459 (by decide +kernel) rfl
theorem w1460 : (Cond.code ({ cls := "Clockhouse$BigRound", name := "findInverse", desc := "(LClockhouse$Big;LClockhouse$Big;)Z" } : MethodName) prog_3_method_4_code (10 : Nat) (Option.some FieldType.boolean)) ∈ lw_gw := am_w 1460 (by decide +kernel) rfl
theorem w1461 : (Cond.methodLink "Clockhouse$BigRound" (65 : Nat) ({ cls := "Clockhouse$BigRound", name := "findRest", desc := "(LClockhouse$Big;LClockhouse$Big;)V" } : MethodName)) ∈ lw_gw := am_w 1461 (by decide +kernel) rfl
theorem w1462 : (Cond.methodLink "Clockhouse$BigRound" (68 : Nat) ({ cls := "Clockhouse$Big", name := "becomeLong", desc := "(J)V" } : MethodName)) ∈ lw_gw := am_w 1462 (by decide +kernel) rfl
theorem w1463 : (Cond.methodLink "Clockhouse$BigRound" (75 : Nat) ({ cls := "Clockhouse$Big", name := "becomeProduct", desc := "(LClockhouse$Big;LClockhouse$Big;)V" } : MethodName)) ∈ lw_gw := am_w 1463 (by decide +kernel) rfl
theorem w1464 : (Cond.methodLink "Clockhouse$BigRound" (78 : Nat) ({ cls := "Clockhouse$Big", name := "limb", desc := "(I)I" } : MethodName)) ∈ lw_gw := am_w 1464 (by decide +kernel) rfl
theorem w1476 : (Cond.code ({ cls := "Clockhouse$BigRound", name := "findPower", desc := "(LClockhouse$Big;LClockhouse$Big;LClockhouse$Big;)Z" } : MethodName) prog_3_method_5_code (7 : Nat) (Option.some FieldType.boolean)) ∈ lw_gw := am_w 1476 (by decide +kernel) rfl
theorem w1477 : (Cond.methodLink "Clockhouse$BigRound" (82 : Nat) ({ cls := "Clockhouse$BigRound", name := "findInverse", desc := "(LClockhouse$Big;LClockhouse$Big;)Z" } : MethodName)) ∈ lw_gw := am_w 1477 (by decide +kernel) rfl
theorem w1478 : (Cond.methodLink "Clockhouse$BigRound" (86 : Nat) ({ cls := "Clockhouse$BigRound", name := "multiply", desc := "(LClockhouse$Big;LClockhouse$Big;LClockhouse$Big;)V" } : MethodName)) ∈ lw_gw := am_w 1478 (by decide +kernel) rfl
theorem w1480 : (Cond.instanceMethod ({ cls := "Clockhouse$BigRound", name := "multiply", desc := "(LClockhouse$Big;LClockhouse$Big;LClockhouse$Big;)V" } : MethodName)) ∈ lw_gw := am_w 1480 (by decide +kernel) rfl
theorem w1481 : (Cond.code ({ cls := "Clockhouse$BigRound", name := "multiply", desc := "(LClockhouse$Big;LClockhouse$Big;LClockhouse$Big;)V" } : MethodName) prog_3_method_6_code (4 : Nat) (Option.none : Option FieldType)) ∈ lw_gw := am_w 1481 (by decide +kernel) rfl
theorem w1482 : (Cond.methodLink "Clockhouse$BigRound" (90 : Nat) ({ cls := "Clockhouse$Big", name := "scaleDown", desc := "(I)V" } : MethodName)) ∈ lw_gw := am_w 1482 (by decide +kernel) rfl
theorem w1509 : (Cond.code ({ cls := "Clockhouse", name := "solution", desc := "(III)I" } : MethodName) prog_1_method_32_code (7 : Nat) (Option.some FieldType.int)) ∈ lw_gw := am_w 1509 (by decide +kernel) rfl
theorem w1510 : (Cond.methodLink "Clockhouse" (243 : Nat) ({ cls := "Clockhouse$Round", name := "solutionAt", desc := "(IIII)I" } : MethodName)) ∈ lw_gw := am_w 1510 (by decide +kernel) rfl
theorem w1525 : (Cond.code ({ cls := "Clockhouse", name := "isGenerator", desc := "(I)Z" } : MethodName) prog_1_method_36_code (3 : Nat) (Option.some FieldType.boolean)) ∈ lw_gw := am_w 1525 (by decide +kernel) rfl
theorem w1526 : (Cond.methodLink "Clockhouse" (259 : Nat) ({ cls := "Clockhouse$Generators", name := "holds", desc := "(I)Z" } : MethodName)) ∈ lw_gw := am_w 1526 (by decide +kernel) rfl
theorem w1554 : (Cond.code ({ cls := "Clockhouse", name := "root", desc := "(II)I" } : MethodName) prog_1_method_40_code (4 : Nat) (Option.some FieldType.int)) ∈ lw_gw := am_w 1554 (by decide +kernel) rfl
theorem w1555 : (Cond.methodLink "Clockhouse" (284 : Nat) ({ cls := "Clockhouse$Round", name := "rootAt", desc := "(III)I" } : MethodName)) ∈ lw_gw := am_w 1555 (by decide +kernel) rfl
theorem w1570 : (Cond.code ({ cls := "Clockhouse", name := "ofRow", desc := "(II)I" } : MethodName) prog_1_method_45_code (3 : Nat) (Option.some FieldType.int)) ∈ lw_gw := am_w 1570 (by decide +kernel) rfl
theorem w1578 : (Cond.code ({ cls := "Clockhouse", name := "agree", desc := "(II)Z" } : MethodName) prog_1_method_46_code (3 : Nat) (Option.some FieldType.boolean)) ∈ lw_gw := am_w 1578 (by decide +kernel) rfl
theorem w1585 : (Cond.code ({ cls := "Clockhouse", name := "wouldJoin", desc := "(II)Z" } : MethodName) prog_1_method_48_code (3 : Nat) (Option.some FieldType.boolean)) ∈ lw_gw := am_w 1585 (by decide +kernel) rfl
theorem w1592 : (Cond.code ({ cls := "Clockhouse", name := "clash", desc := "(I)I" } : MethodName) prog_1_method_51_code (2 : Nat) (Option.some FieldType.int)) ∈ lw_gw := am_w 1592 (by decide +kernel) rfl
theorem w2048 : (Cond.arrayClass FieldType.long) ∈ lw_gw := am_w 2048 (by decide +kernel) rfl
theorem g_oi : Cond.instanceMethod objectInit ∈ lw_gw ∧ Cond.code objectInit ⟨#[0xb1]⟩ 1 none ∈ lw_gw := ⟨w122, w123⟩
theorem g_ar : Cond.arrayClass .int ∈ lw_gw ∧ Cond.arrayClass .byte ∈ lw_gw ∧ Cond.arrayClass .long ∈ lw_gw := ⟨w153, w345, w2048⟩
