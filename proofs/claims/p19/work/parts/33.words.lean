/-! WORDS OF THE TABLES -/
theorem w10 : (Cond.selects "Clockhouse$Big" ({ cls := "Clockhouse$Big", name := "joinSizes", desc := "(LClockhouse$Big;LClockhouse$Big;I)V" } : MethodName) ({ cls := "Clockhouse$Big", name := "joinSizes", desc := "(LClockhouse$Big;LClockhouse$Big;I)V" } : MethodName)) ∈ lw_gw := am_w 10 (by decide +kernel) rfl
theorem w19 : (Cond.selects "Clockhouse$PowerRow" ({ cls := "Clockhouse$PowerRow", name := "sumOfRow", desc := "()I" } : MethodName) ({ cls := "Clockhouse$PowerRow", name := "sumOfRow", desc := "()I" } : MethodName)) ∈ lw_gw := am_w 19 (by decide +kernel) rfl
theorem w75 : (Cond.initialized "Clockhouse$State") ∈ lw_gw := am_w 75 (by decide +kernel) rfl
theorem w76 : (Cond.initialized "Clockhouse$Big") ∈ lw_gw := am_w 76 (by decide +kernel) rfl
theorem w77 : (Cond.initialized "Clockhouse$Past") ∈ lw_gw := am_w 77 (by decide +kernel) rfl
theorem w80 : (Cond.initialized "Clockhouse$PowerRow") ∈ lw_gw := am_w 80 (by decide +kernel) rfl
theorem w81 : (Cond.initialized "Clockhouse$Generators") ∈ lw_gw := am_w 81 (by decide +kernel) rfl
theorem w82 : (Cond.initialized "Clockhouse$Joiner") ∈ lw_gw := am_w 82 (by decide +kernel) rfl
theorem w98 : (Cond.initialized "java/lang/System") ∈ lw_gw := am_w 98 (by decide +kernel) rfl
theorem w101 : (Cond.initialized "java/lang/Math") ∈ lw_gw := am_w 101 (by decide +kernel) rfl
theorem w110 : (Cond.initialized "Clockhouse$Round") ∈ lw_gw := am_w 110 (by decide +kernel) rfl
theorem w115 : (Cond.initialized "Clockhouse$Sound") ∈ lw_gw := am_w 115 (by decide +kernel) rfl
theorem w122 : (Cond.instanceMethod ({ cls := "java/lang/Object", name := "<init>", desc := "()V" } : MethodName)) ∈ lw_gw := am_w 122 (by decide +kernel) rfl
theorem w123 : (Cond.code ({ cls := "java/lang/Object", name := "<init>", desc := "()V" } : MethodName) object_method_1_code (1 : Nat) (Option.none : Option FieldType)) ∈ lw_gw := am_w 123 (by decide +kernel) rfl
theorem w125 : (Cond.instantiable "Clockhouse$State" (7 : Nat)) ∈ lw_gw := am_w 125 (by decide +kernel) rfl
theorem w127 : (Cond.instanceMethod ({ cls := "Clockhouse$State", name := "<init>", desc := "()V" } : MethodName)) ∈ lw_gw := am_w 127 (by decide +kernel) rfl
theorem w128 : (Cond.code ({ cls := "Clockhouse$State", name := "<init>", desc := "()V" } : MethodName) prog_11_method_1_code (2 : Nat) (Option.none : Option FieldType)) ∈ lw_gw := am_w 128 (by decide +kernel) rfl
theorem w129 : (Cond.methodLink "Clockhouse$State" (3 : Nat) ({ cls := "java/lang/Object", name := "<init>", desc := "()V" } : MethodName)) ∈ lw_gw := am_w 129 (by decide +kernel) rfl
theorem w130 : (Cond.classLink "Clockhouse$State" (9 : Nat) "Clockhouse$Big") ∈ lw_gw := am_w 130 (by decide +kernel) rfl
theorem w131 : (Cond.arrayOver (FieldType.object "Clockhouse$Big")) ∈ lw_ng := am_ng 131 (by decide +kernel) rfl
theorem w132 : (Cond.instantiable "Clockhouse$Big" (3 : Nat)) ∈ lw_gw := am_w 132 (by decide +kernel) rfl
theorem w133 : (Cond.methodLinkNest "Clockhouse$State" (27 : Nat) ({ cls := "Clockhouse$Big", name := "<init>", desc := "()V" } : MethodName) "Clockhouse") ∈ lw_ng := am_ng 133 (by decide +kernel) rfl
theorem w134 : (Cond.instanceMethod ({ cls := "Clockhouse$Big", name := "<init>", desc := "()V" } : MethodName)) ∈ lw_gw := am_w 134 (by decide +kernel) rfl
theorem w135 : (Cond.code ({ cls := "Clockhouse$Big", name := "<init>", desc := "()V" } : MethodName) prog_2_method_1_code (1 : Nat) (Option.none : Option FieldType)) ∈ lw_gw := am_w 135 (by decide +kernel) rfl
theorem w136 : (Cond.methodLink "Clockhouse$Big" (3 : Nat) ({ cls := "java/lang/Object", name := "<init>", desc := "()V" } : MethodName)) ∈ lw_gw := am_w 136 (by decide +kernel) rfl
theorem w137 : (Cond.fieldLink "Clockhouse$Big" (9 : Nat) "Clockhouse$Big" "limbs" "[I") ∈ lw_gw := am_w 137 (by decide +kernel) rfl
theorem w140 : (Cond.fieldLink "Clockhouse$Big" (15 : Nat) "Clockhouse$Big" "length" "I") ∈ lw_gw := am_w 140 (by decide +kernel) rfl
theorem w141 : (Cond.fieldLinkNest "Clockhouse$Round" (21 : Nat) "Clockhouse$Big" "length" "I" "Clockhouse") ∈ lw_ng := am_ng 141 (by decide +kernel) rfl
theorem w143 : (Cond.fieldLinkNest "Clockhouse$Round" (9 : Nat) "Clockhouse$Big" "sign" "I" "Clockhouse") ∈ lw_ng := am_ng 143 (by decide +kernel) rfl
theorem w144 : (Cond.fieldLink "Clockhouse$Big" (19 : Nat) "Clockhouse$Big" "sign" "I") ∈ lw_gw := am_w 144 (by decide +kernel) rfl
theorem w146 : (Cond.laysFinal "Clockhouse$Big" "Clockhouse$Big" "limbs" "[I") ∈ lw_gw := am_w 146 (by decide +kernel) rfl
theorem w148 : (Cond.lays "Clockhouse$Big" "Clockhouse$Big" "length" "I") ∈ lw_gw := am_w 148 (by decide +kernel) rfl
theorem w150 : (Cond.lays "Clockhouse$Big" "Clockhouse$Big" "sign" "I") ∈ lw_gw := am_w 150 (by decide +kernel) rfl
theorem w153 : (Cond.arrayClass FieldType.int) ∈ lw_gw := am_w 153 (by decide +kernel) rfl
theorem w155 : (Cond.fieldLink "Clockhouse$State" (28 : Nat) "Clockhouse$State" "dial" "I") ∈ lw_gw := am_w 155 (by decide +kernel) rfl
theorem w156 : (Cond.fieldLink "Clockhouse$State" (11 : Nat) "Clockhouse$State" "numbers" "[LClockhouse$Big;") ∈ lw_gw := am_w 156 (by decide +kernel) rfl
theorem w158 : (Cond.fieldLink "Clockhouse$State" (36 : Nat) "Clockhouse$State" "rowCount" "I") ∈ lw_gw := am_w 158 (by decide +kernel) rfl
theorem w160 : (Cond.fieldLink "Clockhouse$State" (17 : Nat) "Clockhouse$State" "rests" "[I") ∈ lw_gw := am_w 160 (by decide +kernel) rfl
theorem w162 : (Cond.fieldLink "Clockhouse$State" (21 : Nat) "Clockhouse$State" "sizes" "[I") ∈ lw_gw := am_w 162 (by decide +kernel) rfl
theorem w164 : (Cond.fieldLink "Clockhouse$State" (45 : Nat) "Clockhouse$State" "baseCount" "I") ∈ lw_gw := am_w 164 (by decide +kernel) rfl
theorem w166 : (Cond.fieldLink "Clockhouse$State" (24 : Nat) "Clockhouse$State" "bases" "[I") ∈ lw_gw := am_w 166 (by decide +kernel) rfl
theorem w168 : (Cond.lays "Clockhouse$State" "Clockhouse$State" "dial" "I") ∈ lw_gw := am_w 168 (by decide +kernel) rfl
theorem w170 : (Cond.laysFinal "Clockhouse$State" "Clockhouse$State" "numbers" "[LClockhouse$Big;") ∈ lw_gw := am_w 170 (by decide +kernel) rfl
theorem w172 : (Cond.lays "Clockhouse$State" "Clockhouse$State" "rowCount" "I") ∈ lw_gw := am_w 172 (by decide +kernel) rfl
theorem w174 : (Cond.laysFinal "Clockhouse$State" "Clockhouse$State" "rests" "[I") ∈ lw_gw := am_w 174 (by decide +kernel) rfl
theorem w176 : (Cond.laysFinal "Clockhouse$State" "Clockhouse$State" "sizes" "[I") ∈ lw_gw := am_w 176 (by decide +kernel) rfl
theorem w178 : (Cond.lays "Clockhouse$State" "Clockhouse$State" "baseCount" "I") ∈ lw_gw := am_w 178 (by decide +kernel) rfl
theorem w180 : (Cond.laysFinal "Clockhouse$State" "Clockhouse$State" "bases" "[I") ∈ lw_gw := am_w 180 (by decide +kernel) rfl
theorem w187 : (Cond.code ({ cls := "Clockhouse$Past", name := "<init>", desc := "()V" } : MethodName) prog_7_method_1_code (2 : Nat) (Option.none : Option FieldType)) ∈ lw_gw := am_w 187 (by decide +kernel) rfl
theorem w188 : (Cond.methodLink "Clockhouse$Past" (3 : Nat) ({ cls := "java/lang/Object", name := "<init>", desc := "()V" } : MethodName)) ∈ lw_gw := am_w 188 (by decide +kernel) rfl
theorem w189 : (Cond.classLink "Clockhouse$Past" (9 : Nat) "Clockhouse$State") ∈ lw_gw := am_w 189 (by decide +kernel) rfl
theorem w190 : (Cond.arrayOver (FieldType.object "Clockhouse$State")) ∈ lw_ng := am_ng 190 (by decide +kernel) rfl
theorem w191 : (Cond.methodLink "Clockhouse$Past" (17 : Nat) ({ cls := "Clockhouse$State", name := "<init>", desc := "()V" } : MethodName)) ∈ lw_gw := am_w 191 (by decide +kernel) rfl
theorem w192 : (Cond.fieldLink "Clockhouse$Past" (11 : Nat) "Clockhouse$Past" "ring" "[LClockhouse$State;") ∈ lw_gw := am_w 192 (by decide +kernel) rfl
theorem w193 : (Cond.fieldLink "Clockhouse$Past" (18 : Nat) "Clockhouse$Past" "oldest" "I") ∈ lw_gw := am_w 193 (by decide +kernel) rfl
theorem w194 : (Cond.fieldLink "Clockhouse$Past" (22 : Nat) "Clockhouse$Past" "count" "I") ∈ lw_gw := am_w 194 (by decide +kernel) rfl
theorem w196 : (Cond.laysFinal "Clockhouse$Past" "Clockhouse$Past" "ring" "[LClockhouse$State;") ∈ lw_gw := am_w 196 (by decide +kernel) rfl
theorem w198 : (Cond.lays "Clockhouse$Past" "Clockhouse$Past" "oldest" "I") ∈ lw_gw := am_w 198 (by decide +kernel) rfl
theorem w200 : (Cond.lays "Clockhouse$Past" "Clockhouse$Past" "count" "I") ∈ lw_gw := am_w 200 (by decide +kernel) rfl
theorem w260 : (Cond.code ({ cls := "Clockhouse$PowerRow", name := "<init>", desc := "()V" } : MethodName) prog_8_method_1_code (1 : Nat) (Option.none : Option FieldType)) ∈ lw_gw := am_w 260 (by decide +kernel) rfl
theorem w261 : (Cond.methodLink "Clockhouse$PowerRow" (3 : Nat) ({ cls := "java/lang/Object", name := "<init>", desc := "()V" } : MethodName)) ∈ lw_gw := am_w 261 (by decide +kernel) rfl
theorem w262 : (Cond.fieldLink "Clockhouse$PowerRow" (9 : Nat) "Clockhouse$PowerRow" "row" "[I") ∈ lw_gw := am_w 262 (by decide +kernel) rfl
theorem w263 : (Cond.fieldLink "Clockhouse$PowerRow" (15 : Nat) "Clockhouse$PowerRow" "placeOf" "[I") ∈ lw_gw := am_w 263 (by decide +kernel) rfl
theorem w264 : (Cond.fieldLink "Clockhouse$PowerRow" (18 : Nat) "Clockhouse$PowerRow" "count" "I") ∈ lw_gw := am_w 264 (by decide +kernel) rfl
theorem w265 : (Cond.fieldLink "Clockhouse$PowerRow" (22 : Nat) "Clockhouse$PowerRow" "tail" "I") ∈ lw_gw := am_w 265 (by decide +kernel) rfl
theorem w266 : (Cond.laysFinal "Clockhouse$PowerRow" "Clockhouse$PowerRow" "row" "[I") ∈ lw_gw := am_w 266 (by decide +kernel) rfl
theorem w268 : (Cond.laysFinal "Clockhouse$PowerRow" "Clockhouse$PowerRow" "placeOf" "[I") ∈ lw_gw := am_w 268 (by decide +kernel) rfl
theorem w270 : (Cond.lays "Clockhouse$PowerRow" "Clockhouse$PowerRow" "count" "I") ∈ lw_gw := am_w 270 (by decide +kernel) rfl
theorem w272 : (Cond.lays "Clockhouse$PowerRow" "Clockhouse$PowerRow" "tail" "I") ∈ lw_gw := am_w 272 (by decide +kernel) rfl
theorem w279 : (Cond.code ({ cls := "Clockhouse$Generators", name := "<init>", desc := "()V" } : MethodName) prog_5_method_1_code (1 : Nat) (Option.none : Option FieldType)) ∈ lw_gw := am_w 279 (by decide +kernel) rfl
theorem w280 : (Cond.methodLink "Clockhouse$Generators" (3 : Nat) ({ cls := "java/lang/Object", name := "<init>", desc := "()V" } : MethodName)) ∈ lw_gw := am_w 280 (by decide +kernel) rfl
theorem w281 : (Cond.fieldLink "Clockhouse$Generators" (9 : Nat) "Clockhouse$Generators" "primes" "[I") ∈ lw_gw := am_w 281 (by decide +kernel) rfl
theorem w282 : (Cond.fieldLink "Clockhouse$Generators" (28 : Nat) "Clockhouse$Generators" "primeCount" "I") ∈ lw_gw := am_w 282 (by decide +kernel) rfl
theorem w283 : (Cond.fieldLink "Clockhouse$Generators" (15 : Nat) "Clockhouse$Generators" "m" "I") ∈ lw_gw := am_w 283 (by decide +kernel) rfl
theorem w284 : (Cond.fieldLink "Clockhouse$Generators" (25 : Nat) "Clockhouse$Generators" "unitCount" "I") ∈ lw_gw := am_w 284 (by decide +kernel) rfl
theorem w285 : (Cond.laysFinal "Clockhouse$Generators" "Clockhouse$Generators" "primes" "[I") ∈ lw_gw := am_w 285 (by decide +kernel) rfl
theorem w287 : (Cond.lays "Clockhouse$Generators" "Clockhouse$Generators" "primeCount" "I") ∈ lw_gw := am_w 287 (by decide +kernel) rfl
theorem w289 : (Cond.lays "Clockhouse$Generators" "Clockhouse$Generators" "m" "I") ∈ lw_gw := am_w 289 (by decide +kernel) rfl
theorem w291 : (Cond.lays "Clockhouse$Generators" "Clockhouse$Generators" "unitCount" "I") ∈ lw_gw := am_w 291 (by decide +kernel) rfl
theorem w298 : (Cond.code ({ cls := "Clockhouse$Joiner", name := "<init>", desc := "()V" } : MethodName) prog_6_method_1_code (1 : Nat) (Option.none : Option FieldType)) ∈ lw_gw := am_w 298 (by decide +kernel) rfl
theorem w299 : (Cond.methodLink "Clockhouse$Joiner" (1 : Nat) ({ cls := "java/lang/Object", name := "<init>", desc := "()V" } : MethodName)) ∈ lw_gw := am_w 299 (by decide +kernel) rfl
theorem w300 : (Cond.fieldLink "Clockhouse$Joiner" (7 : Nat) "Clockhouse$Joiner" "joined" "Z") ∈ lw_gw := am_w 300 (by decide +kernel) rfl
theorem w302 : (Cond.fieldLink "Clockhouse$Joiner" (13 : Nat) "Clockhouse$Joiner" "joint" "J") ∈ lw_gw := am_w 302 (by decide +kernel) rfl
theorem w304 : (Cond.fieldLink "Clockhouse$Joiner" (17 : Nat) "Clockhouse$Joiner" "whole" "J") ∈ lw_gw := am_w 304 (by decide +kernel) rfl
theorem w306 : (Cond.lays "Clockhouse$Joiner" "Clockhouse$Joiner" "joined" "Z") ∈ lw_gw := am_w 306 (by decide +kernel) rfl
theorem w308 : (Cond.lays "Clockhouse$Joiner" "Clockhouse$Joiner" "joint" "J") ∈ lw_gw := am_w 308 (by decide +kernel) rfl
theorem w310 : (Cond.lays "Clockhouse$Joiner" "Clockhouse$Joiner" "whole" "J") ∈ lw_gw := am_w 310 (by decide +kernel) rfl
theorem w345 : (Cond.arrayClass FieldType.byte) ∈ lw_gw := am_w 345 (by decide +kernel) rfl
theorem w403 : (Cond.static ({ cls := "Clockhouse$Round", name := "countUnits", desc := "(I)I" } : MethodName)) ∈ lw_gw := am_w 403 (by decide +kernel) rfl
theorem w404 : (Cond.code ({ cls := "Clockhouse$Round", name := "countUnits", desc := "(I)I" } : MethodName) prog_9_method_8_code (3 : Nat) (Option.some FieldType.int)) ∈ lw_gw := am_w 404 (by decide +kernel) rfl
theorem w405 : (Cond.methodLink "Clockhouse$Round" (33 : Nat) ({ cls := "Clockhouse$Round", name := "commonOf", desc := "(II)I" } : MethodName)) ∈ lw_gw := am_w 405 (by decide +kernel) rfl
theorem w406 : (Cond.static ({ cls := "Clockhouse$Round", name := "commonOf", desc := "(II)I" } : MethodName)) ∈ lw_gw := am_w 406 (by decide +kernel) rfl
theorem w407 : (Cond.code ({ cls := "Clockhouse$Round", name := "commonOf", desc := "(II)I" } : MethodName) prog_9_method_2_code (6 : Nat) (Option.some FieldType.int)) ∈ lw_gw := am_w 407 (by decide +kernel) rfl
theorem w413 : (Cond.static ({ cls := "Clockhouse$Round", name := "primeHolds", desc := "(I)Z" } : MethodName)) ∈ lw_gw := am_w 413 (by decide +kernel) rfl
theorem w414 : (Cond.code ({ cls := "Clockhouse$Round", name := "primeHolds", desc := "(I)Z" } : MethodName) prog_9_method_12_code (2 : Nat) (Option.some FieldType.boolean)) ∈ lw_gw := am_w 414 (by decide +kernel) rfl
theorem w430 : (Cond.code ({ cls := "Clockhouse$Joiner", name := "clear", desc := "()V" } : MethodName) prog_6_method_2_code (1 : Nat) (Option.none : Option FieldType)) ∈ lw_gw := am_w 430 (by decide +kernel) rfl
theorem w434 : (Cond.code ({ cls := "Clockhouse$Joiner", name := "join", desc := "(II)V" } : MethodName) prog_6_method_4_code (9 : Nat) (Option.none : Option FieldType)) ∈ lw_gw := am_w 434 (by decide +kernel) rfl
theorem w435 : (Cond.methodLink "Clockhouse$Joiner" (26 : Nat) ({ cls := "Clockhouse$Joiner", name := "admits", desc := "(II)Z" } : MethodName)) ∈ lw_gw := am_w 435 (by decide +kernel) rfl
theorem w436 : (Cond.instanceMethod ({ cls := "Clockhouse$Joiner", name := "admits", desc := "(II)Z" } : MethodName)) ∈ lw_gw := am_w 436 (by decide +kernel) rfl
theorem w437 : (Cond.selects "Clockhouse$Joiner" ({ cls := "Clockhouse$Joiner", name := "admits", desc := "(II)Z" } : MethodName) ({ cls := "Clockhouse$Joiner", name := "admits", desc := "(II)Z" } : MethodName)) ∈ lw_gw := am_w 437 (by decide +kernel) rfl
theorem w438 : (Cond.code ({ cls := "Clockhouse$Joiner", name := "admits", desc := "(II)Z" } : MethodName) prog_6_method_3_code (4 : Nat) (Option.some FieldType.boolean)) ∈ lw_gw := am_w 438 (by decide +kernel) rfl
theorem w439 : (Cond.methodLink "Clockhouse$Joiner" (20 : Nat) ({ cls := "Clockhouse$Round", name := "commonOf", desc := "(II)I" } : MethodName)) ∈ lw_gw := am_w 439 (by decide +kernel) rfl
theorem w440 : (Cond.methodLink "Clockhouse$Joiner" (30 : Nat) ({ cls := "java/lang/Math", name := "floorMod", desc := "(JJ)J" } : MethodName)) ∈ lw_gw := am_w 440 (by decide +kernel) rfl
theorem w441 : (Cond.static ({ cls := "java/lang/Math", name := "floorMod", desc := "(JJ)J" } : MethodName)) ∈ lw_gw := am_w 441 (by decide +kernel) rfl
theorem w442 : (Cond.code ({ cls := "java/lang/Math", name := "floorMod", desc := "(JJ)J" } : MethodName) prog_32_method_52_code (6 : Nat) (Option.some FieldType.long)) ∈ lw_gw := am_w 442 (by decide +kernel) rfl
theorem w443 : (Cond.methodLink "Clockhouse$Joiner" (36 : Nat) ({ cls := "Clockhouse$Round", name := "invert", desc := "(II)I" } : MethodName)) ∈ lw_gw := am_w 443 (by decide +kernel) rfl
theorem w444 : (Cond.static ({ cls := "Clockhouse$Round", name := "invert", desc := "(II)I" } : MethodName)) ∈ lw_gw := am_w 444 (by decide +kernel) rfl
theorem w445 : (Cond.code ({ cls := "Clockhouse$Round", name := "invert", desc := "(II)I" } : MethodName) prog_9_method_3_code (10 : Nat) (Option.some FieldType.int)) ∈ lw_gw := am_w 445 (by decide +kernel) rfl
theorem w457 : (Cond.code ({ cls := "Clockhouse$Big", name := "becomeLong", desc := "(J)V" } : MethodName) prog_2_method_8_code (6 : Nat) (Option.none : Option FieldType)) ∈ lw_gw := am_w 457 (by decide +kernel) rfl
theorem w458 : (Cond.methodLink "Clockhouse$Big" (28 : Nat) ({ cls := "Clockhouse$Big", name := "clear", desc := "()V" } : MethodName)) ∈ lw_gw := am_w 458 (by decide +kernel) rfl
theorem w459 : (Cond.instanceMethod ({ cls := "Clockhouse$Big", name := "clear", desc := "()V" } : MethodName)) ∈ lw_gw := am_w 459 (by decide +kernel) rfl
theorem w460 : (Cond.selects "Clockhouse$Big" ({ cls := "Clockhouse$Big", name := "clear", desc := "()V" } : MethodName) ({ cls := "Clockhouse$Big", name := "clear", desc := "()V" } : MethodName)) ∈ lw_gw := am_w 460 (by decide +kernel) rfl
theorem w461 : (Cond.code ({ cls := "Clockhouse$Big", name := "clear", desc := "()V" } : MethodName) prog_2_method_6_code (2 : Nat) (Option.none : Option FieldType)) ∈ lw_gw := am_w 461 (by decide +kernel) rfl
theorem w462 : (Cond.constantLong "Clockhouse$Big" (31 : Nat) (1000000000 : Int64)) ∈ lw_gw := am_w 462 (by decide +kernel) rfl
theorem w463 : (Cond.methodLink "Clockhouse$Big" (33 : Nat) ({ cls := "Clockhouse$Big", name := "settle", desc := "(I)V" } : MethodName)) ∈ lw_gw := am_w 463 (by decide +kernel) rfl
theorem w464 : (Cond.instanceMethod ({ cls := "Clockhouse$Big", name := "settle", desc := "(I)V" } : MethodName)) ∈ lw_gw := am_w 464 (by decide +kernel) rfl
theorem w465 : (Cond.selects "Clockhouse$Big" ({ cls := "Clockhouse$Big", name := "settle", desc := "(I)V" } : MethodName) ({ cls := "Clockhouse$Big", name := "settle", desc := "(I)V" } : MethodName)) ∈ lw_gw := am_w 465 (by decide +kernel) rfl
theorem w466 : (Cond.code ({ cls := "Clockhouse$Big", name := "settle", desc := "(I)V" } : MethodName) prog_2_method_5_code (3 : Nat) (Option.none : Option FieldType)) ∈ lw_gw := am_w 466 (by decide +kernel) rfl
theorem w530 : (Cond.static ({ cls := "java/lang/System", name := "arraycopy", desc := "(Ljava/lang/Object;ILjava/lang/Object;II)V" } : MethodName)) ∈ lw_gw := am_w 530 (by decide +kernel) rfl
theorem w531 : (Cond.native ({ cls := "java/lang/System", name := "arraycopy", desc := "(Ljava/lang/Object;ILjava/lang/Object;II)V" } : MethodName)) ∈ lw_gw := am_w 531 (by decide +kernel) rfl
theorem w841 : (Cond.methodLink "Clockhouse$Big" (55 : Nat) ({ cls := "Clockhouse$Big", name := "limb", desc := "(I)I" } : MethodName)) ∈ lw_gw := am_w 841 (by decide +kernel) rfl
theorem w842 : (Cond.instanceMethod ({ cls := "Clockhouse$Big", name := "limb", desc := "(I)I" } : MethodName)) ∈ lw_gw := am_w 842 (by decide +kernel) rfl
theorem w843 : (Cond.selects "Clockhouse$Big" ({ cls := "Clockhouse$Big", name := "limb", desc := "(I)I" } : MethodName) ({ cls := "Clockhouse$Big", name := "limb", desc := "(I)I" } : MethodName)) ∈ lw_gw := am_w 843 (by decide +kernel) rfl
theorem w844 : (Cond.code ({ cls := "Clockhouse$Big", name := "limb", desc := "(I)I" } : MethodName) prog_2_method_2_code (2 : Nat) (Option.some FieldType.int)) ∈ lw_gw := am_w 844 (by decide +kernel) rfl
theorem w864 : (Cond.code ({ cls := "Clockhouse$State", name := "spanOfBases", desc := "()J" } : MethodName) prog_11_method_9_code (4 : Nat) (Option.some FieldType.long)) ∈ lw_gw := am_w 864 (by decide +kernel) rfl
theorem w876 : (Cond.code ({ cls := "Clockhouse$Big", name := "isTooLong", desc := "()Z" } : MethodName) prog_2_method_4_code (1 : Nat) (Option.some FieldType.boolean)) ∈ lw_gw := am_w 876 (by decide +kernel) rfl
theorem w883 : (Cond.code ({ cls := "Clockhouse$Round", name := "oddPrimeHolds", desc := "(I)Z" } : MethodName) prog_9_method_13_code (1 : Nat) (Option.some FieldType.boolean)) ∈ lw_gw := am_w 883 (by decide +kernel) rfl
theorem w884 : (Cond.methodLink "Clockhouse$Round" (36 : Nat) ({ cls := "Clockhouse$Round", name := "primeHolds", desc := "(I)Z" } : MethodName)) ∈ lw_gw := am_w 884 (by decide +kernel) rfl
theorem w888 : (Cond.code ({ cls := "Clockhouse$Big", name := "restBy", desc := "(I)I" } : MethodName) prog_2_method_15_code (5 : Nat) (Option.some FieldType.int)) ∈ lw_gw := am_w 888 (by decide +kernel) rfl
theorem w891 : (Cond.code ({ cls := "Clockhouse$Sound", name := "powersHold", desc := "(II)Z" } : MethodName) prog_10_method_2_code (4 : Nat) (Option.some FieldType.boolean)) ∈ lw_gw := am_w 891 (by decide +kernel) rfl
theorem w892 : (Cond.methodLink "Clockhouse$Sound" (9 : Nat) ({ cls := "Clockhouse$Round", name := "raiseByInt", desc := "(III)I" } : MethodName)) ∈ lw_gw := am_w 892 (by decide +kernel) rfl
theorem w893 : (Cond.static ({ cls := "Clockhouse$Round", name := "raiseByInt", desc := "(III)I" } : MethodName)) ∈ lw_gw := am_w 893 (by decide +kernel) rfl
theorem w894 : (Cond.code ({ cls := "Clockhouse$Round", name := "raiseByInt", desc := "(III)I" } : MethodName) prog_9_method_4_code (7 : Nat) (Option.some FieldType.int)) ∈ lw_gw := am_w 894 (by decide +kernel) rfl
theorem w897 : (Cond.code ({ cls := "Clockhouse$Sound", name := "inverseHolds", desc := "(III)Z" } : MethodName) prog_10_method_3_code (7 : Nat) (Option.some FieldType.boolean)) ∈ lw_gw := am_w 897 (by decide +kernel) rfl
theorem w898 : (Cond.methodLink "Clockhouse$Sound" (15 : Nat) ({ cls := "Clockhouse$Round", name := "invert", desc := "(II)I" } : MethodName)) ∈ lw_gw := am_w 898 (by decide +kernel) rfl
theorem w899 : (Cond.methodLink "Clockhouse$Sound" (19 : Nat) ({ cls := "Clockhouse$Round", name := "countSolutions", desc := "(III)I" } : MethodName)) ∈ lw_gw := am_w 899 (by decide +kernel) rfl
theorem w900 : (Cond.static ({ cls := "Clockhouse$Round", name := "countSolutions", desc := "(III)I" } : MethodName)) ∈ lw_gw := am_w 900 (by decide +kernel) rfl
theorem w901 : (Cond.code ({ cls := "Clockhouse$Round", name := "countSolutions", desc := "(III)I" } : MethodName) prog_9_method_6_code (5 : Nat) (Option.some FieldType.int)) ∈ lw_gw := am_w 901 (by decide +kernel) rfl
theorem w902 : (Cond.methodLink "Clockhouse$Sound" (22 : Nat) ({ cls := "Clockhouse$Round", name := "commonOf", desc := "(II)I" } : MethodName)) ∈ lw_gw := am_w 902 (by decide +kernel) rfl
theorem w903 : (Cond.methodLink "Clockhouse$Sound" (25 : Nat) ({ cls := "Clockhouse$Round", name := "orderOf", desc := "(II)I" } : MethodName)) ∈ lw_gw := am_w 903 (by decide +kernel) rfl
theorem w904 : (Cond.static ({ cls := "Clockhouse$Round", name := "orderOf", desc := "(II)I" } : MethodName)) ∈ lw_gw := am_w 904 (by decide +kernel) rfl
theorem w905 : (Cond.code ({ cls := "Clockhouse$Round", name := "orderOf", desc := "(II)I" } : MethodName) prog_9_method_9_code (4 : Nat) (Option.some FieldType.int)) ∈ lw_gw := am_w 905 (by decide +kernel) rfl
theorem w906 : (Cond.methodLink "Clockhouse$Sound" (28 : Nat) ({ cls := "Clockhouse$Round", name := "solutionAt", desc := "(IIII)I" } : MethodName)) ∈ lw_gw := am_w 906 (by decide +kernel) rfl
theorem w907 : (Cond.static ({ cls := "Clockhouse$Round", name := "solutionAt", desc := "(IIII)I" } : MethodName)) ∈ lw_gw := am_w 907 (by decide +kernel) rfl
theorem w908 : (Cond.code ({ cls := "Clockhouse$Round", name := "solutionAt", desc := "(IIII)I" } : MethodName) prog_9_method_7_code (6 : Nat) (Option.some FieldType.int)) ∈ lw_gw := am_w 908 (by decide +kernel) rfl
theorem w911 : (Cond.code ({ cls := "Clockhouse$Sound", name := "solutionsHold", desc := "(III)Z" } : MethodName) prog_10_method_4_code (5 : Nat) (Option.some FieldType.boolean)) ∈ lw_gw := am_w 911 (by decide +kernel) rfl
theorem w913 : (Cond.static ({ cls := "Clockhouse$Round", name := "legendreOf", desc := "(II)I" } : MethodName)) ∈ lw_gw := am_w 913 (by decide +kernel) rfl
theorem w914 : (Cond.code ({ cls := "Clockhouse$Round", name := "legendreOf", desc := "(II)I" } : MethodName) prog_9_method_14_code (2 : Nat) (Option.some FieldType.int)) ∈ lw_gw := am_w 914 (by decide +kernel) rfl
theorem w915 : (Cond.methodLink "Clockhouse$Round" (40 : Nat) ({ cls := "Clockhouse$Round", name := "rootAt", desc := "(III)I" } : MethodName)) ∈ lw_gw := am_w 915 (by decide +kernel) rfl
theorem w916 : (Cond.static ({ cls := "Clockhouse$Round", name := "rootAt", desc := "(III)I" } : MethodName)) ∈ lw_gw := am_w 916 (by decide +kernel) rfl
theorem w917 : (Cond.code ({ cls := "Clockhouse$Round", name := "rootAt", desc := "(III)I" } : MethodName) prog_9_method_11_code (5 : Nat) (Option.some FieldType.int)) ∈ lw_gw := am_w 917 (by decide +kernel) rfl
theorem w920 : (Cond.code ({ cls := "Clockhouse$Round", name := "jacobiOf", desc := "(II)I" } : MethodName) prog_9_method_15_code (6 : Nat) (Option.some FieldType.int)) ∈ lw_gw := am_w 920 (by decide +kernel) rfl
theorem w921 : (Cond.methodLink "Clockhouse$Round" (43 : Nat) ({ cls := "Clockhouse$Round", name := "legendreOf", desc := "(II)I" } : MethodName)) ∈ lw_gw := am_w 921 (by decide +kernel) rfl
theorem w933 : (Cond.code ({ cls := "Clockhouse$State", name := "rowsAgree", desc := "(II)Z" } : MethodName) prog_11_method_5_code (4 : Nat) (Option.some FieldType.boolean)) ∈ lw_gw := am_w 933 (by decide +kernel) rfl
theorem w934 : (Cond.methodLink "Clockhouse$State" (54 : Nat) ({ cls := "Clockhouse$Round", name := "commonOf", desc := "(II)I" } : MethodName)) ∈ lw_gw := am_w 934 (by decide +kernel) rfl
theorem w942 : (Cond.code ({ cls := "Clockhouse$Big", name := "becomeSum", desc := "(LClockhouse$Big;LClockhouse$Big;)V" } : MethodName) prog_2_method_10_code (4 : Nat) (Option.none : Option FieldType)) ∈ lw_gw := am_w 942 (by decide +kernel) rfl
theorem w943 : (Cond.methodLink "Clockhouse$Big" (37 : Nat) ({ cls := "Clockhouse$Big", name := "joinSizes", desc := "(LClockhouse$Big;LClockhouse$Big;I)V" } : MethodName)) ∈ lw_gw := am_w 943 (by decide +kernel) rfl
theorem w945 : (Cond.instanceMethod ({ cls := "Clockhouse$Big", name := "joinSizes", desc := "(LClockhouse$Big;LClockhouse$Big;I)V" } : MethodName)) ∈ lw_gw := am_w 945 (by decide +kernel) rfl
theorem w946 : (Cond.code ({ cls := "Clockhouse$Big", name := "joinSizes", desc := "(LClockhouse$Big;LClockhouse$Big;I)V" } : MethodName) prog_2_method_11_code (7 : Nat) (Option.none : Option FieldType)) ∈ lw_gw := am_w 946 (by decide +kernel) rfl
theorem w947 : (Cond.constant "Clockhouse$Big" (45 : Nat) (1000000000 : Int32)) ∈ lw_gw := am_w 947 (by decide +kernel) rfl
theorem w948 : (Cond.methodLink "Clockhouse$Big" (46 : Nat) ({ cls := "java/lang/Math", name := "floorMod", desc := "(II)I" } : MethodName)) ∈ lw_gw := am_w 948 (by decide +kernel) rfl
theorem w949 : (Cond.static ({ cls := "java/lang/Math", name := "floorMod", desc := "(II)I" } : MethodName)) ∈ lw_gw := am_w 949 (by decide +kernel) rfl
theorem w950 : (Cond.code ({ cls := "java/lang/Math", name := "floorMod", desc := "(II)I" } : MethodName) prog_32_method_50_code (3 : Nat) (Option.some FieldType.int)) ∈ lw_gw := am_w 950 (by decide +kernel) rfl
theorem w951 : (Cond.methodLink "Clockhouse$Big" (52 : Nat) ({ cls := "java/lang/Math", name := "floorDiv", desc := "(II)I" } : MethodName)) ∈ lw_gw := am_w 951 (by decide +kernel) rfl
theorem w952 : (Cond.static ({ cls := "java/lang/Math", name := "floorDiv", desc := "(II)I" } : MethodName)) ∈ lw_gw := am_w 952 (by decide +kernel) rfl
theorem w953 : (Cond.code ({ cls := "java/lang/Math", name := "floorDiv", desc := "(II)I" } : MethodName) prog_32_method_47_code (3 : Nat) (Option.some FieldType.int)) ∈ lw_gw := am_w 953 (by decide +kernel) rfl
theorem w954 : (Cond.methodLink "Clockhouse$Big" (41 : Nat) ({ cls := "Clockhouse$Big", name := "compareSize", desc := "(LClockhouse$Big;)I" } : MethodName)) ∈ lw_gw := am_w 954 (by decide +kernel) rfl
theorem w955 : (Cond.instanceMethod ({ cls := "Clockhouse$Big", name := "compareSize", desc := "(LClockhouse$Big;)I" } : MethodName)) ∈ lw_gw := am_w 955 (by decide +kernel) rfl
theorem w956 : (Cond.selects "Clockhouse$Big" ({ cls := "Clockhouse$Big", name := "compareSize", desc := "(LClockhouse$Big;)I" } : MethodName) ({ cls := "Clockhouse$Big", name := "compareSize", desc := "(LClockhouse$Big;)I" } : MethodName)) ∈ lw_gw := am_w 956 (by decide +kernel) rfl
theorem w957 : (Cond.code ({ cls := "Clockhouse$Big", name := "compareSize", desc := "(LClockhouse$Big;)I" } : MethodName) prog_2_method_9_code (3 : Nat) (Option.some FieldType.int)) ∈ lw_gw := am_w 957 (by decide +kernel) rfl
theorem w968 : (Cond.instanceMethod ({ cls := "Clockhouse$Big", name := "become", desc := "(LClockhouse$Big;)V" } : MethodName)) ∈ lw_gw := am_w 968 (by decide +kernel) rfl
theorem w969 : (Cond.selects "Clockhouse$Big" ({ cls := "Clockhouse$Big", name := "become", desc := "(LClockhouse$Big;)V" } : MethodName) ({ cls := "Clockhouse$Big", name := "become", desc := "(LClockhouse$Big;)V" } : MethodName)) ∈ lw_gw := am_w 969 (by decide +kernel) rfl
theorem w970 : (Cond.code ({ cls := "Clockhouse$Big", name := "become", desc := "(LClockhouse$Big;)V" } : MethodName) prog_2_method_7_code (2 : Nat) (Option.none : Option FieldType)) ∈ lw_gw := am_w 970 (by decide +kernel) rfl
theorem w971 : (Cond.methodLink "Clockhouse$Big" (22 : Nat) ({ cls := "java/lang/System", name := "arraycopy", desc := "(Ljava/lang/Object;ILjava/lang/Object;II)V" } : MethodName)) ∈ lw_gw := am_w 971 (by decide +kernel) rfl
theorem w977 : (Cond.code ({ cls := "Clockhouse$Big", name := "scaleUp", desc := "(I)V" } : MethodName) prog_2_method_13_code (7 : Nat) (Option.none : Option FieldType)) ∈ lw_gw := am_w 977 (by decide +kernel) rfl
theorem w989 : (Cond.instanceMethod ({ cls := "Clockhouse$Big", name := "put", desc := "(II)V" } : MethodName)) ∈ lw_gw := am_w 989 (by decide +kernel) rfl
theorem w990 : (Cond.selects "Clockhouse$Big" ({ cls := "Clockhouse$Big", name := "put", desc := "(II)V" } : MethodName) ({ cls := "Clockhouse$Big", name := "put", desc := "(II)V" } : MethodName)) ∈ lw_gw := am_w 990 (by decide +kernel) rfl
theorem w991 : (Cond.code ({ cls := "Clockhouse$Big", name := "put", desc := "(II)V" } : MethodName) prog_2_method_3_code (3 : Nat) (Option.none : Option FieldType)) ∈ lw_gw := am_w 991 (by decide +kernel) rfl
theorem w994 : (Cond.code ({ cls := "java/lang/Math", name := "floorDiv", desc := "(JJ)J" } : MethodName) prog_32_method_49_code (6 : Nat) (Option.some FieldType.long)) ∈ lw_gw := am_w 994 (by decide +kernel) rfl
theorem w1003 : (Cond.code ({ cls := "Clockhouse$Big", name := "scaleDown", desc := "(I)V" } : MethodName) prog_2_method_14_code (7 : Nat) (Option.none : Option FieldType)) ∈ lw_gw := am_w 1003 (by decide +kernel) rfl
theorem w1014 : (Cond.code ({ cls := "Clockhouse$Big", name := "becomeProduct", desc := "(LClockhouse$Big;LClockhouse$Big;)V" } : MethodName) prog_2_method_12_code (9 : Nat) (Option.none : Option FieldType)) ∈ lw_gw := am_w 1014 (by decide +kernel) rfl
theorem w1015 : (Cond.methodLink "Clockhouse$Big" (59 : Nat) ({ cls := "Clockhouse$Big", name := "put", desc := "(II)V" } : MethodName)) ∈ lw_gw := am_w 1015 (by decide +kernel) rfl
theorem w1051 : (Cond.instanceMethod ({ cls := "Clockhouse$Big", name := "digitCount", desc := "()I" } : MethodName)) ∈ lw_gw := am_w 1051 (by decide +kernel) rfl
theorem w1052 : (Cond.selects "Clockhouse$Big" ({ cls := "Clockhouse$Big", name := "digitCount", desc := "()I" } : MethodName) ({ cls := "Clockhouse$Big", name := "digitCount", desc := "()I" } : MethodName)) ∈ lw_gw := am_w 1052 (by decide +kernel) rfl
theorem w1053 : (Cond.code ({ cls := "Clockhouse$Big", name := "digitCount", desc := "()I" } : MethodName) prog_2_method_16_code (4 : Nat) (Option.some FieldType.int)) ∈ lw_gw := am_w 1053 (by decide +kernel) rfl
theorem w1074 : (Cond.code ({ cls := "Clockhouse$Round", name := "raise", desc := "(ILClockhouse$Big;I)I" } : MethodName) prog_9_method_5_code (6 : Nat) (Option.some FieldType.int)) ∈ lw_gw := am_w 1074 (by decide +kernel) rfl
theorem w1075 : (Cond.methodLink "Clockhouse$Round" (15 : Nat) ({ cls := "Clockhouse$Round", name := "invert", desc := "(II)I" } : MethodName)) ∈ lw_gw := am_w 1075 (by decide +kernel) rfl
theorem w1076 : (Cond.constant "Clockhouse$Round" (24 : Nat) (1000000000 : Int32)) ∈ lw_gw := am_w 1076 (by decide +kernel) rfl
theorem w1077 : (Cond.methodLink "Clockhouse$Round" (25 : Nat) ({ cls := "Clockhouse$Round", name := "raiseByInt", desc := "(III)I" } : MethodName)) ∈ lw_gw := am_w 1077 (by decide +kernel) rfl
theorem w1078 : (Cond.methodLink "Clockhouse$Round" (29 : Nat) ({ cls := "Clockhouse$Big", name := "limb", desc := "(I)I" } : MethodName)) ∈ lw_gw := am_w 1078 (by decide +kernel) rfl
theorem w1103 : (Cond.code ({ cls := "Clockhouse$PowerRow", name := "fill", desc := "(II)V" } : MethodName) prog_8_method_2_code (5 : Nat) (Option.none : Option FieldType)) ∈ lw_gw := am_w 1103 (by decide +kernel) rfl
theorem w1107 : (Cond.code ({ cls := "Clockhouse$PowerRow", name := "tellOf", desc := "(I)I" } : MethodName) prog_8_method_3_code (2 : Nat) (Option.some FieldType.int)) ∈ lw_gw := am_w 1107 (by decide +kernel) rfl
theorem w1108 : (Cond.methodLink "Clockhouse$PowerRow" (25 : Nat) ({ cls := "Clockhouse$PowerRow", name := "sumOfRow", desc := "()I" } : MethodName)) ∈ lw_gw := am_w 1108 (by decide +kernel) rfl
theorem w1110 : (Cond.instanceMethod ({ cls := "Clockhouse$PowerRow", name := "sumOfRow", desc := "()I" } : MethodName)) ∈ lw_gw := am_w 1110 (by decide +kernel) rfl
theorem w1111 : (Cond.code ({ cls := "Clockhouse$PowerRow", name := "sumOfRow", desc := "()I" } : MethodName) prog_8_method_4_code (3 : Nat) (Option.some FieldType.int)) ∈ lw_gw := am_w 1111 (by decide +kernel) rfl
theorem w1118 : (Cond.code ({ cls := "Clockhouse$Round", name := "countRoots", desc := "(II)I" } : MethodName) prog_9_method_10_code (4 : Nat) (Option.some FieldType.int)) ∈ lw_gw := am_w 1118 (by decide +kernel) rfl
theorem w1138 : (Cond.code ({ cls := "Clockhouse$Big", name := "textLength", desc := "()I" } : MethodName) prog_2_method_17_code (1 : Nat) (Option.some FieldType.int)) ∈ lw_gw := am_w 1138 (by decide +kernel) rfl
theorem w1139 : (Cond.methodLink "Clockhouse$Big" (63 : Nat) ({ cls := "Clockhouse$Big", name := "digitCount", desc := "()I" } : MethodName)) ∈ lw_gw := am_w 1139 (by decide +kernel) rfl
theorem w1169 : (Cond.code ({ cls := "Clockhouse$Generators", name := "turnTo", desc := "(I)V" } : MethodName) prog_5_method_2_code (3 : Nat) (Option.none : Option FieldType)) ∈ lw_gw := am_w 1169 (by decide +kernel) rfl
theorem w1170 : (Cond.methodLink "Clockhouse$Generators" (19 : Nat) ({ cls := "Clockhouse$Round", name := "countUnits", desc := "(I)I" } : MethodName)) ∈ lw_gw := am_w 1170 (by decide +kernel) rfl
theorem w1171 : (Cond.methodLink "Clockhouse$Generators" (31 : Nat) ({ cls := "Clockhouse$Round", name := "primeHolds", desc := "(I)Z" } : MethodName)) ∈ lw_gw := am_w 1171 (by decide +kernel) rfl
theorem w1175 : (Cond.code ({ cls := "Clockhouse$Generators", name := "findAt", desc := "(I)I" } : MethodName) prog_5_method_4_code (4 : Nat) (Option.some FieldType.int)) ∈ lw_gw := am_w 1175 (by decide +kernel) rfl
theorem w1176 : (Cond.methodLink "Clockhouse$Generators" (43 : Nat) ({ cls := "Clockhouse$Generators", name := "holds", desc := "(I)Z" } : MethodName)) ∈ lw_gw := am_w 1176 (by decide +kernel) rfl
theorem w1177 : (Cond.instanceMethod ({ cls := "Clockhouse$Generators", name := "holds", desc := "(I)Z" } : MethodName)) ∈ lw_gw := am_w 1177 (by decide +kernel) rfl
theorem w1178 : (Cond.selects "Clockhouse$Generators" ({ cls := "Clockhouse$Generators", name := "holds", desc := "(I)Z" } : MethodName) ({ cls := "Clockhouse$Generators", name := "holds", desc := "(I)Z" } : MethodName)) ∈ lw_gw := am_w 1178 (by decide +kernel) rfl
theorem w1179 : (Cond.code ({ cls := "Clockhouse$Generators", name := "holds", desc := "(I)Z" } : MethodName) prog_5_method_3_code (4 : Nat) (Option.some FieldType.boolean)) ∈ lw_gw := am_w 1179 (by decide +kernel) rfl
theorem w1180 : (Cond.methodLink "Clockhouse$Generators" (35 : Nat) ({ cls := "Clockhouse$Round", name := "commonOf", desc := "(II)I" } : MethodName)) ∈ lw_gw := am_w 1180 (by decide +kernel) rfl
theorem w1181 : (Cond.methodLink "Clockhouse$Generators" (39 : Nat) ({ cls := "Clockhouse$Round", name := "raiseByInt", desc := "(III)I" } : MethodName)) ∈ lw_gw := am_w 1181 (by decide +kernel) rfl
theorem w1218 : (Cond.code ({ cls := "Clockhouse$Past", name := "keep", desc := "(LClockhouse$State;)V" } : MethodName) prog_7_method_2_code (2 : Nat) (Option.none : Option FieldType)) ∈ lw_gw := am_w 1218 (by decide +kernel) rfl
theorem w1219 : (Cond.methodLink "Clockhouse$Past" (25 : Nat) ({ cls := "Clockhouse$State", name := "become", desc := "(LClockhouse$State;)V" } : MethodName)) ∈ lw_gw := am_w 1219 (by decide +kernel) rfl
theorem w1220 : (Cond.instanceMethod ({ cls := "Clockhouse$State", name := "become", desc := "(LClockhouse$State;)V" } : MethodName)) ∈ lw_gw := am_w 1220 (by decide +kernel) rfl
theorem w1221 : (Cond.selects "Clockhouse$State" ({ cls := "Clockhouse$State", name := "become", desc := "(LClockhouse$State;)V" } : MethodName) ({ cls := "Clockhouse$State", name := "become", desc := "(LClockhouse$State;)V" } : MethodName)) ∈ lw_gw := am_w 1221 (by decide +kernel) rfl
theorem w1222 : (Cond.code ({ cls := "Clockhouse$State", name := "become", desc := "(LClockhouse$State;)V" } : MethodName) prog_11_method_2_code (3 : Nat) (Option.none : Option FieldType)) ∈ lw_gw := am_w 1222 (by decide +kernel) rfl
theorem w1223 : (Cond.methodLink "Clockhouse$State" (32 : Nat) ({ cls := "Clockhouse$Big", name := "become", desc := "(LClockhouse$Big;)V" } : MethodName)) ∈ lw_gw := am_w 1223 (by decide +kernel) rfl
theorem w1224 : (Cond.methodLink "Clockhouse$State" (39 : Nat) ({ cls := "java/lang/System", name := "arraycopy", desc := "(Ljava/lang/Object;ILjava/lang/Object;II)V" } : MethodName)) ∈ lw_gw := am_w 1224 (by decide +kernel) rfl
theorem w1349 : (Cond.code ({ cls := "Clockhouse$State", name := "addRow", desc := "(II)V" } : MethodName) prog_11_method_3_code (3 : Nat) (Option.none : Option FieldType)) ∈ lw_gw := am_w 1349 (by decide +kernel) rfl
theorem w1350 : (Cond.methodLink "Clockhouse$State" (48 : Nat) ({ cls := "java/lang/Math", name := "floorMod", desc := "(II)I" } : MethodName)) ∈ lw_gw := am_w 1350 (by decide +kernel) rfl
theorem w1374 : (Cond.code ({ cls := "Clockhouse$State", name := "removeRow", desc := "(I)V" } : MethodName) prog_11_method_4_code (3 : Nat) (Option.none : Option FieldType)) ∈ lw_gw := am_w 1374 (by decide +kernel) rfl
theorem w1386 : (Cond.code ({ cls := "Clockhouse$State", name := "takesBase", desc := "(I)Z" } : MethodName) prog_11_method_6_code (3 : Nat) (Option.some FieldType.boolean)) ∈ lw_gw := am_w 1386 (by decide +kernel) rfl
theorem w1391 : (Cond.code ({ cls := "Clockhouse$State", name := "addBase", desc := "(I)V" } : MethodName) prog_11_method_7_code (2 : Nat) (Option.none : Option FieldType)) ∈ lw_gw := am_w 1391 (by decide +kernel) rfl
theorem w1403 : (Cond.code ({ cls := "Clockhouse$State", name := "removeBase", desc := "()I" } : MethodName) prog_11_method_8_code (1 : Nat) (Option.some FieldType.int)) ∈ lw_gw := am_w 1403 (by decide +kernel) rfl
theorem w1415 : (Cond.code ({ cls := "Clockhouse$Past", name := "bringBack", desc := "(LClockhouse$State;)V" } : MethodName) prog_7_method_3_code (2 : Nat) (Option.none : Option FieldType)) ∈ lw_gw := am_w 1415 (by decide +kernel) rfl
theorem w2048 : (Cond.arrayClass FieldType.long) ∈ lw_gw := am_w 2048 (by decide +kernel) rfl
theorem g_oi : Cond.instanceMethod objectInit ∈ lw_gw ∧ Cond.code objectInit ⟨#[0xb1]⟩ 1 none ∈ lw_gw := ⟨w122, w123⟩
theorem g_ar : Cond.arrayClass .int ∈ lw_gw ∧ Cond.arrayClass .byte ∈ lw_gw ∧ Cond.arrayClass .long ∈ lw_gw := ⟨w153, w345, w2048⟩
