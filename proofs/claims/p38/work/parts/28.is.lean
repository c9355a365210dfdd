/-! WHAT AN INSTRUCTION GIVES: the machine is closed under its step -/
def am_S (G : am_G) (p : Program) (l : Launch) (e : Env) (R : Room) (s : State) (m : MethodId) (args : Array Value) (below : List Frame) (meth : Method) (c : Code) (mc ms : Nat) (Post : am_O → List am_C → Prop) : ck_SS := fun pc L st h k n => am_R G p l e R s m args below meth c mc ms Post pc L st h k n
def am_SX (G : am_G) (p : Program) (l : Launch) (e : Env) (R : Room) (s : State) (m : MethodId) (args : Array Value) (below : List Frame) (meth : Method) (c : Code) (mc ms : Nat) (Post : am_O → List am_C → Prop) : Nat → ck_SX := fun pc E L h k n => am_RX G p l e R s m args below meth c mc ms Post E pc L h k n
section AMS
variable {G : am_G} {p : Program} {l : Launch} {e : Env} {R : Room} {s : State} {m : MethodId} {args : Array Value} {below : List Frame} {meth : Method} {c : Code} {mc ms : Nat} {Post : am_O → List am_C → Prop}
variable {own : String} {cc : ByteArray} {nL pc : Nat} {ret : Option FieldType}
theorem am_s_iconst (X : am_Cx l G p s m args meth c own cc nL ret) {i : Int} (d : decode cc pc = .ok (.iconst i, 1)) : ck_sP (am_S G p l e R s m args below meth c mc ms Post) pc (pc + 1) 0 0 i := by
  intro L st L' st' h k n e1 kk
  change some (L, Value.int (Int32.ofInt i) :: st) = some (L', st') at e1
  cases e1
  exact am_R.iconst X d rfl kk
theorem am_s_bipush (X : am_Cx l G p s m args meth c own cc nL ret) {i : Int} (d : decode cc pc = .ok (.bipush i, 2)) (hv : (Int8.ofInt i).toInt32 = Int32.ofInt i) : ck_sP (am_S G p l e R s m args below meth c mc ms Post) pc (pc + 2) 0 0 i := by
  intro L st L' st' h k n e1 kk
  change some (L, Value.int (Int32.ofInt i) :: st) = some (L', st') at e1
  cases e1
  exact am_R.bipush X d hv kk
theorem am_s_sipush (X : am_Cx l G p s m args meth c own cc nL ret) {i : Int} (d : decode cc pc = .ok (.sipush i, 3)) (hv : (Int16.ofInt i).toInt32 = Int32.ofInt i) : ck_sP (am_S G p l e R s m args below meth c mc ms Post) pc (pc + 3) 0 0 i := by
  intro L st L' st' h k n e1 kk
  change some (L, Value.int (Int32.ofInt i) :: st) = some (L', st') at e1
  cases e1
  exact am_R.sipush X d hv kk
theorem am_s_lconst (X : am_Cx l G p s m args meth c own cc nL ret) {i : Fin 2} (d : decode cc pc = .ok (.lconst i, 1)) : ck_sP (am_S G p l e R s m args below meth c mc ms Post) pc (pc + 1) 1 0 ((i : Nat) : Int) := by
  intro L st L' st' h k n e1 kk
  change some (L, Value.long (Int64.ofInt ((i : Nat) : Int)) :: st) = some (L', st') at e1
  cases e1
  exact am_R.lconst X d (by match i with | 0 => rfl | 1 => rfl) kk
theorem am_s_ldc (X : am_Cx l G p s m args meth c own cc nL ret) {i : Nat} {v : Int} (hw : Cond.constant own i (Int32.ofInt v) ∈ lw_gw) (d : decode cc pc = .ok (.ldc i, 2)) : ck_sP (am_S G p l e R s m args below meth c mc ms Post) pc (pc + 2) 0 0 v := by
  intro L st L' st' h k n e1 kk
  change some (L, Value.int (Int32.ofInt v) :: st) = some (L', st') at e1
  cases e1
  exact am_R.ldc X hw d kk
theorem am_s_ldc_w (X : am_Cx l G p s m args meth c own cc nL ret) {i : Nat} {v : Int} (hw : Cond.constant own i (Int32.ofInt v) ∈ lw_gw) (d : decode cc pc = .ok (.ldc_w i, 3)) : ck_sP (am_S G p l e R s m args below meth c mc ms Post) pc (pc + 3) 0 0 v := by
  intro L st L' st' h k n e1 kk
  change some (L, Value.int (Int32.ofInt v) :: st) = some (L', st') at e1
  cases e1
  exact am_R.ldc_w X hw d kk
theorem am_s_ldc2 (X : am_Cx l G p s m args meth c own cc nL ret) {i : Nat} {v : Int} (hw : Cond.constantLong own i (Int64.ofInt v) ∈ lw_gw) (d : decode cc pc = .ok (.ldc2_w i, 3)) : ck_sP (am_S G p l e R s m args below meth c mc ms Post) pc (pc + 3) 1 0 v := by
  intro L st L' st' h k n e1 kk
  change some (L, Value.long (Int64.ofInt v) :: st) = some (L', st') at e1
  cases e1
  exact am_R.ldc2 X hw d kk
theorem am_s_null (X : am_Cx l G p s m args meth c own cc nL ret) (d : decode cc pc = .ok (.aconst_null, 1)) : ck_sP (am_S G p l e R s m args below meth c mc ms Post) pc (pc + 1) 2 0 0 := by
  intro L st L' st' h k n e1 kk
  change some (L, Value.null :: st) = some (L', st') at e1
  cases e1
  exact am_R.null X d kk
theorem am_s_ldcs (X : am_Cx l G p s m args meth c own cc nL ret) {i q : Nat} {tx : String} (hz : (own, i, tx, q) ∈ am_T) (d : decode cc pc = .ok (.ldc i, 2)) : ck_sP (am_S G p l e R s m args below meth c mc ms Post) pc (pc + 2) 22 q 0 := by
  intro L st L' st' h k n e1 kk
  change some (L, Value.ref q :: st) = some (L', st') at e1
  cases e1
  exact am_R.ldcs X hz d kk
theorem am_s_ldcsw (X : am_Cx l G p s m args meth c own cc nL ret) {i q : Nat} {tx : String} (hz : (own, i, tx, q) ∈ am_T) (d : decode cc pc = .ok (.ldc_w i, 3)) : ck_sP (am_S G p l e R s m args below meth c mc ms Post) pc (pc + 3) 22 q 0 := by
  intro L st L' st' h k n e1 kk
  change some (L, Value.ref q :: st) = some (L', st') at e1
  cases e1
  exact am_R.ldcsw X hz d kk
theorem am_s_getsI (X : am_Cx l G p s m args meth c own cc nL ret) {i : Nat} {v : Int} {z : String × String × String × Value} (hz : z ∈ am_Z) (hl : Cond.fieldLink own i z.1 z.2.1 z.2.2.1 ∈ lw_gw) (hv : z.2.2.2 = .int (Int32.ofInt v)) (d : decode cc pc = .ok (.getstatic i, 3)) : ck_sP (am_S G p l e R s m args below meth c mc ms Post) pc (pc + 3) 0 0 v := by
  intro L st L' st' h k n e1 kk
  change some (L, Value.int (Int32.ofInt v) :: st) = some (L', st') at e1
  cases e1
  exact am_R.gets X hz hl d (by rw [hv]; exact kk)
theorem am_s_getsR (X : am_Cx l G p s m args meth c own cc nL ret) {i v : Nat} {z : String × String × String × Value} (hz : z ∈ am_Z) (hl : Cond.fieldLink own i z.1 z.2.1 z.2.2.1 ∈ lw_gw) (hv : z.2.2.2 = .ref v) (d : decode cc pc = .ok (.getstatic i, 3)) : ck_sP (am_S G p l e R s m args below meth c mc ms Post) pc (pc + 3) 22 v 0 := by
  intro L st L' st' h k n e1 kk
  change some (L, Value.ref v :: st) = some (L', st') at e1
  cases e1
  exact am_R.gets X hz hl d (by rw [hv]; exact kk)
theorem am_s_iload_n (X : am_Cx l G p s m args meth c own cc nL ret) {i : Fin 4} (d : decode cc pc = .ok (.iload_n i, 1)) : ck_sP (am_S G p l e R s m args below meth c mc ms Post) pc (pc + 1) 3 (i : Nat) 0 := by
  intro L st L' st' h k n e1 kk
  simp only [ck_cf] at e1
  split at e1
  · next hx =>
    cases e1
    exact am_R.iload_n X d hx kk
  · cases e1
theorem am_s_iload (X : am_Cx l G p s m args meth c own cc nL ret) {i : Nat} (d : decode cc pc = .ok (.iload i, 2)) : ck_sP (am_S G p l e R s m args below meth c mc ms Post) pc (pc + 2) 3 i 0 := by
  intro L st L' st' h k n e1 kk
  simp only [ck_cf] at e1
  split at e1
  · next hx =>
    cases e1
    exact am_R.iload X d hx kk
  · cases e1
theorem am_s_lload_n (X : am_Cx l G p s m args meth c own cc nL ret) {i : Fin 4} (d : decode cc pc = .ok (.lload_n i, 1)) : ck_sP (am_S G p l e R s m args below meth c mc ms Post) pc (pc + 1) 4 (i : Nat) 0 := by
  intro L st L' st' h k n e1 kk
  simp only [ck_cf] at e1
  split at e1
  · next hx =>
    cases e1
    exact am_R.lload_n X d hx kk
  · cases e1
theorem am_s_lload (X : am_Cx l G p s m args meth c own cc nL ret) {i : Nat} (d : decode cc pc = .ok (.lload i, 2)) : ck_sP (am_S G p l e R s m args below meth c mc ms Post) pc (pc + 2) 4 i 0 := by
  intro L st L' st' h k n e1 kk
  simp only [ck_cf] at e1
  split at e1
  · next hx =>
    cases e1
    exact am_R.lload X d hx kk
  · cases e1
theorem am_s_aload_n (X : am_Cx l G p s m args meth c own cc nL ret) {i : Fin 4} (d : decode cc pc = .ok (.aload_n i, 1)) : ck_sP (am_S G p l e R s m args below meth c mc ms Post) pc (pc + 1) 5 (i : Nat) 0 := by
  intro L st L' st' h k n e1 kk
  simp only [ck_cf] at e1
  split at e1
  · next hx =>
    cases e1
    exact am_R.aload_n X d hx kk
  · next hx =>
    cases e1
    exact am_R.aload_nN X d hx kk
  · cases e1
theorem am_s_aload (X : am_Cx l G p s m args meth c own cc nL ret) {i : Nat} (d : decode cc pc = .ok (.aload i, 2)) : ck_sP (am_S G p l e R s m args below meth c mc ms Post) pc (pc + 2) 5 i 0 := by
  intro L st L' st' h k n e1 kk
  simp only [ck_cf] at e1
  split at e1
  · next hx =>
    cases e1
    exact am_R.aload X d hx kk
  · next hx =>
    cases e1
    exact am_R.aloadN X d hx kk
  · cases e1
theorem am_s_istore_n (X : am_Cx l G p s m args meth c own cc nL ret) {i : Fin 4} (d : decode cc pc = .ok (.istore_n i, 1)) : ck_sP (am_S G p l e R s m args below meth c mc ms Post) pc (pc + 1) 6 (i : Nat) 0 := by
  intro L st L' st' h k n e1 kk
  match st, e1 with
  | .int x :: st, e1 =>
    simp only [ck_cf] at e1
    split at e1
    · next hi =>
      cases e1
      exact am_R.istore_n X d hi kk
    · cases e1
theorem am_s_istore (X : am_Cx l G p s m args meth c own cc nL ret) {i : Nat} (d : decode cc pc = .ok (.istore i, 2)) : ck_sP (am_S G p l e R s m args below meth c mc ms Post) pc (pc + 2) 6 i 0 := by
  intro L st L' st' h k n e1 kk
  match st, e1 with
  | .int x :: st, e1 =>
    simp only [ck_cf] at e1
    split at e1
    · next hi =>
      cases e1
      exact am_R.istore X d hi kk
    · cases e1
theorem am_s_lstore_n (X : am_Cx l G p s m args meth c own cc nL ret) {i : Fin 4} (d : decode cc pc = .ok (.lstore_n i, 1)) : ck_sP (am_S G p l e R s m args below meth c mc ms Post) pc (pc + 1) 7 (i : Nat) 0 := by
  intro L st L' st' h k n e1 kk
  match st, e1 with
  | .long x :: st, e1 =>
    simp only [ck_cf] at e1
    split at e1
    · next hi =>
      cases e1
      exact am_R.lstore_n X d hi kk
    · cases e1
theorem am_s_lstore (X : am_Cx l G p s m args meth c own cc nL ret) {i : Nat} (d : decode cc pc = .ok (.lstore i, 2)) : ck_sP (am_S G p l e R s m args below meth c mc ms Post) pc (pc + 2) 7 i 0 := by
  intro L st L' st' h k n e1 kk
  match st, e1 with
  | .long x :: st, e1 =>
    simp only [ck_cf] at e1
    split at e1
    · next hi =>
      cases e1
      exact am_R.lstore X d hi kk
    · cases e1
theorem am_s_astore_n (X : am_Cx l G p s m args meth c own cc nL ret) {i : Fin 4} (d : decode cc pc = .ok (.astore_n i, 1)) : ck_sP (am_S G p l e R s m args below meth c mc ms Post) pc (pc + 1) 8 (i : Nat) 0 := by
  intro L st L' st' h k n e1 kk
  match st, e1 with
  | .ref x :: st, e1 =>
    simp only [ck_cf] at e1
    split at e1
    · next hi =>
      cases e1
      exact am_R.astore_n X d hi kk
    · cases e1
  | .null :: st, e1 =>
    simp only [ck_cf] at e1
    split at e1
    · next hi =>
      cases e1
      exact am_R.astore_nN X d hi kk
    · cases e1
theorem am_s_astore (X : am_Cx l G p s m args meth c own cc nL ret) {i : Nat} (d : decode cc pc = .ok (.astore i, 2)) : ck_sP (am_S G p l e R s m args below meth c mc ms Post) pc (pc + 2) 8 i 0 := by
  intro L st L' st' h k n e1 kk
  match st, e1 with
  | .ref x :: st, e1 =>
    simp only [ck_cf] at e1
    split at e1
    · next hi =>
      cases e1
      exact am_R.astore X d hi kk
    · cases e1
  | .null :: st, e1 =>
    simp only [ck_cf] at e1
    split at e1
    · next hi =>
      cases e1
      exact am_R.astoreN X d hi kk
    · cases e1
theorem am_s_iinc (X : am_Cx l G p s m args meth c own cc nL ret) {i : Nat} {j : Int} (d : decode cc pc = .ok (.iinc i j, 3)) : ck_sP (am_S G p l e R s m args below meth c mc ms Post) pc (pc + 3) 9 i j := by
  intro L st L' st' h k n e1 kk
  simp only [ck_cf] at e1
  split at e1
  · next hx =>
    cases e1
    exact am_R.iinc X d hx kk
  · cases e1
theorem am_s_pop (X : am_Cx l G p s m args meth c own cc nL ret) (d : decode cc pc = .ok (.pop, 1)) : ck_sP (am_S G p l e R s m args below meth c mc ms Post) pc (pc + 1) 10 0 0 := by
  intro L st L' st' h k n e1 kk
  match st, e1 with
  | w :: st, e1 =>
    simp only [ck_cf] at e1
    split at e1
    · next hi =>
      cases e1
      exact am_R.pop X hi d kk
    · cases e1
theorem am_s_dup (X : am_Cx l G p s m args meth c own cc nL ret) (d : decode cc pc = .ok (.dup, 1)) : ck_sP (am_S G p l e R s m args below meth c mc ms Post) pc (pc + 1) 12 0 0 := by
  intro L st L' st' h k n e1 kk
  match st, e1 with
  | w :: st, e1 =>
    simp only [ck_cf] at e1
    split at e1
    · next hi =>
      cases e1
      exact am_R.dup X hi d kk
    · cases e1
theorem am_s_dup_x1 (X : am_Cx l G p s m args meth c own cc nL ret) (d : decode cc pc = .ok (.dup_x1, 1)) : ck_sP (am_S G p l e R s m args below meth c mc ms Post) pc (pc + 1) 13 0 0 := by
  intro L st L' st' h k n e1 kk
  match st, e1 with
  | u :: w :: st, e1 =>
    simp only [ck_cf] at e1
    split at e1
    · next hi =>
      cases e1
      exact am_R.dup_x1 X hi.1 hi.2 d kk
    · cases e1
theorem am_s_dup2 (X : am_Cx l G p s m args meth c own cc nL ret) (d : decode cc pc = .ok (.dup2, 1)) : ck_sP (am_S G p l e R s m args below meth c mc ms Post) pc (pc + 1) 14 0 0 := by
  intro L st L' st' h k n e1 kk
  match st, e1 with
  | u :: w :: st, e1 =>
    simp only [ck_cf] at e1
    split at e1
    · next hi =>
      cases e1
      exact am_R.dup2 X hi.1 hi.2 d kk
    · cases e1
theorem am_s_iadd (X : am_Cx l G p s m args meth c own cc nL ret) (d : decode cc pc = .ok (.iadd, 1)) : ck_sP (am_S G p l e R s m args below meth c mc ms Post) pc (pc + 1) 15 0 0 := by
  intro L st L' st' h k n e1 kk
  match st, e1 with
  | .int y :: .int x :: st, e1 =>
    simp only [ck_cf] at e1
    split at e1
    · cases e1
    · next hi =>
      cases e1
      exact am_R.iadd X d kk
theorem am_s_isub (X : am_Cx l G p s m args meth c own cc nL ret) (d : decode cc pc = .ok (.isub, 1)) : ck_sP (am_S G p l e R s m args below meth c mc ms Post) pc (pc + 1) 15 1 0 := by
  intro L st L' st' h k n e1 kk
  match st, e1 with
  | .int y :: .int x :: st, e1 =>
    simp only [ck_cf] at e1
    split at e1
    · cases e1
    · next hi =>
      cases e1
      exact am_R.isub X d kk
theorem am_s_imul (X : am_Cx l G p s m args meth c own cc nL ret) (d : decode cc pc = .ok (.imul, 1)) : ck_sP (am_S G p l e R s m args below meth c mc ms Post) pc (pc + 1) 15 2 0 := by
  intro L st L' st' h k n e1 kk
  match st, e1 with
  | .int y :: .int x :: st, e1 =>
    simp only [ck_cf] at e1
    split at e1
    · cases e1
    · next hi =>
      cases e1
      exact am_R.imul X d kk
theorem am_s_idiv (X : am_Cx l G p s m args meth c own cc nL ret) (d : decode cc pc = .ok (.idiv, 1)) : ck_sP (am_S G p l e R s m args below meth c mc ms Post) pc (pc + 1) 15 3 0 := by
  intro L st L' st' h k n e1 kk
  match st, e1 with
  | .int y :: .int x :: st, e1 =>
    simp only [ck_cf] at e1
    split at e1
    · cases e1
    · next hi =>
      cases e1
      exact am_R.idiv X (fun z => hi ⟨rfl, z⟩) d kk
theorem am_s_irem (X : am_Cx l G p s m args meth c own cc nL ret) (d : decode cc pc = .ok (.irem, 1)) : ck_sP (am_S G p l e R s m args below meth c mc ms Post) pc (pc + 1) 15 4 0 := by
  intro L st L' st' h k n e1 kk
  match st, e1 with
  | .int y :: .int x :: st, e1 =>
    simp only [ck_cf] at e1
    split at e1
    · cases e1
    · next hi =>
      cases e1
      exact am_R.irem X (fun z => hi ⟨rfl, z⟩) d kk
theorem am_s_iand (X : am_Cx l G p s m args meth c own cc nL ret) (d : decode cc pc = .ok (.iand, 1)) : ck_sP (am_S G p l e R s m args below meth c mc ms Post) pc (pc + 1) 15 5 0 := by
  intro L st L' st' h k n e1 kk
  match st, e1 with
  | .int y :: .int x :: st, e1 =>
    simp only [ck_cf] at e1
    split at e1
    · cases e1
    · next hi =>
      cases e1
      exact am_R.iand X d kk
theorem am_s_ior (X : am_Cx l G p s m args meth c own cc nL ret) (d : decode cc pc = .ok (.ior, 1)) : ck_sP (am_S G p l e R s m args below meth c mc ms Post) pc (pc + 1) 15 6 0 := by
  intro L st L' st' h k n e1 kk
  match st, e1 with
  | .int y :: .int x :: st, e1 =>
    simp only [ck_cf] at e1
    split at e1
    · cases e1
    · next hi =>
      cases e1
      exact am_R.ior X d kk
theorem am_s_ixor (X : am_Cx l G p s m args meth c own cc nL ret) (d : decode cc pc = .ok (.ixor, 1)) : ck_sP (am_S G p l e R s m args below meth c mc ms Post) pc (pc + 1) 15 7 0 := by
  intro L st L' st' h k n e1 kk
  match st, e1 with
  | .int y :: .int x :: st, e1 =>
    simp only [ck_cf] at e1
    split at e1
    · cases e1
    · next hi =>
      cases e1
      exact am_R.ixor X d kk
theorem am_s_ishl (X : am_Cx l G p s m args meth c own cc nL ret) (d : decode cc pc = .ok (.ishl, 1)) : ck_sP (am_S G p l e R s m args below meth c mc ms Post) pc (pc + 1) 15 8 0 := by
  intro L st L' st' h k n e1 kk
  match st, e1 with
  | .int y :: .int x :: st, e1 =>
    simp only [ck_cf] at e1
    split at e1
    · cases e1
    · next hi =>
      cases e1
      exact am_R.ishl X d kk
theorem am_s_ishr (X : am_Cx l G p s m args meth c own cc nL ret) (d : decode cc pc = .ok (.ishr, 1)) : ck_sP (am_S G p l e R s m args below meth c mc ms Post) pc (pc + 1) 15 9 0 := by
  intro L st L' st' h k n e1 kk
  match st, e1 with
  | .int y :: .int x :: st, e1 =>
    simp only [ck_cf] at e1
    split at e1
    · cases e1
    · next hi =>
      cases e1
      exact am_R.ishr X d kk
theorem am_s_iushr (X : am_Cx l G p s m args meth c own cc nL ret) (d : decode cc pc = .ok (.iushr, 1)) : ck_sP (am_S G p l e R s m args below meth c mc ms Post) pc (pc + 1) 15 10 0 := by
  intro L st L' st' h k n e1 kk
  match st, e1 with
  | .int y :: .int x :: st, e1 =>
    simp only [ck_cf] at e1
    split at e1
    · cases e1
    · next hi =>
      cases e1
      exact am_R.iushr X d kk
theorem am_s_ladd (X : am_Cx l G p s m args meth c own cc nL ret) (d : decode cc pc = .ok (.ladd, 1)) : ck_sP (am_S G p l e R s m args below meth c mc ms Post) pc (pc + 1) 16 0 0 := by
  intro L st L' st' h k n e1 kk
  match st, e1 with
  | .long y :: .long x :: st, e1 =>
    simp only [ck_cf] at e1
    split at e1
    · cases e1
    · next hi =>
      cases e1
      exact am_R.ladd X d kk
theorem am_s_lsub (X : am_Cx l G p s m args meth c own cc nL ret) (d : decode cc pc = .ok (.lsub, 1)) : ck_sP (am_S G p l e R s m args below meth c mc ms Post) pc (pc + 1) 16 1 0 := by
  intro L st L' st' h k n e1 kk
  match st, e1 with
  | .long y :: .long x :: st, e1 =>
    simp only [ck_cf] at e1
    split at e1
    · cases e1
    · next hi =>
      cases e1
      exact am_R.lsub X d kk
theorem am_s_lmul (X : am_Cx l G p s m args meth c own cc nL ret) (d : decode cc pc = .ok (.lmul, 1)) : ck_sP (am_S G p l e R s m args below meth c mc ms Post) pc (pc + 1) 16 2 0 := by
  intro L st L' st' h k n e1 kk
  match st, e1 with
  | .long y :: .long x :: st, e1 =>
    simp only [ck_cf] at e1
    split at e1
    · cases e1
    · next hi =>
      cases e1
      exact am_R.lmul X d kk
theorem am_s_ldiv (X : am_Cx l G p s m args meth c own cc nL ret) (d : decode cc pc = .ok (.ldiv, 1)) : ck_sP (am_S G p l e R s m args below meth c mc ms Post) pc (pc + 1) 16 3 0 := by
  intro L st L' st' h k n e1 kk
  match st, e1 with
  | .long y :: .long x :: st, e1 =>
    simp only [ck_cf] at e1
    split at e1
    · cases e1
    · next hi =>
      cases e1
      exact am_R.ldiv X (fun z => hi ⟨rfl, z⟩) d kk
theorem am_s_lrem (X : am_Cx l G p s m args meth c own cc nL ret) (d : decode cc pc = .ok (.lrem, 1)) : ck_sP (am_S G p l e R s m args below meth c mc ms Post) pc (pc + 1) 16 4 0 := by
  intro L st L' st' h k n e1 kk
  match st, e1 with
  | .long y :: .long x :: st, e1 =>
    simp only [ck_cf] at e1
    split at e1
    · cases e1
    · next hi =>
      cases e1
      exact am_R.lrem X (fun z => hi ⟨rfl, z⟩) d kk
theorem am_s_lxor (X : am_Cx l G p s m args meth c own cc nL ret) (d : decode cc pc = .ok (.lxor, 1)) : ck_sP (am_S G p l e R s m args below meth c mc ms Post) pc (pc + 1) 16 7 0 := by
  intro L st L' st' h k n e1 kk
  match st, e1 with
  | .long y :: .long x :: st, e1 =>
    simp only [ck_cf] at e1
    split at e1
    · cases e1
    · next hi =>
      cases e1
      exact am_R.lxor X d kk
theorem am_s_ineg (X : am_Cx l G p s m args meth c own cc nL ret) (d : decode cc pc = .ok (.ineg, 1)) : ck_sP (am_S G p l e R s m args below meth c mc ms Post) pc (pc + 1) 17 0 0 := by
  intro L st L' st' h k n e1 kk
  match st, e1 with
  | .int x :: st, e1 =>
    change some (L, Value.int (-x) :: st) = some (L', st') at e1
    cases e1
    exact am_R.ineg X d kk
theorem am_s_i2b (X : am_Cx l G p s m args meth c own cc nL ret) (d : decode cc pc = .ok (.i2b, 1)) : ck_sP (am_S G p l e R s m args below meth c mc ms Post) pc (pc + 1) 17 1 0 := by
  intro L st L' st' h k n e1 kk
  match st, e1 with
  | .int x :: st, e1 =>
    change some (L, Value.int x.toInt8.toInt32 :: st) = some (L', st') at e1
    cases e1
    exact am_R.i2b X d kk
theorem am_s_i2c (X : am_Cx l G p s m args meth c own cc nL ret) (d : decode cc pc = .ok (.i2c, 1)) : ck_sP (am_S G p l e R s m args below meth c mc ms Post) pc (pc + 1) 17 2 0 := by
  intro L st L' st' h k n e1 kk
  match st, e1 with
  | .int x :: st, e1 =>
    change some (L, Value.int (x.toUInt32 % 65536).toInt32 :: st) = some (L', st') at e1
    cases e1
    exact am_R.i2c X d kk
theorem am_s_lneg (X : am_Cx l G p s m args meth c own cc nL ret) (d : decode cc pc = .ok (.lneg, 1)) : ck_sP (am_S G p l e R s m args below meth c mc ms Post) pc (pc + 1) 18 0 0 := by
  intro L st L' st' h k n e1 kk
  match st, e1 with
  | .long x :: st, e1 =>
    change some (L, Value.long (-x) :: st) = some (L', st') at e1
    cases e1
    exact am_R.lneg X d kk
theorem am_s_i2l (X : am_Cx l G p s m args meth c own cc nL ret) (d : decode cc pc = .ok (.i2l, 1)) : ck_sP (am_S G p l e R s m args below meth c mc ms Post) pc (pc + 1) 19 0 0 := by
  intro L st L' st' h k n e1 kk
  match st, e1 with
  | .int x :: st, e1 =>
    change some (L, Value.long x.toInt64 :: st) = some (L', st') at e1
    cases e1
    exact am_R.i2l X d kk
theorem am_s_l2i (X : am_Cx l G p s m args meth c own cc nL ret) (d : decode cc pc = .ok (.l2i, 1)) : ck_sP (am_S G p l e R s m args below meth c mc ms Post) pc (pc + 1) 20 0 0 := by
  intro L st L' st' h k n e1 kk
  match st, e1 with
  | .long x :: st, e1 =>
    change some (L, Value.int x.toInt32 :: st) = some (L', st') at e1
    cases e1
    exact am_R.l2i X d kk
theorem am_s_lcmp (X : am_Cx l G p s m args meth c own cc nL ret) (d : decode cc pc = .ok (.lcmp, 1)) : ck_sP (am_S G p l e R s m args below meth c mc ms Post) pc (pc + 1) 21 0 0 := by
  intro L st L' st' h k n e1 kk
  match st, e1 with
  | .long y :: .long x :: st, e1 =>
    change some (L, Value.int (lg_cmp x y) :: st) = some (L', st') at e1
    cases e1
    exact am_R.lcmp X d kk
theorem am_z0 {x : Int32} : x = 0 ↔ x.toInt = 0 := ⟨fun h => by rw [h]; rfl, fun h => Int32.toInt_inj.mp h⟩
theorem am_lt0 {x : Int32} : x < 0 ↔ x.toInt < 0 := Int32.lt_iff_toInt_lt
theorem am_le0 {x : Int32} : x ≤ 0 ↔ x.toInt ≤ 0 := Int32.le_iff_toInt_le
theorem am_ge0 {x : Int32} : 0 ≤ x ↔ 0 ≤ x.toInt := Int32.le_iff_toInt_le
theorem am_gt0 {x : Int32} : 0 < x ↔ 0 < x.toInt := Int32.lt_iff_toInt_lt
theorem am_v0 (c : Nat) (x y : Int32) : (ck_cv 0 x.toInt ↔ x = 0) ∧ (ck_cv 1 x.toInt ↔ x ≠ 0) ∧ (ck_cv 2 x.toInt ↔ x < 0) ∧ (ck_cv 3 x.toInt ↔ 0 ≤ x) ∧ (ck_cv 4 x.toInt ↔ 0 < x) ∧ (ck_cv 5 x.toInt ↔ x ≤ 0) :=
  ⟨am_z0.symm, not_congr am_z0.symm, am_lt0.symm, am_ge0.symm, am_gt0.symm, am_le0.symm⟩
theorem am_v2 (x y : Int32) : (ck_cv 0 (x.toInt - y.toInt) ↔ x = y) ∧ (ck_cv 1 (x.toInt - y.toInt) ↔ x ≠ y) ∧ (ck_cv 2 (x.toInt - y.toInt) ↔ x < y) ∧ (ck_cv 3 (x.toInt - y.toInt) ↔ y ≤ x) ∧ (ck_cv 4 (x.toInt - y.toInt) ↔ y < x) ∧ (ck_cv 5 (x.toInt - y.toInt) ↔ x ≤ y) := by
  have e1 : ck_cv 0 (x.toInt - y.toInt) ↔ x = y := ⟨fun h => Int32.toInt_inj.mp (by have h : x.toInt - y.toInt = 0 := h; omega), fun h => by rw [h]; show y.toInt - y.toInt = 0; omega⟩
  refine ⟨e1, not_congr e1, ?_, ?_, ?_, ?_⟩
  · rw [Int32.lt_iff_toInt_lt]; show x.toInt - y.toInt < 0 ↔ _; omega
  · rw [Int32.le_iff_toInt_le]; show 0 ≤ x.toInt - y.toInt ↔ _; omega
  · rw [Int32.lt_iff_toInt_lt]; show 0 < x.toInt - y.toInt ↔ _; omega
  · rw [Int32.le_iff_toInt_le]; show x.toInt - y.toInt ≤ 0 ↔ _; omega
theorem am_s_if_eq (X : am_Cx l G p s m args meth c own cc nL ret) {off : Int} {t : Nat} (d : decode cc pc = .ok (.ifCond .eq off, 3)) (ht : (pc : Int) + off = (t : Int)) : ck_sI (am_S G p l e R s m args below meth c mc ms Post) pc (pc + 3) 0 t :=
  fun L x st h k n kt kf => am_R.if_eq X t d ht (fun z => kt ((am_v0 0 x x).1.mpr z)) (fun z => kf (fun z2 => z ((am_v0 0 x x).1.mp z2)))
theorem am_s_icmp_eq (X : am_Cx l G p s m args meth c own cc nL ret) {off : Int} {t : Nat} (d : decode cc pc = .ok (.if_icmp .eq off, 3)) (ht : (pc : Int) + off = (t : Int)) : ck_sC (am_S G p l e R s m args below meth c mc ms Post) pc (pc + 3) 0 t :=
  fun L x y st h k n kt kf => am_R.icmp_eq X t d ht (fun z => kt ((am_v2 x y).1.mpr z)) (fun z => kf (fun z2 => z ((am_v2 x y).1.mp z2)))
theorem am_s_if_ne (X : am_Cx l G p s m args meth c own cc nL ret) {off : Int} {t : Nat} (d : decode cc pc = .ok (.ifCond .ne off, 3)) (ht : (pc : Int) + off = (t : Int)) : ck_sI (am_S G p l e R s m args below meth c mc ms Post) pc (pc + 3) 1 t :=
  fun L x st h k n kt kf => am_R.if_ne X t d ht (fun z => kt ((am_v0 0 x x).2.1.mpr z)) (fun z => kf (fun z2 => (am_v0 0 x x).2.1.mp z2 z))
theorem am_s_icmp_ne (X : am_Cx l G p s m args meth c own cc nL ret) {off : Int} {t : Nat} (d : decode cc pc = .ok (.if_icmp .ne off, 3)) (ht : (pc : Int) + off = (t : Int)) : ck_sC (am_S G p l e R s m args below meth c mc ms Post) pc (pc + 3) 1 t :=
  fun L x y st h k n kt kf => am_R.icmp_ne X t d ht (fun z => kt ((am_v2 x y).2.1.mpr z)) (fun z => kf (fun z2 => (am_v2 x y).2.1.mp z2 z))
theorem am_s_if_lt (X : am_Cx l G p s m args meth c own cc nL ret) {off : Int} {t : Nat} (d : decode cc pc = .ok (.ifCond .lt off, 3)) (ht : (pc : Int) + off = (t : Int)) : ck_sI (am_S G p l e R s m args below meth c mc ms Post) pc (pc + 3) 2 t :=
  fun L x st h k n kt kf => am_R.if_lt X t d ht (fun z => kt ((am_v0 0 x x).2.2.1.mpr z)) (fun z => kf (fun z2 => z ((am_v0 0 x x).2.2.1.mp z2)))
theorem am_s_icmp_lt (X : am_Cx l G p s m args meth c own cc nL ret) {off : Int} {t : Nat} (d : decode cc pc = .ok (.if_icmp .lt off, 3)) (ht : (pc : Int) + off = (t : Int)) : ck_sC (am_S G p l e R s m args below meth c mc ms Post) pc (pc + 3) 2 t :=
  fun L x y st h k n kt kf => am_R.icmp_lt X t d ht (fun z => kt ((am_v2 x y).2.2.1.mpr z)) (fun z => kf (fun z2 => z ((am_v2 x y).2.2.1.mp z2)))
theorem am_s_if_ge (X : am_Cx l G p s m args meth c own cc nL ret) {off : Int} {t : Nat} (d : decode cc pc = .ok (.ifCond .ge off, 3)) (ht : (pc : Int) + off = (t : Int)) : ck_sI (am_S G p l e R s m args below meth c mc ms Post) pc (pc + 3) 3 t :=
  fun L x st h k n kt kf => am_R.if_ge X t d ht (fun z => kt ((am_v0 0 x x).2.2.2.1.mpr z)) (fun z => kf (fun z2 => z ((am_v0 0 x x).2.2.2.1.mp z2)))
theorem am_s_icmp_ge (X : am_Cx l G p s m args meth c own cc nL ret) {off : Int} {t : Nat} (d : decode cc pc = .ok (.if_icmp .ge off, 3)) (ht : (pc : Int) + off = (t : Int)) : ck_sC (am_S G p l e R s m args below meth c mc ms Post) pc (pc + 3) 3 t :=
  fun L x y st h k n kt kf => am_R.icmp_ge X t d ht (fun z => kt ((am_v2 x y).2.2.2.1.mpr z)) (fun z => kf (fun z2 => z ((am_v2 x y).2.2.2.1.mp z2)))
theorem am_s_if_gt (X : am_Cx l G p s m args meth c own cc nL ret) {off : Int} {t : Nat} (d : decode cc pc = .ok (.ifCond .gt off, 3)) (ht : (pc : Int) + off = (t : Int)) : ck_sI (am_S G p l e R s m args below meth c mc ms Post) pc (pc + 3) 4 t :=
  fun L x st h k n kt kf => am_R.if_gt X t d ht (fun z => kt ((am_v0 0 x x).2.2.2.2.1.mpr z)) (fun z => kf (fun z2 => z ((am_v0 0 x x).2.2.2.2.1.mp z2)))
theorem am_s_icmp_gt (X : am_Cx l G p s m args meth c own cc nL ret) {off : Int} {t : Nat} (d : decode cc pc = .ok (.if_icmp .gt off, 3)) (ht : (pc : Int) + off = (t : Int)) : ck_sC (am_S G p l e R s m args below meth c mc ms Post) pc (pc + 3) 4 t :=
  fun L x y st h k n kt kf => am_R.icmp_gt X t d ht (fun z => kt ((am_v2 x y).2.2.2.2.1.mpr z)) (fun z => kf (fun z2 => z ((am_v2 x y).2.2.2.2.1.mp z2)))
theorem am_s_if_le (X : am_Cx l G p s m args meth c own cc nL ret) {off : Int} {t : Nat} (d : decode cc pc = .ok (.ifCond .le off, 3)) (ht : (pc : Int) + off = (t : Int)) : ck_sI (am_S G p l e R s m args below meth c mc ms Post) pc (pc + 3) 5 t :=
  fun L x st h k n kt kf => am_R.if_le X t d ht (fun z => kt ((am_v0 0 x x).2.2.2.2.2.mpr z)) (fun z => kf (fun z2 => z ((am_v0 0 x x).2.2.2.2.2.mp z2)))
theorem am_s_icmp_le (X : am_Cx l G p s m args meth c own cc nL ret) {off : Int} {t : Nat} (d : decode cc pc = .ok (.if_icmp .le off, 3)) (ht : (pc : Int) + off = (t : Int)) : ck_sC (am_S G p l e R s m args below meth c mc ms Post) pc (pc + 3) 5 t :=
  fun L x y st h k n kt kf => am_R.icmp_le X t d ht (fun z => kt ((am_v2 x y).2.2.2.2.2.mpr z)) (fun z => kf (fun z2 => z ((am_v2 x y).2.2.2.2.2.mp z2)))
theorem am_s_if (X : am_Cx l G p s m args meth c own cc nL ret) {co : Jvm.ClassFile.Cond} {off : Int} {t : Nat} (d : decode cc pc = .ok (.ifCond co off, 3)) (ht : (pc : Int) + off = (t : Int)) : ck_sI (am_S G p l e R s m args below meth c mc ms Post) pc (pc + 3) (ck_cc co) t := by
  cases co
  · exact am_s_if_eq X d ht
  · exact am_s_if_ne X d ht
  · exact am_s_if_lt X d ht
  · exact am_s_if_ge X d ht
  · exact am_s_if_gt X d ht
  · exact am_s_if_le X d ht
theorem am_s_icmp (X : am_Cx l G p s m args meth c own cc nL ret) {co : Jvm.ClassFile.Cond} {off : Int} {t : Nat} (d : decode cc pc = .ok (.if_icmp co off, 3)) (ht : (pc : Int) + off = (t : Int)) : ck_sC (am_S G p l e R s m args below meth c mc ms Post) pc (pc + 3) (ck_cc co) t := by
  cases co
  · exact am_s_icmp_eq X d ht
  · exact am_s_icmp_ne X d ht
  · exact am_s_icmp_lt X d ht
  · exact am_s_icmp_ge X d ht
  · exact am_s_icmp_gt X d ht
  · exact am_s_icmp_le X d ht
theorem am_s_goto (X : am_Cx l G p s m args meth c own cc nL ret) {off : Int} {t : Nat} (d : decode cc pc = .ok (.goto off, 3)) (ht : (pc : Int) + off = (t : Int)) : ck_sG (am_S G p l e R s m args below meth c mc ms Post) pc t := fun L st h k n kk => am_R.goto X t d ht kk
theorem am_s_ifnull (X : am_Cx l G p s m args meth c own cc nL ret) {off : Int} {t : Nat} (d : decode cc pc = .ok (.ifnull off, 3)) (ht : (pc : Int) + off = (t : Int)) : ck_sN (am_S G p l e R s m args below meth c mc ms Post) pc t (pc + 3) := fun L st h k n => ⟨fun kk => am_R.ifnullN X t d ht kk, fun q kk => am_R.ifnull X d kk⟩
theorem am_s_acmp (X : am_Cx l G p s m args meth c own cc nL ret) {eq : Bool} {off : Int} {t : Nat} (d : decode cc pc = .ok (.if_acmp (bif eq then .eq else .ne) off, 3)) (ht : (pc : Int) + off = (t : Int)) : ck_sM (am_S G p l e R s m args below meth c mc ms Post) pc (pc + 3) t eq := ⟨fun L v w st h k n hv hw k1 k2 => am_R.acmp X (hv.symm) (hw.symm) d ht k1 k2, fun L q st h k n kk => am_R.acmpS X d ht (by cases eq <;> exact kk)⟩
theorem am_s_ldcM (X : am_Cx l G p s m args meth c own cc nL ret) {i : Nat} (hl : Cond.classLink own i "[Ljava/lang/Object;" ∈ lw_gw) (d : decode cc pc = .ok (.ldc i, 2)) : ck_sP (am_S G p l e R s m args below meth c mc ms Post) pc (pc + 2) 22 5 0 := by
  intro L st L' st' h k n hc kk
  cases hc
  exact am_R.ldcM X hl d kk
theorem am_s_ifnonnull (X : am_Cx l G p s m args meth c own cc nL ret) {off : Int} {t : Nat} (d : decode cc pc = .ok (.ifnonnull off, 3)) (ht : (pc : Int) + off = (t : Int)) : ck_sN (am_S G p l e R s m args below meth c mc ms Post) pc (pc + 3) t := fun L st h k n => ⟨fun kk => am_R.ifnonnullN X d kk, fun q kk => am_R.ifnonnull X t d ht kk⟩
theorem ck_sw2_ok {pc0 : Nat} : ∀ {offs : List Int} {lo : Int} {m : List (Int × Nat)}, ck_sw2 pc0 lo offs = some m → (∀ (j : Nat) (off : Int), offs[j]? = some off → ∃ t, ck_to pc0 off = some t ∧ (lo + (j : Int), t) ∈ m) := by
  intro offs
  induction offs with
  | nil => intro lo m _ j off h; cases h
  | cons o u ih =>
    intro lo m h j off hj
    unfold ck_sw2 at h
    split at h
    · next t r h1 h2 =>
      cases h
      cases j with
      | zero =>
        cases hj
        refine ⟨t, h1, ?_⟩
        rw [show lo + ((0 : Nat) : Int) = lo by omega]
        exact List.mem_cons_self
      | succ j =>
        obtain ⟨t', h3, h4⟩ := ih h2 j off hj
        refine ⟨t', h3, List.mem_cons_of_mem _ ?_⟩
        rw [show lo + ((j + 1 : Nat) : Int) = lo + 1 + (j : Int) by omega]
        exact h4
    · cases h
theorem ck_sw2_in {pc0 : Nat} : ∀ {offs : List Int} {lo : Int} {m : List (Int × Nat)}, ck_sw2 pc0 lo offs = some m → ∀ e ∈ m, lo ≤ e.1 ∧ e.1 < lo + (offs.length : Int) := by
  intro offs
  induction offs with
  | nil => intro lo m h e he; cases h; cases he
  | cons o u ih =>
    intro lo m h e he
    unfold ck_sw2 at h
    split at h
    · next t r h1 h2 =>
      cases h
      have hl : ((o :: u).length : Int) = (u.length : Int) + 1 := by simp
      rcases List.mem_cons.mp he with rfl | he
      · exact ⟨Int.le_refl _, by show lo < _; omega⟩
      · have := ih h2 e he
        omega
    · cases h
theorem am_s_table (X : am_Cx l G p s m args meth c own cc nL ret) {dflt lo hi : Int} {offs : Array Int} {len t : Nat} {mm : List (Int × Nat)} (d : decode cc pc = .ok (.tableswitch dflt lo hi offs, len)) (hd : (pc : Int) + dflt = (t : Int)) (hm : ck_sw2 pc lo offs.toList = some mm) (hl : hi - lo + 1 = (offs.toList.length : Int)) : ck_sS (am_S G p l e R s m args below meth c mc ms Post) pc t mm := by
  intro L x st h k n kin kout
  by_cases h1 : x.toInt < lo
  · exact am_R.tableOut X t d (Or.inl h1) hd (kout fun e he => by have := ck_sw2_in hm e he; omega)
  · by_cases h2 : hi < x.toInt
    · exact am_R.tableOut X t d (Or.inr h2) hd (kout fun e he => by have := ck_sw2_in hm e he; omega)
    · have hj : (x.toInt - lo).toNat < offs.toList.length := by omega
      have ho : offs.toList[(x.toInt - lo).toNat]? = some (offs.toList[(x.toInt - lo).toNat]'hj) := List.getElem?_eq_getElem hj
      obtain ⟨t2, e1, e2⟩ := ck_sw2_ok hm _ _ ho
      exact am_R.tableIn X t2 d h1 h2 (by rw [← Array.getElem?_toList]; exact ho) (ck_to_ok e1) (kin _ e2 (by show x.toInt = lo + ((x.toInt - lo).toNat : Int); omega))
-- cells
theorem am_s_getf (X : am_Cx l G p s m args meth c own cc nL ret) {i ci j : Nat} {fin : Bool} {ty : FieldType} (hf : am_fd ci j fin ty) (hl : am_fl own i ci j) (hci : ci < 50) (d : decode cc pc = .ok (.getfield i, 3)) : ck_sF G (am_S G p l e R s m args below meth c mc ms Post) pc (pc + 3) ci j :=
  fun L st h k n q t vs v hg ht hv kk => am_R.getf X hf hl hg ht hci hv d kk
theorem am_s_putf (X : am_Cx l G p s m args meth c own cc nL ret) {i ci j jt : Nat} {ty : FieldType} (hf : am_fd ci j false ty ∨ (am_fd ci j true ty ∧ meth.name = "<init>" ∧ ∀ r, am_cl[ci]? = some r → (r.2.1 j).1 = own)) (hj : ck_jt jt ty) (hl : am_fl own i ci j) (hci : ci < 50) (d : decode cc pc = .ok (.putfield i, 3)) : ck_sU G (am_S G p l e R s m args below meth c mc ms Post) pc (pc + 3) ci j jt := by
  intro L st h k n q t vs v ha hg ht hv kk
  obtain ⟨h1, h2⟩ := ck_jt_ok (G := G) hj hv
  rcases hf with hf | ⟨hf, hn, hd⟩
  · exact am_R.putf X hf hl ha hg ht hci h1 h2 d kk
  · exact am_R.putF X hn hf hl hd ha hg ht hci h1 h2 d kk
theorem am_s_new (X : am_Cx l G p s m args meth c own cc nL ret) {i ci : Nat} {ds : List Nat} {C : String} {T : u_T} {N : Nat} (hw : am_nw ci N (ds.map ck_d0)) (hcl : am_cl[ci]? = some (C, T, N)) (hlk : Cond.classLink own i C ∈ lw_gw) (hci : ci < 50) (d : decode cc pc = .ok (.new i, 3)) : ck_sW (am_S G p l e R s m args below meth c mc ms Post) R.cells R.slots pc (pc + 3) ci ds := by
  intro t L st h k n ht hk hn kk
  have hN : ds.length = N := by
    obtain ⟨_, _, _, _, _, _, _, _, e, _⟩ := hw
    rw [List.length_map] at e
    exact e
  rw [hN] at hn kk
  exact am_R.new X t hw hcl hlk ht hci hk hn d kk
theorem am_s_newI (X : am_Cx l G p s m args meth c own cc nL ret) (hw : Cond.arrayClass .int ∈ lw_gw) (d : decode cc pc = .ok (.newarray .int, 2)) : ck_sE (am_S G p l e R s m args below meth c mc ms Post) R.cells R.slots pc (pc + 2) 50 0 :=
  fun t L st h x N k n ht hx hN hk hn kk => am_R.newa (at9 := .int) (q := 50) X t rfl (by decide) (by decide) hw ht hx hN hk hn d kk
theorem am_s_newB (X : am_Cx l G p s m args meth c own cc nL ret) (hw : Cond.arrayClass .byte ∈ lw_gw) (d : decode cc pc = .ok (.newarray .byte, 2)) : ck_sE (am_S G p l e R s m args below meth c mc ms Post) R.cells R.slots pc (pc + 2) 51 0 :=
  fun t L st h x N k n ht hx hN hk hn kk => am_R.newa (at9 := .byte) (q := 51) X t rfl (by decide) (by decide) hw ht hx hN hk hn d kk
theorem am_s_newJ (X : am_Cx l G p s m args meth c own cc nL ret) (hw : Cond.arrayClass .long ∈ lw_gw) (d : decode cc pc = .ok (.newarray .long, 2)) : ck_sE (am_S G p l e R s m args below meth c mc ms Post) R.cells R.slots pc (pc + 2) 52 1 :=
  fun t L st h x N k n ht hx hN hk hn kk => am_R.newa (at9 := .long) (q := 52) X t rfl (by decide) (by decide) hw ht hx hN hk hn d kk
theorem am_s_newQ (X : am_Cx l G p s m args meth c own cc nL ret) {i q : Nat} {C : String} (hq : am_aty q = .object C) (h1 : 53 ≤ q) (h2 : q < 57) (hlk : Cond.classLink own i C ∈ lw_gw) (hw : Cond.arrayOver (.object C) ∈ lw_ng) (d : decode cc pc = .ok (.anewarray i, 3)) : ck_sE (am_S G p l e R s m args below meth c mc ms Post) R.cells R.slots pc (pc + 3) q 2 :=
  fun t L st h x N k n ht hx hN hk hn kk => am_R.newq X t hq h1 h2 hlk hw ht hx hN hk hn d kk
theorem am_s_newII (X : am_Cx l G p s m args meth c own cc nL ret) {i : Nat} (hlk : Cond.classLink own i (FieldType.array .int).toString ∈ lw_gw) (hw : Cond.arrayOver (.array .int) ∈ lw_ng) (d : decode cc pc = .ok (.anewarray i, 3)) : ck_sE (am_S G p l e R s m args below meth c mc ms Post) R.cells R.slots pc (pc + 3) 57 2 :=
  fun t L st h x N k n ht hx hN hk hn kk => am_R.newii X t hlk hw ht hx hN hk hn d kk
theorem am_s_alen (X : am_Cx l G p s m args meth c own cc nL ret) (d : decode cc pc = .ok (.arraylength, 1)) : ck_sL G (am_S G p l e R s m args below meth c mc ms Post) pc (pc + 1) := fun L st h k n q t vs hg h1 h2 kk => am_R.alen X hg h1 h2 d kk
theorem am_s_iald (X : am_Cx l G p s m args meth c own cc nL ret) (d : decode cc pc = .ok (.iaload, 1)) : ck_sA G (am_S G p l e R s m args below meth c mc ms Post) pc (pc + 1) 50 50 := fun L st h k n q t x vs v hg h1 h0 hv kk => am_R.iald X hg (by unfold ck_al at h1; simp at h1; omega) h0 hv d kk
theorem am_s_bald (X : am_Cx l G p s m args meth c own cc nL ret) (d : decode cc pc = .ok (.baload, 1)) : ck_sA G (am_S G p l e R s m args below meth c mc ms Post) pc (pc + 1) 51 51 := fun L st h k n q t x vs v hg h1 h0 hv kk => am_R.bald X hg (by unfold ck_al at h1; simp at h1; omega) h0 hv d kk
theorem am_s_lald (X : am_Cx l G p s m args meth c own cc nL ret) (d : decode cc pc = .ok (.laload, 1)) : ck_sA G (am_S G p l e R s m args below meth c mc ms Post) pc (pc + 1) 52 52 := fun L st h k n q t x vs v hg h1 h0 hv kk => am_R.lald X hg (by unfold ck_al at h1; simp at h1; omega) h0 hv d kk
theorem am_s_aald (X : am_Cx l G p s m args meth c own cc nL ret) (d : decode cc pc = .ok (.aaload, 1)) : ck_sA G (am_S G p l e R s m args below meth c mc ms Post) pc (pc + 1) 53 58 := fun L st h k n q t x vs v hg h1 h0 hv kk => am_R.aald X hg (by unfold ck_al at h1; simp at h1; omega) (by unfold ck_al at h1; simp at h1; omega) h0 hv d kk
theorem am_s_iast (X : am_Cx l G p s m args meth c own cc nL ret) {pr : List (Nat × Nat)} (hpr : ∀ q ∈ pr, 53 ≤ q.1) (d : decode cc pc = .ok (.iastore, 1)) : ck_sB G pr (am_S G p l e R s m args below meth c mc ms Post) pc (pc + 1) 50 50 := by
  intro L st h k n q t x vs v ha hg h1 h2 h0 hv hw kk
  have e : t % 100 = 50 := by omega
  rw [e] at hw
  rcases hw with ⟨-, y, rfl⟩ | ⟨z, -⟩ | ⟨z, -⟩ | ⟨z, -⟩ | ⟨_, _, _, -, -, z⟩
  · exact am_R.iast X ha hg e h0 hv d kk
  · cases z
  · cases z
  · cases z
  · have := hpr _ z; simp at this
theorem am_s_bast (X : am_Cx l G p s m args meth c own cc nL ret) {pr : List (Nat × Nat)} (hpr : ∀ q ∈ pr, 53 ≤ q.1) (d : decode cc pc = .ok (.bastore, 1)) : ck_sB G pr (am_S G p l e R s m args below meth c mc ms Post) pc (pc + 1) 51 51 := by
  intro L st h k n q t x vs v ha hg h1 h2 h0 hv hw kk
  have e : t % 100 = 51 := by omega
  rw [e] at hw
  rcases hw with ⟨z, -⟩ | ⟨-, y, rfl, y1, y2⟩ | ⟨z, -⟩ | ⟨z, -⟩ | ⟨_, _, _, -, -, z⟩
  · cases z
  · refine am_R.bast X ha hg e h0 hv d ?_
    rw [show y.toInt8.toInt32 = y from Int32.toInt_inj.mp ((ck_i8 y).1 ⟨y1, y2⟩)]
    exact kk
  · cases z
  · cases z
  · have := hpr _ z; simp at this
theorem am_s_last (X : am_Cx l G p s m args meth c own cc nL ret) {pr : List (Nat × Nat)} (hpr : ∀ q ∈ pr, 53 ≤ q.1) (d : decode cc pc = .ok (.lastore, 1)) : ck_sB G pr (am_S G p l e R s m args below meth c mc ms Post) pc (pc + 1) 52 52 := by
  intro L st h k n q t x vs v ha hg h1 h2 h0 hv hw kk
  have e : t % 100 = 52 := by omega
  rw [e] at hw
  rcases hw with ⟨z, -⟩ | ⟨z, -⟩ | ⟨-, y, rfl⟩ | ⟨z, -⟩ | ⟨_, _, _, -, -, z⟩
  · cases z
  · cases z
  · exact am_R.last X ha hg e h0 hv d kk
  · cases z
  · have := hpr _ z; simp at this
theorem am_s_aast (X : am_Cx l G p s m args meth c own cc nL ret) {pr : List (Nat × Nat)} (hpr : ∀ q ∈ pr, q.2 < 59 ∧ am_asg G s q.1 q.2) (d : decode cc pc = .ok (.aastore, 1)) : ck_sB G pr (am_S G p l e R s m args below meth c mc ms Post) pc (pc + 1) 53 57 := by
  intro L st h k n q t x vs v ha hg h1 h2 h0 hv hw kk
  rcases hw with ⟨z, -⟩ | ⟨z, -⟩ | ⟨z, -⟩ | ⟨z, rfl⟩ | ⟨b, tb, vb, rfl, hb, z⟩
  · omega
  · omega
  · omega
  · exact am_R.aastN X ha hg z h0 hv d kk
  · obtain ⟨z1, z2⟩ := hpr _ z
    exact am_R.aast X z2 ha hg h1 (by omega) hb z1 h0 hv d kk
theorem am_s_cast (X : am_Cx l G p s m args meth c own cc nL ret) {i : Nat} {nm : String} {m9 : List Nat} (hl : Cond.classLink own i nm ∈ lw_gw) (hi : ∀ k ∈ m9, k < 59 ∧ am_isa G s k nm) (d : decode cc pc = .ok (.checkcast i, 3)) : ck_sT G (am_S G p l e R s m args below meth c mc ms Post) pc (pc + 3) m9 := by
  intro L v st h k n hv kk
  rcases hv with rfl | ⟨q, t, vs, rfl, hg, hk⟩
  · exact am_R.castN X d kk
  · obtain ⟨h1, h2⟩ := hi _ hk
    exact am_R.cast X hl h2 hg h1 d kk
theorem am_s_objInit (X : am_Cx l G p s m args meth c own cc nL ret) {i : Nat} (hl : Cond.methodLink own i objectInit ∈ lw_gw) (h2 : Cond.instanceMethod objectInit ∈ lw_gw) (h3 : Cond.code objectInit ⟨#[0xb1]⟩ 1 none ∈ lw_gw) (hfr : 1 ≤ R.frames) (hlo : 20 ≤ R.locals) (d : decode cc pc = .ok (.invokespecial i, 3)) : ck_sO (am_S G p l e R s m args below meth c mc ms Post) nL pc (pc + 3) :=
  fun L q st h k n hL hc kk => am_R.objInit X hl h2 h3 hL hfr (by omega) d kk
-- answers
theorem am_s_iret (X : am_Cx l G p s m args meth c own cc nL ret) {jt : Nat} (hj : jt ≤ 2) (hr : ck_rj jt ret) (d : decode cc pc = .ok (.ireturn, 1)) : ck_sV (am_S G p l e R s m args below meth c mc ms Post) Post mc ms pc jt := by
  intro L v h k n hv hk hn hp
  match jt, hj, hr, hv with
  | 0, _, hr, hv =>
    obtain ⟨t, h1, h2⟩ := hr
    obtain ⟨x, rfl⟩ := hv
    have h2 : t = .int := h2
    exact am_R.iret X (by rw [h1, h2]) hk hn hp d
  | 1, _, hr, hv =>
    obtain ⟨t, h1, h2⟩ := hr
    have h3 := (ck_jt_ok (G := G) h2 hv).1
    obtain ⟨x, rfl, -⟩ := hv
    exact am_R.zret X h1 h3 hk hn hp d
  | 2, _, hr, hv =>
    obtain ⟨t, h1, h2⟩ := hr
    have h3 := (ck_jt_ok (G := G) h2 hv).1
    obtain ⟨x, rfl, -⟩ := hv
    exact am_R.zret X h1 h3 hk hn hp d
theorem am_s_lret (X : am_Cx l G p s m args meth c own cc nL ret) (hr : ck_rj 3 ret) (d : decode cc pc = .ok (.lreturn, 1)) : ck_sV (am_S G p l e R s m args below meth c mc ms Post) Post mc ms pc 3 := by
  intro L v h k n hv hk hn hp
  obtain ⟨t, h1, h2⟩ := hr
  have h2 : t = .long := h2
  obtain ⟨x, rfl⟩ := hv
  exact am_R.lret X (by rw [h1, h2]) hk hn hp d
theorem am_s_aret (X : am_Cx l G p s m args meth c own cc nL ret) (hr : ck_rj 4 ret) (d : decode cc pc = .ok (.areturn, 1)) : ck_sV (am_S G p l e R s m args below meth c mc ms Post) Post mc ms pc 4 := by
  intro L v h k n hv hk hn hp
  obtain ⟨t, h1, h2⟩ := hr
  exact am_R.aret X h1 h2 (hv.elim (fun ⟨q, z⟩ => Or.inr ⟨q, z⟩) Or.inl) hk hn hp d
theorem am_s_vret (X : am_Cx l G p s m args meth c own cc nL ret) (hr : ck_rj 9 ret) (d : decode cc pc = .ok (.return_, 1)) : ck_sV0 (am_S G p l e R s m args below meth c mc ms Post) Post mc ms pc := fun L h k n hk hn hp => am_R.vret X hr hk hn hp d
-- kinds given, counts raised
set_option maxRecDepth 100000 in
theorem am_s_retag : ck_sR G (am_S G p l e R s m args below meth c mc ms Post) pc := by
  intro L st h k n q t t' vs hg hq ht kk ls H locs hL hH hS
  refine kk ls H locs hL ⟨by rw [am_s_len]; exact hH.1, fun i d hi => ?_⟩ hS
  have hl := am_g_lt hq hg
  by_cases e9 : i = q - 1000
  · subst e9
    unfold am_s at hi
    rw [List.getElem?_set_self hl] at hi
    cases hi
    have hg' : h[q - 1000]? = some (t, vs) := by unfold am_g at hg; rw [if_neg (by omega)] at hg; exact hg
    obtain ⟨cell, e1, e2, e3⟩ := hH.2 _ _ hg'
    refine ⟨cell, e1, ?_, e3⟩
    obtain ⟨q1, q2, q3, q4⟩ := e2
    refine ⟨q1, q2, ?_, ?_⟩
    · show (t' % 100 < 50 → _)
      rw [show (t', vs).1 % 100 = t % 100 from ht]
      exact q3
    · show (50 ≤ t' % 100 → t' % 100 < 62 → _)
      rw [show (t', vs).1 % 100 = t % 100 from ht]
      exact q4
  · unfold am_s at hi
    rw [List.getElem?_set_ne (by omega)] at hi
    exact hH.2 i d hi
end AMS
