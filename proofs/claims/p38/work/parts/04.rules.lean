/-! THE R-LOGIC: W over the abstract heap. -/
def lw_gw : List Cond := lw_tbl.filter goodWord
theorem am_w (i : Nat) {w : Cond} (h : lw_tbl[i]? = some w) (hg : goodWord w = true) : w ∈ lw_gw := List.mem_filter.mpr ⟨List.mem_of_getElem? h, hg⟩
/-- words that the tables alone decide, kept by warming, though not good ones -/
def am_ngw : Cond → Bool
  | .fieldLinkNest .. => true
  | .methodLinkNest .. => true
  | .arrayOver (.object _) => true
  | .arrayOver (.array _) => true
  | .not (.castable _ _) => true
  | w => w.faceAtom && w.onTables
def lw_ng : List Cond := lw_tbl.filter am_ngw
theorem am_ng (i : Nat) {w : Cond} (h : lw_tbl[i]? = some w) (hg : am_ngw w = true) : w ∈ lw_ng := List.mem_filter.mpr ⟨List.mem_of_getElem? h, hg⟩
theorem am_over_alike {t : FieldType} {a a' : Array Value} {U U' : State} (hal : U.vm.Alike U'.vm) (h : (Cond.arrayOver (.array t)).before a U = true) : (Cond.arrayOver (.array t)).before a' U' = true := by
  simp only [Cond.before, Cond.holds, Cond.value] at h ⊢
  rw [hal.findClass]
  cases hf : U.vm.findClass (FieldType.array t).toString with
  | none => rw [hf] at h; simp at h
  | some comp =>
    rw [hf] at h
    simp only [Option.bind_some] at h ⊢
    rw [hal.findIdx_congr _ (fun _ _ _ _ => rfl)]
    generalize hF : (U.vm.classes.findIdx? fun (x : Class) => match x.kind with | .array component _ => component == comp | _ => false) = fi at h ⊢
    cases fi with
    | none => simp at h
    | some c =>
      simp only [Option.bind_some] at h ⊢
      cases hk : U.vm.classes[c]? with
      | none => rw [hk] at h; simp at h
      | some k =>
        obtain ⟨k', hk', ek⟩ := hal.2.2 _ _ hk
        rw [hk] at h
        rw [hk', hal.findClass]
        have ekind : k'.kind = k.kind := by rw [ek]
        simp only [Option.map_some] at h ⊢
        rw [ekind]
        exact h
theorem am_nc_of {C T : String} {U : State} {args : Array Value} (h : va_Nc C T U) : (Cond.not (.castable C T)).before args U = true := by
  obtain ⟨c, t, h1, h2, h3⟩ := h
  simp [Cond.before, Cond.holds, Cond.value, h1, h2, h3]
theorem am_ng_warm {s U : State} (hW : s.WarmedH U.vm) {w : Cond} (hg : am_ngw w = true) (h : va_Nw w s) : va_Nw w U := by
  cases w with
  | fieldLinkNest a i b n d h1 => exact va_Nw.warmF hW h
  | methodLinkNest a i x h1 => exact va_Nw.warmM hW h
  | arrayOver t =>
    cases t with
    | object n => exact Cond.arrayOver_alike hW.alike h
    | array t => exact am_over_alike hW.alike h
    | _ => exfalso; simp [am_ngw, Cond.faceAtom] at hg
  | not v =>
    cases v with
    | castable a b => exact am_nc_of ((va_Nc.of h).moved hW.alike)
    | _ => exfalso; simp [am_ngw, Cond.faceAtom] at hg
  | _ =>
    first
      | (exfalso; simp [am_ngw, Cond.faceAtom] at hg; done)
      | (simp only [am_ngw, Bool.and_eq_true] at hg
         exact va_tabs hg.2 (rfl : (s.setVm U.vm).vm = U.vm) (Cond.faceAtom_setVm hW.alike _ hg.1 h))
def am_A (G : am_G) : Nat → Prop := fun q => G.2.2.2.1 ≤ q
/-- statics of the start: class, name, descriptor, value -/
def am_Z : List (String × String × String × Value) := [("java/lang/String", "COMPACT_STRINGS", "Z", .int 1), ("java/lang/Integer$IntegerCache", "high", "I", .int 127), ("java/lang/Integer$IntegerCache", "cache", "[Ljava/lang/Integer;", .ref 1), ("java/lang/Integer", "DigitTens", "[B", .ref 2), ("java/lang/Integer", "DigitOnes", "[B", .ref 3), ("java/util/ArrayList", "DEFAULTCAPACITY_EMPTY_ELEMENTDATA", "[Ljava/lang/Object;", .ref 4)]
/-- text constants: class, entry, text, reference -/
def am_T : List (String × Nat × String × Nat) := [("Clockhouse", 323, "none", 10), ("Clockhouse", 409, "a slot is 0 to 5", 11), ("Clockhouse", 276, "what is 0 to 3", 12), ("Clockhouse", 416, "a place is 0 or above", 13), ("Clockhouse", 77, "the dial is -9 to 400", 14), ("Clockhouse", 99, "what comes behind is 0 to 999999999", 15), ("Clockhouse", 429, "a number has at most 36 digits", 16), ("Clockhouse", 418, "a rest is -9999 to 9999", 17), ("Clockhouse", 420, "its dial is 1 to 999", 18), ("Clockhouse", 422, "there are 6 congruences", 19), ("Clockhouse", 424, "no congruence is at that place", 20), ("Clockhouse", 162, "a base is 2 to 999", 21), ("Clockhouse", 170, "there are 5, or a base has a common divisor with it", 22), ("Clockhouse", 179, "there is no base", 23), ("Clockhouse", 187, "there is nothing to undo", 24), ("Clockhouse", 205, "jammed", 25), ("Clockhouse", 214, "missed", 26), ("Clockhouse", 299, "what is 0 or 1", 27), ("ClockhouseModel", 200, "", 28), ("ClockhouseModel", 209, "jammed", 29), ("ClockhouseModel", 213, "missed", 30), ("ClockhouseModel", 296, "none", 31), ("ClockhouseModel", 323, ",", 32)]
def am_kon (G : am_G) (U : State) : Prop :=
  am_K G U ∧ am_kt G U.heap ∧ (G.2.2.2.1 ≤ U.heap.size ∧ am_ext G U) ∧ (∀ z ∈ am_Z, va_Z z.1 z.2.1 z.2.2.1 (am_rv G z.2.2.2) (am_A G) U U.heap) ∧ (∀ z ∈ am_T, vk_R z.1 z.2.1 z.2.2.1 (am_ad G z.2.2.2) U) ∧
  (va_Mi "[Ljava/lang/Object;" (am_ad G 5) U ∧ vx_Zq Bundle.tN "UNASSIGNED_STACK" Bundle.steD (am_A G) U U.heap) ∧ vx_Zq Bundle.tN "SUPPRESSED_SENTINEL" Bundle.listD (am_A G) U U.heap ∧ ∀ w ∈ lw_ng, va_Nw w U
abbrev am_O : Type := Option Value ⊕ String
def am_P (G : am_G) (a : List Value) (h : List am_C) : Array Value → State → Prop := fun v U => v = (a.map (am_rv G)).toArray ∧ am_H G h U.heap ∧ am_kon G U
def am_Q (G : am_G) (Post : am_O → List am_C → Prop) : Array Value → State → Outcome → State → Prop := fun _ st o t => ∃ (r : Option Value) (h' : List am_C), o = .returned (r.map (am_rv G)) ∧ Post (.inl r) h' ∧ am_H G h' t.heap ∧ va_F (am_A G) st t
def am_X (G : am_G) (Post : am_O → List am_C → Prop) : String → State → State → Prop := fun E st t => ∃ h' : List am_C, Post (.inr E) h' ∧ am_H G h' t.heap ∧ va_F (am_A G) st t
/-- a method's contract at arguments a and heap h -/
def am_M (l : Launch) (G : am_G) (y : MethodName) (cw : Cond) (fr lo mc ms : Nat) (a : List Value) (h : List am_C) (Post : am_O → List am_C → Prop) : Prop :=
  vx_Met l y (cw :: lw_gw) { frames := fr, cells := mc, slots := ms, locals := lo } (am_P G a h) (am_Q G Post) (am_X G Post) mc ms (am_A G)
/-- what stays while a method runs -/
def am_Cx (l : Launch) (G : am_G) (p : Program) (s : State) (m : MethodId) (args : Array Value) (meth : Method) (c : Code) (own : String) (cc : ByteArray) (nL : Nat) (ret : Option FieldType) : Prop :=
  p.tables.exec = Jvm.exec ∧ c.code = cc ∧ c.maxLocals = nL ∧ s.vm.findClass own = some m.cls ∧ (∀ w ∈ lw_gw, w.before args s = true) ∧ am_kon G s ∧ meth.locks = false ∧ l.stackTraces = false ∧ meth.sig.returnType = ret
def am_R (G : am_G) (p : Program) (l : Launch) (e : Env) (R : Room) (s : State) (m : MethodId) (args : Array Value) (below : List Frame) (meth : Method) (c : Code) (mc ms : Nat) (Post : am_O → List am_C → Prop)
    (pc : Nat) (L : List (Option Value)) (st : List Value) (h : List am_C) (k n : Nat) : Prop :=
  ∀ (ls : Array Slot) (H : Heap) (locs : List Loc), am_L G ls L → am_H G h H → va_S (am_A G) s.heap H locs →
    W p l e R s m args below meth c H locs k n (vx_MQ below (am_Q G Post) (am_X G Post) args s mc ms (am_A G)) (F0 m pc ls (st.map (am_rv G)))
section AMR
variable {G : am_G} {p : Program} {l : Launch} {e : Env} {R : Room} {s : State} {m : MethodId} {args : Array Value} {below : List Frame} {meth : Method} {c : Code} {mc ms : Nat} {Post : am_O → List am_C → Prop}
variable {own : String} {cc : ByteArray} {nL pc : Nat} {ret : Option FieldType} {L : List (Option Value)} {st : List Value} {h : List am_C} {k n : Nat}
theorem am_kt_S {H : Heap} {locs : List Loc} (hk : am_kon G s) (hS : va_S (am_A G) s.heap H locs) : am_kt G H := hk.2.1.kept (fun q hq => hS.2.1 q (Nat.lt_of_lt_of_le hq hk.2.2.1.1) (fun z => by unfold am_A at z; omega))
-- constants
theorem am_R.iconst (X : am_Cx l G p s m args meth c own cc nL ret) {i : Int} {v : Int32} (d : decode cc pc = .ok (.iconst i, 1)) (hv : Int32.ofInt i = v) (kk : am_R G p l e R s m args below meth c mc ms Post (pc + 1) L (.int v :: st) h k n) : am_R G p l e R s m args below meth c mc ms Post pc L st h k n :=
  fun ls H locs hL hH hS => lv_iconst X.1 X.2.1 d hv (kk ls H locs hL hH hS)
theorem am_R.bipush (X : am_Cx l G p s m args meth c own cc nL ret) {i : Int} {v : Int32} (d : decode cc pc = .ok (.bipush i, 2)) (hv : (Int8.ofInt i).toInt32 = v) (kk : am_R G p l e R s m args below meth c mc ms Post (pc + 2) L (.int v :: st) h k n) : am_R G p l e R s m args below meth c mc ms Post pc L st h k n :=
  fun ls H locs hL hH hS => lv_bipush X.1 X.2.1 d hv (kk ls H locs hL hH hS)
theorem am_R.sipush (X : am_Cx l G p s m args meth c own cc nL ret) {i : Int} {v : Int32} (d : decode cc pc = .ok (.sipush i, 3)) (hv : (Int16.ofInt i).toInt32 = v) (kk : am_R G p l e R s m args below meth c mc ms Post (pc + 3) L (.int v :: st) h k n) : am_R G p l e R s m args below meth c mc ms Post pc L st h k n :=
  fun ls H locs hL hH hS => lv_sipush X.1 X.2.1 d hv (kk ls H locs hL hH hS)
theorem am_R.lconst (X : am_Cx l G p s m args meth c own cc nL ret) {i : Fin 2} {v : Int64} (d : decode cc pc = .ok (.lconst i, 1)) (hv : Int64.ofNat (i : Nat) = v) (kk : am_R G p l e R s m args below meth c mc ms Post (pc + 1) L (.long v :: st) h k n) : am_R G p l e R s m args below meth c mc ms Post pc L st h k n :=
  fun ls H locs hL hH hS => lv_lconst X.1 X.2.1 d hv (kk ls H locs hL hH hS)
theorem am_R.ldc (X : am_Cx l G p s m args meth c own cc nL ret) {i : Nat} {v : Int32} (hw : Cond.constant own i v ∈ lw_gw) (d : decode cc pc = .ok (.ldc i, 2)) (kk : am_R G p l e R s m args below meth c mc ms Post (pc + 2) L (.int v :: st) h k n) : am_R G p l e R s m args below meth c mc ms Post pc L st h k n :=
  fun ls H locs hL hH hS => W.ldc X.1 X.2.1 X.2.2.2.1 (X.2.2.2.2.1 _ hw) rfl d (kk ls H locs hL hH hS)
theorem am_R.ldc_w (X : am_Cx l G p s m args meth c own cc nL ret) {i : Nat} {v : Int32} (hw : Cond.constant own i v ∈ lw_gw) (d : decode cc pc = .ok (.ldc_w i, 3)) (kk : am_R G p l e R s m args below meth c mc ms Post (pc + 3) L (.int v :: st) h k n) : am_R G p l e R s m args below meth c mc ms Post pc L st h k n :=
  fun ls H locs hL hH hS => lv_ldcw X.1 X.2.1 X.2.2.2.1 (X.2.2.2.2.1 _ hw) d (kk ls H locs hL hH hS)
theorem am_R.ldc2 (X : am_Cx l G p s m args meth c own cc nL ret) {i : Nat} {v : Int64} (hw : Cond.constantLong own i v ∈ lw_gw) (d : decode cc pc = .ok (.ldc2_w i, 3)) (kk : am_R G p l e R s m args below meth c mc ms Post (pc + 3) L (.long v :: st) h k n) : am_R G p l e R s m args below meth c mc ms Post pc L st h k n :=
  fun ls H locs hL hH hS => W.ldc2 X.1 X.2.1 X.2.2.2.1 (X.2.2.2.2.1 _ hw) rfl d (kk ls H locs hL hH hS)
theorem am_R.null (X : am_Cx l G p s m args meth c own cc nL ret) (d : decode cc pc = .ok (.aconst_null, 1)) (kk : am_R G p l e R s m args below meth c mc ms Post (pc + 1) L (.null :: st) h k n) : am_R G p l e R s m args below meth c mc ms Post pc L st h k n :=
  fun ls H locs hL hH hS => lv_null X.1 X.2.1 d (kk ls H locs hL hH hS)
-- locals
theorem am_R.iload_n (X : am_Cx l G p s m args meth c own cc nL ret) {i : Fin 4} {x : Int32} (d : decode cc pc = .ok (.iload_n i, 1)) (hl : L[(i : Nat)]? = some (some (.int x))) (kk : am_R G p l e R s m args below meth c mc ms Post (pc + 1) L (.int x :: st) h k n) : am_R G p l e R s m args below meth c mc ms Post pc L st h k n :=
  fun ls H locs hL hH hS => lv_iload_n X.1 X.2.1 d rfl (hL.at hl) (kk ls H locs hL hH hS)
theorem am_R.iload (X : am_Cx l G p s m args meth c own cc nL ret) {i : Nat} {x : Int32} (d : decode cc pc = .ok (.iload i, 2)) (hl : L[i]? = some (some (.int x))) (kk : am_R G p l e R s m args below meth c mc ms Post (pc + 2) L (.int x :: st) h k n) : am_R G p l e R s m args below meth c mc ms Post pc L st h k n :=
  fun ls H locs hL hH hS => lv_iload X.1 X.2.1 d (hL.at hl) (kk ls H locs hL hH hS)
theorem am_R.lload_n (X : am_Cx l G p s m args meth c own cc nL ret) {i : Fin 4} {x : Int64} (d : decode cc pc = .ok (.lload_n i, 1)) (hl : L[(i : Nat)]? = some (some (.long x))) (kk : am_R G p l e R s m args below meth c mc ms Post (pc + 1) L (.long x :: st) h k n) : am_R G p l e R s m args below meth c mc ms Post pc L st h k n :=
  fun ls H locs hL hH hS => lv_lload_n X.1 X.2.1 d rfl (hL.at hl) (kk ls H locs hL hH hS)
theorem am_R.lload (X : am_Cx l G p s m args meth c own cc nL ret) {i : Nat} {x : Int64} (d : decode cc pc = .ok (.lload i, 2)) (hl : L[i]? = some (some (.long x))) (kk : am_R G p l e R s m args below meth c mc ms Post (pc + 2) L (.long x :: st) h k n) : am_R G p l e R s m args below meth c mc ms Post pc L st h k n :=
  fun ls H locs hL hH hS => lv_lload X.1 X.2.1 d (hL.at hl) (kk ls H locs hL hH hS)
theorem am_R.aload_n (X : am_Cx l G p s m args meth c own cc nL ret) {i : Fin 4} {x : Nat} (d : decode cc pc = .ok (.aload_n i, 1)) (hl : L[(i : Nat)]? = some (some (.ref x))) (kk : am_R G p l e R s m args below meth c mc ms Post (pc + 1) L (.ref x :: st) h k n) : am_R G p l e R s m args below meth c mc ms Post pc L st h k n :=
  fun ls H locs hL hH hS => lv_aload_n X.1 X.2.1 d rfl (hL.at hl) (kk ls H locs hL hH hS)
theorem am_R.aload (X : am_Cx l G p s m args meth c own cc nL ret) {i : Nat} {x : Nat} (d : decode cc pc = .ok (.aload i, 2)) (hl : L[i]? = some (some (.ref x))) (kk : am_R G p l e R s m args below meth c mc ms Post (pc + 2) L (.ref x :: st) h k n) : am_R G p l e R s m args below meth c mc ms Post pc L st h k n :=
  fun ls H locs hL hH hS => lv_aload X.1 X.2.1 d (hL.at hl) (kk ls H locs hL hH hS)
theorem am_R.istore_n (X : am_Cx l G p s m args meth c own cc nL ret) {i : Fin 4} {x : Int32} (d : decode cc pc = .ok (.istore_n i, 1)) (hi : (i : Nat) < L.length) (kk : am_R G p l e R s m args below meth c mc ms Post (pc + 1) (am_put1 L i (.int x)) st h k n) : am_R G p l e R s m args below meth c mc ms Post pc L (.int x :: st) h k n :=
  fun ls H locs hL hH hS => lv_istore_n X.1 X.2.1 d rfl hL.to hi rfl (fun ls' h' => kk ls' H locs (am_L.of1 (v := .int x) h') hH hS)
theorem am_R.istore (X : am_Cx l G p s m args meth c own cc nL ret) {i : Nat} {x : Int32} (d : decode cc pc = .ok (.istore i, 2)) (hi : i < L.length) (kk : am_R G p l e R s m args below meth c mc ms Post (pc + 2) (am_put1 L i (.int x)) st h k n) : am_R G p l e R s m args below meth c mc ms Post pc L (.int x :: st) h k n :=
  fun ls H locs hL hH hS => lv_istore X.1 X.2.1 d hL.to hi rfl (fun ls' h' => kk ls' H locs (am_L.of1 (v := .int x) h') hH hS)
theorem am_R.astore_n (X : am_Cx l G p s m args meth c own cc nL ret) {i : Fin 4} {x : Nat} (d : decode cc pc = .ok (.astore_n i, 1)) (hi : (i : Nat) < L.length) (kk : am_R G p l e R s m args below meth c mc ms Post (pc + 1) (am_put1 L i (.ref x)) st h k n) : am_R G p l e R s m args below meth c mc ms Post pc L (.ref x :: st) h k n :=
  fun ls H locs hL hH hS => lv_astore_n X.1 X.2.1 d rfl hL.to hi rfl (fun ls' h' => kk ls' H locs (am_L.of1 (v := .ref x) h') hH hS)
theorem am_R.astore (X : am_Cx l G p s m args meth c own cc nL ret) {i : Nat} {x : Nat} (d : decode cc pc = .ok (.astore i, 2)) (hi : i < L.length) (kk : am_R G p l e R s m args below meth c mc ms Post (pc + 2) (am_put1 L i (.ref x)) st h k n) : am_R G p l e R s m args below meth c mc ms Post pc L (.ref x :: st) h k n :=
  fun ls H locs hL hH hS => lv_astore X.1 X.2.1 d hL.to hi rfl (fun ls' h' => kk ls' H locs (am_L.of1 (v := .ref x) h') hH hS)
theorem am_R.lstore_n (X : am_Cx l G p s m args meth c own cc nL ret) {i : Fin 4} {x : Int64} (d : decode cc pc = .ok (.lstore_n i, 1)) (hi : (i : Nat) + 1 < L.length) (kk : am_R G p l e R s m args below meth c mc ms Post (pc + 1) (am_put2 L i (.long x)) st h k n) : am_R G p l e R s m args below meth c mc ms Post pc L (.long x :: st) h k n :=
  fun ls H locs hL hH hS => lv_lstore_n X.1 X.2.1 d rfl hL.to hi rfl (fun ls' h' => kk ls' H locs (am_L.of2 (v := .long x) h') hH hS)
theorem am_R.lstore (X : am_Cx l G p s m args meth c own cc nL ret) {i : Nat} {x : Int64} (d : decode cc pc = .ok (.lstore i, 2)) (hi : i + 1 < L.length) (kk : am_R G p l e R s m args below meth c mc ms Post (pc + 2) (am_put2 L i (.long x)) st h k n) : am_R G p l e R s m args below meth c mc ms Post pc L (.long x :: st) h k n :=
  fun ls H locs hL hH hS => lv_lstore X.1 X.2.1 d hL.to hi rfl (fun ls' h' => kk ls' H locs (am_L.of2 (v := .long x) h') hH hS)
theorem am_R.iinc (X : am_Cx l G p s m args meth c own cc nL ret) {i : Nat} {j : Int} {x : Int32} (d : decode cc pc = .ok (.iinc i j, 3)) (hl : L[i]? = some (some (.int x))) (kk : am_R G p l e R s m args below meth c mc ms Post (pc + 3) (am_put1 L i (.int (x + Int32.ofInt j))) st h k n) : am_R G p l e R s m args below meth c mc ms Post pc L st h k n := by
  intro ls H locs hL hH hS
  obtain ⟨q, hq⟩ := List.getElem?_of_mem (am_en_mem (G := G) (q := (i, .int x)).mpr ⟨_, hl, rfl⟩)
  exact lv_iinc X.1 X.2.1 d hL.to hq rfl (List.getElem?_eq_some_iff.mp hl).1 rfl (fun ls' h' => kk ls' H locs (am_L.of1 (v := .int (x + Int32.ofInt j)) h') hH hS)
end AMR
