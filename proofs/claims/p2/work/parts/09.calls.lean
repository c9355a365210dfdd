section
section AMC2
variable {G : am_G} {p : Program} {l : Launch} {e : Env} {R : Room} {s : State} {m : MethodId} {args : Array Value} {below : List Frame} {meth : Method} {c : Code} {mc ms : Nat} {Post : am_O → List am_C → Prop}
variable {own : String} {cc : ByteArray} {nL pc : Nat} {ret : Option FieldType} {L : List (Option Value)} {st : List Value} {h : List am_C} {k n : Nat}
theorem am_stk (a1 st : List Value) (b : Nat) : (a1.reverse ++ .ref b :: st).map (am_rv G) = (a1.map (am_rv G)).reverse ++ .ref (am_ad G b) :: st.map (am_rv G) := by
  rw [List.map_append, List.map_reverse]
  rfl
theorem am_ct8 (hst : (st.map fun v => v.category).sum ≤ 8) : 2 * 0 + ((st.map (am_rv G)).map fun v => v.category).sum ≤ 8 := by rw [am_cats]; omega
/-- constructors: of this class or another, by an ordinary link -/
theorem am_R.callI (X : am_Cx l G p s m args meth c own cc nL ret) {i b : Nat} {y : MethodName} {bytes : ByteArray} {maxL fr lo mc' ms' : Nat} (a1 : List Value) {P' : am_O → List am_C → Prop}
    (hM : am_M l G y (.code y bytes maxL none) fr lo mc' ms' (.ref b :: a1) h P') (hno : ∀ E h', ¬ P' (.inr E) h') (hcw : Cond.code y bytes maxL none ∈ lw_gw) (hl : Cond.methodLink own i y ∈ lw_gw) (hin : Cond.instanceMethod y ∈ lw_gw) (hini : Cond.initialized y.cls ∈ lw_gw) (hnm : y.name = "<init>")
    (hd : y.cls ≠ "java/lang/invoke/MethodHandle" ∧ y.cls ≠ "java/lang/invoke/VarHandle" ∧ (parseMethodDescriptor y.desc).map (fun d => d.parameters.length) = some a1.length) (hR : fr + 1 ≤ R.frames ∧ 8 + (maxL + 11) + lo ≤ R.locals) (hLn : L.length = nL) (hst : (st.map fun v => v.category).sum ≤ 8)
    (hf : k + mc' ≤ R.cells ∧ n + ms' ≤ R.slots) (d : decode cc pc = .ok (.invokespecial i, 3))
    (kr : ∀ (r : Option Value) (h' : List am_C), P' (.inl r) h' → am_R G p l e R s m args below meth c mc ms Post (pc + 3) L (r.toList ++ st) h' (k + mc') (n + ms')) : am_R G p l e R s m args below meth c mc ms Post pc L (a1.reverse ++ .ref b :: st) h k n := by
  intro ls H locs hL hH hS
  refine am_post hL hS (va_Run.vx (va_runI (As := a1.map (am_rv G)) (b := am_ad G b) ⟨X.1, X.2.1, X.2.2.1, X.2.2.2.1, X.2.2.2.2.1⟩ (hM.met hno) ⟨callB_of a1.length X.2.2.2.2.1 (am_gi (ws := []) (fun w hw => by cases hw) hcw) rfl rfl rfl (X.2.2.2.2.1 _ hini) (X.2.2.2.2.1 _ hl) hd hR, hnm, X.2.2.2.2.1 _ hin⟩
    ⟨am_P.blind, fun U hU hW => ⟨rfl, by rw [hU]; exact hH, X.2.2.2.2.2.1.at hS hU hW⟩⟩ rfl (by rw [List.length_map]) (by rw [← hLn]; exact hL.1) (am_stk a1 st b) (am_ct8 hst) d hf)) kr (fun E h' hp => absurd hp (hno E h'))
/-- constructors of a nest mate -/
theorem am_R.callIN (X : am_Cx l G p s m args meth c own cc nL ret) {i b : Nat} {y : MethodName} {host : String} {bytes : ByteArray} {maxL fr lo mc' ms' : Nat} (a1 : List Value) {P' : am_O → List am_C → Prop}
    (hM : am_M l G y (.code y bytes maxL none) fr lo mc' ms' (.ref b :: a1) h P') (hno : ∀ E h', ¬ P' (.inr E) h') (hcw : Cond.code y bytes maxL none ∈ lw_gw) (hl : Cond.methodLinkNest own i y host ∈ lw_ng) (hin : Cond.instanceMethod y ∈ lw_gw) (hini : Cond.initialized y.cls ∈ lw_gw) (hnm : y.name = "<init>")
    (hd : y.cls ≠ "java/lang/invoke/MethodHandle" ∧ y.cls ≠ "java/lang/invoke/VarHandle" ∧ (parseMethodDescriptor y.desc).map (fun d => d.parameters.length) = some a1.length) (hR : fr + 1 ≤ R.frames ∧ 8 + (maxL + 11) + lo ≤ R.locals) (hLn : L.length = nL) (hst : (st.map fun v => v.category).sum ≤ 8)
    (hf : k + mc' ≤ R.cells ∧ n + ms' ≤ R.slots) (d : decode cc pc = .ok (.invokespecial i, 3))
    (kr : ∀ (r : Option Value) (h' : List am_C), P' (.inl r) h' → am_R G p l e R s m args below meth c mc ms Post (pc + 3) L (r.toList ++ st) h' (k + mc') (n + ms')) : am_R G p l e R s m args below meth c mc ms Post pc L (a1.reverse ++ .ref b :: st) h k n := by
  intro ls H locs hL hH hS
  refine am_post hL hS (va_Run.vx (va_runIN (As := a1.map (am_rv G)) (b := am_ad G b) ⟨X.1, X.2.1, X.2.2.1, X.2.2.2.1, X.2.2.2.2.1⟩ (hM.met hno) ⟨va_cnB a1.length X.2.2.2.2.1 (am_gi (ws := []) (fun w hw => by cases hw) hcw) rfl rfl rfl (X.2.2.2.2.2.1.2.2.2.2.2.2.2 _ hl) (X.2.2.2.2.1 _ hini) hd hR, hnm, X.2.2.2.2.1 _ hin⟩
    ⟨am_P.blind, fun U hU hW => ⟨rfl, by rw [hU]; exact hH, X.2.2.2.2.2.1.at hS hU hW⟩⟩ rfl (by rw [List.length_map]) (by rw [← hLn]; exact hL.1) (am_stk a1 st b) (am_ct8 hst) d hf)) kr (fun E h' hp => absurd hp (hno E h'))
/-- a static method of a nest mate -/
theorem am_R.callSN (X : am_Cx l G p s m args meth c own cc nL ret) {i : Nat} {y : MethodName} {host : String} {bytes : ByteArray} {maxL fr lo mc' ms' : Nat} {rt : Option FieldType} (a1 : List Value) {P' : am_O → List am_C → Prop}
    (hM : am_M l G y (.code y bytes maxL rt) fr lo mc' ms' a1 h P') (hno : ∀ E h', ¬ P' (.inr E) h') (hcw : Cond.code y bytes maxL rt ∈ lw_gw) (hl : Cond.methodLinkNest own i y host ∈ lw_ng) (hsta : Cond.static y ∈ lw_gw) (hini : Cond.initialized y.cls ∈ lw_gw)
    (hd : y.cls ≠ "java/lang/invoke/MethodHandle" ∧ y.cls ≠ "java/lang/invoke/VarHandle" ∧ (parseMethodDescriptor y.desc).map (fun d => d.parameters.length) = some a1.length) (hR : fr + 1 ≤ R.frames ∧ 8 + (maxL + 11) + lo ≤ R.locals) (hLn : L.length = nL) (hst : (st.map fun v => v.category).sum ≤ 8)
    (hf : k + mc' ≤ R.cells ∧ n + ms' ≤ R.slots) (d : decode cc pc = .ok (.invokestatic i, 3))
    (kr : ∀ (r : Option Value) (h' : List am_C), P' (.inl r) h' → am_R G p l e R s m args below meth c mc ms Post (pc + 3) L (r.toList ++ st) h' (k + mc') (n + ms')) : am_R G p l e R s m args below meth c mc ms Post pc L (a1.reverse ++ st) h k n := by
  intro ls H locs hL hH hS
  refine am_post hL hS (va_Run.vx (va_runSN (As := a1.map (am_rv G)) ⟨X.1, X.2.1, X.2.2.1, X.2.2.2.1, X.2.2.2.2.1⟩ (hM.met hno) ⟨va_cnB a1.length X.2.2.2.2.1 (am_gi (ws := []) (fun w hw => by cases hw) hcw) rfl rfl rfl (X.2.2.2.2.2.1.2.2.2.2.2.2.2 _ hl) (X.2.2.2.2.1 _ hini) hd hR, X.2.2.2.2.1 _ hsta, trivial⟩
    ⟨am_P.blind, fun U hU hW => ⟨rfl, by rw [hU]; exact hH, X.2.2.2.2.2.1.at hS hU hW⟩⟩ rfl (by rw [List.length_map]) (by rw [← hLn]; exact hL.1) (by show ((a1.reverse ++ st).map (am_rv G)) = _; rw [List.map_append, List.map_reverse]) (am_ct8 hst) d hf)) kr (fun E h' hp => absurd hp (hno E h'))
/-- a method that the receiver's class inherits: y is declared in its class, the receiver is of class C -/
theorem am_R.callU (X : am_Cx l G p s m args meth c own cc nL ret) {i b tb : Nat} {y : MethodName} {C : String} {bytes : ByteArray} {maxL fr lo mc' ms' : Nat} {rt : Option FieldType} (a1 : List Value) {vb : List Value} {T : u_T} {N : Nat} {P' : am_O → List am_C → Prop}
    (hM : am_M l G y (.code y bytes maxL rt) fr lo mc' ms' (.ref b :: a1) h P') (hno : ∀ E h', ¬ P' (.inr E) h') (hcw : Cond.code y bytes maxL rt ∈ lw_gw) (hl : Cond.methodLink own i y ∈ lw_gw) (hsm : Cond.sameMethod y.cls y.cls y.name y.desc ∈ lw_gw) (hin : Cond.instanceMethod y ∈ lw_gw) (hse : Cond.selects C y y ∈ lw_gw) (hini : Cond.initialized y.cls ∈ lw_gw)
    (hd : y.cls ≠ "java/lang/invoke/MethodHandle" ∧ y.cls ≠ "java/lang/invoke/VarHandle" ∧ (parseMethodDescriptor y.desc).map (fun d => d.parameters.length) = some a1.length) (hR : fr + 1 ≤ R.frames ∧ 8 + (maxL + 11) + lo ≤ R.locals) (hLn : L.length = nL) (hst : (st.map fun v => v.category).sum ≤ 8)
    (hb : am_g G h b = some (tb, vb)) (htb : tb % 100 < 50) (hcl : am_cl[tb % 100]? = some (C, T, N)) (hf : k + mc' ≤ R.cells ∧ n + ms' ≤ R.slots) (d : decode cc pc = .ok (.invokevirtual i, 3))
    (kr : ∀ (r : Option Value) (h' : List am_C), P' (.inl r) h' → am_R G p l e R s m args below meth c mc ms Post (pc + 3) L (r.toList ++ st) h' (k + mc') (n + ms')) : am_R G p l e R s m args below meth c mc ms Post pc L (a1.reverse ++ .ref b :: st) h k n := by
  intro ls H locs hL hH hS
  refine am_post hL hS (va_Run.vx (va_runU (C := C) (owner := y.cls) (x := y) (As := a1.map (am_rv G)) (b := am_ad G b) ⟨X.1, X.2.1, X.2.2.1, X.2.2.2.1, X.2.2.2.2.1⟩ (hM.met hno) (va_cwU a1.length X.2.2.2.2.1 (am_gi (ws := [.methodLink own i y, .sameMethod y.cls y.cls y.name y.desc, .selects C y y, .instanceMethod y, .initialized y.cls]) (fun w hw => by simp only [List.mem_cons, List.not_mem_nil, or_false] at hw; rcases hw with rfl | rfl | rfl | rfl | rfl <;> assumption) hcw) rfl rfl rfl rfl hd hR)
    ⟨am_P.blind, am_recv X.2.2.2.2.2.1.1 (am_kt_S X.2.2.2.2.2.1 hS) hH hb htb hcl, fun U hU hW => ⟨rfl, by rw [hU]; exact hH, X.2.2.2.2.2.1.at hS hU hW⟩⟩ rfl (by rw [List.length_map]) (by rw [← hLn]; exact hL.1) (am_stk a1 st b) (am_ct8 hst) d hf)) kr (fun E h' hp => absurd hp (hno E h'))
/-- as callU: the method named is x, the one chosen for the object's class is y -/
theorem am_R.callU2 (X : am_Cx l G p s m args meth c own cc nL ret) {i b tb : Nat} {x y : MethodName} {C : String} {bytes bx : ByteArray} {maxL mx fr lo mc' ms' : Nat} {rt rx : Option FieldType} (a1 : List Value) {vb : List Value} {T : u_T} {N : Nat} {P' : am_O → List am_C → Prop}
    (hM : am_M l G y (.code y bytes maxL rt) fr lo mc' ms' (.ref b :: a1) h P') (hno : ∀ E h', ¬ P' (.inr E) h') (hcw : Cond.code y bytes maxL rt ∈ lw_gw) (hcx : Cond.code x bx mx rx ∈ lw_gw) (hl : Cond.methodLink own i x ∈ lw_gw) (hsm : Cond.sameMethod x.cls x.cls x.name x.desc ∈ lw_gw) (hinx : Cond.instanceMethod x ∈ lw_gw) (hin : Cond.instanceMethod y ∈ lw_gw) (hse : Cond.selects C x y ∈ lw_gw) (hini : Cond.initialized y.cls ∈ lw_gw)
    (hd : x.cls ≠ "java/lang/invoke/MethodHandle" ∧ x.cls ≠ "java/lang/invoke/VarHandle" ∧ (parseMethodDescriptor x.desc).map (fun d => d.parameters.length) = some a1.length) (hR : fr + 1 ≤ R.frames ∧ 8 + (maxL + 11) + lo ≤ R.locals) (hLn : L.length = nL) (hst : (st.map fun v => v.category).sum ≤ 8)
    (hb : am_g G h b = some (tb, vb)) (htb : tb % 100 < 50) (hcl : am_cl[tb % 100]? = some (C, T, N)) (hf : k + mc' ≤ R.cells ∧ n + ms' ≤ R.slots) (d : decode cc pc = .ok (.invokevirtual i, 3))
    (kr : ∀ (r : Option Value) (h' : List am_C), P' (.inl r) h' → am_R G p l e R s m args below meth c mc ms Post (pc + 3) L (r.toList ++ st) h' (k + mc') (n + ms')) : am_R G p l e R s m args below meth c mc ms Post pc L (a1.reverse ++ .ref b :: st) h k n := by
  intro ls H locs hL hH hS
  have T9 := X.2.2.2.2.1
  have hG : GoodIn lw_gw (Cond.code y bytes maxL rt :: lw_gw) := am_gi (ws := []) (fun w hw => (nomatch hw)) hcw
  refine am_post hL hS (va_Run.vx (va_runU (C := C) (owner := x.cls) (x := x) (As := a1.map (am_rv G)) (b := am_ad G b) ⟨X.1, X.2.1, X.2.2.1, X.2.2.2.1, X.2.2.2.2.1⟩ (hM.met hno) ⟨⟨rfl, rfl, hR.1, hR.2, pay_in T9 hG, List.mem_cons_self⟩, T9 _ hcw, T9 _ hini, ⟨hd.1, hd.2.1⟩, fun sig h => (by
      have h2 := hd.2.2
      rw [h] at h2
      exact (Option.some.inj h2).symm : a1.length = sig.parameters.length), T9 _ hl, T9 _ hsm, va_Decl.of (T9 _ hinx) (T9 _ hcx), T9 _ hse, T9 _ hin⟩
    ⟨am_P.blind, am_recv X.2.2.2.2.2.1.1 (am_kt_S X.2.2.2.2.2.1 hS) hH hb htb hcl, fun U hU hW => ⟨rfl, by rw [hU]; exact hH, X.2.2.2.2.2.1.at hS hU hW⟩⟩ rfl (by rw [List.length_map]) (by rw [← hLn]; exact hL.1) (am_stk a1 st b) (am_ct8 hst) d hf)) kr (fun E h' hp => absurd hp (hno E h'))
/-- a method of the superclass, by invokespecial -/
theorem am_R.callSU (X : am_Cx l G p s m args meth c own cc nL ret) {i b tb : Nat} {y : MethodName} {C : String} {bytes : ByteArray} {maxL fr lo mc' ms' : Nat} {rt : Option FieldType} (a1 : List Value) {vb : List Value} {T : u_T} {N : Nat} {P' : am_O → List am_C → Prop}
    (hM : am_M l G y (.code y bytes maxL rt) fr lo mc' ms' (.ref b :: a1) h P') (hno : ∀ E h', ¬ P' (.inr E) h') (hcw : Cond.code y bytes maxL rt ∈ lw_gw) (hl : Cond.methodLink own i y ∈ lw_gw) (hsm : Cond.sameMethod y.cls y.cls y.name y.desc ∈ lw_gw) (hsu : Cond.superclass own y.cls ∈ lw_gw) (hin : Cond.instanceMethod y ∈ lw_gw) (hini : Cond.initialized y.cls ∈ lw_gw)
    (hd : y.name ≠ "<init>" ∧ (parseMethodDescriptor y.desc).map (fun d => d.parameters.length) = some a1.length) (hR : fr + 1 ≤ R.frames ∧ 8 + (maxL + 11) + lo ≤ R.locals) (hLn : L.length = nL) (hst : (st.map fun v => v.category).sum ≤ 8)
    (hb : am_g G h b = some (tb, vb)) (htb : tb % 100 < 50) (hcl : am_cl[tb % 100]? = some (C, T, N)) (hf : k + mc' ≤ R.cells ∧ n + ms' ≤ R.slots) (d : decode cc pc = .ok (.invokespecial i, 3))
    (kr : ∀ (r : Option Value) (h' : List am_C), P' (.inl r) h' → am_R G p l e R s m args below meth c mc ms Post (pc + 3) L (r.toList ++ st) h' (k + mc') (n + ms')) : am_R G p l e R s m args below meth c mc ms Post pc L (a1.reverse ++ .ref b :: st) h k n := by
  intro ls H locs hL hH hS
  refine am_post hL hS (va_Run.vx (va_runSU (C := C) (As := a1.map (am_rv G)) (b := am_ad G b) (X.2.2.2.2.2.1.1.1 _ _ hcl).2 ⟨X.1, X.2.1, X.2.2.1, X.2.2.2.1, X.2.2.2.2.1⟩ (hM.met hno) (va_cwSU a1.length X.2.2.2.2.1 (am_gi (ws := [.methodLink own i y, .sameMethod y.cls y.cls y.name y.desc, .superclass own y.cls, .instanceMethod y, .initialized y.cls]) (fun w hw => by simp only [List.mem_cons, List.not_mem_nil, or_false] at hw; rcases hw with rfl | rfl | rfl | rfl | rfl <;> assumption) hcw) rfl rfl rfl hd hR)
    ⟨am_P.blind, am_recv X.2.2.2.2.2.1.1 (am_kt_S X.2.2.2.2.2.1 hS) hH hb htb hcl, fun U hU hW => ⟨rfl, by rw [hU]; exact hH, X.2.2.2.2.2.1.at hS hU hW⟩⟩ rfl (by rw [List.length_map]) (by rw [← hLn]; exact hL.1) (am_stk a1 st b) (am_ct8 hst) d hf)) kr (fun E h' hp => absurd hp (hno E h'))
/-- an interface's method x, which is y in the receiver's class C -/
theorem am_R.callF (X : am_Cx l G p s m args meth c own cc nL ret) {i cn b tb : Nat} {x y : MethodName} {C : String} {bytes : ByteArray} {maxL fr lo mc' ms' : Nat} {rt : Option FieldType} (a1 : List Value) {vb : List Value} {T : u_T} {N : Nat} {P' : am_O → List am_C → Prop}
    (hM : am_M l G y (.code y bytes maxL rt) fr lo mc' ms' (.ref b :: a1) h P') (hno : ∀ E h', ¬ P' (.inr E) h') (hcw : Cond.code y bytes maxL rt ∈ lw_gw) (hl : Cond.methodLink own i x ∈ lw_gw) (hse : Cond.selects C x y ∈ lw_gw) (hin : Cond.instanceMethod y ∈ lw_gw) (hini : Cond.initialized y.cls ∈ lw_gw)
    (n1 : Cond.declares x ∈ lw_ng) (n2 : Cond.interfaceMethod x.cls x.cls x.name x.desc ∈ lw_ng) (n3 : Cond.publicMethod y ∈ lw_ng) (n4 : Cond.unhidden C x.name x.desc ∈ lw_ng) (n5 : Cond.castable C x.cls ∈ lw_ng)
    (hd : x.cls ≠ "java/lang/invoke/MethodHandle" ∧ x.cls ≠ "java/lang/invoke/VarHandle" ∧ (parseMethodDescriptor x.desc).map (fun d => d.parameters.length) = some a1.length) (hR : fr + 1 ≤ R.frames ∧ 8 + (maxL + 11) + lo ≤ R.locals) (hLn : L.length = nL) (hst : (st.map fun v => v.category).sum ≤ 8)
    (hb : am_g G h b = some (tb, vb)) (htb : tb % 100 < 50) (hcl : am_cl[tb % 100]? = some (C, T, N)) (hf : k + mc' ≤ R.cells ∧ n + ms' ≤ R.slots) (d : decode cc pc = .ok (.invokeinterface i cn, 5))
    (kr : ∀ (r : Option Value) (h' : List am_C), P' (.inl r) h' → am_R G p l e R s m args below meth c mc ms Post (pc + 5) L (r.toList ++ st) h' (k + mc') (n + ms')) : am_R G p l e R s m args below meth c mc ms Post pc L (a1.reverse ++ .ref b :: st) h k n := by
  intro ls H locs hL hH hS T9 hT Y
  have hF : va_Fw C x y s := ⟨X.2.2.2.2.2.1.2.2.2.2.2.2.2 _ n1, X.2.2.2.2.2.1.2.2.2.2.2.2.2 _ n2, X.2.2.2.2.2.1.2.2.2.2.2.2.2 _ n3, X.2.2.2.2.2.1.2.2.2.2.2.2.2 _ n4, X.2.2.2.2.2.1.2.2.2.2.2.2.2 _ n5⟩
  have hr := va_runF (C := C) (x := x) (As := a1.map (am_rv G)) (b := am_ad G b) (rest := st.map (am_rv G)) (g := F0 m pc ls ((a1.reverse ++ .ref b :: st).map (am_rv G))) (below := below) (e := e) (meth := meth) (locs := locs) (cells := k) (slots := n) (R := R) (X.2.2.2.2.2.1.1.1 _ _ hcl).2 ⟨X.1, X.2.1, X.2.2.1, X.2.2.2.1, X.2.2.2.2.1⟩ (hM.met hno) (va_cwF a1.length X.2.2.2.2.1 (am_gi (ws := [.methodLink own i x, .selects C x y, .instanceMethod y, .initialized y.cls]) (fun w hw => by simp only [List.mem_cons, List.not_mem_nil, or_false] at hw; rcases hw with rfl | rfl | rfl | rfl <;> assumption) hcw) rfl rfl rfl hF hd hR)
    ⟨am_P.blind, am_recv X.2.2.2.2.2.1.1 (am_kt_S X.2.2.2.2.2.1 hS) hH hb htb hcl, fun U hU hW => ⟨rfl, by rw [hU]; exact hH, X.2.2.2.2.2.1.at hS hU hW⟩⟩ rfl (by rw [List.length_map]) (by rw [← hLn]; exact hL.1) (am_stk a1 st b) (am_ct8 hst) d hf
  obtain ⟨v, st₀, t, T', L9, e0, Y', hL9, e1, e2, ⟨r, h', f1, f2, f3, f4⟩, go⟩ := hr T9 hT Y
  cases f1
  obtain ⟨t2, a1', b1⟩ := kr r h' f2 ls T'.heap (locs ++ L9) hL (by rw [e1]; exact f3) ⟨Nat.le_trans hS.1 (by rw [e1, ← e0]; exact f4.1), fun q h1 h2 => by rw [e1, f4.2 q (by rw [e0]; exact Nat.lt_of_lt_of_le h1 hS.1) h2, e0]; exact hS.2.1 q h1 h2, fun q hq => (List.mem_append.mp hq).elim (fun h => hS.2.2 q h) (fun h => hL9 q h)⟩ T' rfl Y'
  refine ⟨t2, go t2 ?_, b1⟩
  have hst9 : (r.map (am_rv G)).toList ++ st.map (am_rv G) = (r.toList ++ st).map (am_rv G) := by cases r <;> rfl
  show Steps p.tables e below (T'.setTop (F0 m (pc + 5) ls ((r.map (am_rv G)).toList ++ st.map (am_rv G)))) t2
  rw [hst9]
  exact a1'
end AMC2
end
section
section AMT
variable {G : am_G} {p : Program} {l : Launch} {e : Env} {R : Room} {s : State} {m : MethodId} {args : Array Value} {below : List Frame} {meth : Method} {c : Code} {mc ms : Nat} {Post : am_O → List am_C → Prop}
variable {own : String} {cc : ByteArray} {nL pc : Nat} {ret : Option FieldType} {L : List (Option Value)} {st : List Value} {h : List am_C} {k n : Nat}
/-- 'throw new E("text")', leaving this method: follows vx_throwS, with the heap told exactly -/
theorem am_R.throwS (X9 : am_Cx l G p s m args meth c own cc nL ret) {cls text : String} {names : List String} {ik is ic n9 : Nat} (hcls : Bundle.fit cls = true) (hnames : ∀ n ∈ names, Bundle.fit n = true)
    (hk9 : Cond.classLink own ik cls ∈ lw_gw) (hini9 : Cond.initialized cls ∈ lw_gw) (hz : (own, is, text, n9) ∈ am_T) (hat9 : ∀ w ∈ vx_atS own ic cls names, w ∈ lw_gw ∨ w ∈ lw_ng)
    (hgood : ∀ w ∈ Cond.classLink own ik cls :: Cond.initialized cls :: vx_atS own ic cls names, vx_ot w = true) (hLn : L.length = nL)
    (d0 : decode cc pc = .ok (.new ik, 3)) (d3 : decode cc (pc + 3) = .ok (.dup, 1)) (d4 : decode cc (pc + 4) = .ok (.ldc is, 2)) (d6 : decode cc (pc + 6) = .ok (.invokespecial ic, 3)) (d9 : decode cc (pc + 9) = .ok (.athrow, 1))
    (hout : ∀ x ∈ c.exceptionTable.toList, covers x (pc + 9) = false)
    (hRframes : names.length + 3 < R.frames) (hst9 : (st.map fun v => v.category).sum ≤ 8) (hRlocals9 : 8 + (13 * (names.length + 1) + 43) ≤ R.locals) (hRcells : k + 1 ≤ R.cells) (hRslots : n + 6 ≤ R.slots)
    (hp9 : Post (.inr cls) (h ++ [(99, [])])) (hc : k + 1 ≤ mc) (hs : n + 6 ≤ ms) :
    am_R G p l e R s m args below meth c mc ms Post pc L st h k n := by
  intro ls H locs hL hH hS T hT X
  have hexec := X9.1
  have hb := X9.2.1
  have hl := X9.2.2.2.2.2.2.2.1
  have hown := X9.2.2.2.1
  have hlocks := X9.2.2.2.2.2.2.1
  have hk := X9.2.2.2.2.1 _ hk9
  have hini := X9.2.2.2.2.1 _ hini9
  have hstr : vk_R own is text (am_ad G n9) s := X9.2.2.2.2.2.1.2.2.2.2.1 _ hz
  generalize am_ad G n9 = sa at hstr
  have hat : ∀ w ∈ vx_atS own ic cls names, w.before args s = true := fun w hw => (hat9 w hw).elim (fun h => X9.2.2.2.2.1 _ h) (fun h => by
    have h1 := X9.2.2.2.2.2.1.2.2.2.2.2.2.2 _ h
    have h2 := hgood w (List.mem_cons_of_mem _ (List.mem_cons_of_mem _ hw))
    simp only [vx_ot, Bool.or_eq_true] at h2
    rcases h2 with h2 | h2
    · exact va_Nw.use h2 h1
    · exact X9.2.2.2.2.1 _ (List.mem_filter.mpr ⟨(List.mem_filter.mp h).1, h2⟩))
  have hU := X9.2.2.2.2.2.1.2.2.2.2.2.1.2
  have hN := X9.2.2.2.2.2.1.2.2.2.2.2.2.1
  generalize hA9 : am_A G = A at hU hN
  have hS0 := hS
  rw [hA9] at hS
  have hsize : ls.size = c.maxLocals := by rw [X9.2.2.1, ← hLn]; exact hL.1
  obtain ⟨rest, hrest⟩ : ∃ z, z = st.map (am_rv G) := ⟨_, rfl⟩
  have hRlocals : (rest.map fun v => v.category).sum + (13 * (names.length + 1) + 43) ≤ R.locals := by rw [hrest, am_cats]; omega
  rw [← hrest]
  have htr : e.platform.stackTraces = false := (show e.platform.stackTraces = l.stackTraces by rw [X.admits.platform]).trans hl
  have Y := vx_rebase X (R' := { frames := R.frames, locals := R.locals, cells := 1, slots := 6 }) (Nat.le_refl _) (Nat.le_refl _) hRcells hRslots
  obtain ⟨s', hA⟩ : ∃ z, z = (T.setVm s.vm).setFrames (.invoking m args :: below) := ⟨_, rfl⟩
  rw [← hA] at Y
  have hvm : s'.vm = s.vm := by rw [hA]; rfl
  have hhp : s'.heap = H := by rw [hA]; exact hT
  have hW0 : s.WarmedH s'.vm := by rw [hvm]; exact State.WarmedH.refl s
  have hat' : ∀ w ∈ vx_atS own ic cls names, w.before args s' = true := fun w hw => vx_ot_at hW0 hvm.symm (hgood w (List.mem_cons_of_mem _ (List.mem_cons_of_mem _ hw))) (hat w hw)
  have hk' : (Cond.classLink own ik cls).before args s' = true := vx_ot_at hW0 hvm.symm (hgood _ List.mem_cons_self) hk
  have hini' : (Cond.initialized cls).before args s' = true := vx_ot_at hW0 hvm.symm (hgood _ (List.mem_cons_of_mem _ List.mem_cons_self)) hini
  have hU' : vx_Zq Bundle.tN "UNASSIGNED_STACK" Bundle.steD A s' s'.heap := by rw [hhp]; exact vx_Zq.moved hW0.alike (hU.kept hS.2.1)
  have hN' : vx_Zq Bundle.tN "SUPPRESSED_SENTINEL" Bundle.listD A s' s'.heap := by rw [hhp]; exact vx_Zq.moved hW0.alike (hN.kept hS.2.1)
  have h : ∀ w ∈ Bundle.ownAtoms own ic cls names, w.before args s' = true := vx_own hat' (vx_isRefq hU'.1) (vx_isRefq hN'.1) hU'.2.word hN'.2.word
  have hown' : s'.vm.findClass own = some m.cls := by rw [hvm]; exact hown
  have hins : (Cond.instantiable cls 6).before args s' = true := h _ (by simp [Bundle.ownAtoms])
  obtain ⟨vm₁, cX, kX, hfX, hkX, -, -, X₁, st1⟩ := Y.newCold hexec (own := own) (C := cls) (index := ik) (n := 6) hown' hk' hins hini'
    (g := F0 m pc ls rest) rfl (by rw [hb]; exact d0) (Nat.le_refl _) (Nat.le_refl _)
  generalize hT1 : (T.setVm vm₁).pushCell { cls := cX, slots := kX.instanceTypes.map defaultValue, vm := .none } = T1 at X₁ st1
  have hcat : (Value.ref T.heap.size).category = 1 := rfl
  have hcellA : T1.heap[T.heap.size]? = some (freshCell cX kX) := by rw [← hT1]; exact State.heap_pushCell_size _ _
  have d3' : decode c.code (pc + 3) = .ok (.dup, 1) := by rw [hb]; exact d3
  have d4' : decode c.code (pc + 4) = .ok (.ldc is, 2) := by rw [hb]; exact d4
  have hstr' : vk_R own is text sa s' := vk_R.warm hW0 hstr
  obtain ⟨U, hsteps, hrun, hend, hW, hsame, ce, hce, hO⟩ := X₁.ctorThrowS hexec htr (own := own) (cls := cls) (names := names) (ic := ic) hown' hcls hnames h (fun x hx => nomatch hx) hfX hkX hcellA (by rw [hhp, hT]; exact Nat.le_refl _) (msg := .ref sa) rfl
    (g := { method := m, pc := pc + 6, locals := ls, stack := .ref sa :: .ref T.heap.size :: .ref T.heap.size :: rest, locked := none }) rfl hsize rfl rfl (rest := rest) rfl
    (by rw [hb]; exact d6) (by rw [hb]; exact d9) hout hRframes (by simp only [List.map_cons, List.sum_cons, hcat]; omega) hlocks
  obtain ⟨f1, f2⟩ := vx_frame hsame
  rw [hhp] at f1 f2
  have hWs : s.WarmedH U.vm := State.WarmedH.trans hW0 hW
  have hcl : s.vm.findClass cls = some ce.cls := by
    have h9 := hO.cls
    rw [hvm] at h9
    exact h9
  have hall : s.sameButNew ({ U with vm := s.vm } : State) locs mc ms := by
    subst hA
    obtain ⟨e1, e2⟩ := hsame
    rw [State.setFrames_setFrames] at e1
    have h2 : (T.setVm s.vm).sameButNew ({ U with vm := s.vm } : State) [] (0 + 1) (0 + 6) := ⟨e1, e2⟩
    have h3 := X.same.trans h2
    rw [List.append_nil] at h3
    exact h3.mono hc hs
  have hsz : U.heap.size = H.size + 1 := by
    have g1 : U.heap.size ≤ s'.heap.size + 1 := hsame.2.2.1
    have g2 : T.heap.size < U.heap.size := (Array.getElem?_eq_some_iff.mp hce).1
    rw [hhp] at g1
    rw [hT] at g2
    omega
  have hatE : am_at G H.size (99, []) U.heap := by
    refine ⟨ce, by rw [← hT]; exact hce, ⟨?_, ?_, fun z => ?_, fun _ z => ?_⟩, hO.vm⟩
    · rw [hO.vm]; exact fun z => (by cases z)
    · rw [hO.vm]; rfl
    · exact absurd z (by decide)
    · exact absurd z (by decide)
  have hXC : am_X G Post cls s U := by
    refine ⟨_, hp9, hH.push hsz (fun q hq => f2 q hq (fun z hz => nomatch hz)) hatE, ?_⟩
    refine ⟨Nat.le_trans hS0.1 f1, fun q h1 h2 => ?_⟩
    rw [f2 q (Nat.lt_of_lt_of_le h1 hS0.1) (fun z hz => nomatch hz)]
    exact hS0.2.1 q h1 h2
  refine ⟨U, ?_, .threw T.heap.size, hrun, hend, Or.inr ⟨T.heap.size, rfl, cls, ce, locs, hXC, hce, hO.vm, hcl, hWs, hall, hS.2.2⟩⟩
  refine st1 _ ?_
  show Steps p.tables e below (T1.setTop { method := m, pc := pc + 3, locals := ls, stack := .ref T.heap.size :: rest, locked := none }) _
  jvm_step X₁.here [X₁.here.top, hexec, d3', Value.category]
  exact X₁.ldcString hexec (own := own) (text := text) (index := is) (a := sa) hown' hstr'.1 hstr'.2
    (g := { method := m, pc := pc + 4, locals := ls, stack := .ref T.heap.size :: .ref T.heap.size :: rest, locked := none }) rfl d4' _ hsteps
/-- the same with a far constant: 'throw new E("text")', leaving this method: follows vx_throwS, with the heap told exactly -/
theorem am_R.throwW (X9 : am_Cx l G p s m args meth c own cc nL ret) {cls text : String} {names : List String} {ik is ic n9 : Nat} (hcls : Bundle.fit cls = true) (hnames : ∀ n ∈ names, Bundle.fit n = true)
    (hk9 : Cond.classLink own ik cls ∈ lw_gw) (hini9 : Cond.initialized cls ∈ lw_gw) (hz : (own, is, text, n9) ∈ am_T) (hat9 : ∀ w ∈ vx_atS own ic cls names, w ∈ lw_gw ∨ w ∈ lw_ng)
    (hgood : ∀ w ∈ Cond.classLink own ik cls :: Cond.initialized cls :: vx_atS own ic cls names, vx_ot w = true) (hLn : L.length = nL)
    (d0 : decode cc pc = .ok (.new ik, 3)) (d3 : decode cc (pc + 3) = .ok (.dup, 1)) (d4 : decode cc (pc + 4) = .ok (.ldc_w is, 3)) (d6 : decode cc (pc + 7) = .ok (.invokespecial ic, 3)) (d9 : decode cc (pc + 10) = .ok (.athrow, 1))
    (hout : ∀ x ∈ c.exceptionTable.toList, covers x (pc + 10) = false)
    (hRframes : names.length + 3 < R.frames) (hst9 : (st.map fun v => v.category).sum ≤ 8) (hRlocals9 : 8 + (13 * (names.length + 1) + 43) ≤ R.locals) (hRcells : k + 1 ≤ R.cells) (hRslots : n + 6 ≤ R.slots)
    (hp9 : Post (.inr cls) (h ++ [(99, [])])) (hc : k + 1 ≤ mc) (hs : n + 6 ≤ ms) :
    am_R G p l e R s m args below meth c mc ms Post pc L st h k n := by
  intro ls H locs hL hH hS T hT X
  have hexec := X9.1
  have hb := X9.2.1
  have hl := X9.2.2.2.2.2.2.2.1
  have hown := X9.2.2.2.1
  have hlocks := X9.2.2.2.2.2.2.1
  have hk := X9.2.2.2.2.1 _ hk9
  have hini := X9.2.2.2.2.1 _ hini9
  have hstr : vk_R own is text (am_ad G n9) s := X9.2.2.2.2.2.1.2.2.2.2.1 _ hz
  generalize am_ad G n9 = sa at hstr
  have hat : ∀ w ∈ vx_atS own ic cls names, w.before args s = true := fun w hw => (hat9 w hw).elim (fun h => X9.2.2.2.2.1 _ h) (fun h => by
    have h1 := X9.2.2.2.2.2.1.2.2.2.2.2.2.2 _ h
    have h2 := hgood w (List.mem_cons_of_mem _ (List.mem_cons_of_mem _ hw))
    simp only [vx_ot, Bool.or_eq_true] at h2
    rcases h2 with h2 | h2
    · exact va_Nw.use h2 h1
    · exact X9.2.2.2.2.1 _ (List.mem_filter.mpr ⟨(List.mem_filter.mp h).1, h2⟩))
  have hU := X9.2.2.2.2.2.1.2.2.2.2.2.1.2
  have hN := X9.2.2.2.2.2.1.2.2.2.2.2.2.1
  generalize hA9 : am_A G = A at hU hN
  have hS0 := hS
  rw [hA9] at hS
  have hsize : ls.size = c.maxLocals := by rw [X9.2.2.1, ← hLn]; exact hL.1
  obtain ⟨rest, hrest⟩ : ∃ z, z = st.map (am_rv G) := ⟨_, rfl⟩
  have hRlocals : (rest.map fun v => v.category).sum + (13 * (names.length + 1) + 43) ≤ R.locals := by rw [hrest, am_cats]; omega
  rw [← hrest]
  have htr : e.platform.stackTraces = false := (show e.platform.stackTraces = l.stackTraces by rw [X.admits.platform]).trans hl
  have Y := vx_rebase X (R' := { frames := R.frames, locals := R.locals, cells := 1, slots := 6 }) (Nat.le_refl _) (Nat.le_refl _) hRcells hRslots
  obtain ⟨s', hA⟩ : ∃ z, z = (T.setVm s.vm).setFrames (.invoking m args :: below) := ⟨_, rfl⟩
  rw [← hA] at Y
  have hvm : s'.vm = s.vm := by rw [hA]; rfl
  have hhp : s'.heap = H := by rw [hA]; exact hT
  have hW0 : s.WarmedH s'.vm := by rw [hvm]; exact State.WarmedH.refl s
  have hat' : ∀ w ∈ vx_atS own ic cls names, w.before args s' = true := fun w hw => vx_ot_at hW0 hvm.symm (hgood w (List.mem_cons_of_mem _ (List.mem_cons_of_mem _ hw))) (hat w hw)
  have hk' : (Cond.classLink own ik cls).before args s' = true := vx_ot_at hW0 hvm.symm (hgood _ List.mem_cons_self) hk
  have hini' : (Cond.initialized cls).before args s' = true := vx_ot_at hW0 hvm.symm (hgood _ (List.mem_cons_of_mem _ List.mem_cons_self)) hini
  have hU' : vx_Zq Bundle.tN "UNASSIGNED_STACK" Bundle.steD A s' s'.heap := by rw [hhp]; exact vx_Zq.moved hW0.alike (hU.kept hS.2.1)
  have hN' : vx_Zq Bundle.tN "SUPPRESSED_SENTINEL" Bundle.listD A s' s'.heap := by rw [hhp]; exact vx_Zq.moved hW0.alike (hN.kept hS.2.1)
  have h : ∀ w ∈ Bundle.ownAtoms own ic cls names, w.before args s' = true := vx_own hat' (vx_isRefq hU'.1) (vx_isRefq hN'.1) hU'.2.word hN'.2.word
  have hown' : s'.vm.findClass own = some m.cls := by rw [hvm]; exact hown
  have hins : (Cond.instantiable cls 6).before args s' = true := h _ (by simp [Bundle.ownAtoms])
  obtain ⟨vm₁, cX, kX, hfX, hkX, -, -, X₁, st1⟩ := Y.newCold hexec (own := own) (C := cls) (index := ik) (n := 6) hown' hk' hins hini'
    (g := F0 m pc ls rest) rfl (by rw [hb]; exact d0) (Nat.le_refl _) (Nat.le_refl _)
  generalize hT1 : (T.setVm vm₁).pushCell { cls := cX, slots := kX.instanceTypes.map defaultValue, vm := .none } = T1 at X₁ st1
  have hcat : (Value.ref T.heap.size).category = 1 := rfl
  have hcellA : T1.heap[T.heap.size]? = some (freshCell cX kX) := by rw [← hT1]; exact State.heap_pushCell_size _ _
  have d3' : decode c.code (pc + 3) = .ok (.dup, 1) := by rw [hb]; exact d3
  have d4' : decode c.code (pc + 4) = .ok (.ldc_w is, 3) := by rw [hb]; exact d4
  have hstr' : vk_R own is text sa s' := vk_R.warm hW0 hstr
  obtain ⟨U, hsteps, hrun, hend, hW, hsame, ce, hce, hO⟩ := X₁.ctorThrowS hexec htr (own := own) (cls := cls) (names := names) (ic := ic) hown' hcls hnames h (fun x hx => nomatch hx) hfX hkX hcellA (by rw [hhp, hT]; exact Nat.le_refl _) (msg := .ref sa) rfl
    (g := { method := m, pc := pc + 7, locals := ls, stack := .ref sa :: .ref T.heap.size :: .ref T.heap.size :: rest, locked := none }) rfl hsize rfl rfl (rest := rest) rfl
    (by rw [hb]; exact d6) (by rw [hb]; exact d9) hout hRframes (by simp only [List.map_cons, List.sum_cons, hcat]; omega) hlocks
  obtain ⟨f1, f2⟩ := vx_frame hsame
  rw [hhp] at f1 f2
  have hWs : s.WarmedH U.vm := State.WarmedH.trans hW0 hW
  have hcl : s.vm.findClass cls = some ce.cls := by
    have h9 := hO.cls
    rw [hvm] at h9
    exact h9
  have hall : s.sameButNew ({ U with vm := s.vm } : State) locs mc ms := by
    subst hA
    obtain ⟨e1, e2⟩ := hsame
    rw [State.setFrames_setFrames] at e1
    have h2 : (T.setVm s.vm).sameButNew ({ U with vm := s.vm } : State) [] (0 + 1) (0 + 6) := ⟨e1, e2⟩
    have h3 := X.same.trans h2
    rw [List.append_nil] at h3
    exact h3.mono hc hs
  have hsz : U.heap.size = H.size + 1 := by
    have g1 : U.heap.size ≤ s'.heap.size + 1 := hsame.2.2.1
    have g2 : T.heap.size < U.heap.size := (Array.getElem?_eq_some_iff.mp hce).1
    rw [hhp] at g1
    rw [hT] at g2
    omega
  have hatE : am_at G H.size (99, []) U.heap := by
    refine ⟨ce, by rw [← hT]; exact hce, ⟨?_, ?_, fun z => ?_, fun _ z => ?_⟩, hO.vm⟩
    · rw [hO.vm]; exact fun z => (by cases z)
    · rw [hO.vm]; rfl
    · exact absurd z (by decide)
    · exact absurd z (by decide)
  have hXC : am_X G Post cls s U := by
    refine ⟨_, hp9, hH.push hsz (fun q hq => f2 q hq (fun z hz => nomatch hz)) hatE, ?_⟩
    refine ⟨Nat.le_trans hS0.1 f1, fun q h1 h2 => ?_⟩
    rw [f2 q (Nat.lt_of_lt_of_le h1 hS0.1) (fun z hz => nomatch hz)]
    exact hS0.2.1 q h1 h2
  refine ⟨U, ?_, .threw T.heap.size, hrun, hend, Or.inr ⟨T.heap.size, rfl, cls, ce, locs, hXC, hce, hO.vm, hcl, hWs, hall, hS.2.2⟩⟩
  refine st1 _ ?_
  show Steps p.tables e below (T1.setTop { method := m, pc := pc + 3, locals := ls, stack := .ref T.heap.size :: rest, locked := none }) _
  jvm_step X₁.here [X₁.here.top, hexec, d3', Value.category]
  exact X₁.ldcStringW hexec (own := own) (text := text) (index := is) (a := sa) hown' hstr'.1 hstr'.2
    (g := { method := m, pc := pc + 4, locals := ls, stack := .ref T.heap.size :: .ref T.heap.size :: rest, locked := none }) rfl d4' _ hsteps
end AMT
end
section
/-! CAUGHT: the throwable goes into the last local, which nobody reads -/
section AMCT
variable {G : am_G} {p : Program} {l : Launch} {e : Env} {R : Room} {s : State} {m : MethodId} {args : Array Value} {below : List Frame} {meth : Method} {c : Code} {mc ms : Nat} {Post : am_O → List am_C → Prop}
variable {own : String} {cc : ByteArray} {nL pc : Nat} {ret : Option FieldType} {L : List (Option Value)} {st : List Value} {h : List am_C} {k n : Nat}
theorem am_L.of0 {G : am_G} {ls : Array Slot} {L : List (Option Value)} {i : Nat} {v : Value} (h : lv_has ls L.length ((i, v) :: (am_en G L).filter (fun q => !(q.1 == i) && !(q.1 + 1 == i && q.2.category == 2)))) : am_L G ls ((am_cut L i).set i none) := by
  refine ⟨by rw [List.length_set, am_cut_len]; exact h.1, h.2.1, fun j w hj => ?_⟩
  by_cases e : i = j
  · subst e
    have hl : i < (am_cut L i).length := by have := (List.getElem?_eq_some_iff.mp hj).1; simpa using this
    rw [List.getElem?_set_self hl] at hj
    cases hj
  · rw [List.getElem?_set_ne e] at hj
    obtain ⟨h1, h2⟩ := am_cut_get hj
    refine h.2.2 (j, am_rv G w) (List.mem_cons_of_mem _ (List.mem_filter.mpr ⟨am_en_mem.mpr ⟨w, h1, rfl⟩, ?_⟩))
    have e1 : (j == i) = false := by rw [beq_eq_false_iff_ne]; exact fun z => e z.symm
    by_cases e2 : j + 1 = i
    · have e3 : ((am_rv G w).category == 2) = false := by rw [beq_eq_false_iff_ne, am_rv_cat]; exact fun z => h2 ⟨e2, z⟩
      simp [e1, e3]
    · have e3 : (j + 1 == i) = false := by rw [beq_eq_false_iff_ne]; exact e2
      simp [e1, e3]
/-- a row of the table takes E: its handler begins with a store of it -/
def am_ct (own : String) (cc : ByteArray) (nL pc : Nat) (hh : List (Nat × Nat × Nat × Nat)) (E : String) (tgt : Nat) : Prop :=
  ∃ (pre : List (Nat × Nat × Nat × Nat)) (x : Nat × Nat × Nat × Nat) (suf : List (Nat × Nat × Nat × Nat)) (name : String), hh = pre ++ x :: suf ∧
    (∀ z ∈ pre, z.2.2.2 ≠ 0 ∧ ∃ nm : String, Cond.classLink own z.2.2.2 nm ∈ lw_gw ∧ Cond.not (.castable E nm) ∈ lw_ng) ∧ covers ⟨x.1, x.2.1, x.2.2.1, x.2.2.2⟩ pc = true ∧ x.2.2.2 ≠ 0 ∧ Cond.classLink own x.2.2.2 name ∈ lw_gw ∧ Cond.castable E name ∈ lw_ng ∧ 1 ≤ nL ∧
    ((decode cc x.2.2.1 = .ok (.astore (nL - 1), 2) ∧ tgt = x.2.2.1 + 2) ∨ ∃ q : Fin 4, decode cc x.2.2.1 = .ok (.astore_n q, 1) ∧ (q : Nat) = nL - 1 ∧ tgt = x.2.2.1 + 1)
theorem am_RX.catchS (X : am_Cx l G p s m args meth c own cc nL ret) {hh : List (Nat × Nat × Nat × Nat)} (htab : c.exceptionTable.toList = tableOf hh) {E : String} {tgt : Nat} (hc : am_ct own cc nL pc hh E tgt) (hL9 : L.length = nL)
    (kk : am_R G p l e R s m args below meth c mc ms Post tgt ((am_cut L (nL - 1)).set (nL - 1) none) [] h k n) : am_RX G p l e R s m args below meth c mc ms Post E pc L h k n := by
  intro ls H locs q ce rest hL hH hS hq hv hcl
  obtain ⟨pre, x, suf, name, e1, e2, e3, e4, e5, e6, e7, e8⟩ := hc
  have hng := X.2.2.2.2.2.1.2.2.2.2.2.2.2
  have hgw := X.2.2.2.2.1
  refine vx_catch X.2.2.2.1 (tableOf pre) ⟨x.1, x.2.1, x.2.2.1, x.2.2.2⟩ (tableOf suf) (by rw [htab, e1]; unfold tableOf; rw [List.map_append, List.map_cons]) (fun z hz => ?_) e3 e4 (hgw _ e5) (va_Nw.use (A := args) rfl (hng _ e6)) hq hv hcl ?_
  · obtain ⟨z0, hz0, rfl⟩ := List.mem_map.mp hz
    obtain ⟨f1, nm, f2, f3⟩ := e2 z0 hz0
    exact Or.inr ⟨f1, nm, hgw _ f2, va_Nc.of (hng _ f3)⟩
  · have hi : nL - 1 < L.length := by omega
    rcases e8 with ⟨d, rfl⟩ | ⟨i4, d, hi4, rfl⟩
    · exact lv_astore X.1 X.2.1 d hL.to hi rfl (fun ls' h' => kk ls' H locs (am_L.of0 h') hH hS)
    · exact lv_astore_n X.1 X.2.1 d hi4 hL.to hi rfl (fun ls' h' => kk ls' H locs (am_L.of0 h') hH hS)
theorem am_R.callSW (X : am_Cx l G p s m args meth c own cc nL ret) {i : Nat} {y : MethodName} {bytes : ByteArray} {maxL fr lo mc' ms' : Nat} {rt : Option FieldType} {hh : List (Nat × Nat × Nat × Nat)} (a1 : List Value) {P' : am_O → List am_C → Prop}
    (hM : am_M l G y (.codeWith y bytes maxL rt hh) fr lo mc' ms' a1 h P') (hno : ∀ E h', ¬ P' (.inr E) h') (hcw : Cond.codeWith y bytes maxL rt hh ∈ lw_gw) (hl : Cond.methodLink own i y ∈ lw_gw) (hsta : Cond.static y ∈ lw_gw) (hini : Cond.initialized y.cls ∈ lw_gw)
    (hd : y.cls ≠ "java/lang/invoke/MethodHandle" ∧ y.cls ≠ "java/lang/invoke/VarHandle" ∧ (parseMethodDescriptor y.desc).map (fun d => d.parameters.length) = some a1.length) (hR : fr + 1 ≤ R.frames ∧ 8 + (maxL + 11) + lo ≤ R.locals) (hLn : L.length = nL) (hst : (st.map fun v => v.category).sum ≤ 8)
    (hf : k + mc' ≤ R.cells ∧ n + ms' ≤ R.slots) (d : decode cc pc = .ok (.invokestatic i, 3))
    (kr : ∀ (r : Option Value) (h' : List am_C), P' (.inl r) h' → am_R G p l e R s m args below meth c mc ms Post (pc + 3) L (r.toList ++ st) h' (k + mc') (n + ms')) : am_R G p l e R s m args below meth c mc ms Post pc L (a1.reverse ++ st) h k n := by
  intro ls H locs hL hH hS
  refine am_post hL hS (va_Run.vx (vx_runSW (As := a1.map (am_rv G)) (rest := st.map (am_rv G)) ⟨X.1, X.2.1, X.2.2.1, X.2.2.2.1, X.2.2.2.2.1⟩ (hM.met hno) (vx_cwSW a1.length X.2.2.2.2.1 (am_gi (ws := [.methodLink own i y, .static y, .initialized y.cls]) (fun w hw => by simp only [List.mem_cons, List.not_mem_nil, or_false] at hw; rcases hw with rfl | rfl | rfl <;> assumption) hcw) rfl rfl rfl hd hR)
    ⟨am_P.blind, fun U hU hW => ⟨rfl, by rw [hU]; exact hH, X.2.2.2.2.2.1.at hS hU hW⟩⟩ rfl (by rw [List.length_map]) (by rw [← hLn]; exact hL.1) ?_ ?_ d hf)) kr (fun E h' hp => absurd hp (hno E h'))
  · show ((a1.reverse ++ st).map (am_rv G)) = _
    rw [List.map_append, List.map_reverse]
  · show 2 * 0 + ((st.map (am_rv G)).map fun v => v.category).sum ≤ 8
    rw [am_cats]; omega
/-- two references are compared: either way -/
theorem am_R.acmp (X : am_Cx l G p s m args meth c own cc nL ret) {eq : Bool} {off : Int} {tgt : Nat} {v w : Value} (hv : v = .null ∨ ∃ q, v = .ref q) (hw : w = .null ∨ ∃ q, w = .ref q) (d : decode cc pc = .ok (.if_acmp (bif eq then .eq else .ne) off, 3)) (ht : (pc : Int) + off = (tgt : Int))
    (k1 : am_R G p l e R s m args below meth c mc ms Post tgt L st h k n) (k2 : am_R G p l e R s m args below meth c mc ms Post (pc + 3) L st h k n) : am_R G p l e R s m args below meth c mc ms Post pc L (v :: w :: st) h k n := by
  intro ls H locs hL hH hS
  have hr : ∀ u : Value, (u = .null ∨ ∃ q, u = .ref q) → ∃ o : Option Nat, am_rv G u = va_rf o := fun u hu => by
    rcases hu with rfl | ⟨q, rfl⟩
    · exact ⟨none, rfl⟩
    · exact ⟨some (am_ad G q), rfl⟩
  obtain ⟨o1, e1⟩ := hr v hv
  obtain ⟨o2, e2⟩ := hr w hw
  show W p l e R s m args below meth c H locs k n _ (F0 m pc ls (am_rv G v :: am_rv G w :: st.map (am_rv G)))
  rw [e1, e2]
  cases eq
  · exact lv_acmp_ne X.1 X.2.1 d ht (fun _ => k1 ls H locs hL hH hS) (fun _ => k2 ls H locs hL hH hS)
  · exact lv_acmp_eq X.1 X.2.1 d ht (fun _ => k1 ls H locs hL hH hS) (fun _ => k2 ls H locs hL hH hS)
/-- the same reference twice -/
theorem am_R.acmpS (X : am_Cx l G p s m args meth c own cc nL ret) {eq : Bool} {off : Int} {tgt q : Nat} (d : decode cc pc = .ok (.if_acmp (bif eq then .eq else .ne) off, 3)) (ht : (pc : Int) + off = (tgt : Int))
    (kk : am_R G p l e R s m args below meth c mc ms Post (bif eq then tgt else pc + 3) L st h k n) : am_R G p l e R s m args below meth c mc ms Post pc L (.ref q :: .ref q :: st) h k n := by
  intro ls H locs hL hH hS
  show W p l e R s m args below meth c H locs k n _ (F0 m pc ls (va_rf (some (am_ad G q)) :: va_rf (some (am_ad G q)) :: st.map (am_rv G)))
  cases eq
  · exact lv_acmp_ne X.1 X.2.1 d ht (fun z => absurd rfl z) (fun _ => kk ls H locs hL hH hS)
  · exact lv_acmp_eq X.1 X.2.1 d ht (fun _ => kk ls H locs hL hH hS) (fun z => absurd rfl z)
/-- the class of Object[] as a constant -/
theorem am_R.ldcM (X : am_Cx l G p s m args meth c own cc nL ret) {i : Nat} (hl : Cond.classLink own i "[Ljava/lang/Object;" ∈ lw_gw) (d : decode cc pc = .ok (.ldc i, 2)) (kk : am_R G p l e R s m args below meth c mc ms Post (pc + 2) L (.ref 5 :: st) h k n) : am_R G p l e R s m args below meth c mc ms Post pc L st h k n :=
  fun ls H locs hL hH hS => va_ldcM X.1 X.2.1 X.2.2.2.1 (X.2.2.2.2.1 _ hl) X.2.2.2.2.2.1.2.2.2.2.2.1.1 d (kk ls H locs hL hH hS)
def am_gcN : MethodName := ⟨"java/lang/Object", "getClass", "()Ljava/lang/Class;"⟩
theorem am_R.getC (X : am_Cx l G p s m args meth c own cc nL ret) {i a t : Nat} {vs : List Value} (hl : Cond.methodLink own i am_gcN ∈ lw_gw) (hde : Cond.declares am_gcN ∈ lw_ng) (hse : Cond.selects "[Ljava/lang/Object;" am_gcN am_gcN ∈ lw_gw) (hin : Cond.instanceMethod am_gcN ∈ lw_gw) (hna : Cond.native am_gcN ∈ lw_gw) (hg : am_g G h a = some (t, vs)) (ht : t % 100 = 56) (hnm : "[" ++ (am_aty 56).toString = "[Ljava/lang/Object;")
    (hLn : L.length = nL) (hst : (st.map fun v => v.category).sum ≤ 8) (hfr : 1 ≤ R.frames) (hlo : 22 ≤ R.locals) (d : decode cc pc = .ok (.invokevirtual i, 3)) (kk : am_R G p l e R s m args below meth c mc ms Post (pc + 3) L (.ref 5 :: st) h k n) : am_R G p l e R s m args below meth c mc ms Post pc L (.ref a :: st) h k n := by
  intro ls H locs hL hH hS
  obtain ⟨cs, q1, q2⟩ := am_cell hH (am_kt_S X.2.2.2.2.2.1 hS) hg (by show t % 100 < 62; omega)
  obtain ⟨s0, -, -⟩ := q2.2.2.2 (by show 50 ≤ t % 100; omega) (by show t % 100 < 62; omega)
  have s0 : cs.cls = G.2.1 56 := by rw [← ht]; exact s0
  have h9 := (X.2.2.2.2.2.1.1.2 _ _ (am_tys_at G (show 50 ≤ 56 by decide) (by decide))).2
  exact va_getC X.1 X.2.1 (by rw [hL.1, hLn]; exact X.2.2.1) X.2.2.2.1 (X.2.2.2.2.1 _ hl) (va_Nw.use (A := args) rfl (X.2.2.2.2.2.1.2.2.2.2.2.2.2 _ hde)) (X.2.2.2.2.1 _ hse) (X.2.2.2.2.1 _ hin) (X.2.2.2.2.1 _ hna) X.2.2.2.2.2.1.2.2.2.2.2.1.1
    ⟨cs, q1, q2.2.1, by rw [s0]; exact va_nmO h9 hnm⟩ hfr (by rw [am_cats]; omega) d (kk ls H locs hL hH hS)
end AMCT
end
