section AMC2
variable {G : am_G} {p : Program} {l : Launch} {e : Env} {R : Room} {s : State} {m : MethodId} {args : Array Value} {below : List Frame} {meth : Method} {c : Code} {mc ms : Nat} {Post : am_O → List am_C → Prop}
variable {own : String} {cc : ByteArray} {nL pc : Nat} {ret : Option FieldType} {L : List (Option Value)} {st : List Value} {h : List am_C} {k n : Nat}
theorem am_stk (a1 st : List Value) (b : Nat) : (a1.reverse ++ .ref b :: st).map (am_rv G) = (a1.map (am_rv G)).reverse ++ .ref (am_ad G b) :: st.map (am_rv G) := by
  rw [List.map_append, List.map_reverse]
  rfl
theorem am_ct8 (hst : (st.map fun v => v.category).sum ≤ 8) : 2 * 0 + ((st.map (am_rv G)).map fun v => v.category).sum ≤ 8 := by rw [am_cats]; omega
/-- constructors: of this class or another, by an ordinary link -/
theorem am_R.callI (X : am_Cx l G p s m args meth c own cc nL ret) {i b : Nat} {y : MethodName} {bytes : ByteArray} {maxL fr lo mc' ms' : Nat} (a1 : List Value) {P' : am_O → List am_C → Prop}
    (hM : am_M l G y (.code y bytes maxL none) fr lo mc' ms' (.ref b :: a1) h P') (hno : ∀ E h', ¬ P' (.inr E) h') (hcw : Cond.code y bytes maxL none ∈ lw_gw) (hl : Cond.methodLink own i y ∈ lw_gw) (hin : Cond.instanceMethod y ∈ lw_gw) (hini : Cond.initialized y.cls ∈ lw_gw) (hnm : y.name = "<init>")
    (hd : y.cls ≠ "java/lang/invoke/MethodHandle" ∧ y.cls ≠ "java/lang/invoke/VarHandle" ∧ (parseMethodDescriptor y.desc).map (fun d => d.parameters.length) = some a1.length) (hR : fr + 1 ≤ R.frames ∧ 8 + (maxL + 11) + lo ≤ R.locals) (hLn : L.length = nL) (hst : (st.map fun v => v.category).sum ≤ 8)
    (hf : k + mc' ≤ R.cells ∧ n + ms' ≤ R.slots) (d : decode cc pc = .ok (.invokespecial i, 3))
    (kr : ∀ (r : Option Value) (h' : List am_C), P' (.inl r) h' → am_R G p l e R s m args below meth c mc ms Post (pc + 3) L (r.toList ++ st) h' (k + mc') (n + ms')) : am_R G p l e R s m args below meth c mc ms Post pc L (a1.reverse ++ .ref b :: st) h k n := by
  intro ls H locs hL hH hS
  refine am_post hL hS (va_Run.vx (va_runI (As := a1.map (am_rv G)) (b := am_ad G b) ⟨X.1, X.2.1, X.2.2.1, X.2.2.2.1, X.2.2.2.2.1⟩ (hM.met hno) ⟨callB_of a1.length X.2.2.2.2.1 (am_gi (ws := []) (fun w hw => by cases hw) hcw) rfl rfl rfl (X.2.2.2.2.1 _ hini) (X.2.2.2.2.1 _ hl) hd hR, hnm, X.2.2.2.2.1 _ hin⟩
    ⟨am_P.blind, fun U hU hW => ⟨rfl, by rw [hU]; exact hH, X.2.2.2.2.2.1.at hS hU hW⟩⟩ rfl (by rw [List.length_map]) (by rw [← hLn]; exact hL.1) (am_stk a1 st b) (am_ct8 hst) d hf)) kr (fun E h' hp => absurd hp (hno E h'))
/-- constructors of a nest mate -/
theorem am_R.callIN (X : am_Cx l G p s m args meth c own cc nL ret) {i b : Nat} {y : MethodName} {host : String} {bytes : ByteArray} {maxL fr lo mc' ms' : Nat} (a1 : List Value) {P' : am_O → List am_C → Prop}
    (hM : am_M l G y (.code y bytes maxL none) fr lo mc' ms' (.ref b :: a1) h P') (hno : ∀ E h', ¬ P' (.inr E) h') (hcw : Cond.code y bytes maxL none ∈ lw_gw) (hl : Cond.methodLinkNest own i y host ∈ lw_ng) (hin : Cond.instanceMethod y ∈ lw_gw) (hini : Cond.initialized y.cls ∈ lw_gw) (hnm : y.name = "<init>")
    (hd : y.cls ≠ "java/lang/invoke/MethodHandle" ∧ y.cls ≠ "java/lang/invoke/VarHandle" ∧ (parseMethodDescriptor y.desc).map (fun d => d.parameters.length) = some a1.length) (hR : fr + 1 ≤ R.frames ∧ 8 + (maxL + 11) + lo ≤ R.locals) (hLn : L.length = nL) (hst : (st.map fun v => v.category).sum ≤ 8)
    (hf : k + mc' ≤ R.cells ∧ n + ms' ≤ R.slots) (d : decode cc pc = .ok (.invokespecial i, 3))
    (kr : ∀ (r : Option Value) (h' : List am_C), P' (.inl r) h' → am_R G p l e R s m args below meth c mc ms Post (pc + 3) L (r.toList ++ st) h' (k + mc') (n + ms')) : am_R G p l e R s m args below meth c mc ms Post pc L (a1.reverse ++ .ref b :: st) h k n := by
  intro ls H locs hL hH hS
  refine am_post hL hS (va_Run.vx (va_runIN (As := a1.map (am_rv G)) (b := am_ad G b) ⟨X.1, X.2.1, X.2.2.1, X.2.2.2.1, X.2.2.2.2.1⟩ (hM.met hno) ⟨va_cnB a1.length X.2.2.2.2.1 (am_gi (ws := []) (fun w hw => by cases hw) hcw) rfl rfl rfl (X.2.2.2.2.2.1.2.2.2.2.2.2.2 _ hl) (X.2.2.2.2.1 _ hini) hd hR, hnm, X.2.2.2.2.1 _ hin⟩
    ⟨am_P.blind, fun U hU hW => ⟨rfl, by rw [hU]; exact hH, X.2.2.2.2.2.1.at hS hU hW⟩⟩ rfl (by rw [List.length_map]) (by rw [← hLn]; exact hL.1) (am_stk a1 st b) (am_ct8 hst) d hf)) kr (fun E h' hp => absurd hp (hno E h'))
/-- a static method of a nest mate -/
theorem am_R.callSN (X : am_Cx l G p s m args meth c own cc nL ret) {i : Nat} {y : MethodName} {host : String} {bytes : ByteArray} {maxL fr lo mc' ms' : Nat} {rt : Option FieldType} (a1 : List Value) {P' : am_O → List am_C → Prop}
    (hM : am_M l G y (.code y bytes maxL rt) fr lo mc' ms' a1 h P') (hno : ∀ E h', ¬ P' (.inr E) h') (hcw : Cond.code y bytes maxL rt ∈ lw_gw) (hl : Cond.methodLinkNest own i y host ∈ lw_ng) (hsta : Cond.static y ∈ lw_gw) (hini : Cond.initialized y.cls ∈ lw_gw)
    (hd : y.cls ≠ "java/lang/invoke/MethodHandle" ∧ y.cls ≠ "java/lang/invoke/VarHandle" ∧ (parseMethodDescriptor y.desc).map (fun d => d.parameters.length) = some a1.length) (hR : fr + 1 ≤ R.frames ∧ 8 + (maxL + 11) + lo ≤ R.locals) (hLn : L.length = nL) (hst : (st.map fun v => v.category).sum ≤ 8)
    (hf : k + mc' ≤ R.cells ∧ n + ms' ≤ R.slots) (d : decode cc pc = .ok (.invokestatic i, 3))
    (kr : ∀ (r : Option Value) (h' : List am_C), P' (.inl r) h' → am_R G p l e R s m args below meth c mc ms Post (pc + 3) L (r.toList ++ st) h' (k + mc') (n + ms')) : am_R G p l e R s m args below meth c mc ms Post pc L (a1.reverse ++ st) h k n := by
  intro ls H locs hL hH hS
  refine am_post hL hS (va_Run.vx (va_runSN (As := a1.map (am_rv G)) ⟨X.1, X.2.1, X.2.2.1, X.2.2.2.1, X.2.2.2.2.1⟩ (hM.met hno) ⟨va_cnB a1.length X.2.2.2.2.1 (am_gi (ws := []) (fun w hw => by cases hw) hcw) rfl rfl rfl (X.2.2.2.2.2.1.2.2.2.2.2.2.2 _ hl) (X.2.2.2.2.1 _ hini) hd hR, X.2.2.2.2.1 _ hsta, trivial⟩
    ⟨am_P.blind, fun U hU hW => ⟨rfl, by rw [hU]; exact hH, X.2.2.2.2.2.1.at hS hU hW⟩⟩ rfl (by rw [List.length_map]) (by rw [← hLn]; exact hL.1) (by show ((a1.reverse ++ st).map (am_rv G)) = _; rw [List.map_append, List.map_reverse]) (am_ct8 hst) d hf)) kr (fun E h' hp => absurd hp (hno E h'))
/-- a method that the receiver's class inherits: y is declared in its class, the receiver is of class C -/
theorem am_R.callU (X : am_Cx l G p s m args meth c own cc nL ret) {i b tb : Nat} {y : MethodName} {C : String} {bytes : ByteArray} {maxL fr lo mc' ms' : Nat} {rt : Option FieldType} (a1 : List Value) {vb : List Value} {T : u_T} {N : Nat} {P' : am_O → List am_C → Prop}
    (hM : am_M l G y (.code y bytes maxL rt) fr lo mc' ms' (.ref b :: a1) h P') (hno : ∀ E h', ¬ P' (.inr E) h') (hcw : Cond.code y bytes maxL rt ∈ lw_gw) (hl : Cond.methodLink own i y ∈ lw_gw) (hsm : Cond.sameMethod y.cls y.cls y.name y.desc ∈ lw_gw) (hin : Cond.instanceMethod y ∈ lw_gw) (hse : Cond.selects C y y ∈ lw_gw) (hini : Cond.initialized y.cls ∈ lw_gw)
    (hd : y.cls ≠ "java/lang/invoke/MethodHandle" ∧ y.cls ≠ "java/lang/invoke/VarHandle" ∧ (parseMethodDescriptor y.desc).map (fun d => d.parameters.length) = some a1.length) (hR : fr + 1 ≤ R.frames ∧ 8 + (maxL + 11) + lo ≤ R.locals) (hLn : L.length = nL) (hst : (st.map fun v => v.category).sum ≤ 8)
    (hb : am_g G h b = some (tb, vb)) (htb : tb % 100 < 50) (hcl : am_cl[tb % 100]? = some (C, T, N)) (hf : k + mc' ≤ R.cells ∧ n + ms' ≤ R.slots) (d : decode cc pc = .ok (.invokevirtual i, 3))
    (kr : ∀ (r : Option Value) (h' : List am_C), P' (.inl r) h' → am_R G p l e R s m args below meth c mc ms Post (pc + 3) L (r.toList ++ st) h' (k + mc') (n + ms')) : am_R G p l e R s m args below meth c mc ms Post pc L (a1.reverse ++ .ref b :: st) h k n := by
  intro ls H locs hL hH hS
  refine am_post hL hS (va_Run.vx (va_runU (C := C) (owner := y.cls) (x := y) (As := a1.map (am_rv G)) (b := am_ad G b) ⟨X.1, X.2.1, X.2.2.1, X.2.2.2.1, X.2.2.2.2.1⟩ (hM.met hno) (va_cwU a1.length X.2.2.2.2.1 (am_gi (ws := [.methodLink own i y, .sameMethod y.cls y.cls y.name y.desc, .selects C y y, .instanceMethod y, .initialized y.cls]) (fun w hw => by simp only [List.mem_cons, List.not_mem_nil, or_false] at hw; rcases hw with rfl | rfl | rfl | rfl | rfl <;> assumption) hcw) rfl rfl rfl rfl hd hR)
    ⟨am_P.blind, am_recv X.2.2.2.2.2.1.1 (am_kt_S X.2.2.2.2.2.1 hS) hH hb htb hcl, fun U hU hW => ⟨rfl, by rw [hU]; exact hH, X.2.2.2.2.2.1.at hS hU hW⟩⟩ rfl (by rw [List.length_map]) (by rw [← hLn]; exact hL.1) (am_stk a1 st b) (am_ct8 hst) d hf)) kr (fun E h' hp => absurd hp (hno E h'))
/-- as callU: the method named is x, the one chosen for the object's class is y -/
theorem am_R.callU2 (X : am_Cx l G p s m args meth c own cc nL ret) {i b tb : Nat} {x y : MethodName} {C : String} {bytes bx : ByteArray} {maxL mx fr lo mc' ms' : Nat} {rt rx : Option FieldType} (a1 : List Value) {vb : List Value} {T : u_T} {N : Nat} {P' : am_O → List am_C → Prop}
    (hM : am_M l G y (.code y bytes maxL rt) fr lo mc' ms' (.ref b :: a1) h P') (hno : ∀ E h', ¬ P' (.inr E) h') (hcw : Cond.code y bytes maxL rt ∈ lw_gw) (hcx : Cond.code x bx mx rx ∈ lw_gw) (hl : Cond.methodLink own i x ∈ lw_gw) (hsm : Cond.sameMethod x.cls x.cls x.name x.desc ∈ lw_gw) (hinx : Cond.instanceMethod x ∈ lw_gw) (hin : Cond.instanceMethod y ∈ lw_gw) (hse : Cond.selects C x y ∈ lw_gw) (hini : Cond.initialized y.cls ∈ lw_gw)
    (hd : x.cls ≠ "java/lang/invoke/MethodHandle" ∧ x.cls ≠ "java/lang/invoke/VarHandle" ∧ (parseMethodDescriptor x.desc).map (fun d => d.parameters.length) = some a1.length) (hR : fr + 1 ≤ R.frames ∧ 8 + (maxL + 11) + lo ≤ R.locals) (hLn : L.length = nL) (hst : (st.map fun v => v.category).sum ≤ 8)
    (hb : am_g G h b = some (tb, vb)) (htb : tb % 100 < 50) (hcl : am_cl[tb % 100]? = some (C, T, N)) (hf : k + mc' ≤ R.cells ∧ n + ms' ≤ R.slots) (d : decode cc pc = .ok (.invokevirtual i, 3))
    (kr : ∀ (r : Option Value) (h' : List am_C), P' (.inl r) h' → am_R G p l e R s m args below meth c mc ms Post (pc + 3) L (r.toList ++ st) h' (k + mc') (n + ms')) : am_R G p l e R s m args below meth c mc ms Post pc L (a1.reverse ++ .ref b :: st) h k n := by
  intro ls H locs hL hH hS
  have T9 := X.2.2.2.2.1
  have hG : GoodIn lw_gw (Cond.code y bytes maxL rt :: lw_gw) := am_gi (ws := []) (fun w hw => (nomatch hw)) hcw
  refine am_post hL hS (va_Run.vx (va_runU (C := C) (owner := x.cls) (x := x) (As := a1.map (am_rv G)) (b := am_ad G b) ⟨X.1, X.2.1, X.2.2.1, X.2.2.2.1, X.2.2.2.2.1⟩ (hM.met hno) ⟨⟨rfl, rfl, hR.1, hR.2, pay_in T9 hG, List.mem_cons_self⟩, T9 _ hcw, T9 _ hini, ⟨hd.1, hd.2.1⟩, fun sig h => (by
      have h2 := hd.2.2
      rw [h] at h2
      exact (Option.some.inj h2).symm : a1.length = sig.parameters.length), T9 _ hl, T9 _ hsm, va_Decl.of (T9 _ hinx) (T9 _ hcx), T9 _ hse, T9 _ hin⟩
    ⟨am_P.blind, am_recv X.2.2.2.2.2.1.1 (am_kt_S X.2.2.2.2.2.1 hS) hH hb htb hcl, fun U hU hW => ⟨rfl, by rw [hU]; exact hH, X.2.2.2.2.2.1.at hS hU hW⟩⟩ rfl (by rw [List.length_map]) (by rw [← hLn]; exact hL.1) (am_stk a1 st b) (am_ct8 hst) d hf)) kr (fun E h' hp => absurd hp (hno E h'))
/-- a method of the superclass, by invokespecial -/
theorem am_R.callSU (X : am_Cx l G p s m args meth c own cc nL ret) {i b tb : Nat} {y : MethodName} {C : String} {bytes : ByteArray} {maxL fr lo mc' ms' : Nat} {rt : Option FieldType} (a1 : List Value) {vb : List Value} {T : u_T} {N : Nat} {P' : am_O → List am_C → Prop}
    (hM : am_M l G y (.code y bytes maxL rt) fr lo mc' ms' (.ref b :: a1) h P') (hno : ∀ E h', ¬ P' (.inr E) h') (hcw : Cond.code y bytes maxL rt ∈ lw_gw) (hl : Cond.methodLink own i y ∈ lw_gw) (hsm : Cond.sameMethod y.cls y.cls y.name y.desc ∈ lw_gw) (hsu : Cond.superclass own y.cls ∈ lw_gw) (hin : Cond.instanceMethod y ∈ lw_gw) (hini : Cond.initialized y.cls ∈ lw_gw)
    (hd : y.name ≠ "<init>" ∧ (parseMethodDescriptor y.desc).map (fun d => d.parameters.length) = some a1.length) (hR : fr + 1 ≤ R.frames ∧ 8 + (maxL + 11) + lo ≤ R.locals) (hLn : L.length = nL) (hst : (st.map fun v => v.category).sum ≤ 8)
    (hb : am_g G h b = some (tb, vb)) (htb : tb % 100 < 50) (hcl : am_cl[tb % 100]? = some (C, T, N)) (hf : k + mc' ≤ R.cells ∧ n + ms' ≤ R.slots) (d : decode cc pc = .ok (.invokespecial i, 3))
    (kr : ∀ (r : Option Value) (h' : List am_C), P' (.inl r) h' → am_R G p l e R s m args below meth c mc ms Post (pc + 3) L (r.toList ++ st) h' (k + mc') (n + ms')) : am_R G p l e R s m args below meth c mc ms Post pc L (a1.reverse ++ .ref b :: st) h k n := by
  intro ls H locs hL hH hS
  refine am_post hL hS (va_Run.vx (va_runSU (C := C) (As := a1.map (am_rv G)) (b := am_ad G b) (X.2.2.2.2.2.1.1.1 _ _ hcl).2 ⟨X.1, X.2.1, X.2.2.1, X.2.2.2.1, X.2.2.2.2.1⟩ (hM.met hno) (va_cwSU a1.length X.2.2.2.2.1 (am_gi (ws := [.methodLink own i y, .sameMethod y.cls y.cls y.name y.desc, .superclass own y.cls, .instanceMethod y, .initialized y.cls]) (fun w hw => by simp only [List.mem_cons, List.not_mem_nil, or_false] at hw; rcases hw with rfl | rfl | rfl | rfl | rfl <;> assumption) hcw) rfl rfl rfl hd hR)
    ⟨am_P.blind, am_recv X.2.2.2.2.2.1.1 (am_kt_S X.2.2.2.2.2.1 hS) hH hb htb hcl, fun U hU hW => ⟨rfl, by rw [hU]; exact hH, X.2.2.2.2.2.1.at hS hU hW⟩⟩ rfl (by rw [List.length_map]) (by rw [← hLn]; exact hL.1) (am_stk a1 st b) (am_ct8 hst) d hf)) kr (fun E h' hp => absurd hp (hno E h'))
/-- an interface's method x, which is y in the receiver's class C -/
theorem am_R.callF (X : am_Cx l G p s m args meth c own cc nL ret) {i cn b tb : Nat} {x y : MethodName} {C : String} {bytes : ByteArray} {maxL fr lo mc' ms' : Nat} {rt : Option FieldType} (a1 : List Value) {vb : List Value} {T : u_T} {N : Nat} {P' : am_O → List am_C → Prop}
    (hM : am_M l G y (.code y bytes maxL rt) fr lo mc' ms' (.ref b :: a1) h P') (hno : ∀ E h', ¬ P' (.inr E) h') (hcw : Cond.code y bytes maxL rt ∈ lw_gw) (hl : Cond.methodLink own i x ∈ lw_gw) (hse : Cond.selects C x y ∈ lw_gw) (hin : Cond.instanceMethod y ∈ lw_gw) (hini : Cond.initialized y.cls ∈ lw_gw)
    (n1 : Cond.declares x ∈ lw_ng) (n2 : Cond.interfaceMethod x.cls x.cls x.name x.desc ∈ lw_ng) (n3 : Cond.publicMethod y ∈ lw_ng) (n4 : Cond.unhidden C x.name x.desc ∈ lw_ng) (n5 : Cond.castable C x.cls ∈ lw_ng)
    (hd : x.cls ≠ "java/lang/invoke/MethodHandle" ∧ x.cls ≠ "java/lang/invoke/VarHandle" ∧ (parseMethodDescriptor x.desc).map (fun d => d.parameters.length) = some a1.length) (hR : fr + 1 ≤ R.frames ∧ 8 + (maxL + 11) + lo ≤ R.locals) (hLn : L.length = nL) (hst : (st.map fun v => v.category).sum ≤ 8)
    (hb : am_g G h b = some (tb, vb)) (htb : tb % 100 < 50) (hcl : am_cl[tb % 100]? = some (C, T, N)) (hf : k + mc' ≤ R.cells ∧ n + ms' ≤ R.slots) (d : decode cc pc = .ok (.invokeinterface i cn, 5))
    (kr : ∀ (r : Option Value) (h' : List am_C), P' (.inl r) h' → am_R G p l e R s m args below meth c mc ms Post (pc + 5) L (r.toList ++ st) h' (k + mc') (n + ms')) : am_R G p l e R s m args below meth c mc ms Post pc L (a1.reverse ++ .ref b :: st) h k n := by
  intro ls H locs hL hH hS T9 hT Y
  have hF : va_Fw C x y s := ⟨X.2.2.2.2.2.1.2.2.2.2.2.2.2 _ n1, X.2.2.2.2.2.1.2.2.2.2.2.2.2 _ n2, X.2.2.2.2.2.1.2.2.2.2.2.2.2 _ n3, X.2.2.2.2.2.1.2.2.2.2.2.2.2 _ n4, X.2.2.2.2.2.1.2.2.2.2.2.2.2 _ n5⟩
  have hr := va_runF (C := C) (x := x) (As := a1.map (am_rv G)) (b := am_ad G b) (rest := st.map (am_rv G)) (g := F0 m pc ls ((a1.reverse ++ .ref b :: st).map (am_rv G))) (below := below) (e := e) (meth := meth) (locs := locs) (cells := k) (slots := n) (R := R) (X.2.2.2.2.2.1.1.1 _ _ hcl).2 ⟨X.1, X.2.1, X.2.2.1, X.2.2.2.1, X.2.2.2.2.1⟩ (hM.met hno) (va_cwF a1.length X.2.2.2.2.1 (am_gi (ws := [.methodLink own i x, .selects C x y, .instanceMethod y, .initialized y.cls]) (fun w hw => by simp only [List.mem_cons, List.not_mem_nil, or_false] at hw; rcases hw with rfl | rfl | rfl | rfl <;> assumption) hcw) rfl rfl rfl hF hd hR)
    ⟨am_P.blind, am_recv X.2.2.2.2.2.1.1 (am_kt_S X.2.2.2.2.2.1 hS) hH hb htb hcl, fun U hU hW => ⟨rfl, by rw [hU]; exact hH, X.2.2.2.2.2.1.at hS hU hW⟩⟩ rfl (by rw [List.length_map]) (by rw [← hLn]; exact hL.1) (am_stk a1 st b) (am_ct8 hst) d hf
  obtain ⟨v, st₀, t, T', L9, e0, Y', hL9, e1, e2, ⟨r, h', f1, f2, f3, f4⟩, go⟩ := hr T9 hT Y
  cases f1
  obtain ⟨t2, a1', b1⟩ := kr r h' f2 ls T'.heap (locs ++ L9) hL (by rw [e1]; exact f3) ⟨Nat.le_trans hS.1 (by rw [e1, ← e0]; exact f4.1), fun q h1 h2 => by rw [e1, f4.2 q (by rw [e0]; exact Nat.lt_of_lt_of_le h1 hS.1) h2, e0]; exact hS.2.1 q h1 h2, fun q hq => (List.mem_append.mp hq).elim (fun h => hS.2.2 q h) (fun h => hL9 q h)⟩ T' rfl Y'
  refine ⟨t2, go t2 ?_, b1⟩
  have hst9 : (r.map (am_rv G)).toList ++ st.map (am_rv G) = (r.toList ++ st).map (am_rv G) := by cases r <;> rfl
  show Steps p.tables e below (T'.setTop (F0 m (pc + 5) ls ((r.map (am_rv G)).toList ++ st.map (am_rv G)))) t2
  rw [hst9]
  exact a1'
end AMC2
