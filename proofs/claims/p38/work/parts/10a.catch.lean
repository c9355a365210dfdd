/-! CAUGHT: the throwable goes into the last local, which nobody reads -/
section AMCT
variable {G : am_G} {p : Program} {l : Launch} {e : Env} {R : Room} {s : State} {m : MethodId} {args : Array Value} {below : List Frame} {meth : Method} {c : Code} {mc ms : Nat} {Post : am_O → List am_C → Prop}
variable {own : String} {cc : ByteArray} {nL pc : Nat} {ret : Option FieldType} {L : List (Option Value)} {st : List Value} {h : List am_C} {k n : Nat}
theorem am_L.of0 {G : am_G} {ls : Array Slot} {L : List (Option Value)} {i : Nat} {v : Value} (h : lv_has ls L.length ((i, v) :: (am_en G L).filter (fun q => !(q.1 == i) && !(q.1 + 1 == i && q.2.category == 2)))) : am_L G ls ((am_cut L i).set i none) := by
  refine ⟨by rw [List.length_set, am_cut_len]; exact h.1, h.2.1, fun j w hj => ?_⟩
  by_cases e : i = j
  · subst e
    have hl : i < (am_cut L i).length := by have := (List.getElem?_eq_some_iff.mp hj).1; simpa using this
    rw [List.getElem?_set_self hl] at hj
    cases hj
  · rw [List.getElem?_set_ne e] at hj
    obtain ⟨h1, h2⟩ := am_cut_get hj
    refine h.2.2 (j, am_rv G w) (List.mem_cons_of_mem _ (List.mem_filter.mpr ⟨am_en_mem.mpr ⟨w, h1, rfl⟩, ?_⟩))
    have e1 : (j == i) = false := by rw [beq_eq_false_iff_ne]; exact fun z => e z.symm
    by_cases e2 : j + 1 = i
    · have e3 : ((am_rv G w).category == 2) = false := by rw [beq_eq_false_iff_ne, am_rv_cat]; exact fun z => h2 ⟨e2, z⟩
      simp [e1, e3]
    · have e3 : (j + 1 == i) = false := by rw [beq_eq_false_iff_ne]; exact e2
      simp [e1, e3]
/-- a row of the table takes E: its handler begins with a store of it -/
def am_ct (own : String) (cc : ByteArray) (nL pc : Nat) (hh : List (Nat × Nat × Nat × Nat)) (E : String) (tgt : Nat) : Prop :=
  ∃ (pre : List (Nat × Nat × Nat × Nat)) (x : Nat × Nat × Nat × Nat) (suf : List (Nat × Nat × Nat × Nat)) (name : String), hh = pre ++ x :: suf ∧
    (∀ z ∈ pre, z.2.2.2 ≠ 0 ∧ ∃ nm : String, Cond.classLink own z.2.2.2 nm ∈ lw_gw ∧ Cond.not (.castable E nm) ∈ lw_ng) ∧ covers ⟨x.1, x.2.1, x.2.2.1, x.2.2.2⟩ pc = true ∧ x.2.2.2 ≠ 0 ∧ Cond.classLink own x.2.2.2 name ∈ lw_gw ∧ Cond.castable E name ∈ lw_ng ∧ 1 ≤ nL ∧
    ((decode cc x.2.2.1 = .ok (.astore (nL - 1), 2) ∧ tgt = x.2.2.1 + 2) ∨ ∃ q : Fin 4, decode cc x.2.2.1 = .ok (.astore_n q, 1) ∧ (q : Nat) = nL - 1 ∧ tgt = x.2.2.1 + 1)
theorem am_RX.catchS (X : am_Cx l G p s m args meth c own cc nL ret) {hh : List (Nat × Nat × Nat × Nat)} (htab : c.exceptionTable.toList = tableOf hh) {E : String} {tgt : Nat} (hc : am_ct own cc nL pc hh E tgt) (hL9 : L.length = nL)
    (kk : am_R G p l e R s m args below meth c mc ms Post tgt ((am_cut L (nL - 1)).set (nL - 1) none) [] h k n) : am_RX G p l e R s m args below meth c mc ms Post E pc L h k n := by
  intro ls H locs q ce rest hL hH hS hq hv hcl
  obtain ⟨pre, x, suf, name, e1, e2, e3, e4, e5, e6, e7, e8⟩ := hc
  have hng := X.2.2.2.2.2.1.2.2.2.2.2.2.2
  have hgw := X.2.2.2.2.1
  refine vx_catch X.2.2.2.1 (tableOf pre) ⟨x.1, x.2.1, x.2.2.1, x.2.2.2⟩ (tableOf suf) (by rw [htab, e1]; unfold tableOf; rw [List.map_append, List.map_cons]) (fun z hz => ?_) e3 e4 (hgw _ e5) (va_Nw.use (A := args) rfl (hng _ e6)) hq hv hcl ?_
  · obtain ⟨z0, hz0, rfl⟩ := List.mem_map.mp hz
    obtain ⟨f1, nm, f2, f3⟩ := e2 z0 hz0
    exact Or.inr ⟨f1, nm, hgw _ f2, va_Nc.of (hng _ f3)⟩
  · have hi : nL - 1 < L.length := by omega
    rcases e8 with ⟨d, rfl⟩ | ⟨i4, d, hi4, rfl⟩
    · exact lv_astore X.1 X.2.1 d hL.to hi rfl (fun ls' h' => kk ls' H locs (am_L.of0 h') hH hS)
    · exact lv_astore_n X.1 X.2.1 d hi4 hL.to hi rfl (fun ls' h' => kk ls' H locs (am_L.of0 h') hH hS)
theorem am_R.callSW (X : am_Cx l G p s m args meth c own cc nL ret) {i : Nat} {y : MethodName} {bytes : ByteArray} {maxL fr lo mc' ms' : Nat} {rt : Option FieldType} {hh : List (Nat × Nat × Nat × Nat)} (a1 : List Value) {P' : am_O → List am_C → Prop}
    (hM : am_M l G y (.codeWith y bytes maxL rt hh) fr lo mc' ms' a1 h P') (hno : ∀ E h', ¬ P' (.inr E) h') (hcw : Cond.codeWith y bytes maxL rt hh ∈ lw_gw) (hl : Cond.methodLink own i y ∈ lw_gw) (hsta : Cond.static y ∈ lw_gw) (hini : Cond.initialized y.cls ∈ lw_gw)
    (hd : y.cls ≠ "java/lang/invoke/MethodHandle" ∧ y.cls ≠ "java/lang/invoke/VarHandle" ∧ (parseMethodDescriptor y.desc).map (fun d => d.parameters.length) = some a1.length) (hR : fr + 1 ≤ R.frames ∧ 8 + (maxL + 11) + lo ≤ R.locals) (hLn : L.length = nL) (hst : (st.map fun v => v.category).sum ≤ 8)
    (hf : k + mc' ≤ R.cells ∧ n + ms' ≤ R.slots) (d : decode cc pc = .ok (.invokestatic i, 3))
    (kr : ∀ (r : Option Value) (h' : List am_C), P' (.inl r) h' → am_R G p l e R s m args below meth c mc ms Post (pc + 3) L (r.toList ++ st) h' (k + mc') (n + ms')) : am_R G p l e R s m args below meth c mc ms Post pc L (a1.reverse ++ st) h k n := by
  intro ls H locs hL hH hS
  refine am_post hL hS (va_Run.vx (vx_runSW (As := a1.map (am_rv G)) (rest := st.map (am_rv G)) ⟨X.1, X.2.1, X.2.2.1, X.2.2.2.1, X.2.2.2.2.1⟩ (hM.met hno) (vx_cwSW a1.length X.2.2.2.2.1 (am_gi (ws := [.methodLink own i y, .static y, .initialized y.cls]) (fun w hw => by simp only [List.mem_cons, List.not_mem_nil, or_false] at hw; rcases hw with rfl | rfl | rfl <;> assumption) hcw) rfl rfl rfl hd hR)
    ⟨am_P.blind, fun U hU hW => ⟨rfl, by rw [hU]; exact hH, X.2.2.2.2.2.1.at hS hU hW⟩⟩ rfl (by rw [List.length_map]) (by rw [← hLn]; exact hL.1) ?_ ?_ d hf)) kr (fun E h' hp => absurd hp (hno E h'))
  · show ((a1.reverse ++ st).map (am_rv G)) = _
    rw [List.map_append, List.map_reverse]
  · show 2 * 0 + ((st.map (am_rv G)).map fun v => v.category).sum ≤ 8
    rw [am_cats]; omega
/-- two references are compared: either way -/
theorem am_R.acmp (X : am_Cx l G p s m args meth c own cc nL ret) {eq : Bool} {off : Int} {tgt : Nat} {v w : Value} (hv : v = .null ∨ ∃ q, v = .ref q) (hw : w = .null ∨ ∃ q, w = .ref q) (d : decode cc pc = .ok (.if_acmp (bif eq then .eq else .ne) off, 3)) (ht : (pc : Int) + off = (tgt : Int))
    (k1 : am_R G p l e R s m args below meth c mc ms Post tgt L st h k n) (k2 : am_R G p l e R s m args below meth c mc ms Post (pc + 3) L st h k n) : am_R G p l e R s m args below meth c mc ms Post pc L (v :: w :: st) h k n := by
  intro ls H locs hL hH hS
  have hr : ∀ u : Value, (u = .null ∨ ∃ q, u = .ref q) → ∃ o : Option Nat, am_rv G u = va_rf o := fun u hu => by
    rcases hu with rfl | ⟨q, rfl⟩
    · exact ⟨none, rfl⟩
    · exact ⟨some (am_ad G q), rfl⟩
  obtain ⟨o1, e1⟩ := hr v hv
  obtain ⟨o2, e2⟩ := hr w hw
  show W p l e R s m args below meth c H locs k n _ (F0 m pc ls (am_rv G v :: am_rv G w :: st.map (am_rv G)))
  rw [e1, e2]
  cases eq
  · exact lv_acmp_ne X.1 X.2.1 d ht (fun _ => k1 ls H locs hL hH hS) (fun _ => k2 ls H locs hL hH hS)
  · exact lv_acmp_eq X.1 X.2.1 d ht (fun _ => k1 ls H locs hL hH hS) (fun _ => k2 ls H locs hL hH hS)
/-- the same reference twice -/
theorem am_R.acmpS (X : am_Cx l G p s m args meth c own cc nL ret) {eq : Bool} {off : Int} {tgt q : Nat} (d : decode cc pc = .ok (.if_acmp (bif eq then .eq else .ne) off, 3)) (ht : (pc : Int) + off = (tgt : Int))
    (kk : am_R G p l e R s m args below meth c mc ms Post (bif eq then tgt else pc + 3) L st h k n) : am_R G p l e R s m args below meth c mc ms Post pc L (.ref q :: .ref q :: st) h k n := by
  intro ls H locs hL hH hS
  show W p l e R s m args below meth c H locs k n _ (F0 m pc ls (va_rf (some (am_ad G q)) :: va_rf (some (am_ad G q)) :: st.map (am_rv G)))
  cases eq
  · exact lv_acmp_ne X.1 X.2.1 d ht (fun z => absurd rfl z) (fun _ => kk ls H locs hL hH hS)
  · exact lv_acmp_eq X.1 X.2.1 d ht (fun _ => kk ls H locs hL hH hS) (fun z => absurd rfl z)
/-- the class of Object[] as a constant -/
theorem am_R.ldcM (X : am_Cx l G p s m args meth c own cc nL ret) {i : Nat} (hl : Cond.classLink own i "[Ljava/lang/Object;" ∈ lw_gw) (d : decode cc pc = .ok (.ldc i, 2)) (kk : am_R G p l e R s m args below meth c mc ms Post (pc + 2) L (.ref 5 :: st) h k n) : am_R G p l e R s m args below meth c mc ms Post pc L st h k n :=
  fun ls H locs hL hH hS => va_ldcM X.1 X.2.1 X.2.2.2.1 (X.2.2.2.2.1 _ hl) X.2.2.2.2.2.1.2.2.2.2.2.1.1 d (kk ls H locs hL hH hS)
def am_gcN : MethodName := ⟨"java/lang/Object", "getClass", "()Ljava/lang/Class;"⟩
theorem am_R.getC (X : am_Cx l G p s m args meth c own cc nL ret) {i a t : Nat} {vs : List Value} (hl : Cond.methodLink own i am_gcN ∈ lw_gw) (hde : Cond.declares am_gcN ∈ lw_ng) (hse : Cond.selects "[Ljava/lang/Object;" am_gcN am_gcN ∈ lw_gw) (hin : Cond.instanceMethod am_gcN ∈ lw_gw) (hna : Cond.native am_gcN ∈ lw_gw) (hg : am_g G h a = some (t, vs)) (ht : t % 100 = 56) (hnm : "[" ++ (am_aty 56).toString = "[Ljava/lang/Object;")
    (hLn : L.length = nL) (hst : (st.map fun v => v.category).sum ≤ 8) (hfr : 1 ≤ R.frames) (hlo : 22 ≤ R.locals) (d : decode cc pc = .ok (.invokevirtual i, 3)) (kk : am_R G p l e R s m args below meth c mc ms Post (pc + 3) L (.ref 5 :: st) h k n) : am_R G p l e R s m args below meth c mc ms Post pc L (.ref a :: st) h k n := by
  intro ls H locs hL hH hS
  obtain ⟨cs, q1, q2⟩ := am_cell hH (am_kt_S X.2.2.2.2.2.1 hS) hg (by show t % 100 < 62; omega)
  obtain ⟨s0, -, -⟩ := q2.2.2.2 (by show 50 ≤ t % 100; omega) (by show t % 100 < 62; omega)
  have s0 : cs.cls = G.2.1 56 := by rw [← ht]; exact s0
  have h9 := (X.2.2.2.2.2.1.1.2 _ _ (am_tys_at G (show 50 ≤ 56 by decide) (by decide))).2
  exact va_getC X.1 X.2.1 (by rw [hL.1, hLn]; exact X.2.2.1) X.2.2.2.1 (X.2.2.2.2.1 _ hl) (va_Nw.use (A := args) rfl (X.2.2.2.2.2.1.2.2.2.2.2.2.2 _ hde)) (X.2.2.2.2.1 _ hse) (X.2.2.2.2.1 _ hin) (X.2.2.2.2.1 _ hna) X.2.2.2.2.2.1.2.2.2.2.2.1.1
    ⟨cs, q1, q2.2.1, by rw [s0]; exact va_nmO h9 hnm⟩ hfr (by rw [am_cats]; omega) d (kk ls H locs hL hH hS)
end AMCT
