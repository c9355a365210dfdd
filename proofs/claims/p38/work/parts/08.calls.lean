section AMC
variable {G : am_G} {p : Program} {l : Launch} {e : Env} {R : Room} {s : State} {m : MethodId} {args : Array Value} {below : List Frame} {meth : Method} {c : Code} {mc ms : Nat} {Post : am_O → List am_C → Prop}
variable {own : String} {cc : ByteArray} {nL pc : Nat} {ret : Option FieldType} {L : List (Option Value)} {st : List Value} {h : List am_C} {k n : Nat}
theorem am_kon.at {H : Heap} {locs : List Loc} {U : State} (hk : am_kon G s) (hS : va_S (am_A G) s.heap H locs) (hU : U.heap = H) (hW : s.WarmedH U.vm) : am_kon G U := by
  have hq : ∀ a : Nat, a < s.heap.size → ¬ am_A G a → U.heap[a]? = s.heap[a]? := fun a h1 h2 => by rw [hU]; exact hS.2.1 a h1 h2
  obtain ⟨k1, k2, k3, k4, k5, k6, k7, k8⟩ := hk
  refine ⟨k1.moved hW.alike, k2.kept (fun q hq' => hq q (by have := k3.1; omega) (fun z => by unfold am_A at z; omega)), ⟨by rw [hU]; exact Nat.le_trans k3.1 hS.1, k3.2.moved hW.alike⟩, fun z hz => ((k4 z hz).kept hq).moved hW.alike, fun z hz => (k5 z hz).warm hW, ⟨k6.1.moved hW.alike, (k6.2.kept hq).moved hW.alike⟩, (k7.kept hq).moved hW.alike, fun w hw => am_ng_warm hW (List.mem_filter.mp hw).2 (k8 w hw)⟩
theorem am_P.blind {a : List Value} : FrameBlind (am_P G a h) := by
  intro v U g mk ⟨h1, h2, h3⟩
  refine ⟨h1, h2, h3.at (va_S.rf (A := am_A G)) rfl (State.WarmedH.refl U)⟩
/-- a body's contract, where no row of the natives takes the method's place -/
theorem am_ofW {y : MethodName} {ws ws' : List Cond} {rm : Room} {Pc : Array Value → State → Prop} {Qc : Array Value → State → Outcome → State → Prop} {XC : String → State → State → Prop} {mc ms : Nat} {free : Addr → Prop} {cc : ByteArray} {maxL : Nat} {ret : Option FieldType}
    (hy : plainFor y = true) (hw : ws = Cond.code y cc maxL ret :: ws')
    (body : ∀ p e s m args below meth c s₁, BodyLoose p l y (headSpec ws rm) cc maxL ret e s m args below meth c s₁ → c.maxLocals = maxL → (∀ x ∈ c.exceptionTable.toList, False) → Pc args s →
      W p l e (headSpec ws rm).room s m args below meth c s.heap [] 0 0 (vx_MQ below Qc XC args s mc ms free) (entryFrame m args maxL)) : vx_Met l y ws rm Pc Qc XC mc ms free := by
  refine MetFree.of_bodySF (code := cc) (maxLocals := maxL) (ret := ret) hy (fun a s m h hn => ?_) (fun p e s m args below meth c s₁ B hml hP _ => ?_)
  · obtain ⟨meth, c, h1, h2, h3, h4, h5, h6, -, -⟩ := Cond.code_spec hn (atoms_spec (ws := ws) h _ (by rw [hw]; exact List.mem_cons_self))
    exact ⟨meth, c, h1, h2, h3, h4, h5, h6⟩
  · obtain ⟨meth9, c9, h1, h2, -, -, -, -, h7, -⟩ := Cond.code_spec B.named (atoms_spec (ws := ws) B.pre _ (by rw [hw]; exact List.mem_cons_self))
    cases Option.some.inj (h1.symm.trans B.method)
    cases Option.some.inj (h2.symm.trans (Stand.of_body B).code)
    obtain ⟨t, a1, o, b1, b2, b3⟩ := body p e s m args below meth c s₁ B hml (fun x hx => by
      rw [Array.isEmpty_iff.mp h7] at hx
      cases hx) hP s₁ (by rw [B.state]; rfl) (Stand.of_body B)
    exact ⟨t, o, a1, b1, b2, b3⟩
/-- a contract out of a body -/
theorem am_M.of {y : MethodName} {fr lo : Nat} {a : List Value} (hl : l.stackTraces = false) (hy : plainFor y = true) (hlay : (am_lay a).length ≤ nL)
    (body : ∀ (p : Program) (e : Env) (s : State) (m : MethodId) (args : Array Value) (below : List Frame) (meth : Method) (c : Code), am_Cx l G p s m args meth c y.cls cc nL ret → meth.name = y.name → (∀ x ∈ c.exceptionTable.toList, False) →
      am_R G p l e { frames := fr, cells := mc, slots := ms, locals := lo } s m args below meth c mc ms Post 0 (am_ent a nL) [] h 0 0) : am_M l G y (.code y cc nL ret) fr lo mc ms a h Post := by
  refine am_ofW hy rfl ?_
  intro p e s m args below meth c s₁ B hml ht hPc
  obtain ⟨rfl, hH, hk⟩ := hPc
  rw [lg_entry_eq]
  exact body p e s m _ below meth c ⟨B.exec, B.bytes, hml, findClass_of_methodNamed B.named, fun w hw => atoms_spec (ws := .code y cc nL ret :: lw_gw) B.pre w (List.mem_cons_of_mem _ hw), hk, B.notSynchronized, hl, B.returns⟩ (name_of_methodNamed B.named B.method).1 ht _ _ [] (am_L.entry hlay) hH va_S.rf
theorem am_M.ofH {y : MethodName} {fr lo : Nat} {a : List Value} {hh : List (Nat × Nat × Nat × Nat)} (hl : l.stackTraces = false) (hy : plainName y.cls = true) (hlay : (am_lay a).length ≤ nL)
    (body : ∀ (p : Program) (e : Env) (s : State) (m : MethodId) (args : Array Value) (below : List Frame) (meth : Method) (c : Code), am_Cx l G p s m args meth c y.cls cc nL ret → c.exceptionTable.toList = tableOf hh →
      am_R G p l e { frames := fr, cells := mc, slots := ms, locals := lo } s m args below meth c mc ms Post 0 (am_ent a nL) [] h 0 0) : am_M l G y (.codeWith y cc nL ret hh) fr lo mc ms a h Post := by
  refine vx_ofWH hy rfl ?_
  intro p e s m args below meth c s₁ B hml hPc
  obtain ⟨rfl, hH, hk⟩ := hPc
  rw [lg_entry_eq]
  have hts := atoms_spec (ws := .codeWith y cc nL ret hh :: lw_gw) B.pre
  exact body p e s m _ below meth c ⟨B.exec, B.bytes, hml, findClass_of_methodNamed B.named, fun w hw => hts w (List.mem_cons_of_mem _ hw), hk, B.notSynchronized, hl, B.returns⟩ (vx_table (x := y) B (hts _ List.mem_cons_self)) _ _ [] (am_L.entry hlay) hH va_S.rf
theorem am_M.met {y : MethodName} {cw : Cond} {fr lo : Nat} {a : List Value} (hM : am_M l G y cw fr lo mc ms a h Post) (hno : ∀ E h', ¬ Post (.inr E) h') : Met l y (cw :: lw_gw) { frames := fr, cells := mc, slots := ms, locals := lo } (am_P G a h) (am_Q G Post) mc ms (am_A G) := by
  intro p e h1 h2 h3 s m args below h4 h5 h6 h7
  obtain ⟨n, o, g1, g2, g3, g4⟩ := hM p e h1 h2 h3 s m args below h4 h5 h6 h7
  refine ⟨n, o, g1, g2, g3, ?_⟩
  rcases g4 with g4 | ⟨q, -, E, ce, L, ⟨h', hp, -⟩, -⟩
  · exact g4
  · exact absurd hp (hno E h')
theorem am_M.mono {y : MethodName} {cw : Cond} {fr lo : Nat} {a : List Value} {Post' : am_O → List am_C → Prop} (hM : am_M l G y cw fr lo mc ms a h Post) (hp : ∀ o h', Post o h' → Post' o h') : am_M l G y cw fr lo mc ms a h Post' := by
  intro p e h1 h2 h3 s m args below h4 h5 h6 h7
  obtain ⟨n, o, g1, g2, g3, g4⟩ := hM p e h1 h2 h3 s m args below h4 h5 h6 h7
  refine ⟨n, o, g1, g2, g3, ?_⟩
  rcases g4 with ⟨⟨r, h', e1, e2, e3⟩, e4⟩ | ⟨q, e0, E, ce, L, ⟨h', e2, e3⟩, e4⟩
  · exact Or.inl ⟨⟨r, h', e1, hp _ _ e2, e3⟩, e4⟩
  · exact Or.inr ⟨q, e0, E, ce, L, ⟨h', hp _ _ e2, e3⟩, e4⟩
-- returns
theorem am_R.iret (X : am_Cx l G p s m args meth c own cc nL ret) {v : Int32} (hr : ret = some .int) (h1 : k ≤ mc) (h2 : n ≤ ms) (hp : Post (.inl (some (.int v))) h) (d : decode cc pc = .ok (.ireturn, 1)) : am_R G p l e R s m args below meth c mc ms Post pc L [.int v] h k n :=
  fun ls H locs hL hH hS => W.widen h1 h2 (vx_ret (W.iret X.1 X.2.1 (X.2.2.2.2.2.2.2.2.trans hr) (fun t ht hW => ⟨some (.int v), h, rfl, hp, by rw [ht]; exact hH, hS.F ht⟩) hS.2.2 d (hlocks := X.2.2.2.2.2.2.1)))
theorem am_R.zret (X : am_Cx l G p s m args meth c own cc nL ret) {v : Int32} {ty : FieldType} (hr : ret = some ty) (hn : narrow ty (.int v) = .int v) (h1 : k ≤ mc) (h2 : n ≤ ms) (hp : Post (.inl (some (.int v))) h) (d : decode cc pc = .ok (.ireturn, 1)) : am_R G p l e R s m args below meth c mc ms Post pc L [.int v] h k n :=
  fun ls H locs hL hH hS => W.widen h1 h2 (vx_ret (W.zret X.1 X.2.1 (X.2.2.2.2.2.2.2.2.trans hr) hn (fun t ht hW => ⟨some (.int v), h, rfl, hp, by rw [ht]; exact hH, hS.F ht⟩) hS.2.2 d (hlocks := X.2.2.2.2.2.2.1)))
theorem am_R.lret (X : am_Cx l G p s m args meth c own cc nL ret) {v : Int64} (hr : ret = some .long) (h1 : k ≤ mc) (h2 : n ≤ ms) (hp : Post (.inl (some (.long v))) h) (d : decode cc pc = .ok (.lreturn, 1)) : am_R G p l e R s m args below meth c mc ms Post pc L [.long v] h k n :=
  fun ls H locs hL hH hS => W.widen h1 h2 (vx_ret (W.lret X.1 X.2.1 (X.2.2.2.2.2.2.2.2.trans hr) (fun t ht hW => ⟨some (.long v), h, rfl, hp, by rw [ht]; exact hH, hS.F ht⟩) hS.2.2 d (hlocks := X.2.2.2.2.2.2.1)))
theorem am_R.vret (X : am_Cx l G p s m args meth c own cc nL ret) (hr : ret = none) (h1 : k ≤ mc) (h2 : n ≤ ms) (hp : Post (.inl none) h) (d : decode cc pc = .ok (.return_, 1)) : am_R G p l e R s m args below meth c mc ms Post pc L [] h k n :=
  fun ls H locs hL hH hS => W.widen h1 h2 (vx_ret (W.vret X.1 X.2.1 (X.2.2.2.2.2.2.2.2.trans hr) (fun t ht hW => ⟨none, h, rfl, hp, by rw [ht]; exact hH, hS.F ht⟩) hS.2.2 d (hlocks := X.2.2.2.2.2.2.1)))
theorem am_R.aret (X : am_Cx l G p s m args meth c own cc nL ret) {v : Value} {rt : FieldType} (hr : ret = some rt) (hrt : (∃ n, rt = .object n) ∨ ∃ t, rt = .array t) (hv : v = .null ∨ ∃ a, v = .ref a) (h1 : k ≤ mc) (h2 : n ≤ ms) (hp : Post (.inl (some v)) h) (d : decode cc pc = .ok (.areturn, 1)) : am_R G p l e R s m args below meth c mc ms Post pc L [v] h k n :=
  fun ls H locs hL hH hS => W.widen h1 h2 (vx_ret (W.aret (v := am_rv G v) X.1 X.2.1 (X.2.2.2.2.2.2.2.2.trans hr) hrt (hv.elim (fun z => Or.inl (by rw [z]; rfl)) (fun ⟨a, z⟩ => Or.inr ⟨am_ad G a, by rw [z]; rfl⟩)) (fun t ht hW => ⟨some v, h, rfl, hp, by rw [ht]; exact hH, hS.F ht⟩) hS.2.2 d (hlocks := X.2.2.2.2.2.2.1)))
/-- behind a call: E thrown over this frame -/
def am_RX (G : am_G) (p : Program) (l : Launch) (e : Env) (R : Room) (s : State) (m : MethodId) (args : Array Value) (below : List Frame) (meth : Method) (c : Code) (mc ms : Nat) (Post : am_O → List am_C → Prop)
    (E : String) (pc : Nat) (L : List (Option Value)) (h : List am_C) (k n : Nat) : Prop :=
  ∀ (ls : Array Slot) (H : Heap) (locs : List Loc) (q : Addr) (ce : Cell) (rest : List Value), am_L G ls L → am_H G h H → va_S (am_A G) s.heap H locs → H[q]? = some ce → ce.vm = .none → s.vm.findClass E = some ce.cls →
    vx_W p l e R s m args below meth c H locs k n (vx_MQ below (am_Q G Post) (am_X G Post) args s mc ms (am_A G)) (F0 m pc ls rest) q
theorem am_RX.out (X : am_Cx l G p s m args meth c own cc nL ret) {E : String} (ht : ∀ x ∈ c.exceptionTable.toList, covers x pc = false) (h1 : k ≤ mc) (h2 : n ≤ ms) (hp : Post (.inr E) h) : am_RX G p l e R s m args below meth c mc ms Post E pc L h k n :=
  fun ls H locs q ce rest hL hH hS hq hv hc => vx_out ht X.2.2.2.2.2.2.1 hq hv hc (fun t ht hW => ⟨h, hp, by rw [ht]; exact hH, hS.F ht⟩) hS.2.2 h1 h2
theorem am_post {P' : am_O → List am_C → Prop} {mc' ms' : Nat} {aa : Array Value} {ls : Array Slot} {H : Heap} {locs : List Loc} {st0 : List Value} (hL : am_L G ls L) (hS : va_S (am_A G) s.heap H locs)
    (hr : vx_Run p l e R s m args below meth c H locs k n mc' ms' (F0 m pc ls st0) (st.map (am_rv G)) (am_Q G P' aa) (am_X G P') (am_A G))
    (kr : ∀ (r : Option Value) (h' : List am_C), P' (.inl r) h' → am_R G p l e R s m args below meth c mc ms Post (pc + 3) L (r.toList ++ st) h' (k + mc') (n + ms'))
    (kx : ∀ (E : String) (h' : List am_C), P' (.inr E) h' → am_RX G p l e R s m args below meth c mc ms Post E pc L h' (k + mc') (n + ms')) :
    W p l e R s m args below meth c H locs k n (vx_MQ below (am_Q G Post) (am_X G Post) args s mc ms (am_A G)) (F0 m pc ls st0) := by
  intro T hT Y
  have hjoin : ∀ (T' t st₀ : State) (L9 : List Loc), st₀.heap = H → T'.heap = t.heap → va_F (am_A G) st₀ t → (∀ q ∈ L9, am_A G q.base) → va_S (am_A G) s.heap T'.heap (locs ++ L9) := by
    intro T' t st₀ L9 e0 e1 hF hL9
    refine ⟨Nat.le_trans hS.1 (by rw [e1, ← e0]; exact hF.1), fun q h1 h2 => ?_, fun q hq => ?_⟩
    · rw [e1, hF.2 q (by rw [e0]; exact Nat.lt_of_lt_of_le h1 hS.1) h2, e0]
      exact hS.2.1 q h1 h2
    · rcases List.mem_append.mp hq with h | h
      · exact hS.2.2 q h
      · exact hL9 q h
  rcases hr T hT Y with ⟨v, st₀, t, T', L9, e0, Y', hL9, e1, e2, ⟨r, h', f1, f2, f3, f4⟩, go⟩ | ⟨q, st₀, t, T', L9, E, ce, e0, Y', hL9, e1, e2, ⟨h', f2, f3, f4⟩, g1, g2, g3, go⟩
  · cases f1
    obtain ⟨t2, a1, b1⟩ := kr r h' f2 ls T'.heap (locs ++ L9) hL (by rw [e1]; exact f3) (hjoin T' t st₀ L9 e0 e1 f4 hL9) T' rfl Y'
    refine ⟨t2, go t2 ?_, b1⟩
    have hst : (r.map (am_rv G)).toList ++ st.map (am_rv G) = (r.toList ++ st).map (am_rv G) := by cases r <;> rfl
    show Steps p.tables e below (T'.setTop (F0 m (pc + 3) ls ((r.map (am_rv G)).toList ++ st.map (am_rv G)))) t2
    rw [hst]
    exact a1
  · obtain ⟨t2, a1, b1⟩ := kx E h' f2 ls T'.heap (locs ++ L9) q ce (st.map (am_rv G)) hL (by rw [e1]; exact f3) (hjoin T' t st₀ L9 e0 e1 f4 hL9) (by rw [e1]; exact g1) g2 g3 T' rfl Y'
    exact ⟨t2, go.trans a1, b1⟩
theorem va_Run.vx {mc' ms' : Nat} {ls : Array Slot} {H : Heap} {locs : List Loc} {st0 rest : List Value} {Qa : State → Outcome → State → Prop} {XC : String → State → State → Prop} {free : Addr → Prop}
    (hr : va_Run p l e R s m args below meth c H locs k n mc' ms' (F0 m pc ls st0) rest Qa free) : vx_Run p l e R s m args below meth c H locs k n mc' ms' (F0 m pc ls st0) rest Qa XC free := fun T hT Y => Or.inl (hr T hT Y)
theorem am_gi {ws : List Cond} {cw : Cond} (h1 : ∀ w ∈ ws, w ∈ lw_gw) (h2 : cw ∈ lw_gw) : GoodIn lw_gw (ws ++ (cw :: lw_gw)) := by
  have hg : ∀ w ∈ lw_gw, w ∈ lw_gw ∧ ((w.onTables && w.keeps) = true ∨ ∃ ty, w = .arrayClass ty) := fun w hw => ⟨hw, good_of_word (List.mem_filter.mp hw).2⟩
  intro w hw
  rcases List.mem_append.mp hw with h | h
  · exact hg w (h1 w h)
  · rcases List.mem_cons.mp h with h | h
    · rw [h]; exact hg cw h2
    · exact hg w h
theorem am_cats : (st.map (am_rv G)).map (fun v => v.category) = st.map fun v => v.category := by
  rw [List.map_map]
  exact List.map_congr_left fun v _ => am_rv_cat G v
theorem am_recv {b tb : Nat} {vb : List Value} {C : String} {T : u_T} {N : Nat} {H : Heap} (hk : am_K G s) (hkt : am_kt G H) (hH : am_H G h H) (hb : am_g G h b = some (tb, vb)) (htb : tb % 100 < 50) (hcl : am_cl[tb % 100]? = some (C, T, N)) : ∃ cellB : Cell, H[am_ad G b]? = some cellB ∧ cellB.vm.isStatics = false ∧ s.vm.findClass C = some cellB.cls := by
  obtain ⟨cell, q1, q2⟩ := am_cell hH hkt hb (by show tb % 100 < 62; omega)
  obtain ⟨r, h1, -, h3, -⟩ := q2.2.2.1 htb
  have h1' : am_cl[tb % 100]? = some r := h1
  cases hcl.symm.trans h1'
  exact ⟨cell, q1, q2.2.1, by rw [h3]; exact (hk.1 _ _ hcl).2.1⟩
theorem am_R.callV (X : am_Cx l G p s m args meth c own cc nL ret) {i b tb : Nat} {y : MethodName} {bytes : ByteArray} {maxL fr lo mc' ms' : Nat} {rt : Option FieldType} (a1 : List Value) {vb : List Value} {T : u_T} {N : Nat} {P' : am_O → List am_C → Prop}
    (hM : am_M l G y (.code y bytes maxL rt) fr lo mc' ms' (.ref b :: a1) h P') (hcw : Cond.code y bytes maxL rt ∈ lw_gw) (hl : Cond.methodLink own i y ∈ lw_gw) (hin : Cond.instanceMethod y ∈ lw_gw) (hse : Cond.selects y.cls y y ∈ lw_gw) (hini : Cond.initialized y.cls ∈ lw_gw)
    (hd : y.cls ≠ "java/lang/invoke/MethodHandle" ∧ y.cls ≠ "java/lang/invoke/VarHandle" ∧ (parseMethodDescriptor y.desc).map (fun d => d.parameters.length) = some a1.length) (hR : fr + 1 ≤ R.frames ∧ 8 + (maxL + 11) + lo ≤ R.locals) (hLn : L.length = nL) (hst : (st.map fun v => v.category).sum ≤ 8)
    (hb : am_g G h b = some (tb, vb)) (htb : tb % 100 < 50) (hcl : am_cl[tb % 100]? = some (y.cls, T, N)) (hf : k + mc' ≤ R.cells ∧ n + ms' ≤ R.slots) (d : decode cc pc = .ok (.invokevirtual i, 3))
    (kr : ∀ (r : Option Value) (h' : List am_C), P' (.inl r) h' → am_R G p l e R s m args below meth c mc ms Post (pc + 3) L (r.toList ++ st) h' (k + mc') (n + ms'))
    (kx : ∀ (E : String) (h' : List am_C), P' (.inr E) h' → am_RX G p l e R s m args below meth c mc ms Post E pc L h' (k + mc') (n + ms')) : am_R G p l e R s m args below meth c mc ms Post pc L (a1.reverse ++ .ref b :: st) h k n := by
  intro ls H locs hL hH hS
  refine am_post hL hS (vx_runV (As := a1.map (am_rv G)) (b := am_ad G b) ⟨X.1, X.2.1, X.2.2.1, X.2.2.2.1, X.2.2.2.2.1⟩ hM (cwV a1.length X.2.2.2.2.1 (am_gi (ws := [.methodLink own i y, .instanceMethod y, .selects y.cls y y, .initialized y.cls]) (fun w hw => by simp only [List.mem_cons, List.not_mem_nil, or_false] at hw; rcases hw with rfl | rfl | rfl | rfl <;> assumption) hcw) rfl rfl rfl ⟨rfl, hd⟩ hR)
    ⟨am_P.blind, am_recv X.2.2.2.2.2.1.1 (am_kt_S X.2.2.2.2.2.1 hS) hH hb htb hcl, fun U hU hW => ⟨rfl, by rw [hU]; exact hH, X.2.2.2.2.2.1.at hS hU hW⟩⟩ rfl (by rw [List.length_map]) (by rw [← hLn]; exact hL.1) ?_ ?_ d hf) kr kx
  · show ((a1.reverse ++ .ref b :: st).map (am_rv G)) = _
    rw [List.map_append, List.map_reverse]
    rfl
  · show 2 * 0 + ((st.map (am_rv G)).map fun v => v.category).sum ≤ 8
    rw [am_cats]; omega
theorem am_R.callS (X : am_Cx l G p s m args meth c own cc nL ret) {i : Nat} {y : MethodName} {bytes : ByteArray} {maxL fr lo mc' ms' : Nat} {rt : Option FieldType} (a1 : List Value) {P' : am_O → List am_C → Prop}
    (hM : am_M l G y (.code y bytes maxL rt) fr lo mc' ms' a1 h P') (hcw : Cond.code y bytes maxL rt ∈ lw_gw) (hl : Cond.methodLink own i y ∈ lw_gw) (hsta : Cond.static y ∈ lw_gw) (hini : Cond.initialized y.cls ∈ lw_gw)
    (hd : y.cls ≠ "java/lang/invoke/MethodHandle" ∧ y.cls ≠ "java/lang/invoke/VarHandle" ∧ (parseMethodDescriptor y.desc).map (fun d => d.parameters.length) = some a1.length) (hR : fr + 1 ≤ R.frames ∧ 8 + (maxL + 11) + lo ≤ R.locals) (hLn : L.length = nL) (hst : (st.map fun v => v.category).sum ≤ 8)
    (hf : k + mc' ≤ R.cells ∧ n + ms' ≤ R.slots) (d : decode cc pc = .ok (.invokestatic i, 3))
    (kr : ∀ (r : Option Value) (h' : List am_C), P' (.inl r) h' → am_R G p l e R s m args below meth c mc ms Post (pc + 3) L (r.toList ++ st) h' (k + mc') (n + ms'))
    (kx : ∀ (E : String) (h' : List am_C), P' (.inr E) h' → am_RX G p l e R s m args below meth c mc ms Post E pc L h' (k + mc') (n + ms')) : am_R G p l e R s m args below meth c mc ms Post pc L (a1.reverse ++ st) h k n := by
  intro ls H locs hL hH hS
  have hgi := am_gi (ws := []) (fun w hw => by cases hw) hcw
  refine am_post hL hS (vx_runS (As := a1.map (am_rv G)) ⟨X.1, X.2.1, X.2.2.1, X.2.2.2.1, X.2.2.2.2.1⟩ hM ⟨callB_of a1.length X.2.2.2.2.1 hgi rfl rfl rfl (X.2.2.2.2.1 _ hini) (X.2.2.2.2.1 _ hl) hd hR, X.2.2.2.2.1 _ hsta⟩
    ⟨am_P.blind, fun U hU hW => ⟨rfl, by rw [hU]; exact hH, X.2.2.2.2.2.1.at hS hU hW⟩⟩ rfl (by rw [List.length_map]) (by rw [← hLn]; exact hL.1) ?_ ?_ d hf) kr kx
  · show ((a1.reverse ++ st).map (am_rv G)) = _
    rw [List.map_append, List.map_reverse]
  · show 2 * 0 + ((st.map (am_rv G)).map fun v => v.category).sum ≤ 8
    rw [am_cats]; omega
end AMC
