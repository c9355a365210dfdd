section AMT
variable {G : am_G} {p : Program} {l : Launch} {e : Env} {R : Room} {s : State} {m : MethodId} {args : Array Value} {below : List Frame} {meth : Method} {c : Code} {mc ms : Nat} {Post : am_O → List am_C → Prop}
variable {own : String} {cc : ByteArray} {nL pc : Nat} {ret : Option FieldType} {L : List (Option Value)} {st : List Value} {h : List am_C} {k n : Nat}
/-- 'throw new E("text")', leaving this method: follows vx_throwS, with the heap told exactly -/
theorem am_R.throwS (X9 : am_Cx l G p s m args meth c own cc nL ret) {cls text : String} {names : List String} {ik is ic n9 : Nat} (hcls : Bundle.fit cls = true) (hnames : ∀ n ∈ names, Bundle.fit n = true)
    (hk9 : Cond.classLink own ik cls ∈ lw_gw) (hini9 : Cond.initialized cls ∈ lw_gw) (hz : (own, is, text, n9) ∈ am_T) (hat9 : ∀ w ∈ vx_atS own ic cls names, w ∈ lw_gw ∨ w ∈ lw_ng)
    (hgood : ∀ w ∈ Cond.classLink own ik cls :: Cond.initialized cls :: vx_atS own ic cls names, vx_ot w = true) (hLn : L.length = nL)
    (d0 : decode cc pc = .ok (.new ik, 3)) (d3 : decode cc (pc + 3) = .ok (.dup, 1)) (d4 : decode cc (pc + 4) = .ok (.ldc is, 2)) (d6 : decode cc (pc + 6) = .ok (.invokespecial ic, 3)) (d9 : decode cc (pc + 9) = .ok (.athrow, 1))
    (hout : ∀ x ∈ c.exceptionTable.toList, covers x (pc + 9) = false)
    (hRframes : names.length + 3 < R.frames) (hst9 : (st.map fun v => v.category).sum ≤ 8) (hRlocals9 : 8 + (13 * (names.length + 1) + 43) ≤ R.locals) (hRcells : k + 1 ≤ R.cells) (hRslots : n + 6 ≤ R.slots)
    (hp9 : Post (.inr cls) (h ++ [(99, [])])) (hc : k + 1 ≤ mc) (hs : n + 6 ≤ ms) :
    am_R G p l e R s m args below meth c mc ms Post pc L st h k n := by
  intro ls H locs hL hH hS T hT X
  have hexec := X9.1
  have hb := X9.2.1
  have hl := X9.2.2.2.2.2.2.2.1
  have hown := X9.2.2.2.1
  have hlocks := X9.2.2.2.2.2.2.1
  have hk := X9.2.2.2.2.1 _ hk9
  have hini := X9.2.2.2.2.1 _ hini9
  have hstr : vk_R own is text (am_ad G n9) s := X9.2.2.2.2.2.1.2.2.2.2.1 _ hz
  generalize am_ad G n9 = sa at hstr
  have hat : ∀ w ∈ vx_atS own ic cls names, w.before args s = true := fun w hw => (hat9 w hw).elim (fun h => X9.2.2.2.2.1 _ h) (fun h => by
    have h1 := X9.2.2.2.2.2.1.2.2.2.2.2.2.2 _ h
    have h2 := hgood w (List.mem_cons_of_mem _ (List.mem_cons_of_mem _ hw))
    simp only [vx_ot, Bool.or_eq_true] at h2
    rcases h2 with h2 | h2
    · exact va_Nw.use h2 h1
    · exact X9.2.2.2.2.1 _ (List.mem_filter.mpr ⟨(List.mem_filter.mp h).1, h2⟩))
  have hU := X9.2.2.2.2.2.1.2.2.2.2.2.1.2
  have hN := X9.2.2.2.2.2.1.2.2.2.2.2.2.1
  generalize hA9 : am_A G = A at hU hN
  have hS0 := hS
  rw [hA9] at hS
  have hsize : ls.size = c.maxLocals := by rw [X9.2.2.1, ← hLn]; exact hL.1
  obtain ⟨rest, hrest⟩ : ∃ z, z = st.map (am_rv G) := ⟨_, rfl⟩
  have hRlocals : (rest.map fun v => v.category).sum + (13 * (names.length + 1) + 43) ≤ R.locals := by rw [hrest, am_cats]; omega
  rw [← hrest]
  have htr : e.platform.stackTraces = false := (show e.platform.stackTraces = l.stackTraces by rw [X.admits.platform]).trans hl
  have Y := vx_rebase X (R' := { frames := R.frames, locals := R.locals, cells := 1, slots := 6 }) (Nat.le_refl _) (Nat.le_refl _) hRcells hRslots
  obtain ⟨s', hA⟩ : ∃ z, z = (T.setVm s.vm).setFrames (.invoking m args :: below) := ⟨_, rfl⟩
  rw [← hA] at Y
  have hvm : s'.vm = s.vm := by rw [hA]; rfl
  have hhp : s'.heap = H := by rw [hA]; exact hT
  have hW0 : s.WarmedH s'.vm := by rw [hvm]; exact State.WarmedH.refl s
  have hat' : ∀ w ∈ vx_atS own ic cls names, w.before args s' = true := fun w hw => vx_ot_at hW0 hvm.symm (hgood w (List.mem_cons_of_mem _ (List.mem_cons_of_mem _ hw))) (hat w hw)
  have hk' : (Cond.classLink own ik cls).before args s' = true := vx_ot_at hW0 hvm.symm (hgood _ List.mem_cons_self) hk
  have hini' : (Cond.initialized cls).before args s' = true := vx_ot_at hW0 hvm.symm (hgood _ (List.mem_cons_of_mem _ List.mem_cons_self)) hini
  have hU' : vx_Zq Bundle.tN "UNASSIGNED_STACK" Bundle.steD A s' s'.heap := by rw [hhp]; exact vx_Zq.moved hW0.alike (hU.kept hS.2.1)
  have hN' : vx_Zq Bundle.tN "SUPPRESSED_SENTINEL" Bundle.listD A s' s'.heap := by rw [hhp]; exact vx_Zq.moved hW0.alike (hN.kept hS.2.1)
  have h : ∀ w ∈ Bundle.ownAtoms own ic cls names, w.before args s' = true := vx_own hat' (vx_isRefq hU'.1) (vx_isRefq hN'.1) hU'.2.word hN'.2.word
  have hown' : s'.vm.findClass own = some m.cls := by rw [hvm]; exact hown
  have hins : (Cond.instantiable cls 6).before args s' = true := h _ (by simp [Bundle.ownAtoms])
  obtain ⟨vm₁, cX, kX, hfX, hkX, -, -, X₁, st1⟩ := Y.newCold hexec (own := own) (C := cls) (index := ik) (n := 6) hown' hk' hins hini'
    (g := F0 m pc ls rest) rfl (by rw [hb]; exact d0) (Nat.le_refl _) (Nat.le_refl _)
  generalize hT1 : (T.setVm vm₁).pushCell { cls := cX, slots := kX.instanceTypes.map defaultValue, vm := .none } = T1 at X₁ st1
  have hcat : (Value.ref T.heap.size).category = 1 := rfl
  have hcellA : T1.heap[T.heap.size]? = some (freshCell cX kX) := by rw [← hT1]; exact State.heap_pushCell_size _ _
  have d3' : decode c.code (pc + 3) = .ok (.dup, 1) := by rw [hb]; exact d3
  have d4' : decode c.code (pc + 4) = .ok (.ldc is, 2) := by rw [hb]; exact d4
  have hstr' : vk_R own is text sa s' := vk_R.warm hW0 hstr
  obtain ⟨U, hsteps, hrun, hend, hW, hsame, ce, hce, hO⟩ := X₁.ctorThrowS hexec htr (own := own) (cls := cls) (names := names) (ic := ic) hown' hcls hnames h (fun x hx => nomatch hx) hfX hkX hcellA (by rw [hhp, hT]; exact Nat.le_refl _) (msg := .ref sa) rfl
    (g := { method := m, pc := pc + 6, locals := ls, stack := .ref sa :: .ref T.heap.size :: .ref T.heap.size :: rest, locked := none }) rfl hsize rfl rfl (rest := rest) rfl
    (by rw [hb]; exact d6) (by rw [hb]; exact d9) hout hRframes (by simp only [List.map_cons, List.sum_cons, hcat]; omega) hlocks
  obtain ⟨f1, f2⟩ := vx_frame hsame
  rw [hhp] at f1 f2
  have hWs : s.WarmedH U.vm := State.WarmedH.trans hW0 hW
  have hcl : s.vm.findClass cls = some ce.cls := by
    have h9 := hO.cls
    rw [hvm] at h9
    exact h9
  have hall : s.sameButNew ({ U with vm := s.vm } : State) locs mc ms := by
    subst hA
    obtain ⟨e1, e2⟩ := hsame
    rw [State.setFrames_setFrames] at e1
    have h2 : (T.setVm s.vm).sameButNew ({ U with vm := s.vm } : State) [] (0 + 1) (0 + 6) := ⟨e1, e2⟩
    have h3 := X.same.trans h2
    rw [List.append_nil] at h3
    exact h3.mono hc hs
  have hsz : U.heap.size = H.size + 1 := by
    have g1 : U.heap.size ≤ s'.heap.size + 1 := hsame.2.2.1
    have g2 : T.heap.size < U.heap.size := (Array.getElem?_eq_some_iff.mp hce).1
    rw [hhp] at g1
    rw [hT] at g2
    omega
  have hatE : am_at G H.size (99, []) U.heap := by
    refine ⟨ce, by rw [← hT]; exact hce, ⟨?_, ?_, fun z => ?_, fun _ z => ?_⟩, hO.vm⟩
    · rw [hO.vm]; exact fun z => (by cases z)
    · rw [hO.vm]; rfl
    · exact absurd z (by decide)
    · exact absurd z (by decide)
  have hXC : am_X G Post cls s U := by
    refine ⟨_, hp9, hH.push hsz (fun q hq => f2 q hq (fun z hz => nomatch hz)) hatE, ?_⟩
    refine ⟨Nat.le_trans hS0.1 f1, fun q h1 h2 => ?_⟩
    rw [f2 q (Nat.lt_of_lt_of_le h1 hS0.1) (fun z hz => nomatch hz)]
    exact hS0.2.1 q h1 h2
  refine ⟨U, ?_, .threw T.heap.size, hrun, hend, Or.inr ⟨T.heap.size, rfl, cls, ce, locs, hXC, hce, hO.vm, hcl, hWs, hall, hS.2.2⟩⟩
  refine st1 _ ?_
  show Steps p.tables e below (T1.setTop { method := m, pc := pc + 3, locals := ls, stack := .ref T.heap.size :: rest, locked := none }) _
  jvm_step X₁.here [X₁.here.top, hexec, d3', Value.category]
  exact X₁.ldcString hexec (own := own) (text := text) (index := is) (a := sa) hown' hstr'.1 hstr'.2
    (g := { method := m, pc := pc + 4, locals := ls, stack := .ref T.heap.size :: .ref T.heap.size :: rest, locked := none }) rfl d4' _ hsteps
/-- the same with a far constant: 'throw new E("text")', leaving this method: follows vx_throwS, with the heap told exactly -/
theorem am_R.throwW (X9 : am_Cx l G p s m args meth c own cc nL ret) {cls text : String} {names : List String} {ik is ic n9 : Nat} (hcls : Bundle.fit cls = true) (hnames : ∀ n ∈ names, Bundle.fit n = true)
    (hk9 : Cond.classLink own ik cls ∈ lw_gw) (hini9 : Cond.initialized cls ∈ lw_gw) (hz : (own, is, text, n9) ∈ am_T) (hat9 : ∀ w ∈ vx_atS own ic cls names, w ∈ lw_gw ∨ w ∈ lw_ng)
    (hgood : ∀ w ∈ Cond.classLink own ik cls :: Cond.initialized cls :: vx_atS own ic cls names, vx_ot w = true) (hLn : L.length = nL)
    (d0 : decode cc pc = .ok (.new ik, 3)) (d3 : decode cc (pc + 3) = .ok (.dup, 1)) (d4 : decode cc (pc + 4) = .ok (.ldc_w is, 3)) (d6 : decode cc (pc + 7) = .ok (.invokespecial ic, 3)) (d9 : decode cc (pc + 10) = .ok (.athrow, 1))
    (hout : ∀ x ∈ c.exceptionTable.toList, covers x (pc + 10) = false)
    (hRframes : names.length + 3 < R.frames) (hst9 : (st.map fun v => v.category).sum ≤ 8) (hRlocals9 : 8 + (13 * (names.length + 1) + 43) ≤ R.locals) (hRcells : k + 1 ≤ R.cells) (hRslots : n + 6 ≤ R.slots)
    (hp9 : Post (.inr cls) (h ++ [(99, [])])) (hc : k + 1 ≤ mc) (hs : n + 6 ≤ ms) :
    am_R G p l e R s m args below meth c mc ms Post pc L st h k n := by
  intro ls H locs hL hH hS T hT X
  have hexec := X9.1
  have hb := X9.2.1
  have hl := X9.2.2.2.2.2.2.2.1
  have hown := X9.2.2.2.1
  have hlocks := X9.2.2.2.2.2.2.1
  have hk := X9.2.2.2.2.1 _ hk9
  have hini := X9.2.2.2.2.1 _ hini9
  have hstr : vk_R own is text (am_ad G n9) s := X9.2.2.2.2.2.1.2.2.2.2.1 _ hz
  generalize am_ad G n9 = sa at hstr
  have hat : ∀ w ∈ vx_atS own ic cls names, w.before args s = true := fun w hw => (hat9 w hw).elim (fun h => X9.2.2.2.2.1 _ h) (fun h => by
    have h1 := X9.2.2.2.2.2.1.2.2.2.2.2.2.2 _ h
    have h2 := hgood w (List.mem_cons_of_mem _ (List.mem_cons_of_mem _ hw))
    simp only [vx_ot, Bool.or_eq_true] at h2
    rcases h2 with h2 | h2
    · exact va_Nw.use h2 h1
    · exact X9.2.2.2.2.1 _ (List.mem_filter.mpr ⟨(List.mem_filter.mp h).1, h2⟩))
  have hU := X9.2.2.2.2.2.1.2.2.2.2.2.1.2
  have hN := X9.2.2.2.2.2.1.2.2.2.2.2.2.1
  generalize hA9 : am_A G = A at hU hN
  have hS0 := hS
  rw [hA9] at hS
  have hsize : ls.size = c.maxLocals := by rw [X9.2.2.1, ← hLn]; exact hL.1
  obtain ⟨rest, hrest⟩ : ∃ z, z = st.map (am_rv G) := ⟨_, rfl⟩
  have hRlocals : (rest.map fun v => v.category).sum + (13 * (names.length + 1) + 43) ≤ R.locals := by rw [hrest, am_cats]; omega
  rw [← hrest]
  have htr : e.platform.stackTraces = false := (show e.platform.stackTraces = l.stackTraces by rw [X.admits.platform]).trans hl
  have Y := vx_rebase X (R' := { frames := R.frames, locals := R.locals, cells := 1, slots := 6 }) (Nat.le_refl _) (Nat.le_refl _) hRcells hRslots
  obtain ⟨s', hA⟩ : ∃ z, z = (T.setVm s.vm).setFrames (.invoking m args :: below) := ⟨_, rfl⟩
  rw [← hA] at Y
  have hvm : s'.vm = s.vm := by rw [hA]; rfl
  have hhp : s'.heap = H := by rw [hA]; exact hT
  have hW0 : s.WarmedH s'.vm := by rw [hvm]; exact State.WarmedH.refl s
  have hat' : ∀ w ∈ vx_atS own ic cls names, w.before args s' = true := fun w hw => vx_ot_at hW0 hvm.symm (hgood w (List.mem_cons_of_mem _ (List.mem_cons_of_mem _ hw))) (hat w hw)
  have hk' : (Cond.classLink own ik cls).before args s' = true := vx_ot_at hW0 hvm.symm (hgood _ List.mem_cons_self) hk
  have hini' : (Cond.initialized cls).before args s' = true := vx_ot_at hW0 hvm.symm (hgood _ (List.mem_cons_of_mem _ List.mem_cons_self)) hini
  have hU' : vx_Zq Bundle.tN "UNASSIGNED_STACK" Bundle.steD A s' s'.heap := by rw [hhp]; exact vx_Zq.moved hW0.alike (hU.kept hS.2.1)
  have hN' : vx_Zq Bundle.tN "SUPPRESSED_SENTINEL" Bundle.listD A s' s'.heap := by rw [hhp]; exact vx_Zq.moved hW0.alike (hN.kept hS.2.1)
  have h : ∀ w ∈ Bundle.ownAtoms own ic cls names, w.before args s' = true := vx_own hat' (vx_isRefq hU'.1) (vx_isRefq hN'.1) hU'.2.word hN'.2.word
  have hown' : s'.vm.findClass own = some m.cls := by rw [hvm]; exact hown
  have hins : (Cond.instantiable cls 6).before args s' = true := h _ (by simp [Bundle.ownAtoms])
  obtain ⟨vm₁, cX, kX, hfX, hkX, -, -, X₁, st1⟩ := Y.newCold hexec (own := own) (C := cls) (index := ik) (n := 6) hown' hk' hins hini'
    (g := F0 m pc ls rest) rfl (by rw [hb]; exact d0) (Nat.le_refl _) (Nat.le_refl _)
  generalize hT1 : (T.setVm vm₁).pushCell { cls := cX, slots := kX.instanceTypes.map defaultValue, vm := .none } = T1 at X₁ st1
  have hcat : (Value.ref T.heap.size).category = 1 := rfl
  have hcellA : T1.heap[T.heap.size]? = some (freshCell cX kX) := by rw [← hT1]; exact State.heap_pushCell_size _ _
  have d3' : decode c.code (pc + 3) = .ok (.dup, 1) := by rw [hb]; exact d3
  have d4' : decode c.code (pc + 4) = .ok (.ldc_w is, 3) := by rw [hb]; exact d4
  have hstr' : vk_R own is text sa s' := vk_R.warm hW0 hstr
  obtain ⟨U, hsteps, hrun, hend, hW, hsame, ce, hce, hO⟩ := X₁.ctorThrowS hexec htr (own := own) (cls := cls) (names := names) (ic := ic) hown' hcls hnames h (fun x hx => nomatch hx) hfX hkX hcellA (by rw [hhp, hT]; exact Nat.le_refl _) (msg := .ref sa) rfl
    (g := { method := m, pc := pc + 7, locals := ls, stack := .ref sa :: .ref T.heap.size :: .ref T.heap.size :: rest, locked := none }) rfl hsize rfl rfl (rest := rest) rfl
    (by rw [hb]; exact d6) (by rw [hb]; exact d9) hout hRframes (by simp only [List.map_cons, List.sum_cons, hcat]; omega) hlocks
  obtain ⟨f1, f2⟩ := vx_frame hsame
  rw [hhp] at f1 f2
  have hWs : s.WarmedH U.vm := State.WarmedH.trans hW0 hW
  have hcl : s.vm.findClass cls = some ce.cls := by
    have h9 := hO.cls
    rw [hvm] at h9
    exact h9
  have hall : s.sameButNew ({ U with vm := s.vm } : State) locs mc ms := by
    subst hA
    obtain ⟨e1, e2⟩ := hsame
    rw [State.setFrames_setFrames] at e1
    have h2 : (T.setVm s.vm).sameButNew ({ U with vm := s.vm } : State) [] (0 + 1) (0 + 6) := ⟨e1, e2⟩
    have h3 := X.same.trans h2
    rw [List.append_nil] at h3
    exact h3.mono hc hs
  have hsz : U.heap.size = H.size + 1 := by
    have g1 : U.heap.size ≤ s'.heap.size + 1 := hsame.2.2.1
    have g2 : T.heap.size < U.heap.size := (Array.getElem?_eq_some_iff.mp hce).1
    rw [hhp] at g1
    rw [hT] at g2
    omega
  have hatE : am_at G H.size (99, []) U.heap := by
    refine ⟨ce, by rw [← hT]; exact hce, ⟨?_, ?_, fun z => ?_, fun _ z => ?_⟩, hO.vm⟩
    · rw [hO.vm]; exact fun z => (by cases z)
    · rw [hO.vm]; rfl
    · exact absurd z (by decide)
    · exact absurd z (by decide)
  have hXC : am_X G Post cls s U := by
    refine ⟨_, hp9, hH.push hsz (fun q hq => f2 q hq (fun z hz => nomatch hz)) hatE, ?_⟩
    refine ⟨Nat.le_trans hS0.1 f1, fun q h1 h2 => ?_⟩
    rw [f2 q (Nat.lt_of_lt_of_le h1 hS0.1) (fun z hz => nomatch hz)]
    exact hS0.2.1 q h1 h2
  refine ⟨U, ?_, .threw T.heap.size, hrun, hend, Or.inr ⟨T.heap.size, rfl, cls, ce, locs, hXC, hce, hO.vm, hcl, hWs, hall, hS.2.2⟩⟩
  refine st1 _ ?_
  show Steps p.tables e below (T1.setTop { method := m, pc := pc + 3, locals := ls, stack := .ref T.heap.size :: rest, locked := none }) _
  jvm_step X₁.here [X₁.here.top, hexec, d3', Value.category]
  exact X₁.ldcStringW hexec (own := own) (text := text) (index := is) (a := sa) hown' hstr'.1 hstr'.2
    (g := { method := m, pc := pc + 4, locals := ls, stack := .ref T.heap.size :: .ref T.heap.size :: rest, locked := none }) rfl d4' _ hsteps
end AMT
