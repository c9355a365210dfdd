/-! THE START: what fits, what is read of it -/
theorem st_forget {s t : State} {L : List Loc} {k n : Nat} (h : s.sameButNew t L k n) (hf : ∀ q ∈ L, s.heap.size ≤ q.base) : s.sameButNew t [] k n := by
  obtain ⟨h1, h2, h3, h4, h5, h6⟩ := h
  refine ⟨h1, h2, h3, h4, h5, fun a c hc => ?_⟩
  obtain ⟨c', e1, e2, e3, e4⟩ := h6 a c hc
  refine ⟨c', e1, e2, e3, fun i _ => e4 i fun hm => ?_⟩
  have h7 : s.heap.size ≤ a := hf _ hm
  have h8 := (Array.getElem?_eq_some_iff.mp hc).1
  omega
theorem st_fit {s : State} (h : heapFits s = true) {a : Nat} {cell : Cell} (hc : s.heap[a]? = some cell) {i : Nat} {v : Value} (hv : cell.slots[i]? = some v) : s.fitsSlot cell.cls cell.vm i v = true := by
  obtain ⟨ha, rfl⟩ := Array.getElem?_eq_some_iff.mp hc
  have h1 := (Array.all_eq_true_iff_forall_mem.mp h) _ (Array.getElem_mem ha)
  have hi : i < (s.heap[a]).slots.size := (Array.getElem?_eq_some_iff.mp hv).1
  have h2 := (List.all_eq_true.mp h1) i (List.mem_range.mpr hi)
  simpa [hv] using h2
theorem st_fit_arr {s : State} (h : heapFits s = true) {a : Nat} {cell : Cell} (hc : s.heap[a]? = some cell) {ty : FieldType} (hof : s.isArrayOf cell ty) {i : Nat} {v : Value} (hv : cell.slots[i]? = some v) : fits ty v = true := by
  have h1 := st_fit h hc hv
  obtain ⟨g1, k, g2, comp, g3⟩ := hof
  have h2 : s.slotType? cell.cls cell.vm i = some ty := by
    cases hvm : cell.vm with
    | statics z => exact absurd hvm (g1 z)
    | _ => simp [State.slotType?, g2, g3]
  unfold State.fitsSlot at h1
  rw [h2] at h1
  exact h1
theorem st_fby {v : Value} (h : fits .byte v = true) : ∃ x : Int32, v = .int x ∧ -128 ≤ x.toInt ∧ x.toInt ≤ 127 := by
  cases v with
  | int x =>
    refine ⟨x, rfl, ?_⟩
    have h : (decide ((-128 : Int32) ≤ x) && decide (x ≤ 127)) = true := h
    rw [Bool.and_eq_true, decide_eq_true_eq, decide_eq_true_eq, Int32.le_iff_toInt_le, Int32.le_iff_toInt_le] at h
    exact ⟨(show (-128 : Int) ≤ x.toInt from h.1), (show x.toInt ≤ (127 : Int) from h.2)⟩
  | _ => cases h
theorem st_fbo {v : Value} (h : fits .boolean v = true) : ∃ x : Int32, v = .int x ∧ 0 ≤ x.toInt ∧ x.toInt ≤ 1 := by
  cases v with
  | int x =>
    refine ⟨x, rfl, ?_⟩
    have h : (x == 0 || x == 1) = true := h
    rw [Bool.or_eq_true, beq_iff_eq, beq_iff_eq] at h
    rcases h with rfl | rfl
    · exact ⟨by decide, by decide⟩
    · exact ⟨by decide, by decide⟩
  | _ => cases h
theorem st_fin {v : Value} (h : fits .int v = true) : ∃ x : Int32, v = .int x := by
  cases v with
  | int x => exact ⟨x, rfl⟩
  | _ => cases h
theorem st_nst {s : State} {cell : Cell} {ty : FieldType} (hof : s.isArrayOf cell ty) : cell.vm.isStatics = false := by
  cases hvm : cell.vm with
  | statics z => exact absurd hvm (hof.1 z)
  | _ => rfl
theorem st_arr {s : State} {cell : Cell} {ty : FieldType} (hof : s.isArrayOf cell ty) : ArrOfT s cell.cls ty := fun n z => ⟨(fun k h => by cases h), hof.2⟩
/-- a field of an object of the start, by its type -/
theorem st_slot {ws : List Cond} {s : State} {args : Array Value} {C : String} {T : u_T} {N : Nat} {cC : ClassId} {iS : Nat → Nat} (hfit : heapFits s = true) (hts : ∀ w ∈ ws, w.before args s = true) (hin : ∀ w ∈ u_ws C T N, w ∈ ws) (hK : u_Kn s C T N cC iS) {a : Nat} {cell : Cell} (hc : s.heap[a]? = some cell) (hcl : cell.cls = cC) (hst : cell.vm.isStatics = false)
    (hsz : ∀ k : Class, s.vm.classes[cC]? = some k → k.kind = .ordinary → cell.slots.size = k.instanceTypes.size) {k : Nat} (hk : k < N) {ty : FieldType} (hd : parseFieldDescriptor (T k).2.2.1 = some ty) : ∃ v, cell.slots[iS k]? = some v ∧ fits ty v = true := by
  obtain ⟨hS, hfc, kC, hkC, hkind⟩ := hK
  obtain ⟨cf, kf, fi, fd, hi, he⟩ := hS k hk
  have h3 := (u_facts hfc hkC (u_lays hts hin hk) hi).2.2
  rw [(State.fieldFound?_type hi hd).2, he] at h3
  have hlt := (Array.getElem?_eq_some_iff.mp h3).1
  have hz := hsz kC hkC hkind
  have hlt2 : iS k < cell.slots.size := by omega
  have hv : cell.slots[iS k]? = some (cell.slots[iS k]'hlt2) := Array.getElem?_eq_getElem hlt2
  refine ⟨_, hv, ?_⟩
  have h1 := st_fit hfit hc hv
  have h2 : s.slotType? cell.cls cell.vm (iS k) = some ty := by
    rw [hcl]
    cases hvm : cell.vm with
    | statics z => rw [hvm] at hst; cases hst
    | _ => simp [State.slotType?, hkC, hkind, h3]
  unfold State.fitsSlot at h1
  rw [h2] at h1
  exact h1
/-- a row of the start whose length is told -/
theorem st_row {s : State} {args : Array Value} {tm : Term} {ty : FieldType} {N : Nat} (hfit : heapFits s = true) (harr : (Cond.arrayOf tm ty).before args s = true) (hlen : (Cond.eq (.length tm) (.int (Int32.ofNat N))).before args s = true) (hN : N < 2147483648) :
    ∃ (a : Nat) (cell : Cell), tm.eval args s none [] s = some (.ref a) ∧ s.heap[a]? = some cell ∧ cell.vm ≠ .unknown ∧ cell.vm.isStatics = false ∧ s.isArrayOf cell ty ∧ N ≤ cell.slots.size ∧ cell.slots.size.toInt32 = Int32.ofNat N ∧ ∀ (i : Nat) (v : Value), cell.slots[i]? = some v → fits ty v = true := by
  obtain ⟨a, cell, ht, hat, hv⟩ := Term.length_spec (va_eqt hlen)
  obtain ⟨hcell, hkn, hst, -⟩ := State.arrayAt?_spec hat
  obtain ⟨hof, -⟩ := Cond.arrayOf_spec harr ht hcell
  have e : Int32.ofNat cell.slots.size = Int32.ofNat N := (Value.int.inj hv).symm
  refine ⟨a, cell, ht, hcell, hkn, hst, hof, ?_, e, fun i v hv => st_fit_arr hfit hcell hof hv⟩
  apply Nat.not_lt.mp
  intro hlt
  have h1 : (Int32.ofNat cell.slots.size).toNatClampNeg = cell.slots.size := Int32.toNatClampNeg_ofNat_of_lt (by omega)
  have h2 : (Int32.ofNat N).toNatClampNeg = N := Int32.toNatClampNeg_ofNat_of_lt (by omega)
  rw [e, h2] at h1
  omega
/-- a text of the start -/
theorem st_str {ws : List Cond} {s : State} {args : Array Value} {own : String} {k N : Nat} {cC cB : ClassId} {iS : Nat → Nat} (hfit : heapFits s = true) (hts : ∀ w ∈ ws, w.before args s = true) (hin : ∀ w ∈ u_ws RJ0 TJ0 4, w ∈ ws) (hKn : u_Kn s RJ0 TJ0 4 cC iS) (hB : s.vm.findClass "[B" = some cB)
    (h1 : (Cond.exactly (.string own k) "java/lang/String").before args s = true) (h2 : (Cond.eq (.field (.string own k) "java/lang/String" "coder" "B") (.int 0)).before args s = true) (h3 : (Cond.arrayOf (.field (.string own k) "java/lang/String" "value" "[B") .byte).before args s = true)
    (h4 : (Cond.eq (.length (.field (.string own k) "java/lang/String" "value" "[B")) (.int (Int32.ofNat N))).before args s = true) (h5 : (Cond.exactly (.field (.string own k) "java/lang/String" "value" "[B") "[B").before args s = true) (hN : N < 2147483648) :
    ∃ (a r : Nat) (cs cr : Cell) (hs zs : Int32), (Term.string own k).eval args s none [] s = some (.ref a) ∧ s.heap[a]? = some cs ∧ s.heap[r]? = some cr ∧
      (cs.vm ≠ .unknown ∧ cs.vm.isStatics = false ∧ cs.cls = cC ∧ cs.slots[iS 0]? = some (.ref r) ∧ cs.slots[iS 1]? = some (.int 0) ∧ cs.slots[iS 2]? = some (.int hs) ∧ cs.slots[iS 3]? = some (.int zs) ∧ 0 ≤ zs.toInt ∧ zs.toInt ≤ 1) ∧
      (cr.vm ≠ .unknown ∧ cr.vm.isStatics = false ∧ cr.cls = cB ∧ N ≤ cr.slots.size ∧ cr.slots.size.toInt32 = Int32.ofNat N ∧ ∀ (i : Nat) (v : Value), cr.slots[i]? = some v → fits .byte v = true) := by
  obtain ⟨a, c, cs, k0, q1, q2, q3, q4, q5, q6, q7⟩ := Cond.exactly_spec h1
  obtain ⟨hS, hfc, kC, hkC, hkind⟩ := id hKn
  have hcC : c = cC := Option.some.inj (q2.symm.trans hfc)
  subst hcC
  obtain ⟨cf1, kf1, fi1, fd1, hi1, he1⟩ := hS 1 (by decide)
  obtain ⟨-, cs1, g1, g2, -, -, g5⟩ := Term.field_spec hi1 q1 (va_eqt h2)
  cases q3.symm.trans g1
  rw [he1] at g5
  obtain ⟨r, cB', cr, kB, p1, p2, p3, p4, p5, p6, -⟩ := Cond.exactly_spec h5
  have hcB : cB' = cB := Option.some.inj (p2.symm.trans hB)
  obtain ⟨cf0, kf0, fi0, fd0, hi0, he0⟩ := hS 0 (by decide)
  obtain ⟨-, cs2, f1, -, -, -, f5⟩ := Term.field_spec hi0 q1 p1
  cases q3.symm.trans f1
  rw [he0] at f5
  obtain ⟨r', cr', t1, t2, t3, t4, -, t6, t7, t8⟩ := st_row hfit h3 h4 hN
  cases p1.symm.trans t1
  cases p3.symm.trans t2
  have hsz : ∀ k : Class, s.vm.classes[c]? = some k → k.kind = .ordinary → cs.slots.size = k.instanceTypes.size := fun k hk hd => by
    cases q4.symm.trans hk
    exact q7 hd
  obtain ⟨v2, m1, m2⟩ := st_slot hfit hts hin hKn q3 q6 q5 hsz (k := 2) (by decide) (tyJ0_ok 2 (by decide))
  obtain ⟨v3, n1, n2⟩ := st_slot hfit hts hin hKn q3 q6 q5 hsz (k := 3) (by decide) (tyJ0_ok 3 (by decide))
  obtain ⟨hs, rfl⟩ := st_fin m2
  obtain ⟨zs, rfl, z1, z2⟩ := st_fbo n2
  exact ⟨a, r, cs, cr, hs, zs, q1, q3, p3, ⟨g2, q5, q6, f5, g5, m1, n1, z1, z2⟩, t3, t4, p6.trans hcB, t6, t7, t8⟩
