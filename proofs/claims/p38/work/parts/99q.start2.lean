/-! THE START: texts -/
def st_S : List (String × Nat × Nat) := [("Clockhouse", 323, 4), ("Clockhouse", 409, 16), ("Clockhouse", 276, 14), ("Clockhouse", 416, 21), ("Clockhouse", 77, 21), ("Clockhouse", 99, 35), ("Clockhouse", 429, 30), ("Clockhouse", 418, 23), ("Clockhouse", 420, 20), ("Clockhouse", 422, 23), ("Clockhouse", 424, 30), ("Clockhouse", 162, 18), ("Clockhouse", 170, 51), ("Clockhouse", 179, 16), ("Clockhouse", 187, 24), ("Clockhouse", 205, 6), ("Clockhouse", 214, 6), ("Clockhouse", 299, 14), ("ClockhouseModel", 200, 0), ("ClockhouseModel", 209, 6), ("ClockhouseModel", 213, 6), ("ClockhouseModel", 296, 4), ("ClockhouseModel", 323, 1)]
theorem st_sN : ∀ q ∈ st_S, q.2.2 ≤ 60 := by decide +kernel
theorem st_s1 : ∀ q ∈ st_S, Cond.exactly (.string q.1 q.2.1) "java/lang/String" ∈ flatC (Jvm.Cond.and given_1 narrow_1) := by decide +kernel
theorem st_s2 : ∀ q ∈ st_S, Cond.eq (.field (.string q.1 q.2.1) "java/lang/String" "coder" "B") (.int 0) ∈ flatC (Jvm.Cond.and given_1 narrow_1) := by decide +kernel
theorem st_s3 : ∀ q ∈ st_S, Cond.arrayOf (.field (.string q.1 q.2.1) "java/lang/String" "value" "[B") .byte ∈ flatC (Jvm.Cond.and given_1 narrow_1) := by decide +kernel
theorem st_s4 : ∀ q ∈ st_S, Cond.eq (.length (.field (.string q.1 q.2.1) "java/lang/String" "value" "[B")) (.int (Int32.ofNat q.2.2)) ∈ flatC (Jvm.Cond.and given_1 narrow_1) := by decide +kernel
theorem st_s5 : ∀ q ∈ st_S, Cond.exactly (.field (.string q.1 q.2.1) "java/lang/String" "value" "[B") "[B" ∈ flatC (Jvm.Cond.and given_1 narrow_1) := by decide +kernel
theorem st_strs {s : State} {args : Array Value} {cC cB : ClassId} {iS : Nat → Nat} (hfit : heapFits s = true) (hts : ∀ w ∈ lw_tbl, w.before args s = true) (hN : ∀ w ∈ flatC (Jvm.Cond.and given_1 narrow_1), w.before args s = true) (hKn : u_Kn s RJ0 TJ0 4 cC iS) (hB : s.vm.findClass "[B" = some cB) :
    ∃ S : Nat → Nat × Nat × Int32 × Int32 × List Value, ∀ (i : Nat) (q : String × Nat × Nat), st_S[i]? = some q → ∃ cs cr : Cell, (Term.string q.1 q.2.1).eval args s none [] s = some (.ref (S i).1) ∧ s.heap[(S i).1]? = some cs ∧ s.heap[(S i).2.1]? = some cr ∧
      (cs.vm ≠ .unknown ∧ cs.vm.isStatics = false ∧ cs.cls = cC ∧ cs.slots[iS 0]? = some (.ref (S i).2.1) ∧ cs.slots[iS 1]? = some (.int 0) ∧ cs.slots[iS 2]? = some (.int (S i).2.2.1) ∧ cs.slots[iS 3]? = some (.int (S i).2.2.2.1) ∧ 0 ≤ (S i).2.2.2.1.toInt ∧ (S i).2.2.2.1.toInt ≤ 1) ∧
      (cr.vm ≠ .unknown ∧ cr.vm.isStatics = false ∧ cr.cls = cB ∧ q.2.2 ≤ cr.slots.size ∧ cr.slots.size.toInt32 = Int32.ofNat q.2.2) ∧ (S i).2.2.2.2.length = q.2.2 ∧ ∀ (j : Nat) (v : Value), (S i).2.2.2.2[j]? = some v → cr.slots[j]? = some v ∧ fits .byte v = true := by
  have h : ∀ i : Nat, ∃ D : Nat × Nat × Int32 × Int32 × List Value, ∀ q : String × Nat × Nat, st_S[i]? = some q → ∃ cs cr : Cell, (Term.string q.1 q.2.1).eval args s none [] s = some (.ref D.1) ∧ s.heap[D.1]? = some cs ∧ s.heap[D.2.1]? = some cr ∧
      (cs.vm ≠ .unknown ∧ cs.vm.isStatics = false ∧ cs.cls = cC ∧ cs.slots[iS 0]? = some (.ref D.2.1) ∧ cs.slots[iS 1]? = some (.int 0) ∧ cs.slots[iS 2]? = some (.int D.2.2.1) ∧ cs.slots[iS 3]? = some (.int D.2.2.2.1) ∧ 0 ≤ D.2.2.2.1.toInt ∧ D.2.2.2.1.toInt ≤ 1) ∧
      (cr.vm ≠ .unknown ∧ cr.vm.isStatics = false ∧ cr.cls = cB ∧ q.2.2 ≤ cr.slots.size ∧ cr.slots.size.toInt32 = Int32.ofNat q.2.2) ∧ D.2.2.2.2.length = q.2.2 ∧ ∀ (j : Nat) (v : Value), D.2.2.2.2[j]? = some v → cr.slots[j]? = some v ∧ fits .byte v = true := by
    intro i
    cases hq : st_S[i]? with
    | none => exact ⟨(0, 0, 0, 0, []), fun q h => by cases h⟩
    | some q =>
      have hm := List.mem_of_getElem? hq
      obtain ⟨a, r, cs, cr, hs, zs, e1, e2, e3, e4, f1, f2, f3, f4, f5, f6⟩ := st_str (k := q.2.1) (own := q.1) (N := q.2.2) hfit hts st_cl0 hKn hB (hN _ (st_s1 q hm)) (hN _ (st_s2 q hm)) (hN _ (st_s3 q hm)) (hN _ (st_s4 q hm)) (hN _ (st_s5 q hm)) (by have := st_sN q hm; omega)
      refine ⟨(a, r, hs, zs, cr.slots.toList.take q.2.2), fun q' h' => ?_⟩
      cases h'
      refine ⟨cs, cr, e1, e2, e3, e4, ⟨f1, f2, f3, f4, f5⟩, ?_, fun j v hv => ?_⟩
      · show (cr.slots.toList.take q.2.2).length = q.2.2
        rw [List.length_take, Array.length_toList]
        omega
      · have hv : (cr.slots.toList.take q.2.2)[j]? = some v := hv
        have hj : j < q.2.2 := by
          have := (List.getElem?_eq_some_iff.mp hv).1
          rw [List.length_take] at this
          omega
        rw [List.getElem?_take_of_lt hj, Array.getElem?_toList] at hv
        exact ⟨hv, f6 j v hv⟩
  obtain ⟨S, hS⟩ := Classical.axiomOfChoice h
  exact ⟨S, hS⟩
