/-! THE START: classes -/
theorem st_cl0 : ∀ w ∈ u_ws RJ0 TJ0 4, w ∈ lw_tbl := by decide +kernel
theorem st_ci0 : Cond.instantiable RJ0 4 ∈ lw_tbl := by decide +kernel
theorem st_cl1 : ∀ w ∈ u_ws RJ4 TJ4 4, w ∈ lw_tbl := by decide +kernel
theorem st_ci1 : Cond.instantiable RJ4 4 ∈ lw_tbl := by decide +kernel
theorem st_cl2 : ∀ w ∈ u_ws RJ6 TJ6 1, w ∈ lw_tbl := by decide +kernel
theorem st_ci2 : Cond.instantiable RJ6 1 ∈ lw_tbl := by decide +kernel
theorem st_cl3 : ∀ w ∈ u_ws RJx00060 TJx00060 6, w ∈ lw_tbl := by decide +kernel
theorem st_ci3 : Cond.instantiable RJx00060 6 ∈ lw_tbl := by decide +kernel
theorem st_cl4 : ∀ w ∈ u_ws RJx7c733 TJx7c733 6, w ∈ lw_tbl := by decide +kernel
theorem st_ci4 : Cond.instantiable RJx7c733 6 ∈ lw_tbl := by decide +kernel
theorem st_cl5 : ∀ w ∈ u_ws RJx35411 TJx35411 4, w ∈ lw_tbl := by decide +kernel
theorem st_ci5 : Cond.instantiable RJx35411 4 ∈ lw_tbl := by decide +kernel
theorem st_cl6 : ∀ w ∈ u_ws RJx4a65c TJx4a65c 3, w ∈ lw_tbl := by decide +kernel
theorem st_ci6 : Cond.instantiable RJx4a65c 3 ∈ lw_tbl := by decide +kernel
theorem st_cl7 : ∀ w ∈ u_ws RX0 TX0 3, w ∈ lw_tbl := by decide +kernel
theorem st_ci7 : Cond.instantiable RX0 3 ∈ lw_tbl := by decide +kernel
theorem st_cl8 : ∀ w ∈ u_ws RX1 TX1 7, w ∈ lw_tbl := by decide +kernel
theorem st_ci8 : Cond.instantiable RX1 7 ∈ lw_tbl := by decide +kernel
theorem st_cl9 : ∀ w ∈ u_ws RX2 TX2 3, w ∈ lw_tbl := by decide +kernel
theorem st_ci9 : Cond.instantiable RX2 3 ∈ lw_tbl := by decide +kernel
theorem st_cl10 : ∀ w ∈ u_ws RX3 TX3 4, w ∈ lw_tbl := by decide +kernel
theorem st_ci10 : Cond.instantiable RX3 4 ∈ lw_tbl := by decide +kernel
theorem st_cl11 : ∀ w ∈ u_ws RX4 TX4 3, w ∈ lw_tbl := by decide +kernel
theorem st_ci11 : Cond.instantiable RX4 3 ∈ lw_tbl := by decide +kernel
theorem st_cl12 : ∀ w ∈ u_ws RX5 TX5 3, w ∈ lw_tbl := by decide +kernel
theorem st_ci12 : Cond.instantiable RX5 3 ∈ lw_tbl := by decide +kernel
theorem st_cl13 : ∀ w ∈ u_ws RX6 TX6 4, w ∈ lw_tbl := by decide +kernel
theorem st_ci13 : Cond.instantiable RX6 4 ∈ lw_tbl := by decide +kernel
theorem st_cl14 : ∀ w ∈ u_ws RX9 TX9 7, w ∈ lw_tbl := by decide +kernel
theorem st_ci14 : Cond.instantiable RX9 7 ∈ lw_tbl := by decide +kernel
theorem st_cl15 : ∀ w ∈ u_ws RX10 TX10 13, w ∈ lw_tbl := by decide +kernel
theorem st_ci15 : Cond.instantiable RX10 13 ∈ lw_tbl := by decide +kernel
theorem st_cl16 : ∀ w ∈ u_ws RX11 TX11 2, w ∈ lw_tbl := by decide +kernel
theorem st_ci16 : Cond.instantiable RX11 2 ∈ lw_tbl := by decide +kernel
theorem st_cl17 : ∀ w ∈ u_ws RX12 TX12 2, w ∈ lw_tbl := by decide +kernel
theorem st_ci17 : Cond.instantiable RX12 2 ∈ lw_tbl := by decide +kernel
theorem st_cl18 : ∀ w ∈ u_ws RX13 TX13 4, w ∈ lw_tbl := by decide +kernel
theorem st_ci18 : Cond.instantiable RX13 4 ∈ lw_tbl := by decide +kernel
theorem st_cl19 : ∀ w ∈ u_ws RX14 TX14 6, w ∈ lw_tbl := by decide +kernel
theorem st_ci19 : Cond.instantiable RX14 6 ∈ lw_tbl := by decide +kernel
theorem st_cl : ∀ (c : Nat) (q : vw_C), am_cl[c]? = some q → (∀ w ∈ u_ws q.1 q.2.1 q.2.2, w ∈ lw_tbl) ∧ Cond.instantiable q.1 q.2.2 ∈ lw_tbl := by
  intro c q hq
  match c, hq with
  | 0, hq => cases hq; exact ⟨st_cl0, st_ci0⟩
  | 1, hq => cases hq; exact ⟨st_cl1, st_ci1⟩
  | 2, hq => cases hq; exact ⟨st_cl2, st_ci2⟩
  | 3, hq => cases hq; exact ⟨st_cl3, st_ci3⟩
  | 4, hq => cases hq; exact ⟨st_cl4, st_ci4⟩
  | 5, hq => cases hq; exact ⟨st_cl5, st_ci5⟩
  | 6, hq => cases hq; exact ⟨st_cl6, st_ci6⟩
  | 7, hq => cases hq; exact ⟨st_cl7, st_ci7⟩
  | 8, hq => cases hq; exact ⟨st_cl8, st_ci8⟩
  | 9, hq => cases hq; exact ⟨st_cl9, st_ci9⟩
  | 10, hq => cases hq; exact ⟨st_cl10, st_ci10⟩
  | 11, hq => cases hq; exact ⟨st_cl11, st_ci11⟩
  | 12, hq => cases hq; exact ⟨st_cl12, st_ci12⟩
  | 13, hq => cases hq; exact ⟨st_cl13, st_ci13⟩
  | 14, hq => cases hq; exact ⟨st_cl14, st_ci14⟩
  | 15, hq => cases hq; exact ⟨st_cl15, st_ci15⟩
  | 16, hq => cases hq; exact ⟨st_cl16, st_ci16⟩
  | 17, hq => cases hq; exact ⟨st_cl17, st_ci17⟩
  | 18, hq => cases hq; exact ⟨st_cl18, st_ci18⟩
  | 19, hq => cases hq; exact ⟨st_cl19, st_ci19⟩
  | c + 20, hq => simp [am_cl] at hq
theorem st_K {s : State} {args : Array Value} (hts : ∀ w ∈ lw_tbl, w.before args s = true) : ∃ (dC : Nat → ClassId) (dI : Nat → Nat → Nat), ∀ (c : Nat) (q : vw_C), am_cl[c]? = some q → u_Kn s q.1 q.2.1 q.2.2 (dC c) (dI c) := by
  have h : ∀ c : Nat, ∃ z : ClassId × (Nat → Nat), ∀ q, am_cl[c]? = some q → u_Kn s q.1 q.2.1 q.2.2 z.1 z.2 := by
    intro c
    cases hq : am_cl[c]? with
    | none => exact ⟨((0 : Nat), fun _ => 0), fun q h => by cases h⟩
    | some q =>
      obtain ⟨h1, h2⟩ := st_cl c q hq
      obtain ⟨cC, iS, h3⟩ := u_known hts h1 (hts _ h2)
      exact ⟨(cC, iS), fun q' h => by cases h; exact h3⟩
  obtain ⟨f, hf⟩ := Classical.axiomOfChoice h
  exact ⟨fun c => (f c).1, fun c => (f c).2, fun c q hq => hf c q hq⟩
theorem st_prim {s : State} {args : Array Value} {ty : FieldType} (hp : ∀ C, ty ≠ .object C) (h : (Cond.arrayClass ty).before args s = true) : ∃ c : ClassId, ArrOfT s c ty ∧ va_RA s c ty := by
  obtain ⟨c, k, comp, h1, h2, h3⟩ := Cond.arrayClass_spec h
  refine ⟨c, fun n z => ⟨(fun k h => by cases h), k, h2, comp, h3⟩, ?_⟩
  cases ty with
  | object C => exact absurd rfl (hp C)
  | _ => exact h1
theorem st_obj {s : State} {args : Array Value} {C : String} (h : (Cond.arrayOver (.object C)).before args s = true) : ∃ c : ClassId, ArrOfT s c (.object C) ∧ va_RA s c (.object C) := by
  obtain ⟨comp, c, k, h1, h2, h3, h4, h5⟩ := Cond.arrayOver_spec h
  exact ⟨c, fun n z => ⟨(fun k h => by cases h), k, h3, comp, h4⟩, k, comp, h3, h4, h1, h5⟩
theorem st_ii {s : State} {args : Array Value} {cI : ClassId} (hI : s.vm.findClass "[I" = some cI) (h : (Cond.arrayOver (.array .int)).before args s = true) : ∃ c : ClassId, ArrOfT s c (.array .int) ∧ va_RA s c (.array .int) := by
  have e3 : (FieldType.array .int).toString = "[I" := by decide
  have e2 : s.vm.findClass (FieldType.array .int).toString = some cI := by rw [e3]; exact hI
  simp only [Cond.before, Cond.holds, Cond.value, beq_iff_eq, e2, Option.bind_some, Option.bind_eq_some_iff, Option.map_eq_some_iff] at h
  obtain ⟨cc, hi, k, hk1, hk2⟩ := h
  cases hkind : k.kind with
  | array component ty =>
    rw [hkind] at hk2
    simp at hk2
    obtain ⟨rfl, h5⟩ := hk2
    exact ⟨cc, fun n z => ⟨(fun k h => by cases h), k, hk1, component, hkind⟩, h5⟩
  | _ => rw [hkind] at hk2; simp at hk2
theorem st_w50 : Cond.arrayClass .int ∈ lw_tbl := by decide +kernel
theorem st_w51 : Cond.arrayClass .byte ∈ lw_tbl := by decide +kernel
theorem st_w52 : Cond.arrayClass .long ∈ lw_tbl := by decide +kernel
theorem st_w53 : Cond.arrayOver (.object "Clockhouse$Big") ∈ lw_tbl := by decide +kernel
theorem st_w54 : Cond.arrayOver (.object "Clockhouse$State") ∈ lw_tbl := by decide +kernel
theorem st_w55 : Cond.arrayOver (.object "ClockhouseModel$Num") ∈ lw_tbl := by decide +kernel
theorem st_w56 : Cond.arrayOver (.object "java/lang/Object") ∈ lw_tbl := by decide +kernel
theorem st_w57 : Cond.arrayOver (.array .int) ∈ lw_tbl := by decide +kernel
theorem st_A {s : State} {args : Array Value} (hts : ∀ w ∈ lw_tbl, w.before args s = true) : ∃ f : Nat → ClassId, ∀ k : Nat, 50 ≤ k → k < 58 → ArrOfT s (f k) (am_aty k) ∧ va_RA s (f k) (am_aty k) := by
  obtain ⟨c50, a50⟩ := st_prim (ty := .int) (fun C h => by cases h) (hts _ st_w50)
  obtain ⟨c51, a51⟩ := st_prim (ty := .byte) (fun C h => by cases h) (hts _ st_w51)
  obtain ⟨c52, a52⟩ := st_prim (ty := .long) (fun C h => by cases h) (hts _ st_w52)
  obtain ⟨c53, a53⟩ := st_obj (hts _ st_w53)
  obtain ⟨c54, a54⟩ := st_obj (hts _ st_w54)
  obtain ⟨c55, a55⟩ := st_obj (hts _ st_w55)
  obtain ⟨c56, a56⟩ := st_obj (hts _ st_w56)
  have hI : s.vm.findClass "[I" = some c50 := by
    have h := am_RAn a50.2
    rw [show ("[" ++ (FieldType.int).toString) = "[I" by decide] at h
    exact h
  obtain ⟨c57, a57⟩ := st_ii hI (hts _ st_w57)
  refine ⟨fun k => match k with
    | 50 => c50
    | 51 => c51
    | 52 => c52
    | 53 => c53
    | 54 => c54
    | 55 => c55
    | 56 => c56
    | _ => c57, fun k h1 h2 => ?_⟩
  have h3 : k = 50 ∨ k = 51 ∨ k = 52 ∨ k = 53 ∨ k = 54 ∨ k = 55 ∨ k = 56 ∨ k = 57 := by omega
  rcases h3 with rfl | rfl | rfl | rfl | rfl | rfl | rfl | rfl
  · exact a50
  · exact a51
  · exact a52
  · exact a53
  · exact a54
  · exact a55
  · exact a56
  · exact a57
theorem st_vb : ∀ j : Nat, j < 256 → vb_c j = Int32.ofInt ((j : Int) - 128) := by decide +kernel
/-- the small numbers -/
theorem st_cache {s : State} {args : Array Value} {st : Term} (hc : st.closed = true) (hlen : (Cond.eq (.length st) (.int (Int32.ofNat 256))).before args s = true) (harr : (Cond.arrayOf st (.object "java/lang/Integer")).before args s = true)
    (hall : (Cond.all st (.and (.exactly (.elem st (.index 0)) "java/lang/Integer") (.eq (.field (.elem st (.index 0)) "java/lang/Integer" "value" "I") (.sub (.index 0) (.int 128))))).before args s = true) :
    ∃ (t : Nat) (cell : Cell) (ad : Nat → Nat), st.eval args s none [] s = some (.ref t) ∧ s.heap[t]? = some cell ∧ s.isArrayOf cell (.object "java/lang/Integer") ∧ cell.vm ≠ .unknown ∧ 256 ≤ cell.slots.size ∧ cell.slots.size.toInt32 = Int32.ofNat 256 ∧ (∀ j : Nat, j < 256 → cell.slots[j]? = some (.ref (ad j))) ∧
      ∀ j : Nat, j < 256 → ∃ c2 : Cell, s.heap[ad j]? = some c2 ∧ c2.vm ≠ .unknown ∧ c2.vm.isStatics = false ∧ s.vm.findClass "java/lang/Integer" = some c2.cls ∧ ∃ cf k i f, s.fieldFound? "java/lang/Integer" "value" "I" = some (cf, k, i, f) ∧ c2.slots[f.slot]? = some (.int (vb_c j)) := by
  have hA : ∀ a : Nat, a < s.heap.size → ¬ (fun q : Nat => s.heap.size ≤ q) a := fun a h => Nat.not_le.mpr h
  obtain ⟨ad, ⟨hO, hE⟩, hel⟩ := vb_Cof (A := fun q : Nat => s.heap.size ≤ q) hc (va_eqt hlen) hall hA
  obtain ⟨t, ht, cell, g1, g2, g3, g4, g5, g6, -⟩ := va_Tof (N := 256) (f := fun j => .ref (ad j)) (by decide) harr (va_eqt hlen) hel hA
  refine ⟨t, cell, ad, ht, g1, g2, g3, g4, g5, g6, fun j hj => ?_⟩
  obtain ⟨c2, a1, a2, a3, -⟩ := hO j hj
  obtain ⟨cf, k, i, f, c3, b1, -, b3, b4, b5, -⟩ := hE j hj
  cases a1.symm.trans b3
  exact ⟨c2, a1, b4, a2, a3, cf, k, i, f, b1, b5⟩
