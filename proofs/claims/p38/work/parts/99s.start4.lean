/-! THE START: its world -/
theorem st_tbl {s : State} {args : Array Value} (hts : ∀ w ∈ tables_1, w.before args s = true) (hN : ∀ w ∈ flatC (Jvm.Cond.and given_1 narrow_1), w.before args s = true) : ∀ w ∈ lw_tbl, w.before args s = true := by
  have hm : ∀ w ∈ lw_more, w.before args s = true := by
    have e0 := lw_selM lw_mo0.1 (hts _ lw_mo0.2.1) (hts _ lw_mo0.2.2.1) (hts _ lw_mo0.2.2.2) (hts _ lw_mo_s) rfl
    have e1 := lw_selM lw_mo1.1 (hts _ lw_mo1.2.1) (hts _ lw_mo1.2.2.1) (hts _ lw_mo1.2.2.2) (hts _ lw_mo_s) rfl
    have e2 := lw_selM lw_mo2.1 (hts _ lw_mo2.2.1) (hts _ lw_mo2.2.2.1) (hts _ lw_mo2.2.2.2) (hts _ lw_mo_s) rfl
    have e3 := lw_selM lw_mo3.1 (hts _ lw_mo3.2.1) (hts _ lw_mo3.2.2.1) (hts _ lw_mo3.2.2.2) (hts _ lw_mo_s) rfl
    exact List.forall_mem_cons.mpr ⟨e0, List.forall_mem_cons.mpr ⟨e1, List.forall_mem_cons.mpr ⟨e2, List.forall_mem_cons.mpr ⟨e3, List.forall_mem_cons.mpr ⟨hN _ (by decide +kernel), List.forall_mem_cons.mpr ⟨hN _ (by decide +kernel), List.forall_mem_cons.mpr ⟨hN _ (by decide +kernel), List.forall_mem_nil _⟩⟩⟩⟩⟩⟩⟩
  have h2 : ∀ w ∈ lw_more ++ tables_1, w.before args s = true := List.forall_mem_append.mpr ⟨hm, hts⟩
  exact k2_hts_sels lw_privs h2 fun q hq => ⟨(lw_privs_ok q hq).1, List.mem_append_right _ (lw_privs_ok q hq).2.1, List.mem_append_right _ (lw_privs_ok q hq).2.2.1, List.mem_append_right _ (lw_privs_ok q hq).2.2.2⟩
def st_ca : Term := .static "java/lang/Integer$IntegerCache" "cache" "[Ljava/lang/Integer;"
def st_ta : Term := .static "java/lang/Integer" "DigitTens" "[B"
def st_oa : Term := .static "java/lang/Integer" "DigitOnes" "[B"
def st_ea : Term := .static "java/util/ArrayList" "DEFAULTCAPACITY_EMPTY_ELEMENTDATA" "[Ljava/lang/Object;"
theorem st_g1 : Cond.eq (.length st_ca) (.int (Int32.ofNat 256)) ∈ flatC (Jvm.Cond.and given_1 narrow_1) := by decide +kernel
theorem st_g2 : Cond.arrayOf st_ca (.object "java/lang/Integer") ∈ flatC (Jvm.Cond.and given_1 narrow_1) := by decide +kernel
theorem st_g3 : Cond.all st_ca (.and (.exactly (.elem st_ca (.index 0)) "java/lang/Integer") (.eq (.field (.elem st_ca (.index 0)) "java/lang/Integer" "value" "I") (.sub (.index 0) (.int 128)))) ∈ flatC (Jvm.Cond.and given_1 narrow_1) := by decide +kernel
theorem st_g4 : Cond.arrayOf st_ta .byte ∈ flatC (Jvm.Cond.and given_1 narrow_1) := by decide +kernel
theorem st_g5 : Cond.eq (.length st_ta) (.int (Int32.ofNat 100)) ∈ flatC (Jvm.Cond.and given_1 narrow_1) := by decide +kernel
theorem st_g6 : Cond.arrayOf st_oa .byte ∈ flatC (Jvm.Cond.and given_1 narrow_1) := by decide +kernel
theorem st_g7 : Cond.eq (.length st_oa) (.int (Int32.ofNat 100)) ∈ flatC (Jvm.Cond.and given_1 narrow_1) := by decide +kernel
theorem st_g8 : Cond.arrayOf st_ea (.object "java/lang/Object") ∈ flatC (Jvm.Cond.and given_1 narrow_1) := by decide +kernel
theorem st_g9 : Cond.eq (.length st_ea) (.int (Int32.ofNat 0)) ∈ flatC (Jvm.Cond.and given_1 narrow_1) := by decide +kernel
theorem st_g10 : Cond.exactly st_ea "[Ljava/lang/Object;" ∈ flatC (Jvm.Cond.and given_1 narrow_1) := by decide +kernel
theorem st_g11 : Cond.isRef (.mirror "[Ljava/lang/Object;") ∈ flatC (Jvm.Cond.and given_1 narrow_1) := by decide +kernel
theorem st_g12 : Cond.isRef (.static Bundle.tN "UNASSIGNED_STACK" Bundle.steD) ∈ flatC (Jvm.Cond.and given_1 narrow_1) := by decide +kernel
theorem st_g13 : Cond.isRef (.static Bundle.tN "SUPPRESSED_SENTINEL" Bundle.listD) ∈ flatC (Jvm.Cond.and given_1 narrow_1) := by decide +kernel
theorem st_g14 : Cond.eq (.static "java/lang/String" "COMPACT_STRINGS" "Z") (.int 1) ∈ flatC (Jvm.Cond.and given_1 narrow_1) := by decide +kernel
theorem st_g15 : Cond.eq (.static "java/lang/Integer$IntegerCache" "high" "I") (.int 127) ∈ flatC (Jvm.Cond.and given_1 narrow_1) := by decide +kernel
theorem st_lz : ∀ z ∈ am_Z, Cond.laysStatic z.1 z.2.1 z.2.2.1 ∈ lw_tbl ∧ Cond.initialized z.1 ∈ lw_tbl := by decide +kernel
theorem st_lx : (Cond.laysStatic Bundle.tN "UNASSIGNED_STACK" Bundle.steD ∈ lw_tbl ∧ Cond.laysStatic Bundle.tN "SUPPRESSED_SENTINEL" Bundle.listD ∈ lw_tbl) ∧ Cond.initialized Bundle.tN ∈ lw_tbl := by decide +kernel
theorem st_nw {w : Cond} {s : State} {args : Array Value} (hg : am_ngw w = true) (h : w.before args s = true) : va_Nw w s := by
  cases w with
  | fieldLinkNest a i b n d h1 => exact va_tabs rfl rfl h
  | methodLinkNest a i x h1 => exact va_tabs rfl rfl h
  | arrayOver t =>
    unfold va_Nw
    simp only [Cond.before, Cond.holds, Cond.value] at h ⊢
    exact h
  | not v =>
    cases v with
    | castable a b => exact am_nc_of (va_Nc.of h)
    | _ => exfalso; simp [am_ngw, Cond.faceAtom] at hg
  | _ =>
    first
      | (exfalso; simp [am_ngw, Cond.faceAtom] at hg; done)
      | (simp only [am_ngw, Bool.and_eq_true] at hg
         exact va_tabs hg.2 rfl h)
theorem st_rm {α : Type} {N j : Nat} {g : Nat → α} {v : α} (h : ((List.range N).map g)[j]? = some v) : j < N ∧ g j = v := by
  have hl : j < N := by
    have := (List.getElem?_eq_some_iff.mp h).1
    simpa using this
  rw [List.getElem?_map, List.getElem?_range hl] at h
  exact ⟨hl, Option.some.inj h⟩
theorem st_tk {a : Array Value} {N j : Nat} {v : Value} (h : (a.toList.take N)[j]? = some v) : a[j]? = some v := by
  have hj : j < N := by
    have := (List.getElem?_eq_some_iff.mp h).1
    rw [List.length_take] at this
    omega
  rw [List.getElem?_take_of_lt hj, Array.getElem?_toList] at h
  exact h
theorem st_tl {a : Array Value} {N : Nat} (h : N ≤ a.size) : (a.toList.take N).length = N := by
  rw [List.length_take, Array.length_toList]
  omega
theorem st_ti : ∀ i : Nat, i < 23 → (st_t i ∈ st_tags ∧ st_t i ≠ 43056 ∧ st_t i ≠ 43099) ∧ st_u i ∈ st_tags ∧ st_u i ≠ 43056 ∧ st_u i ≠ 43099 := by decide +kernel
