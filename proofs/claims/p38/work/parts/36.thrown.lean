/-! THROWS, IN A METHOD WITHOUT A TABLE -/
def ck_inT (l : List Cond) : Bool := l.all fun w => (goodWord w || am_ngw w) && lw_tbl.any fun v => decide (v = w)
theorem ck_inT_ok {l : List Cond} (h : ck_inT l = true) : ∀ w ∈ l, w ∈ lw_gw ∨ w ∈ lw_ng := by
  intro w hw
  have h1 := List.all_eq_true.mp h w hw
  rw [Bool.and_eq_true, Bool.or_eq_true] at h1
  obtain ⟨h1, h2⟩ := h1
  obtain ⟨v, hv, he⟩ := List.any_eq_true.mp h2
  have he := of_decide_eq_true he
  subst he
  exact h1.imp (fun z => List.mem_filter.mpr ⟨hv, z⟩) (fun z => List.mem_filter.mpr ⟨hv, z⟩)
section AMZ
variable {l : Launch} {G : am_G} {own : String} {cc : ByteArray} {nL fr lo pc : Nat}
theorem ck_zS {cls text : String} {names : List String} {ik is ic n9 : Nat} (hcls : Bundle.fit cls = true) (hnames : ∀ n ∈ names, Bundle.fit n = true)
    (hk9 : Cond.classLink own ik cls ∈ lw_gw) (hini9 : Cond.initialized cls ∈ lw_gw) (hz : (own, is, text, n9) ∈ am_T) (hat9 : ∀ w ∈ vx_atS own ic cls names, w ∈ lw_gw ∨ w ∈ lw_ng) (hgood : ∀ w ∈ vx_atS own ic cls names, vx_ot w = true)
    (d0 : decode cc pc = .ok (.new ik, 3)) (d3 : decode cc (pc + 3) = .ok (.dup, 1)) (d4 : decode cc (pc + 4) = .ok (.ldc is, 2)) (d6 : decode cc (pc + 6) = .ok (.invokespecial ic, 3)) (d9 : decode cc (pc + 9) = .ok (.athrow, 1))
    (hf : names.length + 3 < fr) (hlo : 8 + (13 * (names.length + 1) + 43) ≤ lo) : ck_anyZ l G own cc nL fr lo pc cls := by
  intro p e s m args below meth c mc ms Post ret X ht L st h k n hL hst hk hn hp
  exact am_R.throwS X hcls hnames hk9 hini9 hz hat9 (fun w hw => by
    rcases List.mem_cons.mp hw with rfl | hw
    · simp only [vx_ot, Bool.or_eq_true]; exact Or.inr (List.mem_filter.mp hk9).2
    · rcases List.mem_cons.mp hw with rfl | hw
      · simp only [vx_ot, Bool.or_eq_true]; exact Or.inr (List.mem_filter.mp hini9).2
      · exact hgood w hw) hL d0 d3 d4 d6 d9 (fun x hx => (ht x hx).elim) hf hst hlo hk hn hp hk hn
theorem ck_zW {cls text : String} {names : List String} {ik is ic n9 : Nat} (hcls : Bundle.fit cls = true) (hnames : ∀ n ∈ names, Bundle.fit n = true)
    (hk9 : Cond.classLink own ik cls ∈ lw_gw) (hini9 : Cond.initialized cls ∈ lw_gw) (hz : (own, is, text, n9) ∈ am_T) (hat9 : ∀ w ∈ vx_atS own ic cls names, w ∈ lw_gw ∨ w ∈ lw_ng) (hgood : ∀ w ∈ vx_atS own ic cls names, vx_ot w = true)
    (d0 : decode cc pc = .ok (.new ik, 3)) (d3 : decode cc (pc + 3) = .ok (.dup, 1)) (d4 : decode cc (pc + 4) = .ok (.ldc_w is, 3)) (d6 : decode cc (pc + 7) = .ok (.invokespecial ic, 3)) (d9 : decode cc (pc + 10) = .ok (.athrow, 1))
    (hf : names.length + 3 < fr) (hlo : 8 + (13 * (names.length + 1) + 43) ≤ lo) : ck_anyZ l G own cc nL fr lo pc cls := by
  intro p e s m args below meth c mc ms Post ret X ht L st h k n hL hst hk hn hp
  exact am_R.throwW X hcls hnames hk9 hini9 hz hat9 (fun w hw => by
    rcases List.mem_cons.mp hw with rfl | hw
    · simp only [vx_ot, Bool.or_eq_true]; exact Or.inr (List.mem_filter.mp hk9).2
    · rcases List.mem_cons.mp hw with rfl | hw
      · simp only [vx_ot, Bool.or_eq_true]; exact Or.inr (List.mem_filter.mp hini9).2
      · exact hgood w hw) hL d0 d3 d4 d6 d9 (fun x hx => (ht x hx).elim) hf hst hlo hk hn hp hk hn
end AMZ
def g_sup : List String := ["java/lang/RuntimeException", "java/lang/Exception"]
theorem g_sup_fit : ∀ n ∈ g_sup, Bundle.fit n = true := by decide +kernel
theorem g_at1 : ∀ w ∈ vx_atS RX10 79 "java/lang/IllegalArgumentException" g_sup, w ∈ lw_gw ∨ w ∈ lw_ng := ck_inT_ok (by decide +kernel)
theorem g_ot1 : ∀ w ∈ vx_atS RX10 79 "java/lang/IllegalArgumentException" g_sup, vx_ot w = true := by decide +kernel
