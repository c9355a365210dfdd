/-! NUM: WHAT IS KEPT -/
theorem li_X.tr2 {g g' : ck_g} (e : ∀ (q t : Nat) (vs : List Value), 40000 ≤ t → t ≠ 42150 → t ≠ 42350 → (g' q = some (t, vs) ↔ g q = some (t, vs))) (ht : li_top g') (h : li_X g) : li_X g' := by
  obtain ⟨h1, h2, h3, h4, -⟩ := h
  have hF : ∀ F ∈ li_Fs, F.1 ≠ 42150 ∧ F.1 ≠ 42350 ∧ F.2.1 ≠ 42150 ∧ F.2.1 ≠ 42350 := by decide
  have hok : ∀ F ∈ li_Fs, ∀ vs : List Value, li_ok g F.2.1 vs → li_ok g' F.2.1 vs := by
    intro F hF9 vs h
    obtain ⟨mc, n, r, a1, a2, a3⟩ := h
    exact ⟨mc, n, r, a1, a2, a3.imp (fun z => ⟨(e _ _ _ (by decide) (by decide) (by decide)).mpr z.1, z.2⟩) fun ⟨ws, z1, z2⟩ => ⟨ws, (e _ _ _ (li_Fs_ge hF9).2.1 (hF F hF9).2.2.1 (hF F hF9).2.2.2).mpr z1, z2⟩⟩
  refine ⟨fun F hF9 q vs hq => hok F hF9 vs (h1 F hF9 q vs ((e _ _ _ (li_Fs_ge hF9).1 (hF F hF9).1 (hF F hF9).2.1).mp hq)), ?_, ?_, ?_, ht⟩
  · intro q q' t t' r tr vs vs' ws f1 f2 g1 g2 g3 g4 g5 g6 g7
    obtain ⟨F1, e1, rfl⟩ := f1
    obtain ⟨F2, e2, rfl⟩ := f2
    have a1 := (e _ _ _ (li_Fs_ge e1).1 (hF F1 e1).1 (hF F1 e1).2.1).mp g1
    have a2 := (e _ _ _ (li_Fs_ge e2).1 (hF F2 e2).1 (hF F2 e2).2.1).mp g2
    obtain ⟨mc9, n9, r9, rfl, -, b2⟩ := h1 F1 e1 q vs a1
    have g3 : some (Value.ref r9) = some (.ref r) := g3
    cases g3
    rcases b2 with ⟨b2, -⟩ | ⟨w9, b2, -⟩
    · have := (e _ _ _ (by decide) (by decide) (by decide)).mpr b2
      rw [g5] at this
      exact absurd (Prod.mk.inj (Option.some.inj this)).1 g7
    · have := (e _ _ _ (li_Fs_ge e1).2.1 (hF F1 e1).2.2.1 (hF F1 e1).2.2.2).mpr b2
      rw [g5] at this
      obtain ⟨b3, b4⟩ := Prod.mk.inj (Option.some.inj this)
      subst b4
      exact h2 q q' F1.1 F2.1 _ tr _ vs' _ ⟨F1, e1, rfl⟩ ⟨F2, e2, rfl⟩ a1 a2 rfl g4 (by rw [b2, b3]) g6 g7
  · intro q r mc n ws g1 g2
    exact (h3 q r mc n ws ((e _ _ _ (by decide) (by decide) (by decide)).mp g1) ((e _ _ _ (by decide) (by decide) (by decide)).mp g2)).tr fun q vs => (e q _ vs (by decide) (by decide) (by decide)).symm
  · intro t q q' vs vs' ht g1 g2
    have h40 : 40000 ≤ t ∧ t ≠ 42150 ∧ t ≠ 42350 := by rcases ht with rfl | rfl <;> decide
    exact h4 t q q' vs vs' ht ((e _ _ _ h40.1 h40.2.1 h40.2.2).mp g1) ((e _ _ _ h40.1 h40.2.1 h40.2.2).mp g2)
/-- a row of digits without needless zeros is made -/
theorem hd_pub {w : ck_W} {r : List Int} {s : List Nat} {h : List am_C} (H : ck_Hp w r s h) (hX : w.2.1 = li_X) (hT : w.2.2.1 = gT) {t : Nat} {mx : Int} (ht : (t = 42150 ∧ mx = 36) ∨ (t = 42350 ∧ mx = 80)) {ds : List Int} (hd : hd_d ds) (hl : (ds.length : Int) ≤ mx) (hz : ∀ d : Int, ds.getLast? = some d → d ≠ 0) : ck_Hp w r s (h ++ [(t, hd_r ds)]) := by
  obtain ⟨⟨⟨h0, hXg⟩, h1⟩, h2, h3, h4, h5⟩ := H
  rw [hX] at hXg
  have ht4 : 40000 ≤ t ∧ t ≠ 999 := by rcases ht with ⟨rfl, -⟩ | ⟨rfl, -⟩ <;> decide
  have hlk : ck_lk gT t = some (1, 0, mx, [(1, 0, 0, 9)]) := by rcases ht with ⟨rfl, rfl⟩ | ⟨rfl, rfl⟩ <;> rfl
  have hgs : ∀ m, am_g w.1 (h ++ [(t, hd_r ds)]) m = if m = 1000 + h.length then some (t, hd_r ds) else am_g w.1 h m := fun m => am_g_new
  have hno : am_g w.1 h (1000 + h.length) = none := by unfold am_g; rw [if_neg (by omega), List.getElem?_eq_none (by omega)]
  have hfw : ∀ (q1 t1 : Nat) (vs1 : List Value), am_g w.1 h q1 = some (t1, vs1) → am_g w.1 (h ++ [(t, hd_r ds)]) q1 = some (t1, vs1) := by
    intro q1 t1 vs1 e
    rw [hgs, if_neg (fun z => by rw [z, hno] at e; cases e)]
    exact e
  have htop : li_top (am_g w.1 (h ++ [(t, hd_r ds)])) := by
    intro q1 t1 vs1 ht1 e v hv
    rw [hgs] at e
    by_cases z : q1 = 1000 + h.length
    · rw [if_pos z] at e
      cases e
      unfold hd_r at hv
      rw [List.getLast?_map] at hv
      cases hg : ds.getLast? with
      | none => rw [hg] at hv; cases hv
      | some d =>
        rw [hg] at hv
        cases hv
        intro z9
        have hdd := hd d (List.mem_of_getLast? hg)
        have z9 : Int32.ofInt d = 0 := by injection z9
        have := hd_oi (z := d) (by omega) (by omega)
        rw [z9, Int32.toInt_zero] at this
        exact hz d hg this.symm
    · rw [if_neg z] at e
      exact hXg.2.2.2.2 q1 t1 vs1 ht1 e v hv
  have hnew : li_X (am_g w.1 (h ++ [(t, hd_r ds)])) := by
    refine li_X.tr2 (fun q1 t1 vs1 e1 e2 e3 => ⟨fun z => ?_, hfw q1 t1 vs1⟩) htop hXg
    rw [hgs] at z
    by_cases e : q1 = 1000 + h.length
    · rw [if_pos e] at z
      have : t = t1 := (Prod.mk.inj (Option.some.inj z)).1
      rcases ht with ⟨rfl, -⟩ | ⟨rfl, -⟩
      · exact absurd this.symm e2
      · exact absurd this.symm e3
    · rw [if_neg e] at z
      exact z
  refine ⟨⟨⟨by rw [hgs, if_neg (by omega)]; exact h0, by rw [hX]; exact hnew⟩, fun q1 t1 vs1 e1 => ?_⟩, fun q1 t1 vs1 e1 => ?_, by rw [List.length_append]; omega, h4, h5⟩
  · rw [hgs] at e1
    by_cases e : q1 = 1000 + h.length
    · rw [if_pos e] at e1
      cases e1
      refine ⟨?_, trivial, fun _ => by omega⟩
      rw [hT]
      exact hd_cey hd (by omega) hl hlk
    · rw [if_neg e] at e1
      obtain ⟨f1, f2, f3⟩ := h1 q1 t1 vs1 e1
      refine ⟨fun d hd => ⟨(f1 d hd).1, fun j v hv => ?_⟩, trivial, f3⟩
      obtain ⟨y, y1, y2⟩ := (f1 d hd).2 j v hv
      exact ⟨y, y1, y2.ex fun a b c d1 d2 => ⟨c, hfw a b c d1, rfl⟩⟩
  · have hne : q1 ≠ 1000 + h.length := fun e => by
      have := h2 q1 t1 vs1 e1
      rw [e, hno] at this
      rcases this with ⟨-, _, _, z, -⟩ | ⟨_, z, -⟩ <;> cases z
    rw [hgs, if_neg hne]
    exact h2 q1 t1 vs1 e1
