/-! STEPS OF A WALK BY HAND, over rows of written numbers -/
theorem hd_c1t {c : Nat} {e : Int} (h1 : -2147483648 ≤ e) (h2 : e ≤ 2147483647) (h : ck_cv c e) : ck_cv c (Int32.ofInt e).toInt := by rw [hd_oi h1 h2]; exact h
theorem hd_c1z {c : Nat} {e : Int} (h1 : -2147483648 ≤ e) (h2 : e ≤ 2147483647) (h : ck_cv c (Int32.ofInt e).toInt) : ck_cv c e := by rw [hd_oi h1 h2] at h; exact h
theorem hd_c2t {c : Nat} {a b : Int} (h1 : -2147483648 ≤ a) (h2 : a ≤ 2147483647) (h3 : -2147483648 ≤ b) (h4 : b ≤ 2147483647) (h : ck_cv c (a - b)) : ck_cv c ((Int32.ofInt a).toInt - (Int32.ofInt b).toInt) := by rw [hd_oi h1 h2, hd_oi h3 h4]; exact h
theorem hd_c2z {c : Nat} {a b : Int} (h1 : -2147483648 ≤ a) (h2 : a ≤ 2147483647) (h3 : -2147483648 ≤ b) (h4 : b ≤ 2147483647) (h : ck_cv c ((Int32.ofInt a).toInt - (Int32.ofInt b).toInt)) : ck_cv c (a - b) := by rw [hd_oi h1 h2, hd_oi h3 h4] at h; exact h
section HDA
variable {G : am_G} {S : ck_SS} {pc nx lo hi : Nat} {L : List (Option Value)} {st : List Value} {h : List am_C} {k n q t j : Nat} {e d : Int} {ds : List Int}
theorem hd_A (H : ck_sA G S pc nx lo hi) (h1 : lo ≤ 50) (h2 : 50 ≤ hi) (hg : am_g G h q = some (t, hd_r ds)) (ht : t % 100 = 50) (he : e = (j : Int)) (hj : j ≤ 2147483647) (hd : ds[j]? = some d) (kk : S nx L (.int (Int32.ofInt d) :: st) h k n) : S pc L (.int (Int32.ofInt e) :: .ref q :: st) h k n := by
  have hx : (Int32.ofInt e).toInt = (j : Int) := by rw [hd_oi (by omega) (by omega)]; exact he
  exact H L st h k n q t _ _ _ hg (by unfold ck_al; rw [ht, show Nat.ble lo 50 = true from Nat.ble_eq.mpr h1, show Nat.ble 50 hi = true from Nat.ble_eq.mpr h2]; rfl) (by omega) (by rw [hx]; exact hd_r_get hd) kk
theorem hd_B {pr : List (Nat × Nat)} (H : ck_sB G pr S pc nx lo hi) (h1 : lo ≤ 50) (h2 : 50 ≤ hi) (hq : 1000 ≤ q) (hg : am_g G h q = some (t, hd_r ds)) (ht : t % 100 = 50) (he : e = (j : Int)) (hj : j ≤ 2147483647) (hl : j < ds.length) (kk : S nx L st (am_s h q (t, hd_r (ds.set j d))) k n) : S pc L (.int (Int32.ofInt d) :: .int (Int32.ofInt e) :: .ref q :: st) h k n := by
  have hx : (Int32.ofInt e).toInt = (j : Int) := by rw [hd_oi (by omega) (by omega)]; exact he
  refine H L st h k n q t _ _ _ hq hg (by omega) (by omega) (by omega) (by rw [hx, hd_r_len]; exact hl) (Or.inl ⟨ht, _, rfl⟩) ?_
  rw [hx, Int.toNat_natCast, hd_r_set]
  exact kk
theorem hd_Ln (H : ck_sL G S pc nx) (hg : am_g G h q = some (t, hd_r ds)) (ht : t % 100 = 50) (kk : S nx L (.int (Int32.ofInt (ds.length : Int)) :: st) h k n) : S pc L (.ref q :: st) h k n := by
  refine H L st h k n q t _ hg (by omega) (by omega) ?_
  rw [hd_r_len, ← Int32.ofInt_eq_ofNat]
  exact kk
end HDA
/-- a heap with one cell of it another -/
def hd_w (G : am_G) (h h' : List am_C) (q : Nat) (c : am_C) : Prop := h'.length = h.length ∧ ∀ p, am_g G h' p = if p = q then some c else am_g G h p
theorem hd_w.s {G : am_G} {h : List am_C} {q : Nat} {c c' : am_C} (hq : 1000 ≤ q) (hg : am_g G h q = some c') : hd_w G h (am_s h q c) q c := ⟨am_s_len _ _ _, fun p => am_g_s hq (am_g_lt hq hg)⟩
theorem hd_w.rf {G : am_G} {h : List am_C} {q : Nat} {c : am_C} (hg : am_g G h q = some c) : hd_w G h h q c := by
  refine ⟨rfl, fun p => ?_⟩
  by_cases e : p = q
  · rw [if_pos e, e]; exact hg
  · rw [if_neg e]
theorem hd_w.tr {G : am_G} {h h' h2 : List am_C} {q : Nat} {c c' : am_C} (a : hd_w G h h' q c) (b : hd_w G h' h2 q c') : hd_w G h h2 q c' := ⟨b.1.trans a.1, fun p => by
  rw [b.2 p]
  by_cases e : p = q
  · rw [if_pos e, if_pos e]
  · rw [if_neg e, if_neg e, a.2 p, if_neg e]⟩
theorem hd_w.at {G : am_G} {h h' : List am_C} {q : Nat} {c : am_C} (a : hd_w G h h' q c) : am_g G h' q = some c := by rw [a.2 q, if_pos rfl]
theorem hd_w.ne {G : am_G} {h h' : List am_C} {q p : Nat} {c : am_C} (a : hd_w G h h' q c) (e : p ≠ q) : am_g G h' p = am_g G h p := by rw [a.2 p, if_neg e]
