/-! WHAT THE LISTS' OWN METHODS DO TO KEPT LISTS -/
/-- the list is made raw -/
theorem li_raw {G : am_G} {K : Int32} {F : li_F} (hF : F ∈ li_Fs) {h : List am_C} (hH : ck_HT li_X gT K (am_g G h)) {q p : Nat} {mc n : Int32} (hq : am_g G h q = some (F.1, [.int mc, .ref p, .int n])) :
    0 ≤ n.toInt ∧ ∃ h1 : List am_C, ck_rh G h h1 ∧ h1.length = h.length ∧ ck_HT li_XL gTl K (am_g G h1) ∧ am_g G h1 q = some (506, [.int mc, .ref p, .int n]) ∧
      (∀ (m t : Nat) (vs : List Value), m ≠ q → ¬ (m = p ∧ t = F.2.1) → am_g G h m = some (t, vs) → am_g G h1 m = some (t, vs)) ∧
      ((am_g G h p = some (43056, []) ∧ am_g G h1 p = some (43056, []) ∧ n.toInt = 0) ∨ ∃ ws, am_g G h p = some (F.2.1, ws) ∧ am_g G h1 p = some (F.2.2.1, ws) ∧ 10 ≤ ws.length ∧ ws.length ≤ 24 ∧ n.toInt ≤ (ws.length : Int) ∧ ∀ k : Nat, (k : Int) < n.toInt → ∃ q : Nat, ws[k]? = some (.ref q)) := by
  obtain ⟨u1, u2, u3, u4, u5, u6, u7, u8, u9, u10, u11, u12, u13, u14, u15, u16⟩ := li_nums hF
  obtain ⟨r1, r2, r3, r4⟩ := li_row hF
  obtain ⟨k1, k2, k3⟩ := li_Fs_ge hF
  have hq1 : 1000 ≤ q := (hH.2 q _ _ hq).2.2 (by unfold ck_wr; rw [r1]; rfl)
  have hlq := am_g_lt hq1 hq
  have g1 : ∀ m, am_g G (am_s h q (506, [.int mc, .ref p, .int n])) m = if m = q then some (506, [.int mc, .ref p, .int n]) else am_g G h m := fun m => am_g_s hq1 hlq
  obtain ⟨mc9, n9, p9, e1, e2, e3⟩ := hH.1.2.1 F hF q _ hq
  cases e1
  refine ⟨e2, ?_⟩
  have h999 := hH.1.1
  rcases e3 with ⟨e3, e4⟩ | ⟨ws, e3, e4, e5⟩
  · have hpq : p ≠ q := by rintro rfl; rw [hq] at e3; exact u14 (Prod.mk.inj (Option.some.inj e3)).1
    refine ⟨_, ⟨[(q, 506)], F.1, _, hq, hq1, by show 506 % 100 = _; rw [u1], rfl⟩, am_s_len _ _ _, li_down hF hH (q := q) (p := p) hq (fun m t vs e => ?_) (fun m t vs e t1 t2 => ?_) (by rw [g1, if_neg (by omega)]; exact h999), by rw [g1, if_pos rfl], fun m t vs m1 m2 e => by rw [g1, if_neg m1]; exact e, Or.inl ⟨e3, by rw [g1, if_neg hpq]; exact e3, e4⟩⟩
    · rw [g1] at e
      by_cases hm : m = q
      · rw [if_pos hm] at e; cases e; exact Or.inl ⟨hm, rfl⟩
      · rw [if_neg hm] at e; exact Or.inr (Or.inr e)
    · rw [g1]
      by_cases hm : m = q
      · subst hm; rw [hq] at e; exact absurd (Prod.mk.inj (Option.some.inj e)).1.symm t1
      · rw [if_neg hm]; exact e
  · have hpq : p ≠ q := by rintro rfl; rw [hq] at e3; exact u10 (Prod.mk.inj (Option.some.inj e3)).1
    have hp1 : 1000 ≤ p := (hH.2 p _ _ e3).2.2 (by unfold ck_wr; rw [r2]; rfl)
    have hlp : p - 1000 < (am_s h q (506, [.int mc, .ref p, .int n])).length := by rw [am_s_len]; exact am_g_lt hp1 e3
    have g2 : ∀ m, am_g G (am_s (am_s h q (506, [.int mc, .ref p, .int n])) p (F.2.2.1, ws)) m = if m = p then some (F.2.2.1, ws) else am_g G (am_s h q (506, [.int mc, .ref p, .int n])) m := fun m => am_g_s hp1 hlp
    have hlen := ((hH.2 p _ _ e3).1 _ r2).1
    have hl1 : (10 : Int) ≤ ws.length := hlen.1
    have hl2 : (ws.length : Int) ≤ 24 := hlen.2
    refine ⟨_, ⟨[(q, 506), (p, F.2.2.1)], F.1, _, hq, hq1, by show 506 % 100 = _; rw [u1], F.2.1, ws, by rw [g1, if_neg hpq]; exact e3, hp1, by show F.2.2.1 % 100 = _; rw [u2, u3], rfl⟩, by rw [am_s_len, am_s_len], li_down hF hH (q := q) (p := p) hq (fun m t vs e => ?_) (fun m t vs e t1 t2 => ?_) (by rw [g2, if_neg (by omega), g1, if_neg (by omega)]; exact h999), by rw [g2, if_neg (Ne.symm hpq), g1, if_pos rfl], fun m t vs m1 m2 e => ?_, Or.inr ⟨ws, e3, by rw [g2, if_pos rfl], by omega, by omega, e4, e5⟩⟩
    · rw [g2] at e
      by_cases hp : m = p
      · rw [if_pos hp] at e; cases e; exact Or.inr (Or.inl ⟨hp, rfl, by rw [hp]; exact e3⟩)
      · rw [if_neg hp, g1] at e
        by_cases hm : m = q
        · rw [if_pos hm] at e; cases e; exact Or.inl ⟨hm, rfl⟩
        · rw [if_neg hm] at e; exact Or.inr (Or.inr e)
    · rw [g2]
      by_cases hp : m = p
      · subst hp; rw [e3] at e; exact absurd (Prod.mk.inj (Option.some.inj e)).1.symm t2
      · rw [if_neg hp, g1]
        by_cases hm : m = q
        · subst hm; rw [hq] at e; exact absurd (Prod.mk.inj (Option.some.inj e)).1.symm t1
        · rw [if_neg hm]; exact e
    · rw [g2]
      by_cases hp : m = p
      · subst hp
        rw [e3] at e
        exact absurd ⟨rfl, (Prod.mk.inj (Option.some.inj e)).1.symm⟩ m2
      · rw [if_neg hp, g1, if_neg m1]; exact e
/-- what is left of a list kept, that had n and has n2 -/
def li_end (F : li_F) (G : am_G) (K : Int32) (h h'' : List am_C) (q : Nat) (n2 : Int) : Prop := ck_HT li_X gT K (am_g G h'') ∧ ck_Kp (li_mods F) [] (am_g G h) (am_g G h'') ∧ h.length ≤ h''.length ∧ ∃ (mc2 n9 : Int32) (p2 : Nat), am_g G h'' q = some (F.1, [.int mc2, .ref p2, .int n9]) ∧ n9.toInt = n2
def li_inM (F : li_F) (M : List (Nat × Nat)) : Prop := ∀ (t j : Nat), t ≠ 506 → t ≠ F.2.2.1 → ck_inM M t j = false
theorem li_inM_of {F : li_F} {M : List (Nat × Nat)} (h : ∀ x ∈ M, x.1 = 506 ∨ x.1 = F.2.2.1) : li_inM F M := by
  intro t j t1 t2
  cases hb : ck_inM M t j
  · rfl
  · obtain ⟨x, x1, x2⟩ := List.any_eq_true.mp hb
    obtain ⟨x2, -⟩ := Bool.and_eq_true_iff.mp x2
    have x2 := ck_beq x2
    rcases h x x1 with z | z
    · exact absurd (x2.symm.trans z) t1
    · exact absurd (x2.symm.trans z) t2
set_option maxHeartbeats 2000000 in
theorem li_addc {G : am_G} {CM : ck_CM} {K : Int32} {F : li_F} (hF : F ∈ li_Fs) (hKe : ck_Con (am_grow CM) G li_XL gTl (li_Ke F)) (hKk : ∀ k : Nat, (k : Int) < F.2.2.2.2.2 → ∃ lo : Int, 10 ≤ lo ∧ lo ≤ max 10 ((k : Int) + 1) ∧ ck_Con (am_grow CM) G li_XL gTl (li_Kk F k lo)) (hKg : ∀ k : Nat, 10 ≤ k → (k : Int) < F.2.2.2.2.2 → ck_Con (am_grow CM) G li_XL gTl (li_Kg F k))
    {h : List am_C} (hH : ck_HT li_X gT K (am_g G h)) {q p e : Nat} {mc n : Int32} {ves : List Value} (hq : am_g G h q = some (F.1, [.int mc, .ref p, .int n])) (hn : n.toInt < F.2.2.2.2.2) (he : am_g G h e = some (F.2.2.2.1, ves))
    (hco : F.1 = 41106 → ∃ (x : Int) (u : Int32), am_g G h e = some (41002, [.int u]) ∧ u.toInt = x ∧ 2 ≤ x ∧ x ≤ 999 ∧ ∀ ws, am_g G h p = some (40156, ws) → ∀ (i : Nat) (y : Int), (i : Int) < n.toInt → li_val (am_g G h) ws i y → Nat.gcd y.toNat x.toNat = 1) (hmax : F.2.2.2.2.2 ≤ 13) (hfb : F.1 = 41106 → F.2.2.2.2.2 ≤ 10) :
    ck_lift G CM [.ref q, .ref e] h 1 20 (fun o h'' => o = .inl (some (.int 1)) ∧ li_end F G K h h'' q (n.toInt + 1)) := by
  obtain ⟨u1, u2, u3, u4, u5, u6, u7, u8, u9, u10, u11, u12, u13, u14, u15, u16⟩ := li_nums hF
  obtain ⟨hn0, h1, d1, d2, d3, d4, d5, d6⟩ := li_raw hF hH hq
  obtain ⟨t1, t2, t3, ⟨dd, td1, td2, td3⟩, -⟩ := li_te hF
  have he1 : am_g G h1 e = some (F.2.2.2.1, ves) := by
    refine d5 e _ ves (fun z => ?_) (fun z => u9 z.2) he
    subst z
    rw [hq] at he
    exact u8 (Prod.mk.inj (Option.some.inj he)).1.symm
  have hel : ves.length = F.2.2.2.2.1 := by
    have := ((d3.2 e _ ves he1).1 dd td1).1
    rw [td2, td3] at this
    omega
  -- what holds of the bases
  have hcp : ∀ (ws w2 : List Value), (am_g G h p = some (F.2.1, ws) ∨ n.toInt = 0) → w2[n.toInt.toNat]? = some (.ref e) → (∀ j : Nat, j ≠ n.toInt.toNat → (j : Int) < n.toInt → w2[j]? = ws[j]?) → F.1 = 41106 → ∀ g2 : ck_g, (∀ (a : Nat) (vs : List Value), am_g G h a = some (41002, vs) ↔ g2 a = some (41002, vs)) → li_cp g2 (n.toInt + 1) w2 := by
    intro ws w2 hw hwe hwj h41 g2 hg2
    obtain ⟨x, u, x1, x2, x3, x4, x5⟩ := hco h41
    have hfb : F = li_fb := by
      have : ∀ F ∈ li_Fs, F.1 = 41106 → F = li_fb := by decide
      exact this F hF h41
    have hlast : li_val g2 w2 n.toInt.toNat x := ⟨e, u, hwe, (hg2 _ _).mp x1, x2⟩
    have hval : ∀ (i : Nat) (y : Int), (i : Int) < n.toInt → li_val g2 w2 i y → li_val (am_g G h) ws i y := by
      intro i y hi ⟨a, v, y1, y2, y3⟩
      refine ⟨a, v, ?_, (hg2 _ _).mpr y2, y3⟩
      rw [← hwj i (by omega) hi]; exact y1
    have hlu : ∀ (i : Nat) (y z : Int), li_val g2 w2 i y → li_val g2 w2 i z → y = z := by
      intro i y z ⟨a, v, y1, y2, y3⟩ ⟨a', v', z1, z2, z3⟩
      rw [y1] at z1
      cases z1
      rw [y2] at z2
      cases z2
      rw [← y3, ← z3]
    have hold : ∀ i : Nat, (i : Int) < n.toInt → li_cp (am_g G h) n.toInt ws := by
      intro i hi
      rcases hw with hw | hw
      · rw [hfb] at hq hw
        exact hH.1.2.2.2.1 q p mc n ws hq hw
      · omega
    have hwp : ∀ i : Nat, (i : Int) < n.toInt → am_g G h p = some (40156, ws) := by
      intro i hi
      rcases hw with hw | hw
      · rw [hfb] at hw; exact hw
      · omega
    refine ⟨fun i hi => ?_, fun i j y z hij hj hy hz => ?_⟩
    · by_cases hin : i = n.toInt.toNat
      · subst hin; exact ⟨x, hlast, x3, x4⟩
      · have hi2 : (i : Int) < n.toInt := by omega
        obtain ⟨y, ⟨a, v, y1, y2, y3⟩, y4⟩ := (hold i hi2).1 i hi2
        exact ⟨y, ⟨a, v, by rw [hwj i hin hi2]; exact y1, (hg2 _ _).mp y2, y3⟩, y4⟩
    · have hi2 : (i : Int) < n.toInt := by omega
      by_cases hjn : j = n.toInt.toNat
      · subst hjn
        have := hlu _ _ _ hlast hz
        subst this
        exact x5 ws (hwp i hi2) i y hi2 (hval i y hi2 hy)
      · have hj2 : (j : Int) < n.toInt := by omega
        exact (hold i hi2).2 i j y z hij hj2 (hval i y hi2 hy) (hval j z hj2 hz)
  rcases d6 with ⟨e1, e2, e3⟩ | ⟨ws, e1, e2, e3, e4, e5, e6⟩
  · obtain ⟨P1, f1, f2⟩ := li_she hKe d3 d4 e3 e2 he1 hel
    refine ⟨h1, 1, 11, P1, d1, Nat.le_refl _, by decide, f1, fun o h' hp => ?_⟩
    obtain ⟨y1, y2, mc2, n2, w2, y3, ⟨z1, z2, z3, z4, z5, z6, z7⟩, y5⟩ := f2 o h' hp
    obtain ⟨h'', x1, x2, x3, x4, x5⟩ := li_core hF hH hq (Or.inr ⟨e1, e2⟩) d4 d5 d2 z1 (li_inM_of (by intro x hx; simp at hx; rcases hx with rfl | rfl | rfl <;> exact Or.inl rfl)) z2 z3 z4 (by omega) (by omega) ⟨z5, z6⟩ ⟨by omega, z7⟩ (Or.inr ⟨by rw [d2], by omega⟩) (fun z g2 hg2 => by rw [y3]; exact hcp [] w2 (Or.inr e3) y5 (fun j _ hj => by omega) z g2 hg2)
    exact ⟨h'', x1, y1, x2, x3, x4, mc2, n2, _, x5, y3⟩
  · obtain ⟨k, hk⟩ : ∃ k : Nat, n.toInt = (k : Int) := ⟨n.toInt.toNat, by omega⟩
    by_cases hg : k < ws.length
    · obtain ⟨lo, l1, l2, hKk⟩ := hKk k (by omega)
      obtain ⟨P1, f1, f2⟩ := li_shk u6 hKk d3 d4 hk e2 ⟨by omega, e4⟩ l1 e6 he1 hel
      refine ⟨h1, 0, 0, P1, d1, by decide, by decide, f1, fun o h' hp => ?_⟩
      obtain ⟨y1, y2, mc2, n2, w2, y3, ⟨z1, z2, z3, z4, z5, z6, z7⟩, y5, y6⟩ := f2 o h' hp
      obtain ⟨h'', x1, x2, x3, x4, x5⟩ := li_core hF hH hq (Or.inl ⟨ws, e1, e2⟩) d4 d5 d2 z1 (li_inM_of (by intro x hx; simp at hx; rcases hx with rfl | rfl | rfl <;> simp)) z2 z3 z4 (by omega) (by omega) ⟨z5, z6⟩ ⟨by
        have hlw := li_len (s := []) z2 e2
        obtain ⟨w9, w1, w3⟩ := hlw
        rw [z4] at w1
        cases w1
        omega, z7⟩ (Or.inl ⟨rfl, by omega⟩) (fun z g2 hg2 => by rw [y3]; exact hcp ws w2 (Or.inl e1) y5 (fun j hj _ => y6 j (by omega) (by omega)) z g2 hg2)
      exact ⟨h'', x1, y1, x2, x3, x4, mc2, n2, _, x5, y3⟩
    · obtain ⟨P1, f1, f2⟩ := li_shg (hKg k (by omega) (by omega)) d3 d4 hk e2 (by omega) e6 he1 hel
      refine ⟨h1, 1, 20, P1, d1, Nat.le_refl _, Nat.le_refl _, f1, fun o h' hp => ?_⟩
      obtain ⟨y1, y2, mc2, n2, w2, y3, ⟨z1, z2, z3, z4, z5, z6, z7⟩⟩ := f2 o h' hp
      have hkk : ∀ m : Nat, (m : Int) < n2.toInt → m < w2.length := fun m hm => by
        obtain ⟨x, hx⟩ := z7 m hm
        exact (List.getElem?_eq_some_iff.mp hx).1
      obtain ⟨h'', x1, x2, x3, x4, x5⟩ := li_core hF hH hq (Or.inl ⟨ws, e1, e2⟩) d4 d5 d2 z1 (li_inM_of (by intro x hx; simp at hx; rcases hx with rfl | rfl | rfl | rfl <;> simp)) z2 z3 z4 (by omega) (by omega) ⟨z5, z6⟩ ⟨by have := hkk k (by omega); omega, z7⟩ (Or.inr ⟨by rw [d2], by omega⟩) (fun z g2 hg2 => by have := hfb z; omega)
      exact ⟨h'', x1, y1, x2, x3, x4, mc2, n2, _, x5, y3⟩
