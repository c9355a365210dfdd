/-! LISTS: LEMMAS THAT ARE CALLED LIKE METHODS -/
/-- a raw list is kept from now on -/
theorem li_rl {F : li_F} (hF : F ∈ li_Fs) {rl : Nat} (h : rl = 506 ∨ rl = 606) : ck_lk gT rl = none ∧ rl % 100 = 6 ∧ rl < 1000 ∧ F.2.2.1 ≠ rl := by
  have h1 : ∀ F ∈ li_Fs, F.2.2.1 ≠ 506 ∧ F.2.2.1 ≠ 606 := by decide
  rcases h with rfl | rfl
  · exact ⟨rfl, rfl, by decide, (h1 F hF).1⟩
  · exact ⟨rfl, rfl, by decide, (h1 F hF).2⟩
theorem li_new {K : Int32} {g g2 : ck_g} {F : li_F} (hF : F ∈ li_Fs) {rl : Nat} (hrl : rl = 506 ∨ rl = 606) (hH : ck_HT li_X gT K g) {q p : Nat} {mc n : Int32} (hq : g q = some (rl, [.int mc, .ref p, .int n])) (hn : 0 ≤ n.toInt ∧ n.toInt ≤ F.2.2.2.2.2)
    (hrow : (g p = some (43056, []) ∧ n.toInt = 0) ∨ ∃ ws : List Value, g p = some (F.2.2.1, ws) ∧ 10 ≤ ws.length ∧ ws.length ≤ 24 ∧ n.toInt ≤ (ws.length : Int) ∧ (∀ k : Nat, (k : Int) < n.toInt → ∃ q : Nat, ws[k]? = some (.ref q)) ∧ (F.1 = 41106 → li_cp g n.toInt ws))
    (h2q : g2 q = some (F.1, [.int mc, .ref p, .int n])) (h2p : ∀ ws : List Value, g p = some (F.2.2.1, ws) → g2 p = some (F.2.1, ws)) (h2 : ∀ m : Nat, m ≠ q → (∀ ws : List Value, ¬ (m = p ∧ g m = some (F.2.2.1, ws))) → g2 m = g m) :
    ck_HT li_X gT K g2 ∧ ck_Kp [] [(q, rl), (p, F.2.2.1)] g g2 := by
  obtain ⟨⟨h0, hX1, hX2, hX3, hX4, hX5⟩, hT⟩ := id hH
  obtain ⟨r1, r2, r3, r4⟩ := li_row hF
  obtain ⟨u1, u2, u3, u4, u5, u6, u7, u8, u9, u10, u11, u12, u13, u14, u15, u16⟩ := li_nums hF
  obtain ⟨k1, k2, k3⟩ := li_Fs_ge hF
  obtain ⟨v1, v2, v3, v4⟩ := li_rl hF hrl
  have hpq : p ≠ q := by
    rintro rfl
    rcases hrow with ⟨z, -⟩ | ⟨ws, z, -⟩
    · rw [hq] at z; cases z
    · rw [hq] at z; exact v4 (Prod.mk.inj (Option.some.inj z)).1.symm
  -- cells of kinds that are kept are the same, but the list and its row
  have hfwd : ∀ (m t : Nat) (vs : List Value), t ≠ rl → t ≠ F.2.2.1 → g m = some (t, vs) → g2 m = some (t, vs) := by
    intro m t vs t1 t2 e
    rw [h2 m (fun z => by subst z; rw [hq] at e; exact t1 (Prod.mk.inj (Option.some.inj e)).1.symm) (fun ws z => by rw [z.2] at e; exact t2 (Prod.mk.inj (Option.some.inj e)).1.symm)]
    exact e
  have hbwd : ∀ (m t : Nat) (vs : List Value), g2 m = some (t, vs) → (m = q ∧ t = F.1) ∨ (m = p ∧ t = F.2.1 ∧ g p = some (F.2.2.1, vs)) ∨ (m ≠ q ∧ g m = some (t, vs)) := by
    intro m t vs e
    by_cases hm : m = q
    · subst hm; rw [h2q] at e; cases e; exact Or.inl ⟨rfl, rfl⟩
    · by_cases hmp : ∃ ws, m = p ∧ g m = some (F.2.2.1, ws)
      · obtain ⟨ws, rfl, e2⟩ := hmp
        rw [h2p ws e2] at e
        cases e
        exact Or.inr (Or.inl ⟨rfl, rfl, e2⟩)
      · rw [h2 m hm (fun ws z => hmp ⟨ws, z⟩)] at e
        exact Or.inr (Or.inr ⟨hm, e⟩)
  have hint : ∀ (a : Nat) (vs : List Value), g a = some (41002, vs) ↔ g2 a = some (41002, vs) := by
    intro a vs
    constructor
    · exact hfwd a 41002 vs (by omega) (by omega)
    · intro e
      rcases hbwd a _ vs e with ⟨-, z⟩ | ⟨-, z, -⟩ | ⟨-, z⟩
      · exact absurd z.symm u12
      · exact absurd z.symm u13
      · exact z
  have hlist : ∀ F' ∈ li_Fs, ∀ (m : Nat) (vs : List Value), m ≠ q → g2 m = some (F'.1, vs) → g m = some (F'.1, vs) := by
    intro F' hF' m vs hm e
    rcases hbwd m _ vs e with ⟨z, -⟩ | ⟨-, z, -⟩ | ⟨-, z⟩
    · exact absurd z hm
    · exact absurd z (u11 F' hF').2
    · exact z
  have hoth : ∀ (r t : Nat) (ws : List Value), 40000 ≤ t → g r = some (t, ws) → g2 r = some (t, ws) := fun r t ws ht e => hfwd r t ws (by omega) (by omega) e
  -- the rows of other lists
  have hnotp : ∀ F' ∈ li_Fs, ∀ (m : Nat) (vs : List Value) (r : Nat), g m = some (F'.1, vs) → vs[1]? = some (.ref r) → ∃ t ws, 40000 ≤ t ∧ g r = some (t, ws) := by
    intro F' hF' m vs r e e'
    obtain ⟨mc9, n9, r9, rfl, -, e2⟩ := hX1 F' hF' m vs e
    have e' : some (Value.ref r9) = some (.ref r) := e'
    cases e'
    rcases e2 with ⟨e3, -⟩ | ⟨ws, e3, -⟩
    · exact ⟨43056, [], by decide, e3⟩
    · exact ⟨_, ws, (li_Fs_ge hF').2.1, e3⟩
  have hq1 : 1000 ≤ q := (hT q _ _ hq).2.2 (by unfold ck_wr; rw [v1])
  refine ⟨⟨⟨?_, ?_, ?_, ?_, ?_, ?_⟩, ?_⟩, ?_⟩
  · rw [h2 999 (by omega) (fun ws z => by rw [h0] at z; cases z.2)]; exact h0
  · intro F' hF' m vs e
    by_cases hm : m = q
    · subst hm
      rw [h2q] at e
      obtain ⟨e1, e2⟩ := Prod.mk.inj (Option.some.inj e)
      subst e2
      have hFF : F'.2.1 = F.2.1 := by
        have : ∀ F ∈ li_Fs, ∀ F' ∈ li_Fs, F.1 = F'.1 → F'.2.1 = F.2.1 := by decide
        exact this F hF F' hF' e1
      rw [hFF]
      refine ⟨mc, n, p, rfl, hn.1, ?_⟩
      rcases hrow with ⟨z1, z2⟩ | ⟨ws, z1, z2, z3, z4, z5, -⟩
      · exact Or.inl ⟨hoth p 43056 [] (by decide) z1, z2⟩
      · exact Or.inr ⟨ws, h2p ws z1, z4, z5⟩
    · obtain ⟨mc9, n9, r9, rfl, f2, f3⟩ := hX1 F' hF' m vs (hlist F' hF' m vs hm e)
      refine ⟨mc9, n9, r9, rfl, f2, f3.imp (fun z => ⟨hoth r9 43056 [] (by decide) z.1, z.2⟩) fun ⟨ws, z1, z2⟩ => ⟨ws, hoth r9 _ ws (li_Fs_ge hF').2.1 z1, z2⟩⟩
  · intro m m' t t' r tr vs vs' ws ht ht' e1 e2 e3 e4 e5 e6 e7
    obtain ⟨F1, hF1, rfl⟩ := ht
    obtain ⟨F2, hF2, rfl⟩ := ht'
    have key : ∀ F' ∈ li_Fs, ∀ (m : Nat) (vs : List Value), m ≠ q → g2 m = some (F'.1, vs) → vs[1]? = some (.ref r) → g m = some (F'.1, vs) ∧ g r = some (tr, ws) := by
      intro F' hF' m vs hm e e'
      have e1 := hlist F' hF' m vs hm e
      obtain ⟨t9, ws9, z1, z2⟩ := hnotp F' hF' m vs r e1 e'
      have := hoth r t9 ws9 z1 z2
      rw [e5] at this
      cases this
      exact ⟨e1, z2⟩
    have kq : ∀ F' ∈ li_Fs, ∀ (m : Nat) (vs : List Value), m ≠ q → g2 m = some (F'.1, vs) → vs[1]? = some (.ref p) → r = p → False := by
      intro F' hF' m vs hm e e' hr
      subst hr
      obtain ⟨z1, z2⟩ := key F' hF' m vs hm e e'
      rcases hrow with ⟨z3, -⟩ | ⟨ws', z3, -⟩
      · rw [z3] at z2; cases z2; exact e7 rfl
      · rw [z3] at z2; have := (Prod.mk.inj (Option.some.inj z2)).1; omega
    by_cases hm : m = q <;> by_cases hm' : m' = q
    · rw [hm, hm']
    · subst hm
      rw [h2q] at e1
      obtain ⟨-, e1⟩ := Prod.mk.inj (Option.some.inj e1)
      subst e1
      have e3 : some (Value.ref p) = some (.ref r) := e3
      cases e3
      exact (kq F2 hF2 m' vs' hm' e2 e4 rfl).elim
    · subst hm'
      rw [h2q] at e2
      obtain ⟨-, e2⟩ := Prod.mk.inj (Option.some.inj e2)
      subst e2
      have e4 : some (Value.ref p) = some (.ref r) := e4
      cases e4
      exact (kq F1 hF1 m vs hm e1 e3 rfl).elim
    · obtain ⟨a1, a2⟩ := key F1 hF1 m vs hm e1 e3
      obtain ⟨b1, -⟩ := key F2 hF2 m' vs' hm' e2 e4
      exact hX2 m m' F1.1 F2.1 r tr vs vs' ws ⟨F1, hF1, rfl⟩ ⟨F2, hF2, rfl⟩ a1 b1 e3 e4 a2 e6 e7
  · intro m r mc9 n9 ws e1 e2
    by_cases hm : m = q
    · subst hm
      rw [h2q] at e1
      obtain ⟨e3, e4⟩ := Prod.mk.inj (Option.some.inj e1)
      cases e4
      have hFF : F = li_fb := by
        have : ∀ F ∈ li_Fs, F.1 = 41106 → F = li_fb := by decide
        exact this F hF e3
      rcases hrow with ⟨z1, z2⟩ | ⟨ws', z1, -, -, -, -, z6⟩
      · rw [hoth p 43056 [] (by decide) z1] at e2; cases e2
      · have this := h2p ws' z1
        rw [e2] at this
        have hws : ws = ws' := (Prod.mk.inj (Option.some.inj this)).2
        rw [hws]
        exact (z6 e3).tr hint
    · have e3 := hlist li_fb (by decide) m _ hm e1
      obtain ⟨t9, ws9, z1, z2⟩ := hnotp li_fb (by decide) m _ r e3 rfl
      have := hoth r t9 ws9 z1 z2
      rw [e2] at this
      cases this
      exact (hX3 m r mc9 n9 ws e3 z2).tr hint
  · intro t m m' vs vs' ht e1 e2
    have key : ∀ (m : Nat) (vs : List Value), g2 m = some (t, vs) → g m = some (t, vs) := by
      intro m vs e
      rcases hbwd m t vs e with ⟨-, z⟩ | ⟨-, z, -⟩ | ⟨-, z⟩
      · rcases ht with rfl | rfl
        · exact absurd z.symm u16
        · exact absurd z.symm u14
      · rcases ht with rfl | rfl
        · exact absurd z.symm u15
        · exact absurd z.symm k3
      · exact z
    exact hX4 t m m' vs vs' ht (key m vs e1) (key m' vs' e2)
  · refine hX5.tr fun m t vs ht e => ?_
    have hF9 : F.1 ≠ 42150 ∧ F.1 ≠ 42350 ∧ F.2.1 ≠ 42150 ∧ F.2.1 ≠ 42350 := by
      have : ∀ F ∈ li_Fs, F.1 ≠ 42150 ∧ F.1 ≠ 42350 ∧ F.2.1 ≠ 42150 ∧ F.2.1 ≠ 42350 := by decide
      exact this F hF
    rcases hbwd m t vs e with ⟨-, z⟩ | ⟨-, z, -⟩ | ⟨-, z⟩
    · rcases ht with rfl | rfl
      · exact absurd z.symm hF9.1
      · exact absurd z.symm hF9.2.1
    · rcases ht with rfl | rfl
      · exact absurd z.symm hF9.2.2.1
      · exact absurd z.symm hF9.2.2.2
    · exact z
  · have hex : ∀ (a b : Nat) (c : List Value), g a = some (b, c) → 1000 ≤ b → ∃ vs' : List Value, g2 a = some (b, vs') ∧ vs'.length = c.length := fun a b c e1 e2 => ⟨c, hfwd a b c (by omega) (by omega) e1, rfl⟩
    intro m t vs e
    rcases hbwd m t vs e with ⟨rfl, rfl⟩ | ⟨rfl, rfl, z⟩ | ⟨hm, z⟩
    · rw [h2q] at e
      cases e
      refine ⟨fun d hd => ?_, trivial, fun _ => hq1⟩
      rw [r1] at hd
      cases hd
      refine ⟨⟨(by decide : (3 : Int) ≤ ((3 : Nat) : Int)), (by decide : ((3 : Nat) : Int) ≤ 3)⟩, fun j v hv => ?_⟩
      match j, hv with
      | 0, hv => cases hv; exact ⟨_, rfl, mc, rfl, Int32.le_toInt mc, Int32.toInt_le mc⟩
      | 1, hv => cases hv; exact ⟨_, rfl, trivial⟩
      | 2, hv => cases hv; exact ⟨_, rfl, n, rfl, hn.1, hn.2⟩
      | j + 3, hv => cases hv
    · refine ⟨fun d hd => ?_, trivial, fun _ => (hT m _ _ z).2.2 (by unfold ck_wr; rw [r3]; rfl)⟩
      rw [r2] at hd
      cases hd
      rcases hrow with ⟨z3, -⟩ | ⟨ws', z3, z4, z5, -⟩
      · rw [z3] at z; have := (Prod.mk.inj (Option.some.inj z)).1; omega
      · rw [z3] at z
        cases z
        refine ⟨⟨by show (10 : Int) ≤ _; omega, by show _ ≤ (24 : Int); omega⟩, fun j v hv => ?_⟩
        obtain ⟨y, y1, y2⟩ := ((hT m _ _ z3).1 _ r3).2 j v hv
        have y1 : some ((5, F.2.2.2.1, 0, 0) : ck_Y) = some y := y1
        cases y1
        exact ⟨_, rfl, y2.ex hex⟩
    · obtain ⟨f1, -, f3⟩ := hT m t vs z
      refine ⟨fun d hd => ⟨(f1 d hd).1, fun j v hv => ?_⟩, trivial, f3⟩
      obtain ⟨y, y1, y2⟩ := (f1 d hd).2 j v hv
      exact ⟨y, y1, y2.ex hex⟩
  · intro m t vs e
    by_cases hm : m = q
    · subst hm
      rw [hq] at e
      cases e
      exact Or.inl ⟨List.mem_cons_self, _, _, h2q, rfl⟩
    · by_cases hmp : ∃ ws, m = p ∧ g m = some (F.2.2.1, ws)
      · obtain ⟨ws, rfl, e2⟩ := hmp
        rw [e2] at e
        cases e
        exact Or.inl ⟨List.mem_cons_of_mem _ List.mem_cons_self, _, _, h2p _ e2, rfl⟩
      · exact Or.inr ⟨vs, by rw [h2 m hm (fun ws z => hmp ⟨ws, z⟩)]; exact e, rfl, fun _ _ => rfl⟩
