/-! LISTS: WHAT IS KEPT OF THEM -/
/-- a list: its changes, its row, how many; the row is the empty one, or so many references are ahead in it -/
def li_ok (g : ck_g) (tr : Nat) (vs : List Value) : Prop := ∃ (mc n : Int32) (r : Nat), vs = [.int mc, .ref r, .int n] ∧ 0 ≤ n.toInt ∧ ((g r = some (43056, []) ∧ n.toInt = 0) ∨ ∃ ws : List Value, g r = some (tr, ws) ∧ n.toInt ≤ (ws.length : Int) ∧ ∀ k : Nat, (k : Int) < n.toInt → ∃ q : Nat, ws[k]? = some (.ref q))
/-- the families: the list's kind, its row's, the raw row's, the elements' kind and length, how many at most -/
abbrev li_F : Type := Nat × Nat × Nat × Nat × Nat × Int
def li_fr : li_F := (41006, 40056, 556, 2550, 2, 6)
def li_fb : li_F := (41106, 40156, 656, 41002, 1, 5)
def li_fs : li_F := (41206, 40256, 756, 1018, 4, 13)
def li_Fs : List li_F := [li_fr, li_fb, li_fs]
def li_own (g : ck_g) : Prop := ∀ (q q' t t' r tr : Nat) (vs vs' ws : List Value), (∃ F ∈ li_Fs, F.1 = t) → (∃ F ∈ li_Fs, F.1 = t') → g q = some (t, vs) → g q' = some (t', vs') → vs[1]? = some (.ref r) → vs'[1]? = some (.ref r) → g r = some (tr, ws) → 40000 ≤ tr → tr ≠ 43056 → q = q'
def li_val (g : ck_g) (ws : List Value) (i : Nat) (x : Int) : Prop := ∃ (a : Nat) (u : Int32), ws[i]? = some (.ref a) ∧ g a = some (41002, [.int u]) ∧ u.toInt = x
def li_cp (g : ck_g) (n : Int) (ws : List Value) : Prop := (∀ i : Nat, (i : Int) < n → ∃ x, li_val g ws i x ∧ 2 ≤ x ∧ x ≤ 999) ∧ ∀ (i j : Nat) (x y : Int), i < j → (j : Int) < n → li_val g ws i x → li_val g ws j y → Nat.gcd x.toNat y.toNat = 1
def li_cop (g : ck_g) : Prop := ∀ (q r : Nat) (mc n : Int32) (ws : List Value), g q = some (41106, [.int mc, .ref r, .int n]) → g r = some (40156, ws) → li_cp g n.toInt ws
def li_one (g : ck_g) : Prop := ∀ (t q q' : Nat) (vs vs' : List Value), (t = 43099 ∨ t = 43056) → g q = some (t, vs) → g q' = some (t, vs') → q = q'
/-- rows of digits without needless zeros -/
def li_top (g : ck_g) : Prop := ∀ (q t : Nat) (vs : List Value), (t = 42150 ∨ t = 42350) → g q = some (t, vs) → ∀ v : Value, vs.getLast? = some v → v ≠ .int 0
def li_X : ck_XT := fun g => (∀ F ∈ li_Fs, ∀ (q : Nat) (vs : List Value), g q = some (F.1, vs) → li_ok g F.2.1 vs) ∧ li_own g ∧ li_cop g ∧ li_one g ∧ li_top g
def li_XL : ck_XT := li_one
theorem li_e {g g' : ck_g} (h : ck_Ex2 g g') : ∀ (q t : Nat) (vs : List Value), 40000 ≤ t → (g' q = some (t, vs) ↔ g q = some (t, vs)) :=
  fun q t vs ht => ⟨fun z => h.2 q t vs z ht, fun z => by obtain ⟨vs', a, -, c⟩ := h.1 q t vs z (by omega); rw [c ht] at a; exact a⟩
theorem li_val.tr {g g' : ck_g} (e : ∀ (q : Nat) (vs : List Value), g q = some (41002, vs) → g' q = some (41002, vs)) {ws : List Value} {i : Nat} {x : Int} (h : li_val g ws i x) : li_val g' ws i x := by
  obtain ⟨a, u, h1, h2, h3⟩ := h
  exact ⟨a, u, h1, e _ _ h2, h3⟩
theorem li_cp.tr {g g' : ck_g} (e : ∀ (q : Nat) (vs : List Value), g q = some (41002, vs) ↔ g' q = some (41002, vs)) {n : Int} {ws : List Value} (h : li_cp g n ws) : li_cp g' n ws := by
  refine ⟨fun i hi => ?_, fun i j x y h1 h2 h3 h4 => h.2 i j x y h1 h2 (h3.tr fun q vs => (e q vs).mpr) (h4.tr fun q vs => (e q vs).mpr)⟩
  obtain ⟨x, x1, x2⟩ := h.1 i hi
  exact ⟨x, x1.tr fun q vs => (e q vs).mp, x2⟩
theorem li_one.tr {g g' : ck_g} (e : ∀ (q t : Nat) (vs : List Value), 40000 ≤ t → (g' q = some (t, vs) ↔ g q = some (t, vs))) (h : li_one g) : li_one g' := by
  intro t q q' vs vs' ht h1 h2
  have h40 : 40000 ≤ t := by rcases ht with rfl | rfl <;> decide
  exact h t q q' vs vs' ht ((e _ _ _ h40).mp h1) ((e _ _ _ h40).mp h2)
theorem li_top.tr {g g' : ck_g} (e : ∀ (q t : Nat) (vs : List Value), (t = 42150 ∨ t = 42350) → g' q = some (t, vs) → g q = some (t, vs)) (h : li_top g) : li_top g' := fun q t vs ht h1 => h q t vs ht (e q t vs ht h1)
theorem li_Fs_ge {F : li_F} (h : F ∈ li_Fs) : 40000 ≤ F.1 ∧ 40000 ≤ F.2.1 ∧ F.2.1 ≠ 43056 := by
  have : ∀ F ∈ li_Fs, 40000 ≤ F.1 ∧ 40000 ≤ F.2.1 ∧ F.2.1 ≠ 43056 := by decide
  exact this F h
theorem li_ok.tr {g g' : ck_g} (e : ∀ (q t : Nat) (vs : List Value), 40000 ≤ t → (g' q = some (t, vs) ↔ g q = some (t, vs))) {tr : Nat} (ht : 40000 ≤ tr) {vs : List Value} (h : li_ok g tr vs) : li_ok g' tr vs := by
  obtain ⟨mc, n, r, h1, h2, h3⟩ := h
  refine ⟨mc, n, r, h1, h2, h3.imp (fun z => ⟨(e _ _ _ (by decide)).mpr z.1, z.2⟩) fun ⟨ws, z1, z2⟩ => ⟨ws, (e _ _ _ ht).mpr z1, z2⟩⟩
theorem li_X.tr {g g' : ck_g} (e : ∀ (q t : Nat) (vs : List Value), 40000 ≤ t → (g' q = some (t, vs) ↔ g q = some (t, vs))) (h : li_X g) : li_X g' := by
  obtain ⟨h1, h2, h3, h4, h5⟩ := h
  refine ⟨fun F hF q vs hq => (h1 F hF q vs ((e _ _ _ (li_Fs_ge hF).1).mp hq)).tr e (li_Fs_ge hF).2.1, ?_, ?_, h4.tr e, h5.tr fun q t vs ht z => (e _ _ _ (by rcases ht with rfl | rfl <;> decide)).mp z⟩
  · intro q q' t t' r tr vs vs' ws ht ht' g1 g2 g3 g4 g5 g6 g7
    have k1 : 40000 ≤ t := by obtain ⟨F, f1, rfl⟩ := ht; exact (li_Fs_ge f1).1
    have k2 : 40000 ≤ t' := by obtain ⟨F, f1, rfl⟩ := ht'; exact (li_Fs_ge f1).1
    exact h2 q q' t t' r tr vs vs' ws ht ht' ((e _ _ _ k1).mp g1) ((e _ _ _ k2).mp g2) g3 g4 ((e _ _ _ g6).mp g5) g6 g7
  · intro q r mc n ws g1 g2
    exact (h3 q r mc n ws ((e _ _ _ (by decide)).mp g1) ((e _ _ _ (by decide)).mp g2)).tr fun q vs => (e q _ vs (by decide)).symm
theorem li_XO : ck_XO li_X := fun _ _ h => li_X.tr (li_e h)
theorem li_X0 : ck_X0 li_X := fun _ h t q q' vs vs' ht => h.2.2.2.1 t q q' vs vs' ht
theorem li_XLO : ck_XO li_XL := fun _ _ h => li_one.tr (li_e h)
theorem li_XL0 : ck_X0 li_XL := fun _ h t q q' vs vs' ht => h t q q' vs vs' ht
theorem ck_lk_mem {T : ck_TT} {t : Nat} {d : ck_D} (h : ck_lk T t = some d) : (t, d) ∈ T := by
  induction T with
  | nil => cases h
  | cons x u ih =>
    unfold ck_lk at h
    cases hc : Nat.beq x.1 t
    · rw [hc, cond_false] at h
      exact List.mem_cons_of_mem _ (ih h)
    · rw [hc, cond_true] at h
      have e1 := ck_beq hc
      have e2 : x.2 = d := Option.some.inj h
      rw [← e1, ← e2]
      exact List.mem_cons_self
/-- what the table says of a family -/
theorem li_row {F : li_F} (h : F ∈ li_Fs) : ck_lk gT F.1 = some (0, 3, 3, [(1, 0, -2147483648, 2147483647), (8, 0, 0, 0), (1, 0, 0, F.2.2.2.2.2)]) ∧ ck_lk gT F.2.1 = some (1, 10, 24, [(5, F.2.2.2.1, 0, 0)]) ∧ ck_lk gT F.2.2.1 = some (1, 0, 80, [(5, F.2.2.2.1, 0, 0)]) ∧ ck_lk gT 506 = none := by
  unfold li_Fs at h
  rcases List.mem_cons.mp h with rfl | h
  · exact ⟨rfl, rfl, rfl, rfl⟩
  rcases List.mem_cons.mp h with rfl | h
  · exact ⟨rfl, rfl, rfl, rfl⟩
  rcases List.mem_cons.mp h with rfl | h
  · exact ⟨rfl, rfl, rfl, rfl⟩
  cases h
theorem li_nums {F : li_F} (h : F ∈ li_Fs) : F.1 % 100 = 6 ∧ F.2.1 % 100 = 56 ∧ F.2.2.1 % 100 = 56 ∧ F.2.2.1 < 1000 ∧ 500 ≤ F.2.2.1 ∧ F.2.2.1 ≠ 506 ∧ 1000 ≤ F.2.2.2.1 ∧ F.2.2.2.1 ≠ F.1 ∧ F.2.2.2.1 ≠ F.2.1 ∧ F.1 ≠ F.2.1 ∧ (∀ F' ∈ li_Fs, F.1 ≠ F'.2.1 ∧ F'.1 ≠ F.2.1) ∧ F.1 ≠ 41002 ∧ F.2.1 ≠ 41002 ∧ F.1 ≠ 43056 ∧ F.2.1 ≠ 43099 ∧ F.1 ≠ 43099 := by
  have : ∀ F ∈ li_Fs, F.1 % 100 = 6 ∧ F.2.1 % 100 = 56 ∧ F.2.2.1 % 100 = 56 ∧ F.2.2.1 < 1000 ∧ 500 ≤ F.2.2.1 ∧ F.2.2.1 ≠ 506 ∧ 1000 ≤ F.2.2.2.1 ∧ F.2.2.2.1 ≠ F.1 ∧ F.2.2.2.1 ≠ F.2.1 ∧ F.1 ≠ F.2.1 ∧ (∀ F' ∈ li_Fs, F.1 ≠ F'.2.1 ∧ F'.1 ≠ F.2.1) ∧ F.1 ≠ 41002 ∧ F.2.1 ≠ 41002 ∧ F.1 ≠ 43056 ∧ F.2.1 ≠ 43099 ∧ F.1 ≠ 43099 := by decide
  exact this F h
/-- the heap with one list written anew is as it should be -/
theorem li_up {K : Int32} {g g2 : ck_g} {F : li_F} (hF : F ∈ li_Fs) (hH : ck_HT li_X gT K g)
    {q : Nat} {mc n : Int32} {p : Nat} (hq : g q = some (F.1, [.int mc, .ref p, .int n]))
    {mc2 n2 : Int32} {p2 : Nat} {w2 : List Value} (hq2 : g2 q = some (F.1, [.int mc2, .ref p2, .int n2])) (hn2 : 0 ≤ n2.toInt) (hm2 : n2.toInt ≤ F.2.2.2.2.2)
    (hp2 : g2 p2 = some (F.2.1, w2)) (hl2 : 10 ≤ w2.length ∧ w2.length ≤ 24) (hk2 : n2.toInt ≤ (w2.length : Int) ∧ ∀ k : Nat, (k : Int) < n2.toInt → ∃ q : Nat, w2[k]? = some (.ref q)) (hnew : p2 = p ∨ g p2 = none)
    (ho : ∀ (m t : Nat) (vs : List Value), g m = some (t, vs) → m ≠ q → ¬ (m = p ∧ t = F.2.1) → ∃ vs' : List Value, g2 m = some (t, vs') ∧ vs'.length = vs.length ∧ (t ≠ 506 → t ≠ F.2.2.1 → vs' = vs))
    (hp : ∀ vs : List Value, g p = some (F.2.1, vs) → ∃ vs' : List Value, g2 p = some (F.2.1, vs') ∧ vs'.length = vs.length)
    (hb : ∀ (m t : Nat) (vs : List Value), g2 m = some (t, vs) → (∃ vs' : List Value, g m = some (t, vs')) ∨ m = p2)
    (hty : ∀ (m t : Nat) (vs : List Value), g2 m = some (t, vs) → (t = F.2.1 ∧ (m = p ∨ m = p2)) ∨ t = F.2.2.1 → ∀ (j : Nat) (v : Value), vs[j]? = some v → ck_ty K g2 (5, F.2.2.2.1, 0, 0) v)
    (h999 : g2 999 = none) (hge : 1000 ≤ p2) (hcop : F.1 = 41106 → li_cp g2 n2.toInt w2) : ck_HT li_X gT K g2 := by
  obtain ⟨⟨h0, hX1, hX2, hX3, hX4, hX5⟩, hT⟩ := hH
  obtain ⟨r1, r2, r3, r4⟩ := li_row hF
  obtain ⟨u1, u2, u3, u4, u5, u6, u7, u8, u9, u10, u11, u12, u13, u14, u15, u16⟩ := li_nums hF
  obtain ⟨k1, k2, k3⟩ := li_Fs_ge hF
  have hex : ∀ (a b : Nat) (c : List Value), g a = some (b, c) → 1000 ≤ b → ∃ vs' : List Value, g2 a = some (b, vs') ∧ vs'.length = c.length := by
    intro a b c e1 e2
    by_cases hqa : a = q
    · subst hqa
      rw [hq] at e1
      cases e1
      exact ⟨_, hq2, rfl⟩
    · by_cases hpa : a = p ∧ b = F.2.1
      · obtain ⟨rfl, rfl⟩ := hpa
        exact hp c e1
      · obtain ⟨vs', z1, z2, -⟩ := ho a b c e1 hqa hpa
        exact ⟨vs', z1, z2⟩
  -- what is the same, both ways
  have hsame : ∀ (m t : Nat) (vs : List Value), t ≠ 506 → t ≠ F.2.2.1 → m ≠ q → ¬ (t = F.2.1 ∧ (m = p ∨ m = p2)) → (g2 m = some (t, vs) ↔ g m = some (t, vs)) := by
    intro m t vs t1 t2 m1 m2
    constructor
    · intro e
      rcases hb m t vs e with ⟨vs', e2⟩ | e2
      · obtain ⟨vs9, z1, z2, z3⟩ := ho m t vs' e2 m1 (fun z => m2 ⟨z.2, Or.inl z.1⟩)
        rw [z3 t1 t2] at z1
        rw [z1] at e
        cases e
        exact e2
      · exfalso
        subst e2
        rw [hp2] at e
        cases e
        exact m2 ⟨rfl, Or.inr rfl⟩
    · intro e
      obtain ⟨vs9, z1, z2, z3⟩ := ho m t vs e m1 (fun z => m2 ⟨z.2, Or.inl z.1⟩)
      rw [z3 t1 t2] at z1
      exact z1
  have hlist : ∀ F' ∈ li_Fs, ∀ (m : Nat) (vs : List Value), m ≠ q → (g2 m = some (F'.1, vs) ↔ g m = some (F'.1, vs)) := fun F' hF' m vs hm =>
    hsame m F'.1 vs (by have := (li_Fs_ge hF').1; omega) (by have := (li_Fs_ge hF').1; omega) hm (fun z => (u11 F' hF').2 z.1)
  -- the row of another list
  have hrow : ∀ (F' : li_F), F' ∈ li_Fs → ∀ (m : Nat) (mc' n' : Int32) (r : Nat), m ≠ q → g m = some (F'.1, [.int mc', .ref r, .int n']) → (∃ tr ws, 40000 ≤ tr ∧ g r = some (tr, ws) ∧ g2 r = some (tr, ws)) ∧ r ≠ p2 ∨ g r = some (43056, []) ∧ g2 r = some (43056, []) := by
    intro F' hF' m mc' n' r hm e
    obtain ⟨mc9, n9, r9, e1, -, e2⟩ := hX1 F' hF' m _ e
    cases e1
    obtain ⟨f1, f2, f3⟩ := li_Fs_ge hF'
    rcases e2 with ⟨e3, -⟩ | ⟨ws, e3, -⟩
    · right
      refine ⟨e3, (hsame r 43056 [] (by decide) (by omega) (fun z => ?_) (fun z => absurd z.1 (Ne.symm k3))).mpr e3⟩
      subst z
      rw [hq] at e3
      exact u14 (Prod.mk.inj (Option.some.inj e3)).1
    · left
      have hnp : ¬ (F'.2.1 = F.2.1 ∧ r = p) := by
        rintro ⟨z1, rfl⟩
        exact hm (hX2 m q F'.1 F.1 r F'.2.1 _ _ _ ⟨F', hF', rfl⟩ ⟨F, hF, rfl⟩ e hq rfl rfl e3 f2 f3)
      have hnp' : r ≠ p := by
        rintro rfl
        exact hm (hX2 m q F'.1 F.1 r F'.2.1 _ _ _ ⟨F', hF', rfl⟩ ⟨F, hF, rfl⟩ e hq rfl rfl e3 f2 f3)
      have hnp2 : r ≠ p2 := by
        rintro rfl
        rcases hnew with z | z
        · exact hnp' z
        · rw [z] at e3; cases e3
      refine ⟨⟨F'.2.1, ws, f2, e3, (hsame r F'.2.1 ws (by omega) (by omega) (fun z => ?_) (fun z => ?_)).mpr e3⟩, hnp2⟩
      · subst z
        rw [hq] at e3
        exact (u11 F' hF').1 (Prod.mk.inj (Option.some.inj e3)).1
      · rcases z.2 with z | z
        · exact hnp' z
        · exact hnp2 z
  have hint : ∀ (a : Nat) (vs : List Value), g a = some (41002, vs) ↔ g2 a = some (41002, vs) := fun a vs => by
    by_cases ha : a = q
    · subst ha
      rw [hq, hq2]
      constructor <;> intro z <;> exact absurd (Prod.mk.inj (Option.some.inj z)).1 u12
    · exact (hsame a 41002 vs (by decide) (by omega) ha (fun z => u13 z.1.symm)).symm
  refine ⟨⟨h999, ?_, ?_, ?_, ?_, ?_⟩, ?_⟩
  · -- each list
    intro F' hF' m vs e
    by_cases hm : m = q
    · subst hm
      rw [hq2] at e
      obtain ⟨e1, e2⟩ := Prod.mk.inj (Option.some.inj e)
      subst e2
      have hFF : F'.2.1 = F.2.1 := by
        have : ∀ F ∈ li_Fs, ∀ F' ∈ li_Fs, F.1 = F'.1 → F'.2.1 = F.2.1 := by decide
        exact this F hF F' hF' e1
      rw [hFF]
      exact ⟨mc2, n2, p2, rfl, hn2, Or.inr ⟨w2, hp2, hk2⟩⟩
    · have e1 := (hlist F' hF' m vs hm).mp e
      obtain ⟨mc9, n9, r9, rfl, f2, f3⟩ := hX1 F' hF' m vs e1
      refine ⟨mc9, n9, r9, rfl, f2, ?_⟩
      rcases hrow F' hF' m mc9 n9 r9 hm e1 with ⟨⟨tr, ws, z1, z2, z3⟩, -⟩ | ⟨z2, z3⟩
      · rcases f3 with ⟨f4, f5⟩ | ⟨ws', f4, f5⟩
        · rw [z2] at f4
          cases f4
          exact Or.inl ⟨z3, f5⟩
        · rw [z2] at f4
          cases f4
          exact Or.inr ⟨ws, z3, f5⟩
      · rcases f3 with ⟨f4, f5⟩ | ⟨ws', f4, f5⟩
        · exact Or.inl ⟨z3, f5⟩
        · rw [z2] at f4
          exact absurd (Prod.mk.inj (Option.some.inj f4)).1.symm (li_Fs_ge hF').2.2
  · -- no row of two lists
    intro m m' t t' r tr vs vs' ws ht ht' e1 e2 e3 e4 e5 e6 e7
    obtain ⟨F1, hF1, rfl⟩ := ht
    obtain ⟨F2, hF2, rfl⟩ := ht'
    have key : ∀ (F' : li_F), F' ∈ li_Fs → ∀ (m : Nat) (vs : List Value), m ≠ q → g2 m = some (F'.1, vs) → vs[1]? = some (.ref r) → g m = some (F'.1, vs) ∧ (∃ tr ws, 40000 ≤ tr ∧ tr ≠ 43056 ∧ g r = some (tr, ws)) ∧ r ≠ p2 := by
      intro F' hF' m vs hm e e'
      have e1 := (hlist F' hF' m vs hm).mp e
      obtain ⟨mc9, n9, r9, rfl, f2, f3⟩ := hX1 F' hF' m vs e1
      have e' : some (Value.ref r9) = some (.ref r) := e'
      cases e'
      rcases hrow F' hF' m mc9 n9 r hm e1 with ⟨⟨tr9, ws9, z1, z2, z3⟩, z4⟩ | ⟨z2, z3⟩
      · refine ⟨e1, ⟨tr9, ws9, z1, ?_, z2⟩, z4⟩
        rw [e5] at z3
        cases z3
        exact e7
      · rw [e5] at z3
        cases z3
        exact absurd rfl e7
    by_cases hm : m = q <;> by_cases hm' : m' = q
    · rw [hm, hm']
    · subst hm
      rw [hq2] at e1
      obtain ⟨-, e1⟩ := Prod.mk.inj (Option.some.inj e1)
      subst e1
      have e3 : some (Value.ref p2) = some (.ref r) := e3
      cases e3
      exact absurd rfl (key F2 hF2 m' vs' hm' e2 e4).2.2
    · subst hm'
      rw [hq2] at e2
      obtain ⟨-, e2⟩ := Prod.mk.inj (Option.some.inj e2)
      subst e2
      have e4 : some (Value.ref p2) = some (.ref r) := e4
      cases e4
      exact absurd rfl (key F1 hF1 m vs hm e1 e3).2.2
    · obtain ⟨a1, ⟨tr9, ws9, a2, a3, a4⟩, -⟩ := key F1 hF1 m vs hm e1 e3
      obtain ⟨b1, -⟩ := key F2 hF2 m' vs' hm' e2 e4
      exact hX2 m m' F1.1 F2.1 r tr9 vs vs' ws9 ⟨F1, hF1, rfl⟩ ⟨F2, hF2, rfl⟩ a1 b1 e3 e4 a4 a2 a3
  · -- the bases
    intro m r mc9 n9 ws e1 e2
    by_cases hm : m = q
    · subst hm
      rw [hq2] at e1
      obtain ⟨e3, e4⟩ := Prod.mk.inj (Option.some.inj e1)
      cases e4
      have hFF : F = li_fb := by
        have : ∀ F ∈ li_Fs, F.1 = 41106 → F = li_fb := by decide
        exact this F hF e3
      rw [hFF] at hp2
      rw [hp2] at e2
      cases e2
      exact hcop e3
    · have e3 := (hlist li_fb (by decide) m _ hm).mp e1
      rcases hrow li_fb (by decide) m mc9 n9 r hm e3 with ⟨⟨tr, ws', z1, z2, z3⟩, -⟩ | ⟨z2, z3⟩
      · rw [e2] at z3
        cases z3
        exact (hX3 m r mc9 n9 ws e3 z2).tr hint
      · rw [e2] at z3
        cases z3
  · -- cells of which there is one
    intro t m m' vs vs' ht e1 e2
    have key : ∀ (m : Nat) (vs : List Value), g2 m = some (t, vs) → g m = some (t, vs) := by
      intro m vs e
      by_cases hm : m = q
      · subst hm
        rw [hq2] at e
        have := (Prod.mk.inj (Option.some.inj e)).1
        rcases ht with rfl | rfl
        · exact absurd this u16
        · exact absurd this u14
      · refine (hsame m t vs (by rcases ht with rfl | rfl <;> decide) (by rcases ht with rfl | rfl <;> omega) hm (fun z => ?_)).mp e
        rcases ht with rfl | rfl
        · exact u15 z.1.symm
        · exact k3 z.1.symm
    exact hX4 t m m' vs vs' ht (key m vs e1) (key m' vs' e2)
  · -- rows of digits
    refine hX5.tr fun m t vs ht e => ?_
    have hF9 : F.1 ≠ 42150 ∧ F.1 ≠ 42350 ∧ F.2.1 ≠ 42150 ∧ F.2.1 ≠ 42350 := by
      have : ∀ F ∈ li_Fs, F.1 ≠ 42150 ∧ F.1 ≠ 42350 ∧ F.2.1 ≠ 42150 ∧ F.2.1 ≠ 42350 := by decide
      exact this F hF
    by_cases hm : m = q
    · subst hm
      rw [hq2] at e
      have := (Prod.mk.inj (Option.some.inj e)).1
      rcases ht with rfl | rfl
      · exact absurd this hF9.1
      · exact absurd this hF9.2.1
    · refine (hsame m t vs (by rcases ht with rfl | rfl <;> decide) (by rcases ht with rfl | rfl <;> omega) hm (fun z => ?_)).mp e
      rcases ht with rfl | rfl
      · exact hF9.2.2.1 z.1.symm
      · exact hF9.2.2.2 z.1.symm
  · -- every cell is as its kind wants
    intro m t vs e
    have old : ∀ vs0 : List Value, g m = some (t, vs0) → vs = vs0 → ck_ce gT K g2 t vs ∧ True ∧ (ck_wr gT t = true → 1000 ≤ m) := by
      intro vs0 e0 ev
      subst ev
      obtain ⟨f1, -, f3⟩ := hT m t _ e0
      refine ⟨fun d hd => ⟨(f1 d hd).1, fun j v hv => ?_⟩, trivial, f3⟩
      obtain ⟨y, y1, y2⟩ := (f1 d hd).2 j v hv
      exact ⟨y, y1, y2.ex hex⟩
    by_cases hm : m = q
    · subst hm
      rw [hq2] at e
      cases e
      refine ⟨fun d hd => ?_, trivial, fun z => (hT m _ _ hq).2.2 z⟩
      rw [r1] at hd
      cases hd
      refine ⟨⟨(by decide : (3 : Int) ≤ ((3 : Nat) : Int)), (by decide : ((3 : Nat) : Int) ≤ 3)⟩, fun j v hv => ?_⟩
      match j, hv with
      | 0, hv => cases hv; exact ⟨_, rfl, mc2, rfl, Int32.le_toInt mc2, Int32.toInt_le mc2⟩
      | 1, hv => cases hv; exact ⟨_, rfl, trivial⟩
      | 2, hv => cases hv; exact ⟨_, rfl, n2, rfl, hn2, hm2⟩
      | j + 3, hv => cases hv
    · by_cases hr : t = F.2.1 ∧ (m = p ∨ m = p2)
      · obtain ⟨rfl, hr⟩ := hr
        refine ⟨fun d hd => ?_, trivial, fun z => ?_⟩
        · rw [r2] at hd
          cases hd
          refine ⟨?_, fun j v hv => ⟨_, rfl, hty m _ vs e (Or.inl ⟨rfl, hr⟩) j v hv⟩⟩
          by_cases h2 : m = p2
          · subst h2
            rw [hp2] at e
            cases e
            exact ⟨by show (10 : Int) ≤ _; omega, by show _ ≤ (24 : Int); omega⟩
          · rcases hb m _ vs e with ⟨vs', e2⟩ | e2
            · have hmp : m = p := hr.resolve_right h2
              subst hmp
              obtain ⟨vs9, z1, z2⟩ := hp vs' e2
              rw [e] at z1
              cases z1
              have := ((hT m _ _ e2).1 _ r2).1
              rw [z2]
              exact this
            · exact absurd e2 h2
        · by_cases h2 : m = p2
          · rw [h2]; exact hge
          · rcases hb m _ vs e with ⟨vs', e2⟩ | e2
            · exact (hT m _ _ e2).2.2 z
            · exact absurd e2 h2
      · by_cases ht1 : t = 506 ∨ t = F.2.2.1
        · rcases hb m t vs e with ⟨vs', e2⟩ | e2
          · obtain ⟨vs9, z1, z2, -⟩ := ho m t vs' e2 hm (fun z => hr ⟨z.2, Or.inl z.1⟩)
            rw [e] at z1
            cases z1
            refine ⟨fun d hd => ?_, trivial, (hT m t _ e2).2.2⟩
            rcases ht1 with rfl | rfl
            · rw [r4] at hd; cases hd
            · rw [r3] at hd
              cases hd
              refine ⟨?_, fun j v hv => ⟨_, rfl, hty m _ vs e (Or.inr rfl) j v hv⟩⟩
              have := ((hT m _ _ e2).1 _ r3).1
              rw [z2]
              exact this
          · exfalso
            subst e2
            rw [hp2] at e
            cases e
            rcases ht1 with z | z
            · omega
            · omega
        · exact old vs ((hsame m t vs (fun z => ht1 (Or.inl z)) (fun z => ht1 (Or.inr z)) hm hr).mp e) rfl
