/-! THE HEAP UNDER WHAT IS KNOWN: a place is written, a cell is made, a cell gets its kind -/
/-- one cell alone is of the kind of a class's object (that of Object[]), one of that of the empty row -/
def ck_X0 (X : ck_XT) : Prop := ∀ (g : ck_g), X g → ∀ (t q q' : Nat) (vs vs' : List Value), (t = 43099 ∨ t = 43056) → g q = some (t, vs) → g q' = some (t, vs') → q = q'
theorem ck_Hp.put {w : ck_W} {r : List Int} {s : List Nat} {h : List am_C} (H : ck_Hp w r s h) (hX : ck_XO w.2.1) (hX0 : ck_X0 w.2.1) {q t t' : Nat} {vs vs' : List Value} (hg : am_g w.1 h q = some (t, vs)) (hq : 1000 ≤ q) (ht : t' < 40000) (ht0 : t < 40000) (hl : vs'.length = vs.length)
    (hsame : t' = t ∨ t < 1000)
    (hT : ∀ g' : ck_g, ck_Ex (am_g w.1 h) g' → ck_ce w.2.2.1 w.2.2.2.1 g' t' vs')
    (hM : (t' = t ∧ ∀ j : Nat, ck_inM w.2.2.2.2.2.2.2.1 t j = false → vs'[j]? = vs[j]?) ∨ ck_z w ≤ q ∨ (q, t) ∈ w.2.2.2.2.2.2.2.2) : ck_Hp w r s (am_s h q (t', vs')) := by
  obtain ⟨⟨⟨h0, hXg⟩, h1⟩, h2, h3, h4, h5⟩ := H
  have hlt := am_g_lt hq hg
  have hgs : ∀ m, am_g w.1 (am_s h q (t', vs')) m = if m = q then some (t', vs') else am_g w.1 h m := fun m => am_g_s hq hlt
  have hEx : ck_Ex (am_g w.1 h) (am_g w.1 (am_s h q (t', vs'))) := by
    intro q1 t1 vs1 e1 e2
    rw [hgs]
    by_cases e : q1 = q
    · subst e
      rw [if_pos rfl]
      rw [hg] at e1
      cases e1
      have : t' = t := by omega
      subst this
      exact ⟨vs', rfl, hl, fun z => by omega⟩
    · rw [if_neg e]
      exact ⟨vs1, e1, rfl, fun _ => rfl⟩
  have hEx2 : ck_Ex2 (am_g w.1 h) (am_g w.1 (am_s h q (t', vs'))) := ⟨hEx, fun q1 t1 vs1 e1 e2 => by
    rw [hgs] at e1
    by_cases e : q1 = q
    · rw [if_pos e] at e1
      have : t' = t1 := (Prod.mk.inj (Option.some.inj e1)).1
      omega
    · rw [if_neg e] at e1
      exact e1⟩
  refine ⟨⟨⟨by rw [hgs, if_neg (by omega)]; exact h0, hX _ _ hEx2 hXg⟩, fun q1 t1 vs1 e1 => ?_⟩, fun q1 t1 vs1 e1 => ?_, by rw [am_s_len]; exact h3, h4, h5⟩
  · rw [hgs] at e1
    by_cases e : q1 = q
    · subst e
      rw [if_pos rfl] at e1
      cases e1
      exact ⟨hT _ hEx, trivial, fun _ => hq⟩
    · rw [if_neg e] at e1
      obtain ⟨f1, f2, f3⟩ := h1 q1 t1 vs1 e1
      refine ⟨fun d hd => ⟨(f1 d hd).1, fun j v hv => ?_⟩, trivial, f3⟩
      obtain ⟨y, y1, y2⟩ := (f1 d hd).2 j v hv
      exact ⟨y, y1, y2.ex fun a b c d1 d2 => by obtain ⟨x1, x2, x3, -⟩ := hEx a b c d1 d2; exact ⟨x1, x2, x3⟩⟩
  · rw [hgs]
    by_cases e : q1 = q
    · subst e
      rw [if_pos rfl]
      rcases h2 q1 t1 vs1 e1 with ⟨f1, t2, vs2, f2, f3⟩ | ⟨vs2, f2, f3, f4⟩
      · rw [hg] at f2
        cases f2
        exact Or.inl ⟨f1, t', vs', rfl, hl.trans f3⟩
      · rw [hg] at f2
        cases f2
        rcases hM with ⟨m0, m1⟩ | m1 | m1
        · subst m0
          exact Or.inr ⟨vs', rfl, hl.trans f3, fun j hj => (m1 j hj).trans (f4 j hj)⟩
        · exfalso
          have := am_g_lt hq e1
          unfold ck_z at m1
          omega
        · exact Or.inl ⟨m1, t', vs', rfl, hl.trans f3⟩
    · rw [if_neg e]
      exact h2 q1 t1 vs1 e1
theorem ck_Hp.makeR {w : ck_W} {r : List Int} {s : List Nat} {h : List am_C} (H : ck_Hp w r s h) (hX : ck_XO w.2.1) (hX0 : ck_X0 w.2.1) {t : Nat} {vs : List Value} (ht : t < 40000) (hT : ∀ g' : ck_g, ck_Ex (am_g w.1 h) g' → ck_ce w.2.2.1 w.2.2.2.1 g' t vs) : ck_Hp w r s (h ++ [(t, vs)]) := by
  obtain ⟨⟨⟨h0, hXg⟩, h1⟩, h2, h3, h4, h5⟩ := H
  have hgs : ∀ m, am_g w.1 (h ++ [(t, vs)]) m = if m = 1000 + h.length then some (t, vs) else am_g w.1 h m := fun m => am_g_new
  have hno : am_g w.1 h (1000 + h.length) = none := by unfold am_g; rw [if_neg (by omega), List.getElem?_eq_none (by omega)]
  have hEx : ck_Ex (am_g w.1 h) (am_g w.1 (h ++ [(t, vs)])) := by
    intro q1 t1 vs1 e1 e2
    rw [hgs]
    by_cases e : q1 = 1000 + h.length
    · rw [e, hno] at e1; cases e1
    · rw [if_neg e]; exact ⟨vs1, e1, rfl, fun _ => rfl⟩
  have hEx2 : ck_Ex2 (am_g w.1 h) (am_g w.1 (h ++ [(t, vs)])) := ⟨hEx, fun q1 t1 vs1 e1 e2 => by
    rw [hgs] at e1
    by_cases e : q1 = 1000 + h.length
    · rw [if_pos e] at e1
      have : t = t1 := (Prod.mk.inj (Option.some.inj e1)).1
      omega
    · rw [if_neg e] at e1
      exact e1⟩
  refine ⟨⟨⟨by rw [hgs, if_neg (by omega)]; exact h0, hX _ _ hEx2 hXg⟩, fun q1 t1 vs1 e1 => ?_⟩, fun q1 t1 vs1 e1 => ?_, by rw [List.length_append]; omega, h4, h5⟩
  · rw [hgs] at e1
    by_cases e : q1 = 1000 + h.length
    · rw [if_pos e] at e1
      cases e1
      exact ⟨hT _ hEx, trivial, fun _ => by omega⟩
    · rw [if_neg e] at e1
      obtain ⟨f1, f2, f3⟩ := h1 q1 t1 vs1 e1
      refine ⟨fun d hd => ⟨(f1 d hd).1, fun j v hv => ?_⟩, trivial, f3⟩
      obtain ⟨y, y1, y2⟩ := (f1 d hd).2 j v hv
      exact ⟨y, y1, y2.ex fun a b c d1 d2 => by obtain ⟨x1, x2, x3, -⟩ := hEx a b c d1 d2; exact ⟨x1, x2, x3⟩⟩
  · rw [hgs]
    have hne : q1 ≠ 1000 + h.length := fun e => by
      have := h2 q1 t1 vs1 e1
      rw [e, hno] at this
      rcases this with ⟨-, _, _, z, -⟩ | ⟨_, z, -⟩ <;> cases z
    rw [if_neg hne]
    exact h2 q1 t1 vs1 e1
theorem ck_Hp.make {w : ck_W} {r : List Int} {s : List Nat} {h : List am_C} (H : ck_Hp w r s h) (hX : ck_XO w.2.1) (hX0 : ck_X0 w.2.1) {t : Nat} {vs : List Value} (ht : t < 40000) (hT : ∀ g' : ck_g, ck_ce w.2.2.1 w.2.2.2.1 g' t vs) : ck_Hp w r s (h ++ [(t, vs)]) := H.makeR hX hX0 ht fun g' _ => hT g'
-- rows under a change of the heap
/-- rows stay, where kinds stay and places that they tell of -/
theorem ck_fa.heap {g g' : ck_g} {z : Nat} {r : List Int} {s : List Nat} {f : ck_F} (h : ck_fa g z r s f) (h2 : ∀ (q t : Nat) (vs : List Value), g q = some (t, vs) → f.2.2.2.1 = t → ∃ vs' : List Value, g' q = some (t, vs') ∧ vs'.length = vs.length ∧ (f.1 = 3 → vs'[f.2.2.1]? = vs[f.2.2.1]?) ∧ (f.1 = 6 → vs' = vs)) : ck_fa g' z r s f := by
  unfold ck_fa at h ⊢
  split at h
  · obtain ⟨q, vs, e1, e2, e3⟩ := h
    obtain ⟨vs', f1, f2, -⟩ := h2 q _ vs e2 rfl
    exact ⟨q, vs', e1, f1, by rw [f2]; exact e3⟩
  · next e0 =>
    obtain ⟨q, vs, v, e1, e2, e3, e4⟩ := h
    obtain ⟨vs', f1, -, f2, -⟩ := h2 q _ vs e2 rfl
    exact ⟨q, vs', v, e1, f1, by rw [f2 e0]; exact e3, e4⟩
  · exact h
  · exact h
  · next e0 =>
    obtain ⟨q, vs, x, e1, e2, e3, e4⟩ := h
    obtain ⟨vs', f1, -, -, f2⟩ := h2 q _ vs e2 rfl
    exact ⟨q, vs', x, e1, f1, e3, by rw [f2 e0]; exact e4⟩
  · obtain ⟨q, e1, e2⟩ := h
    refine ⟨q, e1, e2.imp id fun ⟨vs, e3, e4⟩ => ?_⟩
    obtain ⟨vs', f1, f2, -⟩ := h2 q _ vs e3 rfl
    exact ⟨vs', f1, by rw [f2]; exact e4⟩
  · exact h.elim
def ck_f2 (F : List ck_F) (i : Nat) : Option ck_F := F.find? fun f => Nat.beq f.1 2 && Nat.beq f.2.1 i
def ck_f3 (F : List ck_F) (i j : Nat) : Option ck_F := F.find? fun f => Nat.beq f.1 3 && (Nat.beq f.2.1 i && Nat.beq f.2.2.1 j)
def ck_f8 (F : List ck_F) (i : Nat) : Option ck_F := F.find? fun f => Nat.beq f.1 8 && Nat.beq f.2.1 i
def ck_f5 (F : List ck_F) (i : Nat) : Bool := F.any fun f => Nat.beq f.1 5 && Nat.beq f.2.1 i
theorem ck_f2_ok {g : ck_g} {z : Nat} {r : List Int} {s : List Nat} {F : List ck_F} (hF : ∀ f ∈ F, ck_fa g z r s f) {i : Nat} {f : ck_F} (h : ck_f2 F i = some f) : ∃ (q : Nat) (vs : List Value), s[i]? = some q ∧ g q = some (f.2.2.2.1, vs) ∧ ck_Lv r f.2.2.2.2.2.2 (vs.length : Int) := by
  unfold ck_f2 at h
  have h1 := List.find?_some h
  obtain ⟨h2, h3⟩ := Bool.and_eq_true_iff.mp h1
  have h4 := hF f (List.mem_of_find?_eq_some h)
  unfold ck_fa at h4
  rw [ck_beq h2, ck_beq h3] at h4
  exact h4
theorem ck_f8_ok {g : ck_g} {z : Nat} {r : List Int} {s : List Nat} {F : List ck_F} (hF : ∀ f ∈ F, ck_fa g z r s f) {i : Nat} {f : ck_F} (h : ck_f8 F i = some f) : ∃ q : Nat, s[i]? = some q ∧ (q = 999 ∨ ∃ vs : List Value, g q = some (f.2.2.2.1, vs) ∧ ck_Lv r f.2.2.2.2.2.2 (vs.length : Int)) := by
  unfold ck_f8 at h
  have h1 := List.find?_some h
  obtain ⟨h2, h3⟩ := Bool.and_eq_true_iff.mp h1
  have h4 := hF f (List.mem_of_find?_eq_some h)
  unfold ck_fa at h4
  rw [ck_beq h2, ck_beq h3] at h4
  exact h4
theorem ck_f3_ok {g : ck_g} {z : Nat} {r : List Int} {s : List Nat} {F : List ck_F} (hF : ∀ f ∈ F, ck_fa g z r s f) {i j : Nat} {f : ck_F} (h : ck_f3 F i j = some f) : ∃ (q : Nat) (vs : List Value) (v : Value), s[i]? = some q ∧ g q = some (f.2.2.2.1, vs) ∧ vs[j]? = some v ∧ ck_av r s f.2.2.2.2 v := by
  unfold ck_f3 at h
  have h1 := List.find?_some h
  obtain ⟨h2, h3⟩ := Bool.and_eq_true_iff.mp h1
  obtain ⟨h5, h6⟩ := Bool.and_eq_true_iff.mp h3
  have h4 := hF f (List.mem_of_find?_eq_some h)
  unfold ck_fa at h4
  rw [ck_beq h2, ck_beq h5, ck_beq h6] at h4
  exact h4
theorem ck_f5_ok {g : ck_g} {z : Nat} {r : List Int} {s : List Nat} {F : List ck_F} (hF : ∀ f ∈ F, ck_fa g z r s f) {i q : Nat} (h : ck_f5 F i = true) (hq : s[i]? = some q) : z ≤ q := by
  obtain ⟨f, h1, h2⟩ := List.any_eq_true.mp h
  obtain ⟨h2, h3⟩ := Bool.and_eq_true_iff.mp h2
  have h4 := hF f h1
  unfold ck_fa at h4
  rw [ck_beq h2, ck_beq h3] at h4
  obtain ⟨q', e1, e2⟩ := h4
  rw [hq] at e1
  cases e1
  exact e2
-- a value of a kind is read
def ck_rd (T : ck_TT) (y : ck_Y) (nv nr : Nat) : Option (ck_I × List ck_F × Nat × ck_V) := match y with
  | (1, _, lo, hi) => some ([(lo, hi)], [], 0, (1, 0, ck_x nv))
  | (2, _, lo, hi) => some ([(lo, hi)], [], 0, (2, 0, ck_x nv))
  | (3, t, _) => match ck_lk T t with
    | some d => bif d.2.1 == d.2.2.1 then some ([], [(2, nr, 0, t, (0, 0, ck_k d.2.1))], 1, (3, nr, (0, []))) else some ([(d.2.1, d.2.2.1)], [(2, nr, 0, t, (0, 0, ck_x nv))], 1, (3, nr, (0, [])))
    | none => none
  | (5, t, _) => match ck_lk T t with
    | some d => bif d.2.1 == d.2.2.1 then some ([], [(8, nr, 0, t, (0, 0, ck_k d.2.1))], 1, (7, nr, (0, []))) else bif ck_nn (d.2.2.1 - d.2.1) then some ([(d.2.1, d.2.2.1)], [(8, nr, 0, t, (0, 0, ck_x nv))], 1, (7, nr, (0, []))) else none
    | none => none
  | (6, _) => some ([(-2147483648, 2147483647)], [], 0, (1, 0, ck_x nv))
  | _ => none
theorem ck_rd_ok {X : ck_XT} {T : ck_TT} {K : Int32} {g : ck_g} {y : ck_Y} {nv nr : Nat} {V2 : ck_I} {F2 : List ck_F} {m : Nat} {av : ck_V} (e : ck_rd T y nv nr = some (V2, F2, m, av)) (hH : ck_HT X T K g) {v : Value} (hv : ck_ty K g y v) {r : List Int} {s : List Nat} (h1 : r.length = nv) (h2 : s.length = nr) (z : Nat) :
    ∃ (q : List Int) (p : List Nat), ck_In V2 q ∧ (∀ f ∈ F2, ck_fa g z (r ++ q) (s ++ p) f) ∧ p.length = m ∧ ck_av (r ++ q) (s ++ p) av v := by
  have hlast : ∀ x : Int, (r ++ [x])[nv]? = some x := fun x => by rw [← h1, List.getElem?_append_right (Nat.le_refl _)]; simp
  have slast : ∀ x : Nat, (s ++ [x])[nr]? = some x := fun x => by rw [← h2, List.getElem?_append_right (Nat.le_refl _)]; simp
  unfold ck_rd at e
  split at e
  · cases e
    obtain ⟨x, rfl, a1, a2⟩ := hv
    exact ⟨[x.toInt], [], ck_In.one a1 a2, fun f hf => (nomatch hf), rfl, ⟨x, rfl, ck_Lv.x (hlast _)⟩⟩
  · cases e
    obtain ⟨x, rfl, a1, a2⟩ := hv
    exact ⟨[x.toInt], [], ck_In.one a1 a2, fun f hf => (nomatch hf), rfl, ⟨x, rfl, ck_Lv.x (hlast _)⟩⟩
  · next t u =>
    obtain ⟨-, q, vs, rfl, a1⟩ := hv
    cases hd : ck_lk T t with
    | none => rw [hd] at e; cases e
    | some d =>
      rw [hd] at e
      dsimp only at e
      obtain ⟨b1, b2⟩ := ((hH.2 q t vs a1).1 d hd).1
      cases hc : (d.2.1 == d.2.2.1)
      · rw [hc, cond_false] at e
        cases e
        refine ⟨[(vs.length : Int)], [q], ck_In.one b1 b2, fun f hf => ?_, rfl, ⟨q, slast q, rfl⟩⟩
        rw [List.mem_singleton] at hf
        rw [hf]
        exact ⟨q, vs, slast q, a1, ck_Lv.x (hlast _)⟩
      · rw [hc, cond_true] at e
        cases e
        have hc : d.2.1 = d.2.2.1 := by simpa using hc
        refine ⟨[], [q], ck_In.nil, fun f hf => ?_, rfl, ⟨q, slast q, rfl⟩⟩
        rw [List.mem_singleton] at hf
        rw [hf]
        exact ⟨q, vs, slast q, a1, by rw [show (vs.length : Int) = d.2.1 by omega]; exact ck_Lv.k _ _⟩
  · next t u =>
    obtain ⟨-, hv⟩ := hv
    cases hd : ck_lk T t with
    | none => rw [hd] at e; cases e
    | some d =>
      rw [hd] at e
      dsimp only at e
      have hq : ∃ q : Nat, v = ck_rv q ∧ (q = 999 ∨ ∃ vs : List Value, g q = some (t, vs)) := by
        rcases hv with hv | ⟨q, vs, hv, a1⟩
        · exact ⟨999, by rw [hv]; rfl, Or.inl rfl⟩
        · refine ⟨q, ?_, Or.inr ⟨vs, a1⟩⟩
          rw [hv]
          unfold ck_rv
          rw [if_neg (fun z => by rw [z, hH.1.1] at a1; cases a1)]
      obtain ⟨q, hq1, hq2⟩ := hq
      cases hc : (d.2.1 == d.2.2.1)
      · rw [hc, cond_false] at e
        cases hn : ck_nn (d.2.2.1 - d.2.1)
        · rw [hn] at e; cases e
        · rw [hn, cond_true] at e
          cases e
          have hn := ck_nn_ok hn
          rcases hq2 with hq2 | ⟨vs, hq2⟩
          · refine ⟨[d.2.1], [q], ck_In.one (Int.le_refl _) (by omega), fun f hf => ?_, rfl, ⟨q, slast q, hq1⟩⟩
            rw [List.mem_singleton] at hf
            rw [hf]
            exact ⟨q, slast q, Or.inl hq2⟩
          · obtain ⟨b1, b2⟩ := ((hH.2 q t vs hq2).1 d hd).1
            refine ⟨[(vs.length : Int)], [q], ck_In.one b1 b2, fun f hf => ?_, rfl, ⟨q, slast q, hq1⟩⟩
            rw [List.mem_singleton] at hf
            rw [hf]
            exact ⟨q, slast q, Or.inr ⟨vs, hq2, ck_Lv.x (hlast _)⟩⟩
      · rw [hc, cond_true] at e
        cases e
        have hc : d.2.1 = d.2.2.1 := by simpa using hc
        refine ⟨[], [q], ck_In.nil, fun f hf => ?_, rfl, ⟨q, slast q, hq1⟩⟩
        rw [List.mem_singleton] at hf
        rw [hf]
        refine ⟨q, slast q, hq2.imp id fun ⟨vs, a1⟩ => ⟨vs, a1, ?_⟩⟩
        obtain ⟨b1, b2⟩ := ((hH.2 q t vs a1).1 d hd).1
        rw [show (vs.length : Int) = d.2.1 by omega]
        exact ck_Lv.k _ _
  · cases e
    have hv : v = .int K := hv
    subst hv
    have := ck_i32 K
    unfold ck_M32 at this
    exact ⟨[K.toInt], [], ck_In.one (by omega) (by omega), fun f hf => (nomatch hf), rfl, ⟨K, rfl, ck_Lv.x (hlast _)⟩⟩
  · cases e
-- a known value fits a kind
def ck_ft (Q : ck_Q) (F : List ck_F) (a : ck_V) (y : ck_Y) : Bool := match y with
  | (1, _, lo, hi) => Nat.beq a.1 1 && (ck_le Q.1 Q.2 (ck_k lo) a.2.2 && ck_le Q.1 Q.2 a.2.2 (ck_k hi))
  | (2, _, lo, hi) => Nat.beq a.1 2 && (ck_le Q.1 Q.2 (ck_k lo) a.2.2 && ck_le Q.1 Q.2 a.2.2 (ck_k hi))
  | (3, t, _) => Nat.ble 1000 t && (Nat.beq a.1 3 && (match ck_f2 F a.2.1 with
    | some f => Nat.beq f.2.2.2.1 t
    | none => false))
  | (5, t, _) => Nat.ble 1000 t && (Nat.beq a.1 4 || ((Nat.beq a.1 3 && (match ck_f2 F a.2.1 with
    | some f => Nat.beq f.2.2.2.1 t
    | none => false)) || (Nat.beq a.1 7 && (match ck_f8 F a.2.1 with
    | some f => Nat.beq f.2.2.2.1 t
    | none => false))))
  | _ => false
theorem ck_ft_ok {K : Int32} {g : ck_g} {z : Nat} {r : List Int} {s : List Nat} {Q : ck_Q} {F : List ck_F} (hF : ∀ f ∈ F, ck_fa g z r s f) (hQ : ck_ok Q r) {a : ck_V} {y : ck_Y} {v : Value} (h : ck_ft Q F a y = true) (ha : ck_av r s a v) : ck_ty K g y v := by
  have h3 : ∀ t : Nat, (match ck_f2 F a.2.1 with
    | some f => Nat.beq f.2.2.2.1 t
    | none => false) = true → a.1 = 3 → ∃ (q : Nat) (vs : List Value), v = .ref q ∧ g q = some (t, vs) := by
    intro t e1 e2
    unfold ck_av at ha
    rw [e2] at ha
    obtain ⟨q, a1, a2⟩ := ha
    split at e1
    · next f hf =>
      obtain ⟨q', vs, b1, b2, -⟩ := ck_f2_ok hF hf
      rw [a1] at b1
      cases b1
      exact ⟨q, vs, a2, by rw [← ck_beq e1]; exact b2⟩
    · cases e1
  unfold ck_ft at h
  split at h
  · obtain ⟨c1, c2⟩ := Bool.and_eq_true_iff.mp h
    obtain ⟨c2, c3⟩ := Bool.and_eq_true_iff.mp c2
    obtain ⟨x, e1, e2⟩ := ha.int (ck_beq c1)
    exact ⟨x, e1, ck_le_ok c2 hQ.1 hQ.2 (ck_Lv.k r _) e2, ck_le_ok c3 hQ.1 hQ.2 e2 (ck_Lv.k r _)⟩
  · obtain ⟨c1, c2⟩ := Bool.and_eq_true_iff.mp h
    obtain ⟨c2, c3⟩ := Bool.and_eq_true_iff.mp c2
    obtain ⟨x, e1, e2⟩ := ha.long (ck_beq c1)
    exact ⟨x, e1, ck_le_ok c2 hQ.1 hQ.2 (ck_Lv.k r _) e2, ck_le_ok c3 hQ.1 hQ.2 e2 (ck_Lv.k r _)⟩
  · obtain ⟨c1, c2⟩ := Bool.and_eq_true_iff.mp h
    obtain ⟨c2, c3⟩ := Bool.and_eq_true_iff.mp c2
    exact ⟨Nat.le_of_ble_eq_true c1, h3 _ c3 (ck_beq c2)⟩
  · obtain ⟨c1, c2⟩ := Bool.and_eq_true_iff.mp h
    refine ⟨Nat.le_of_ble_eq_true c1, ?_⟩
    rcases Bool.or_eq_true_iff.mp c2 with c2 | c2
    · unfold ck_av at ha
      rw [ck_beq c2] at ha
      exact Or.inl ha
    · rcases Bool.or_eq_true_iff.mp c2 with c2 | c2
      · obtain ⟨c2, c3⟩ := Bool.and_eq_true_iff.mp c2
        exact Or.inr (h3 _ c3 (ck_beq c2))
      · obtain ⟨c2, c3⟩ := Bool.and_eq_true_iff.mp c2
        unfold ck_av at ha
        rw [ck_beq c2] at ha
        obtain ⟨q, a1, a2⟩ := ha
        split at c3
        · next f hf =>
          obtain ⟨q', b1, b2⟩ := ck_f8_ok hF hf
          rw [a1] at b1
          cases b1
          by_cases e : q = 999
          · left; rw [a2]; unfold ck_rv; rw [if_pos e]
          · right
            obtain ⟨vs, b3, -⟩ := b2.resolve_left e
            exact ⟨q, vs, by rw [a2]; unfold ck_rv; rw [if_neg e], by rw [← ck_beq c3]; exact b3⟩
        · cases c3
  · cases h
