/-! CONTRACTS: what a method wants and gives, in its own numbers and references -/
abbrev ck_H : Type := ck_I × List ck_L × List ck_F × Nat × List ck_V
/-- wants; cells and slots; what it may write; kinds that its first argument may lose; gives; what it may throw -/
abbrev ck_KK : Type := ck_H × (ck_L × ck_L) × List (Nat × Nat) × List Nat × ck_H × List String
abbrev ck_CM : Type := List Value → List am_C → Nat → Nat → (am_O → List am_C → Prop) → Prop
def ck_rq (rt : List Nat) (s : List Nat) : List (Nat × Nat) := match rt, s with
  | t :: u, q :: v => (q, t) :: ck_rq u v
  | _, _ => []
def ck_Po (G : am_G) (X : ck_XT) (T : ck_TT) (K : Int32) (c : ck_KK) (r : List Int) (s : List Nat) (h0 : List am_C) : am_O → List am_C → Prop := fun o h' =>
  ck_HT X T K (am_g G h') ∧ ck_Kp c.2.2.1 (ck_rq c.2.2.2.1 s) (am_g G h0) (am_g G h') ∧ h0.length ≤ h'.length ∧ match o with
  | .inl v => ∃ (q : List Int) (p : List Nat), ck_In c.2.2.2.2.1.1 q ∧ ck_Co c.2.2.2.2.1.2.1 (r ++ q) ∧ (∀ f ∈ c.2.2.2.2.1.2.2.1, ck_fa (am_g G h') (1000 + h0.length) (r ++ q) (s ++ p) f) ∧ p.length = c.2.2.2.2.1.2.2.2.1 ∧ ck_stk (r ++ q) (s ++ p) c.2.2.2.2.1.2.2.2.2 v.toList
  | .inr E => E ∈ c.2.2.2.2.2
def ck_Con (CM : ck_CM) (G : am_G) (X : ck_XT) (T : ck_TT) (c : ck_KK) : Prop := ∀ (K : Int32) (r : List Int) (s : List Nat) (a : List Value) (h : List am_C), ck_HT X T K (am_g G h) → ck_In c.1.1 r → ck_Co c.1.2.1 r → (∀ f ∈ c.1.2.2.1, ck_fa (am_g G h) 0 r s f) → s.length = c.1.2.2.2.1 → ck_stk r s c.1.2.2.2.2 a → ∀ mc ms : Nat, ck_Lv r c.2.1.1 (mc : Int) → ck_Lv r c.2.1.2 (ms : Int) → CM a h mc ms (ck_Po G X T K c r s h)
-- stacks: parts of them, and the other way round
theorem ck_stk.take {r : List Int} {s : List Nat} : ∀ {A : List ck_V} {B : List Value} (n : Nat), ck_stk r s A B → ck_stk r s (A.take n) (B.take n) ∧ ck_stk r s (A.drop n) (B.drop n) := by
  intro A
  induction A with
  | nil =>
    intro B n h
    cases B with
    | nil => cases n <;> exact ⟨trivial, trivial⟩
    | cons b B => exact h.elim
  | cons a A ih =>
    intro B n h
    cases B with
    | nil => exact h.elim
    | cons b B =>
      cases n with
      | zero => exact ⟨trivial, h⟩
      | succ n => exact ⟨⟨h.1, (ih n h.2).1⟩, (ih n h.2).2⟩
theorem ck_stk.app2 {r : List Int} {s : List Nat} : ∀ {A A' : List ck_V} {B B' : List Value}, ck_stk r s A B → ck_stk r s A' B' → ck_stk r s (A ++ A') (B ++ B') := by
  intro A
  induction A with
  | nil =>
    intro A' B B' h h'
    cases B with
    | nil => exact h'
    | cons b B => exact h.elim
  | cons a A ih =>
    intro A' B B' h h'
    cases B with
    | nil => exact h.elim
    | cons b B => exact ⟨h.1, ih h.2 h'⟩
theorem ck_stk.rev {r : List Int} {s : List Nat} : ∀ {A : List ck_V} {B : List Value}, ck_stk r s A B → ck_stk r s A.reverse B.reverse := by
  intro A
  induction A with
  | nil =>
    intro B h
    cases B with
    | nil => trivial
    | cons b B => exact h.elim
  | cons a A ih =>
    intro B h
    cases B with
    | nil => exact h.elim
    | cons b B =>
      rw [List.reverse_cons, List.reverse_cons]
      exact (ih h.2).app2 ⟨h.1, trivial⟩
theorem ck_stk.len {r : List Int} {s : List Nat} : ∀ {A : List ck_V} {B : List Value}, ck_stk r s A B → A.length = B.length := by
  intro A
  induction A with
  | nil =>
    intro B h
    cases B with
    | nil => rfl
    | cons b B => exact h.elim
  | cons a A ih =>
    intro B h
    cases B with
    | nil => exact h.elim
    | cons b B => rw [List.length_cons, List.length_cons, ih h.2]
-- what a contract gives, in the caller's words
def ck_sv (th : List ck_L) (ta : List Nat) (a : ck_V) : ck_V := match a.1 with
  | 1 => (1, 0, ck_sb th a.2.2)
  | 2 => (2, 0, ck_sb th a.2.2)
  | 3 => (3, ta.getD a.2.1 0, (0, []))
  | 7 => bif ck_nc (ta.getD a.2.1 0) then (4, 0, (0, [])) else (7, ta.getD a.2.1 0, (0, []))
  | _ => a
theorem ck_Ta.get {ta s s' : List Nat} (h : ck_Ta ta s s') {i q : Nat} (e : s'[i]? = some q) : (ta.getD i 0 = 999999 ∧ q = 999) ∨ (ta.getD i 0 ≠ 999999 ∧ s[ta.getD i 0]? = some q) := by
  have hl : i < ta.length := by rw [h.1]; exact (List.getElem?_eq_some_iff.mp e).1
  have h3 : ta[i]? = some (ta[i]'hl) := List.getElem?_eq_getElem hl
  have h4 := h.2 i _ q h3 e
  rw [List.getD_eq_getElem?_getD, h3]
  exact h4
theorem ck_sv_ok {th : List ck_L} {ta : List Nat} {r r' : List Int} {s s' : List Nat} (hT : ck_Th th r r') (hS : ck_Ta ta s s') {a : ck_V} {v : Value} (h : ck_av r' s' a v) (hn : a.1 = 3 → v ≠ .ref 999) : ck_av r s (ck_sv th ta a) v := by
  unfold ck_av at h
  unfold ck_sv
  split at h
  · next e => rw [e]; obtain ⟨x, h1, h2⟩ := h; exact ⟨x, h1, ck_sb_ok hT h2⟩
  · next e => rw [e]; obtain ⟨x, h1, h2⟩ := h; exact ⟨x, h1, ck_sb_ok hT h2⟩
  · next e =>
    rw [e]
    obtain ⟨q, h1, h2⟩ := h
    rcases hS.get h1 with ⟨h3, h4⟩ | ⟨-, h3⟩
    · exact absurd (h2.trans (by rw [h4])) (hn e)
    · exact ⟨q, h3, h2⟩
  · next e => rw [e]; show ck_av r s a v; unfold ck_av; rw [e]; exact h
  · next e => rw [e]; show ck_av r s a v; unfold ck_av; rw [e]; exact h
  · next e =>
    rw [e]
    obtain ⟨q, h1, h2⟩ := h
    show ck_av r s (bif ck_nc (ta.getD a.2.1 0) then (4, 0, (0, [])) else (7, ta.getD a.2.1 0, (0, []))) v
    rcases hS.get h1 with ⟨h3, h4⟩ | ⟨h3, h4⟩
    · rw [show ck_nc (ta.getD a.2.1 0) = true from by rw [h3]; rfl, cond_true]
      rw [h4] at h2
      exact h2
    · cases hc : ck_nc (ta.getD a.2.1 0)
      · exact ⟨q, h4, h2⟩
      · exact absurd (ck_beq hc) h3
  · exact h.elim
def ck_sf (th : List ck_L) (ta : List Nat) (f : ck_F) : Option ck_F := bif Nat.beq f.1 4 then (bif Nat.beq f.2.2.1 0 then none else some (4, 999999, f.2.2.1, 0, (0, 0, ck_sb th f.2.2.2.2.2.2))) else bif ck_nc (ta.getD f.2.1 0) then none else match f.1 with
  | 2 => some (2, ta.getD f.2.1 0, f.2.2.1, f.2.2.2.1, (0, 0, ck_sb th f.2.2.2.2.2.2))
  | 3 => bif Nat.beq f.2.2.2.2.1 3 then (bif ck_nc (ta.getD f.2.2.2.2.2.1 0) then none else some (3, ta.getD f.2.1 0, f.2.2.1, f.2.2.2.1, ck_sv th ta f.2.2.2.2)) else some (3, ta.getD f.2.1 0, f.2.2.1, f.2.2.2.1, ck_sv th ta f.2.2.2.2)
  | 5 => some (5, ta.getD f.2.1 0, 0, 0, (0, 0, (0, [])))
  | 6 => some (6, ta.getD f.2.1 0, f.2.2.1, f.2.2.2.1, (0, 0, ck_sb th f.2.2.2.2.2.2))
  | 8 => some (8, ta.getD f.2.1 0, f.2.2.1, f.2.2.2.1, (0, 0, ck_sb th f.2.2.2.2.2.2))
  | _ => none
theorem ck_sf_ok {g : ck_g} {z z' : Nat} (hz : z' ≤ z) {th : List ck_L} {ta : List Nat} {r r' : List Int} {s s' : List Nat} (hT : ck_Th th r r') (hS : ck_Ta ta s s') {f f' : ck_F} (h : ck_fa g z r' s' f) (e : ck_sf th ta f = some f') : ck_fa g z' r s f' := by
  unfold ck_sf at e
  cases h04 : Nat.beq f.1 4
  rotate_left
  · rw [h04, cond_true] at e
    cases hj : f.2.2.1 with
    | zero => rw [hj] at e; cases e
    | succ j =>
      rw [hj] at e
      cases e
      unfold ck_fa at h
      rw [ck_beq h04] at h
      have h : ck_f4 r' f := h
      unfold ck_f4 at h
      rw [hj] at h
      obtain ⟨x, x1, x2⟩ := h
      exact ⟨x, ck_sb_ok hT x1, x2⟩
  rw [h04, cond_false] at e
  cases hc : ck_nc (ta.getD f.2.1 0)
  · rw [hc, cond_false] at e
    have hne : ta.getD f.2.1 0 ≠ 999999 := fun z => by rw [z] at hc; cases hc
    have hget : ∀ q, s'[f.2.1]? = some q → s[ta.getD f.2.1 0]? = some q := fun q hq => by
      rcases hS.get hq with ⟨h1, -⟩ | ⟨-, h1⟩
      · exact absurd h1 hne
      · exact h1
    unfold ck_fa at h
    split at e
    · next e0 =>
      rw [e0] at h
      cases e
      obtain ⟨q, vs, h1, h2, h3⟩ := h
      exact ⟨q, vs, hget q h1, h2, ck_sb_ok hT h3⟩
    · next e0 =>
      rw [e0] at h
      obtain ⟨q, vs, v, h1, h2, h3, h4⟩ := h
      cases hb : Nat.beq f.2.2.2.2.1 3
      · rw [hb, cond_false] at e
        cases e
        exact ⟨q, vs, v, hget q h1, h2, h3, ck_sv_ok hT hS h4 (fun z => by rw [z] at hb; cases hb)⟩
      · rw [hb, cond_true] at e
        cases hd : ck_nc (ta.getD f.2.2.2.2.2.1 0)
        · rw [hd, cond_false] at e
          cases e
          have e3 := ck_beq hb
          refine ⟨q, vs, v, hget q h1, h2, h3, ?_⟩
          unfold ck_av at h4
          rw [e3] at h4
          obtain ⟨q2, g1, g2⟩ := h4
          show ck_av r s (ck_sv th ta f.2.2.2.2) v
          unfold ck_sv
          rw [e3]
          rcases hS.get g1 with ⟨g3, -⟩ | ⟨-, g3⟩
          · rw [g3] at hd; cases hd
          · exact ⟨q2, g3, g2⟩
        · rw [hd] at e; cases e
    · next e0 =>
      rw [e0] at h
      cases e
      obtain ⟨q, h1, h2⟩ := h
      exact ⟨q, hget q h1, Nat.le_trans hz h2⟩
    · next e0 =>
      rw [e0] at h
      cases e
      obtain ⟨q, vs, x, h1, h2, h3, h4⟩ := h
      exact ⟨q, vs, x, hget q h1, h2, ck_sb_ok hT h3, h4⟩
    · next e0 =>
      rw [e0] at h
      cases e
      obtain ⟨q, h1, h2⟩ := h
      exact ⟨q, hget q h1, h2.imp id fun ⟨vs, h3, h4⟩ => ⟨vs, h3, ck_sb_ok hT h4⟩⟩
    · cases e
  · rw [hc] at e; cases e
-- what a call leaves
def ck_subM (M' M : List (Nat × Nat)) : Bool := M'.all fun m => bif Nat.beq m.2 1000 then M.any (fun p => Nat.beq p.1 m.1 && Nat.beq p.2 1000) else ck_inM M m.1 m.2
theorem ck_subM_ok {M' M : List (Nat × Nat)} (h : ck_subM M' M = true) {t j : Nat} (e : ck_inM M t j = false) : ck_inM M' t j = false := by
  cases hc : ck_inM M' t j
  · rfl
  · exfalso
    obtain ⟨m, h1, h2⟩ := List.any_eq_true.mp hc
    obtain ⟨h2, h3⟩ := Bool.and_eq_true_iff.mp h2
    have h4 := List.all_eq_true.mp h m h1
    have h2 := ck_beq h2
    cases hb : Nat.beq m.2 1000
    · rw [hb, cond_false] at h4
      rw [hb, Bool.or_false] at h3
      rw [h2, ck_beq h3] at h4
      rw [h4] at e
      cases e
    · rw [hb, cond_true] at h4
      obtain ⟨p, p1, p2⟩ := List.any_eq_true.mp h4
      obtain ⟨p2, p3⟩ := Bool.and_eq_true_iff.mp p2
      have : ck_inM M t j = true := List.any_eq_true.mpr ⟨p, p1, by rw [ck_beq p2, h2, ck_beq p3]; simp⟩
      rw [this] at e
      cases e
theorem ck_Hp.call {w : ck_W} {r : List Int} {s : List Nat} {h h' : List am_C} (H : ck_Hp w r s h) {M' : List (Nat × Nat)} {rq' : List (Nat × Nat)} (h1 : ck_HT w.2.1 w.2.2.1 w.2.2.2.1 (am_g w.1 h')) (h2 : ck_Kp M' rq' (am_g w.1 h) (am_g w.1 h')) (h3 : h.length ≤ h'.length) (hM : ck_subM M' w.2.2.2.2.2.2.2.1 = true)
    (hq : ∀ q t, (q, t) ∈ rq' → ck_z w ≤ q ∨ (q, t) ∈ w.2.2.2.2.2.2.2.2) : ck_Hp w r s h' := by
  obtain ⟨-, g2, g3, g4, g5⟩ := H
  refine ⟨h1, fun q t vs e => ?_, Nat.le_trans g3 h3, g4, g5⟩
  rcases g2 q t vs e with ⟨f1, t', vs', f2, f3⟩ | ⟨vs', f2, f3, f4⟩
  · rcases h2 q t' vs' f2 with ⟨-, t2, vs2, f5, f6⟩ | ⟨vs2, f5, f6, -⟩
    · exact Or.inl ⟨f1, t2, vs2, f5, f6.trans f3⟩
    · exact Or.inl ⟨f1, t', vs2, f5, f6.trans f3⟩
  · rcases h2 q t vs' f2 with ⟨f0, t2, vs2, f5, f6⟩ | ⟨vs2, f5, f6, f7⟩
    · rcases hq q t f0 with z | z
      · exfalso
        unfold ck_z at z
        have := am_g_lt (by omega) e
        omega
      · exact Or.inl ⟨z, t2, vs2, f5, f6.trans f3⟩
    · exact Or.inr ⟨vs2, f5, f6.trans f3, fun j hj => (f7 j (ck_subM_ok hM hj)).trans (f4 j hj)⟩
def ck_kc (M : List (Nat × Nat)) (rt : List Nat) (f : ck_F) : Bool := Nat.beq f.1 4 || (Nat.beq f.1 5 || (!(rt.any (Nat.beq f.2.2.2.1)) && !((Nat.beq f.1 3 && ck_inM M f.2.2.2.1 f.2.2.1) || (Nat.beq f.1 6 && M.any (fun m => Nat.beq m.1 f.2.2.2.1)))))
theorem ck_kc_ok {M : List (Nat × Nat)} {rt : List Nat} {rq : List (Nat × Nat)} {g g' : ck_g} (hK : ck_Kp M rq g g') (hr : ∀ q t, (q, t) ∈ rq → t ∈ rt) {z : Nat} {r : List Int} {s : List Nat} {f : ck_F} (h : ck_fa g z r s f) (e : ck_kc M rt f = true) : ck_fa g' z r s f := by
  by_cases e4 : f.1 = 4
  · unfold ck_fa at h ⊢; rw [e4] at h ⊢; exact h
  by_cases e5 : f.1 = 5
  · unfold ck_fa at h ⊢; rw [e5] at h ⊢; exact h
  unfold ck_kc at e
  rcases Bool.or_eq_true_iff.mp e with c | c
  · exact absurd (ck_beq c) e4
  rcases Bool.or_eq_true_iff.mp c with c | c
  · exact absurd (ck_beq c) e5
  obtain ⟨c1, c2⟩ := Bool.and_eq_true_iff.mp c
  refine h.heap fun q t vs h1 h2 => ?_
  rcases hK q t vs h1 with ⟨h3, -⟩ | ⟨vs', h3, h4, h5⟩
  · exfalso
    have : rt.any (Nat.beq f.2.2.2.1) = true := List.any_eq_true.mpr ⟨t, hr q t h3, by rw [h2]; simp⟩
    rw [this] at c1
    cases c1
  · refine ⟨vs', h3, h4, fun h6 => h5 _ ?_, fun h6 => List.ext_getElem? fun j => h5 j ?_⟩
    rotate_left
    · rw [h6, h2] at c2
      cases hb : ck_inM M t j
      · rfl
      · exfalso
        obtain ⟨m, m1, m2⟩ := List.any_eq_true.mp hb
        obtain ⟨m2, -⟩ := Bool.and_eq_true_iff.mp m2
        rw [show (M.any fun m => Nat.beq m.1 t) = true from List.any_eq_true.mpr ⟨m, m1, m2⟩] at c2
        simp at c2
    rw [h6, h2] at c2
    cases hb : ck_inM M t f.2.2.1
    · rfl
    · rw [hb] at c2; simp at c2
theorem ck_fa.z {g : ck_g} {z z' : Nat} {r : List Int} {s : List Nat} {f : ck_F} (h : ck_fa g z r s f) (hz : z' ≤ z) : ck_fa g z' r s f := by
  unfold ck_fa at h ⊢
  split at h
  · exact h
  · exact h
  · exact h
  · obtain ⟨q, h1, h2⟩ := h; exact ⟨q, h1, Nat.le_trans hz h2⟩
  · exact h
  · exact h
  · exact h.elim
-- the identity on the first numbers and references
def ck_id (n : Nat) : List ck_L := (List.range n).map ck_x
theorem ck_id_ok {r r0 q : List Int} {n : Nat} (e : r = r0 ++ q) (hn : r0.length = n) : ck_r' (ck_id n) r = r0 := by
  unfold ck_r' ck_id
  rw [List.map_map]
  apply List.ext_getElem?
  intro i
  rw [List.getElem?_map]
  by_cases hi : i < n
  · rw [List.getElem?_range hi, Option.map_some]
    have h1 : i < r0.length := by omega
    show some ((0 : Int) + (1 * r.getD i 0 + 0)) = _
    rw [e, ck_getD_app h1, List.getD_eq_getElem?_getD, List.getElem?_eq_getElem h1, Option.getD_some]
    simp
  · rw [List.getElem?_eq_none (by rw [List.length_range]; omega), List.getElem?_eq_none (by omega)]
    rfl
theorem ck_ids_ok {s s0 q : List Nat} {n : Nat} (e : s = s0 ++ q) (hn : s0.length = n) (h9 : n ≤ 999999) : ck_s' (List.range n) s = s0 := by
  unfold ck_s'
  apply List.ext_getElem?
  intro i
  rw [List.getElem?_map]
  by_cases hi : i < n
  · rw [List.getElem?_range hi, Option.map_some]
    have h1 : i < s0.length := by omega
    have h2 : ck_nc i = false := by
      cases hc : ck_nc i
      · rfl
      · have := ck_beq hc; omega
    show some (bif ck_nc i then 999 else s.getD i 0) = _
    rw [h2, cond_false, e, List.getD_eq_getElem?_getD, List.getElem?_append_left h1, List.getElem?_eq_getElem h1, Option.getD_some]
  · rw [List.getElem?_eq_none (by rw [List.length_range]; omega), List.getElem?_eq_none (by omega)]
    rfl
