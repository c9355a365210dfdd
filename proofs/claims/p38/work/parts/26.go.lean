/-! THE WHOLE WALK -/
/-- a stop: the state is found in the stop's words, and its measure falls -/
def ck_cut (E : ck_E) (m0 : Option ck_L) (B : ck_A) (m : ck_L) (A : ck_A) : Bool := match A, B with
  | (V, C, F, nr, Ls, St, ek, en), (V', C', F', mr, Ls', St', ek', en') =>
    let np := E.2.2.1.1.1.length
    let nq := E.2.2.1.1.2.2.2.1
    let u := ck_ug F np nq V' mr F' Ls' Ls St' St [(ek', ek), (en', en)]
    let th := ck_id np ++ u.1.drop np
    let ta := List.range nq ++ u.2.drop nq
    ((ck_mt V C F nr Ls St V' C' F' mr Ls' St' th ta && Nat.ble nq 999999) && ((ck_sq V'.length ek' && ck_sq V'.length en') && (ck_le V C ek (ck_sb th ek') && ck_le V C en (ck_sb th en')))) && (match m0 with
      | none => ck_sq V'.length m
      | some e => ck_sq V'.length m && (ck_ge V C (ck_sb th m) && ck_le V C (ck_sb th m) (ck_sub e (ck_k 1))))
def ck_go (E : ck_E) (m0 : Option ck_L) : Nat → Nat → Nat → ck_A → Bool
  | 0, _, _, _ => false
  | f + 1, fl, pc, A =>
    bif Nat.beq fl 0 && E.2.2.2.2.2.2.2.2.any (fun c => Nat.beq c.1 pc) then E.2.2.2.2.2.2.2.2.any (fun c => Nat.beq c.1 pc && ck_cut E m0 c.2.1 c.2.2 A)
    else match (ck_at [] pc E.2.2.2.2.2.2.2.1)[fl - 1]? with
      | some g => match ck_gx E pc g A with
        | some l => l.all fun x => ck_go E m0 f (fl - 1 + 2) x.1 x.2
        | none => false
      | none => match ck_op E pc (ck_at (99, 0, 0, 0, 0, 0, []) pc E.2.2.2.2.1) A with
        | some l => l.all fun x => ck_go E m0 f 0 x.1 x.2
        | none => false
theorem ck_at_mem {α : Type} {d : α} {pc : Nat} {l : List (Nat × α)} : (pc, ck_at d pc l) ∈ l ∨ ck_at d pc l = d := by
  induction l with
  | nil => exact Or.inr rfl
  | cons x u ih =>
    unfold ck_at
    cases hc : Nat.beq x.1 pc
    · rw [cond_false]
      exact ih.imp (fun h => List.mem_cons_of_mem _ h) id
    · rw [cond_true]
      left
      rw [← ck_beq hc]
      exact List.mem_cons_self
def ck_IH (E : ck_E) (w : ck_W) (S : ck_SS) (re : List Int) (se : List Nat) (mu : Option Int) : Prop := ∀ c ∈ E.2.2.2.2.2.2.2.2, ∀ (r : List Int) (s : List Nat) (L : List (Option Value)) (st : List Value) (h : List am_C) (k n : Nat) (x : Int), (∃ q, r = re ++ q) → (∃ q, s = se ++ q) → ck_Ga (ck_wa w r s) c.2.1 r s L st h k n → ck_Lv r c.2.2 x → (∀ y, mu = some y → 0 ≤ x ∧ x < y) → S c.1 L st h k n
theorem ck_cut_ok {E : ck_E} {w : ck_W} {S : ck_SS} {SX : Nat → ck_SX} {Rc Rs : Nat} {cm : Nat → ck_CM} {re : List Int} {se : List Nat} (X : ck_Ctx E w S SX Rc Rs cm re se) {m0 : Option ck_L} {mu : Option Int} (hmu : (m0 = none → mu = none) ∧ ∀ e, m0 = some e → ∃ y, mu = some y ∧ ck_Lv w.2.2.2.2.2.1 e y) (ih : ck_IH E w S re se mu)
    {c : Nat × ck_A × ck_L} (hc : c ∈ E.2.2.2.2.2.2.2.2) {A : ck_A} (ht : ck_cut E m0 c.2.1 c.2.2 A = true) {r : List Int} {s : List Nat} {L : List (Option Value)} {st : List Value} {h : List am_C} {k n : Nat} (H : ck_Ga w A r s L st h k n) : S c.1 L st h k n := by
  obtain ⟨x1, x2, x3, x4, x5, x6, x7, x8, x9, x10, x11, x12, x13, x14, x15, x16, x17, x18, x19⟩ := id X
  obtain ⟨V, C, F, nr, Ls, St, ek, en⟩ := A
  obtain ⟨pc, ⟨V', C', F', mr, Ls', St', ek', en'⟩, m⟩ := c
  unfold ck_cut at ht
  dsimp only at ht
  generalize ck_ug F E.2.2.1.1.1.length E.2.2.1.1.2.2.2.1 V' mr F' Ls' Ls St' St [(ek', ek), (en', en)] = u at ht
  obtain ⟨h1, h2, h3, h4, hL, hS, h7, h8, h9⟩ := id H
  obtain ⟨ht, hm⟩ := Bool.and_eq_true_iff.mp ht
  simp only [Bool.and_eq_true] at ht
  obtain ⟨⟨c1, c2⟩, ⟨c3, c4⟩, c5, c6⟩ := ht
  obtain ⟨g1, g2, g3, g4, g5, g6, g7, g8⟩ := ck_mt_ok c1 h1 h2 h3 h4 hL hS h9.1.1.1
  obtain ⟨q, eq⟩ : ∃ q, r = re ++ q := by
    obtain ⟨q, e1⟩ := h9.2.2.2.1
    obtain ⟨q', e2⟩ := x9
    exact ⟨q' ++ q, by rw [e1, e2, List.append_assoc]⟩
  obtain ⟨p, ep⟩ : ∃ q, s = se ++ q := by
    obtain ⟨q, e1⟩ := h9.2.2.2.2
    obtain ⟨q', e2⟩ := x10
    exact ⟨q' ++ q, by rw [e1, e2, List.append_assoc]⟩
  have e1 := ck_id_ok eq x11
  have e2 := ck_ids_ok ep x12 (Nat.le_of_ble_eq_true c2)
  have e3 : ∃ q, ck_r' (ck_id E.2.2.1.1.1.length ++ u.1.drop E.2.2.1.1.1.length) r = re ++ q := ⟨ck_r' (u.1.drop E.2.2.1.1.1.length) r, by unfold ck_r' at e1 ⊢; rw [List.map_append, e1]⟩
  have e4 : ∃ q, ck_s' (List.range E.2.2.1.1.2.2.2.1 ++ u.2.drop E.2.2.1.1.2.2.2.1) s = se ++ q := ⟨ck_s' (u.2.drop E.2.2.1.1.2.2.2.1) s, by unfold ck_s' at e2 ⊢; rw [List.map_append, e2]⟩
  generalize ck_id E.2.2.1.1.1.length ++ u.1.drop E.2.2.1.1.1.length = th at *
  generalize List.range E.2.2.1.1.2.2.2.1 ++ u.2.drop E.2.2.1.1.2.2.2.1 = ta at *
  have hl : V'.length = th.length := by rw [g3.1, g1.1]
  have hv : ∀ e : ck_L, ck_sq V'.length e = true → ck_Lv (ck_r' th r) e (e.1 + ck_ev (ck_r' th r) e.2) := fun e he => ⟨by rw [← g1.1, ← hl]; exact ck_sq_ok he, rfl⟩
  have k1 := hv _ c3
  have k2 := hv _ c4
  have k3 := ck_le_ok c5 h1 h2 h7 (ck_sb_ok g1 k1)
  have k4 := ck_le_ok c6 h1 h2 h8 (ck_sb_ok g1 k2)
  obtain ⟨k', ek1⟩ : ∃ k' : Nat, ek'.1 + ck_ev (ck_r' th r) ek'.2 = (k' : Int) := ⟨(ek'.1 + ck_ev (ck_r' th r) ek'.2).toNat, by omega⟩
  obtain ⟨n', en1⟩ : ∃ n' : Nat, en'.1 + ck_ev (ck_r' th r) en'.2 = (n' : Int) := ⟨(en'.1 + ck_ev (ck_r' th r) en'.2).toNat, by omega⟩
  rw [ek1] at k1 k3
  rw [en1] at k2 k4
  have hms : ck_sq V'.length m = true := by
    split at hm
    · exact hm
    · exact (Bool.and_eq_true_iff.mp hm).1
  have k5 := hv _ hms
  refine x17 pc L st h k n k' n' (by omega) (by omega) (ih _ hc (ck_r' th r) (ck_s' ta s) L st h k' n' _ e3 e4 ⟨g3, g4, g5, g6, g7, g8, k1, k2, h9.1, h9.2.1, h9.2.2.1, ⟨[], by rw [List.append_nil]; rfl⟩, [], by rw [List.append_nil]; rfl⟩ k5 fun y hy => ?_)
  split at hm
  · next => rw [hmu.1 rfl] at hy; cases hy
  · next e =>
    obtain ⟨y', f1, f2⟩ := hmu.2 e rfl
    rw [f1] at hy
    cases hy
    simp only [Bool.and_eq_true] at hm
    obtain ⟨-, d1, d2⟩ := hm
    have d3 := ck_ge_ok d1 h1 h2 (ck_sb_ok g1 k5)
    obtain ⟨qq, e5⟩ := h9.2.2.2.1
    have d4 := ck_le_ok d2 h1 h2 (ck_sb_ok g1 k5) (((show ck_Lv r e y from by rw [e5]; exact f2.app qq)).sub (ck_Lv.k r 1))
    exact ⟨d3, by omega⟩
theorem ck_go_ok {E : ck_E} {w : ck_W} {S : ck_SS} {SX : Nat → ck_SX} {Rc Rs : Nat} {cm : Nat → ck_CM} {re : List Int} {se : List Nat} (X : ck_Ctx E w S SX Rc Rs cm re se) (hcode : ∀ x ∈ E.2.2.2.2.1, ck_os w.1 S SX (ck_Po w.1 w.2.1 w.2.2.1 w.2.2.2.1 E.2.2.1 re se w.2.2.2.2.1) Rc Rs cm E x.1 x.2)
    {m0 : Option ck_L} {mu : Option Int} (hmu : (m0 = none → mu = none) ∧ ∀ e, m0 = some e → ∃ y, mu = some y ∧ ck_Lv w.2.2.2.2.2.1 e y) (ih : ck_IH E w S re se mu) :
    ∀ (f fl pc : Nat) (A : ck_A), ck_go E m0 f fl pc A = true → ∀ (r : List Int) (s : List Nat) (L : List (Option Value)) (st : List Value) (h : List am_C) (k n : Nat), ck_Ga w A r s L st h k n → S pc L st h k n := by
  intro f
  induction f with
  | zero => intro fl pc A ht; cases ht
  | succ f hf =>
    intro fl pc A ht r s L st h k n H
    unfold ck_go at ht
    cases hb : (Nat.beq fl 0 && E.2.2.2.2.2.2.2.2.any (fun c => Nat.beq c.1 pc))
    · rw [hb, cond_false] at ht
      split at ht
      · next g hg =>
        split at ht
        · next l hl =>
          exact ck_gx_ok X hg hl (fun x hx r s L st h k n H' => hf _ _ _ (List.all_eq_true.mp ht x hx) r s L st h k n H') H
        · cases ht
      · split at ht
        · next l hl =>
          refine ck_op_ok X ?_ hl (fun x hx r s L st h k n H' => hf _ _ _ (List.all_eq_true.mp ht x hx) r s L st h k n H') H
          rcases ck_at_mem (d := ((99, 0, 0, 0, 0, 0, []) : ck_O)) (pc := pc) (l := E.2.2.2.2.1) with e | e
          · exact hcode _ e
          · rw [e] at hl; cases hl
        · cases ht
    · rw [hb, cond_true] at ht
      obtain ⟨c, c1, c2⟩ := List.any_eq_true.mp ht
      obtain ⟨c2, c3⟩ := Bool.and_eq_true_iff.mp c2
      have := ck_cut_ok X hmu ih c1 c3 H
      rw [ck_beq c2] at this
      exact this
theorem ck_Ctx.wa {E : ck_E} {w : ck_W} {S : ck_SS} {SX : Nat → ck_SX} {Rc Rs : Nat} {cm : Nat → ck_CM} {re : List Int} {se : List Nat} (X : ck_Ctx E w S SX Rc Rs cm re se) (hw : w.2.2.2.2.2.1 = re) (hw2 : w.2.2.2.2.2.2.1 = se) {r : List Int} {s : List Nat} (hr : ∃ q, r = re ++ q) (hs : ∃ q, s = se ++ q) : ck_Ctx E (ck_wa w r s) S SX Rc Rs cm re se := by
  obtain ⟨x1, x2, x3, x4, x5, x6, x7, x8, x9, x10, x11, x12, x13, x14, x15, x16, x17, x18, x19⟩ := X
  obtain ⟨q, e1⟩ := hr
  obtain ⟨p, e2⟩ := hs
  refine ⟨x1, x2, x3, x4, x5, x6, fun t ht => ?_, ?_, ⟨q, e1⟩, ⟨p, e2⟩, x11, x12, x13, x14, x15, x16, x17, x18, x19⟩
  · obtain ⟨a, b1, b2⟩ := x7 t ht
    exact ⟨a, by show s[0]? = some a; rw [e2, ← hw2]; exact ck_get_app b1, b2⟩
  · obtain ⟨a, b⟩ := x8
    rw [hw] at a b
    exact ⟨by show ck_Lv r _ _; rw [e1]; exact a.app q, by show ck_Lv r _ _; rw [e1]; exact b.app q⟩
theorem ck_cuts_ok {E : ck_E} {w : ck_W} {S : ck_SS} {SX : Nat → ck_SX} {Rc Rs : Nat} {cm : Nat → ck_CM} {re : List Int} {se : List Nat} (X : ck_Ctx E w S SX Rc Rs cm re se) (hw : w.2.2.2.2.2.1 = re) (hw2 : w.2.2.2.2.2.2.1 = se) (hcode : ∀ x ∈ E.2.2.2.2.1, ck_os w.1 S SX (ck_Po w.1 w.2.1 w.2.2.1 w.2.2.2.1 E.2.2.1 re se w.2.2.2.2.1) Rc Rs cm E x.1 x.2)
    {f : Nat} (hg : (E.2.2.2.2.2.2.2.2.all fun c => ck_go E (some c.2.2) f 1 c.1 c.2.1) = true) : ∀ (N : Nat) (y : Int), y < (N : Int) → ck_IH E w S re se (some (y + 1)) := by
  intro N
  induction N with
  | zero =>
    intro y hy c hc r s L st h k n x _ _ _ _ hx
    have := hx _ rfl
    omega
  | succ N hN =>
    intro y hy c hc r s L st h k n x hr hs H hx hlt
    have h1 := hlt _ rfl
    have X' := X.wa hw hw2 hr hs
    refine ck_go_ok (w := ck_wa w r s) X' hcode (m0 := some c.2.2) (mu := some x) ⟨fun z => (nomatch z), fun e he => by cases he; exact ⟨x, rfl, hx⟩⟩ ?_ f 1 c.1 c.2.1 (List.all_eq_true.mp hg c hc) r s L st h k n H
    intro c' hc' r' s' L' st' h' k' n' x' hr' hs' H' hx' hlt'
    have h2 := hlt' _ rfl
    exact hN (x - 1) (by omega) c' hc' r' s' L' st' h' k' n' x' hr' hs' H' hx' (fun z hz => by cases hz; omega)
theorem ck_all_ok {E : ck_E} {w : ck_W} {S : ck_SS} {SX : Nat → ck_SX} {Rc Rs : Nat} {cm : Nat → ck_CM} {re : List Int} {se : List Nat} (X : ck_Ctx E w S SX Rc Rs cm re se) (hw : w.2.2.2.2.2.1 = re) (hw2 : w.2.2.2.2.2.2.1 = se) (hcode : ∀ x ∈ E.2.2.2.2.1, ck_os w.1 S SX (ck_Po w.1 w.2.1 w.2.2.1 w.2.2.2.1 E.2.2.1 re se w.2.2.2.2.1) Rc Rs cm E x.1 x.2)
    {f pc : Nat} {A : ck_A} (hg : (E.2.2.2.2.2.2.2.2.all fun c => ck_go E (some c.2.2) f 1 c.1 c.2.1) = true) (h0 : ck_go E none f 0 pc A = true) {r : List Int} {s : List Nat} {L : List (Option Value)} {st : List Value} {h : List am_C} {k n : Nat} (H : ck_Ga w A r s L st h k n) : S pc L st h k n := by
  refine ck_go_ok X hcode (m0 := none) (mu := none) ⟨fun _ => rfl, fun e he => (nomatch he)⟩ ?_ f 0 pc A h0 r s L st h k n H
  intro c hc r' s' L' st' h' k' n' x hr hs H' hx _
  by_cases e : 0 ≤ x
  · exact ck_cuts_ok X hw hw2 hcode hg (x.toNat + 1) x (by omega) c hc r' s' L' st' h' k' n' x hr hs H' hx (fun z hz => by cases hz; omega)
  · -- a measure below 0: the walk from the stop goes to stops of measure 0 and above alone, below it: to none
    have X' := X.wa hw hw2 hr hs
    refine ck_go_ok (w := ck_wa w r' s') X' hcode (m0 := some c.2.2) (mu := some x) ⟨fun z => (nomatch z), fun e he => by cases he; exact ⟨x, rfl, hx⟩⟩ ?_ f 1 c.1 c.2.1 (List.all_eq_true.mp hg c hc) r' s' L' st' h' k' n' H'
    intro c' hc' r2 s2 L2 st2 h2 k2 n2 x2 _ _ _ _ hlt
    have := hlt _ rfl
    omega
-- a method's entry
def ck_lay (a : List ck_V) : List ck_V := a.flatMap fun v => bif Nat.beq v.1 2 then [v, ck_un] else [v]
def ck_ent (a : List ck_V) (n : Nat) : List ck_V := ck_lay a ++ List.replicate (n - (ck_lay a).length) ck_un
theorem ck_loc.app2 {r : List Int} {s : List Nat} {A A' : List ck_V} {L L' : List (Option Value)} (h : ck_loc r s A L) (h' : ck_loc r s A' L') : ck_loc r s (A ++ A') (L ++ L') := by
  refine ⟨by rw [List.length_append, List.length_append, h.1, h'.1], fun i a ha => ?_⟩
  by_cases e : i < A.length
  · rw [List.getElem?_append_left e] at ha
    rw [List.getElem?_append_left (by rw [h.1]; exact e)]
    exact h.2 i a ha
  · rw [List.getElem?_append_right (by omega)] at ha
    rw [List.getElem?_append_right (by rw [h.1]; omega), h.1]
    exact h'.2 _ a ha
theorem ck_lay_ok {r : List Int} {s : List Nat} : ∀ {A : List ck_V} {B : List Value}, ck_stk r s A B → ck_loc r s (ck_lay A) (am_lay B) := by
  intro A
  induction A with
  | nil =>
    intro B h
    cases B with
    | nil => exact ⟨rfl, fun i a ha => (nomatch ha)⟩
    | cons b B => exact h.elim
  | cons a A ih =>
    intro B h
    cases B with
    | nil => exact h.elim
    | cons b B =>
      have e1 : ck_lay (a :: A) = (bif Nat.beq a.1 2 then [a, ck_un] else [a]) ++ ck_lay A := rfl
      have e2 : am_lay (b :: B) = (if b.category = 2 then [some b, none] else [some b]) ++ am_lay B := rfl
      rw [e1, e2]
      refine ck_loc.app2 ?_ (ih h.2)
      cases hc : Nat.beq a.1 2
      · rw [if_neg (fun e => by rw [h.1.wide e] at hc; cases hc)]
        refine ⟨rfl, fun i x hx => ?_⟩
        match i, hx with
        | 0, hx => cases hx; exact Or.inr ⟨b, rfl, h.1⟩
      · obtain ⟨x, e, -⟩ := h.1.long (ck_beq hc)
        rw [if_pos (by rw [e]; rfl)]
        refine ⟨rfl, fun i x hx => ?_⟩
        match i, hx with
        | 0, hx => cases hx; exact Or.inr ⟨b, rfl, h.1⟩
        | 1, hx => cases hx; exact Or.inl rfl
theorem ck_ent_ok {r : List Int} {s : List Nat} {A : List ck_V} {B : List Value} (h : ck_stk r s A B) (n : Nat) : ck_loc r s (ck_ent A n) (am_ent B n) := by
  have h1 := ck_lay_ok h
  unfold ck_ent am_ent
  rw [h1.1]
  refine h1.app2 ⟨by rw [List.length_replicate, List.length_replicate], fun i a ha => ?_⟩
  rw [List.getElem?_replicate] at ha
  split at ha
  · cases ha; exact Or.inl rfl
  · cases ha
/-- the method's first state -/
def ck_A0 (c : ck_KK) (nL : Nat) : ck_A := (c.1.1, c.1.2.1, c.1.2.2.1, c.1.2.2.2.1, ck_ent c.1.2.2.2.2 nL, [], ck_k 0, ck_k 0)
theorem ck_fa.z5 {g : ck_g} {z z' : Nat} {r : List Int} {s : List Nat} {f : ck_F} (h : ck_fa g z r s f) (h5 : (!(Nat.beq f.1 5)) = true) : ck_fa g z' r s f := by
  unfold ck_fa at h ⊢
  split at h
  · exact h
  · exact h
  · exact h
  · next e => rw [e] at h5; cases h5
  · exact h
  · exact h
  · exact h.elim
def ck_rtk (rt : List Nat) (n : Nat) : Bool := match rt with
  | [] => true
  | [_] => Nat.blt 0 n
  | _ => false
/-- what is decided of a method -/
def ck_chk (E : ck_E) (f : Nat) : Bool := (E.2.2.2.2.2.2.2.2.all fun c => ck_go E (some c.2.2) f 1 c.1 c.2.1) && (ck_go E none f 0 0 (ck_A0 E.2.2.1 E.2.2.2.1) && ((E.2.2.1.1.2.2.1.all fun q => !(Nat.beq q.1 5)) && ck_rtk E.2.2.1.2.2.2.1 E.2.2.1.1.2.2.2.1))
