/-! ONE STATE IN ANOTHER ONE'S WORDS: th, what its numbers are; ta, what its references are (999999: null) -/
def ck_sq (n : Nat) (e : ck_L) : Bool := e.2.all fun t => Nat.blt t.2 n
theorem ck_sq_ok {n : Nat} {e : ck_L} (h : ck_sq n e = true) : ck_Sc n e.2 := fun t ht => Nat.blt_eq.mp (List.all_eq_true.mp h t ht)
def ck_nc (c : Nat) : Bool := Nat.beq c 999999
def ck_Ta (ta s s' : List Nat) : Prop := ta.length = s'.length ∧ ∀ (i c q : Nat), ta[i]? = some c → s'[i]? = some q → (c = 999999 ∧ q = 999) ∨ (c ≠ 999999 ∧ s[c]? = some q)
def ck_tq (ta : List Nat) (i c : Nat) : Bool := !(ck_nc c) && (match ta[i]? with
  | some d => Nat.beq d c
  | none => false)
theorem ck_tq_ok {ta s s' : List Nat} (h : ck_Ta ta s s') {i c q : Nat} (e : ck_tq ta i c = true) (hq : s[c]? = some q) : s'[i]? = some q := by
  obtain ⟨h1, h2⟩ := Bool.and_eq_true_iff.mp e
  have h1 : c ≠ 999999 := fun z => by rw [z] at h1; cases h1
  split at h2
  · next d hd =>
    have hl : i < s'.length := by rw [← h.1]; exact (List.getElem?_eq_some_iff.mp hd).1
    have h3 : s'[i]? = some (s'[i]'hl) := List.getElem?_eq_getElem hl
    rcases h.2 i d _ hd h3 with ⟨h4, -⟩ | ⟨-, h4⟩
    · exact absurd ((ck_beq h2).symm.trans h4) h1
    · rw [ck_beq h2, hq] at h4
      rw [h3, ← h4]
  · cases h2
theorem ck_tn_ok {ta s s' : List Nat} (h : ck_Ta ta s s') {i : Nat} (e : ta[i]? = some 999999) : s'[i]? = some 999 := by
  have hl : i < s'.length := by rw [← h.1]; exact (List.getElem?_eq_some_iff.mp e).1
  have h3 : s'[i]? = some (s'[i]'hl) := List.getElem?_eq_getElem hl
  rcases h.2 i _ _ e h3 with ⟨-, h4⟩ | ⟨h4, -⟩
  · rw [h3, h4]
  · exact absurd rfl h4
def ck_ml1 (th : List ck_L) (p a : ck_L) : Bool := ck_sq th.length p && ck_eq (ck_sb th p) a
theorem ck_ml1_ok {th : List ck_L} {r r' : List Int} (h : ck_Th th r r') {p a : ck_L} {x : Int} (e : ck_ml1 th p a = true) (ha : ck_Lv r a x) : ck_Lv r' p x := by
  obtain ⟨h1, h2⟩ := Bool.and_eq_true_iff.mp e
  have h3 : ck_Lv r' p (p.1 + ck_ev r' p.2) := ⟨by rw [← h.1]; exact ck_sq_ok h1, rfl⟩
  have h4 := ck_eq_ok h2 (ck_sb_ok h h3) ha
  rw [← h4]
  exact h3
def ck_mv (F : List ck_F) (th : List ck_L) (ta : List Nat) (p a : ck_V) : Bool := match p.1 with
  | 1 => Nat.beq a.1 1 && ck_ml1 th p.2.2 a.2.2
  | 2 => Nat.beq a.1 2 && ck_ml1 th p.2.2 a.2.2
  | 3 => Nat.beq a.1 3 && ck_tq ta p.2.1 a.2.1
  | 4 => Nat.beq a.1 4
  | 6 => Nat.beq a.1 3 || Nat.beq a.1 6
  | 7 => (Nat.beq a.1 4 && (match ta[p.2.1]? with
    | some d => ck_nc d
    | none => false)) || ((Nat.beq a.1 7 && ck_tq ta p.2.1 a.2.1) || (Nat.beq a.1 3 && (ck_tq ta p.2.1 a.2.1 && (ck_f2 F a.2.1).isSome)))
  | _ => false
theorem ck_mv_ok {g : ck_g} {z : Nat} {F : List ck_F} {th : List ck_L} {ta : List Nat} {p a : ck_V} {r r' : List Int} {s s' : List Nat} {v : Value} (hF : ∀ f ∈ F, ck_fa g z r s f) (h9 : g 999 = none) (hT : ck_Th th r r') (hS : ck_Ta ta s s') (e : ck_mv F th ta p a = true) (ha : ck_av r s a v) : ck_av r' s' p v := by
  unfold ck_mv at e
  unfold ck_av
  split at e
  · next h0 =>
    obtain ⟨c1, c2⟩ := Bool.and_eq_true_iff.mp e
    obtain ⟨x, e1, e2⟩ := ha.int (ck_beq c1)
    rw [h0]
    exact ⟨x, e1, ck_ml1_ok hT c2 e2⟩
  · next h0 =>
    obtain ⟨c1, c2⟩ := Bool.and_eq_true_iff.mp e
    obtain ⟨x, e1, e2⟩ := ha.long (ck_beq c1)
    rw [h0]
    exact ⟨x, e1, ck_ml1_ok hT c2 e2⟩
  · next h0 =>
    obtain ⟨c1, c2⟩ := Bool.and_eq_true_iff.mp e
    unfold ck_av at ha
    rw [ck_beq c1] at ha
    obtain ⟨q, e1, e2⟩ := ha
    rw [h0]
    exact ⟨q, ck_tq_ok hS c2 e1, e2⟩
  · next h0 =>
    unfold ck_av at ha
    rw [ck_beq e] at ha
    rw [h0]
    exact ha
  · next h0 =>
    unfold ck_av at ha
    rw [h0]
    rcases Bool.or_eq_true_iff.mp e with c | c
    · rw [ck_beq c] at ha
      obtain ⟨q, -, e2⟩ := ha
      exact ⟨q, e2⟩
    · rw [ck_beq c] at ha
      exact ha
  · next h0 =>
    unfold ck_av at ha
    rw [h0]
    rcases Bool.or_eq_true_iff.mp e with c | c
    · obtain ⟨c1, c2⟩ := Bool.and_eq_true_iff.mp c
      rw [ck_beq c1] at ha
      split at c2
      · next d hd =>
        have hd2 : d = 999999 := ck_beq c2
        rw [hd2] at hd
        exact ⟨999, ck_tn_ok hS hd, ha⟩
      · cases c2
    · rcases Bool.or_eq_true_iff.mp c with c | c
      · obtain ⟨c1, c2⟩ := Bool.and_eq_true_iff.mp c
        rw [ck_beq c1] at ha
        obtain ⟨q, e1, e2⟩ := ha
        exact ⟨q, ck_tq_ok hS c2 e1, e2⟩
      · obtain ⟨c1, c2⟩ := Bool.and_eq_true_iff.mp c
        obtain ⟨c2, c3⟩ := Bool.and_eq_true_iff.mp c2
        rw [ck_beq c1] at ha
        obtain ⟨q, e1, e2⟩ := ha
        refine ⟨q, ck_tq_ok hS c2 e1, ?_⟩
        obtain ⟨f, hf⟩ := Option.isSome_iff_exists.mp c3
        obtain ⟨q', vs, g1, g2, -⟩ := ck_f2_ok hF hf
        rw [e1] at g1
        cases g1
        rw [e2]
        unfold ck_rv
        rw [if_neg (fun z => by rw [z, h9] at g2; cases g2)]
  · cases e
def ck_mf (F : List ck_F) (th : List ck_L) (ta : List Nat) (p : ck_F) : Bool := bif Nat.beq p.1 4 then !(Nat.beq p.2.2.1 0) && F.any (fun f => Nat.beq f.1 4 && (Nat.beq f.2.2.1 p.2.2.1 && ck_ml1 th p.2.2.2.2.2.2 f.2.2.2.2.2.2)) else match ta[p.2.1]? with
  | none => false
  | some c => match p.1 with
    | 2 => !(ck_nc c) && (match ck_f2 F c with
      | some f => Nat.beq f.2.2.2.1 p.2.2.2.1 && ck_ml1 th p.2.2.2.2.2.2 f.2.2.2.2.2.2
      | none => false)
    | 3 => !(ck_nc c) && (match ck_f3 F c p.2.2.1 with
      | some f => Nat.beq f.2.2.2.1 p.2.2.2.1 && ck_mv F th ta p.2.2.2.2 f.2.2.2.2
      | none => false)
    | 5 => !(ck_nc c) && ck_f5 F c
    | 6 => !(ck_nc c) && F.any (fun f => Nat.beq f.1 6 && (Nat.beq f.2.1 c && (Nat.beq f.2.2.2.1 p.2.2.2.1 && (Nat.beq f.2.2.1 p.2.2.1 && ck_ml1 th p.2.2.2.2.2.2 f.2.2.2.2.2.2))))
    | 8 => ck_nc c || ((match ck_f8 F c with
      | some f => Nat.beq f.2.2.2.1 p.2.2.2.1 && ck_ml1 th p.2.2.2.2.2.2 f.2.2.2.2.2.2
      | none => false) || (match ck_f2 F c with
      | some f => Nat.beq f.2.2.2.1 p.2.2.2.1 && ck_ml1 th p.2.2.2.2.2.2 f.2.2.2.2.2.2
      | none => false))
    | _ => false
theorem ck_tc_ok {ta s s' : List Nat} (h : ck_Ta ta s s') {i c : Nat} (e : ta[i]? = some c) (hc : (!(ck_nc c)) = true) {q : Nat} (hq : s[c]? = some q) : s'[i]? = some q := by
  refine ck_tq_ok h (c := c) ?_ hq
  unfold ck_tq
  rw [hc, e]
  simp
theorem ck_mf_ok {g : ck_g} {z : Nat} {F : List ck_F} {th : List ck_L} {ta : List Nat} {p : ck_F} {r r' : List Int} {s s' : List Nat} (hF : ∀ f ∈ F, ck_fa g z r s f) (h9 : g 999 = none) (hT : ck_Th th r r') (hS : ck_Ta ta s s') (e : ck_mf F th ta p = true) : ck_fa g z r' s' p := by
  unfold ck_mf at e
  cases h04 : Nat.beq p.1 4
  rotate_left
  · rw [h04, cond_true] at e
    obtain ⟨e1, e2⟩ := Bool.and_eq_true_iff.mp e
    obtain ⟨f, f1, f2⟩ := List.any_eq_true.mp e2
    obtain ⟨f2, f3⟩ := Bool.and_eq_true_iff.mp f2
    obtain ⟨f3, f4⟩ := Bool.and_eq_true_iff.mp f3
    have h4 := hF f f1
    unfold ck_fa at h4 ⊢
    rw [ck_beq f2] at h4
    rw [ck_beq h04]
    have h4 : ck_f4 r f := h4
    show ck_f4 r' p
    unfold ck_f4 at h4 ⊢
    rw [ck_beq f3] at h4
    cases hj : p.2.2.1 with
    | zero => rw [hj] at e1; cases e1
    | succ j =>
      rw [hj] at h4
      obtain ⟨x, x1, x2⟩ := h4
      exact ⟨x, ck_ml1_ok hT f4 x1, x2⟩
  rw [h04, cond_false] at e
  unfold ck_fa
  split at e
  · cases e
  · next c hc =>
    split at e
    · next h0 =>
      rw [h0]
      obtain ⟨c1, c2⟩ := Bool.and_eq_true_iff.mp e
      split at c2
      · next f hf =>
        obtain ⟨c2, c3⟩ := Bool.and_eq_true_iff.mp c2
        obtain ⟨q, vs, g1, g2, g3⟩ := ck_f2_ok hF hf
        exact ⟨q, vs, ck_tc_ok hS hc c1 g1, by rw [← ck_beq c2]; exact g2, ck_ml1_ok hT c3 g3⟩
      · cases c2
    · next h0 =>
      rw [h0]
      obtain ⟨c1, c2⟩ := Bool.and_eq_true_iff.mp e
      split at c2
      · next f hf =>
        obtain ⟨c2, c3⟩ := Bool.and_eq_true_iff.mp c2
        obtain ⟨q, vs, v, g1, g2, g3, g4⟩ := ck_f3_ok hF hf
        exact ⟨q, vs, v, ck_tc_ok hS hc c1 g1, by rw [← ck_beq c2]; exact g2, g3, ck_mv_ok hF h9 hT hS c3 g4⟩
      · cases c2
    · next h0 =>
      rw [h0]
      obtain ⟨c1, c2⟩ := Bool.and_eq_true_iff.mp e
      obtain ⟨f, f1, f2⟩ := List.any_eq_true.mp c2
      obtain ⟨f2, f3⟩ := Bool.and_eq_true_iff.mp f2
      have h4 := hF f f1
      unfold ck_fa at h4
      rw [ck_beq f2, ck_beq f3] at h4
      obtain ⟨q, e1, e2⟩ := h4
      exact ⟨q, ck_tc_ok hS hc c1 e1, e2⟩
    · next h0 =>
      rw [h0]
      obtain ⟨c1, c2⟩ := Bool.and_eq_true_iff.mp e
      obtain ⟨f, f1, f2⟩ := List.any_eq_true.mp c2
      obtain ⟨f2, f3⟩ := Bool.and_eq_true_iff.mp f2
      obtain ⟨f3, f4⟩ := Bool.and_eq_true_iff.mp f3
      obtain ⟨f4, f5⟩ := Bool.and_eq_true_iff.mp f4
      obtain ⟨f5, f6⟩ := Bool.and_eq_true_iff.mp f5
      have h4 := hF f f1
      unfold ck_fa at h4
      rw [ck_beq f2, ck_beq f3, ck_beq f4, ck_beq f5] at h4
      obtain ⟨q, vs, x, e1, e2, e3, e4⟩ := h4
      exact ⟨q, vs, x, ck_tc_ok hS hc c1 e1, e2, ck_ml1_ok hT f6 e3, e4⟩
    · next h0 =>
      rw [h0]
      cases hn : ck_nc c
      · rw [hn, Bool.false_or] at e
        have c1 : (!(ck_nc c)) = true := by rw [hn]; rfl
        rcases Bool.or_eq_true_iff.mp e with e | e
        · split at e
          · next f hf =>
            obtain ⟨c2, c3⟩ := Bool.and_eq_true_iff.mp e
            obtain ⟨q, g1, g2⟩ := ck_f8_ok hF hf
            refine ⟨q, ck_tc_ok hS hc c1 g1, g2.imp id fun ⟨vs, g3, g4⟩ => ⟨vs, by rw [← ck_beq c2]; exact g3, ck_ml1_ok hT c3 g4⟩⟩
          · cases e
        · split at e
          · next f hf =>
            obtain ⟨c2, c3⟩ := Bool.and_eq_true_iff.mp e
            obtain ⟨q, vs, g1, g2, g3⟩ := ck_f2_ok hF hf
            exact ⟨q, ck_tc_ok hS hc c1 g1, Or.inr ⟨vs, by rw [← ck_beq c2]; exact g2, ck_ml1_ok hT c3 g3⟩⟩
          · cases e
      · have hn : c = 999999 := ck_beq hn
        rw [hn] at hc
        exact ⟨999, ck_tn_ok hS hc, Or.inl rfl⟩
    · cases e
def ck_bd (V : ck_I) (C : List ck_L) : List ck_L → ck_I → Bool
  | [], [] => true
  | e :: u, b :: W => (ck_le V C (ck_k b.1) e && ck_le V C e (ck_k b.2)) && ck_bd V C u W
  | _, _ => false
theorem ck_bd_ok {V : ck_I} {C : List ck_L} {r : List Int} (hQ : ck_ok (V, C) r) : ∀ {th : List ck_L} {W : ck_I} {r' : List Int}, ck_Th th r r' → ck_bd V C th W = true → ck_In W r' := by
  intro th
  induction th with
  | nil =>
    intro W r' hT e
    cases W with
    | nil => cases r' with
      | nil => exact ck_In.nil
      | cons x u => have := hT.1; simp at this
    | cons b W => cases e
  | cons t th ih =>
    intro W r' hT e
    cases W with
    | nil => cases e
    | cons b W => cases r' with
      | nil => have := hT.1; simp at this
      | cons x r' =>
        obtain ⟨c1, c2⟩ := Bool.and_eq_true_iff.mp e
        obtain ⟨c1, c3⟩ := Bool.and_eq_true_iff.mp c1
        have hx := hT.2 0 t x rfl rfl
        have h1 := ck_le_ok c1 hQ.1 hQ.2 (ck_Lv.k r _) hx
        have h2 := ck_le_ok c3 hQ.1 hQ.2 hx (ck_Lv.k r _)
        have h3 := ih (W := W) (r' := r') ⟨by have := hT.1; simpa using this, fun i e' y h4 h5 => hT.2 (i + 1) e' y h4 h5⟩ c2
        exact (ck_In.one (a := b.1) (b := b.2) h1 h2).app h3
def ck_mloc (F : List ck_F) (th : List ck_L) (ta : List Nat) : List ck_V → List ck_V → Bool
  | [], [] => true
  | p :: P, a :: A => (Nat.beq p.1 0 || ck_mv F th ta p a) && ck_mloc F th ta P A
  | _, _ => false
def ck_mstk (F : List ck_F) (th : List ck_L) (ta : List Nat) : List ck_V → List ck_V → Bool
  | [], [] => true
  | p :: P, a :: A => ck_mv F th ta p a && ck_mstk F th ta P A
  | _, _ => false
theorem ck_mv_nz {F : List ck_F} {th : List ck_L} {ta : List Nat} {p a : ck_V} (e : ck_mv F th ta p a = true) : a.1 ≠ 0 := by
  intro z
  unfold ck_mv at e
  split at e <;> simp [z] at e
theorem ck_mloc_ok {g : ck_g} {z : Nat} {F : List ck_F} {th : List ck_L} {ta : List Nat} {r r' : List Int} {s s' : List Nat} (hF : ∀ f ∈ F, ck_fa g z r s f) (h9 : g 999 = none) (hT : ck_Th th r r') (hS : ck_Ta ta s s') : ∀ {P A : List ck_V} {L : List (Option Value)}, ck_mloc F th ta P A = true → ck_loc r s A L → ck_loc r' s' P L := by
  intro P
  induction P with
  | nil =>
    intro A L e h
    cases A with
    | nil => exact ⟨h.1, fun i a ha => (nomatch ha)⟩
    | cons a A => cases e
  | cons p P ih =>
    intro A L e h
    cases A with
    | nil => cases e
    | cons a A =>
      cases L with
      | nil => have := h.1; simp at this
      | cons o L =>
        obtain ⟨c1, c2⟩ := Bool.and_eq_true_iff.mp e
        have h2 := ih c2 (L := L) ⟨by have := h.1; simpa using this, fun i a' ha => h.2 (i + 1) a' ha⟩
        refine ⟨by have := h2.1; simpa using this, fun i a' ha => ?_⟩
        cases i with
        | zero =>
          cases ha
          rcases Bool.or_eq_true_iff.mp c1 with c | c
          · exact Or.inl (ck_beq c)
          · obtain ⟨v, v1, v2⟩ := h.at (i := 0) (a := a) rfl (ck_mv_nz c)
            exact Or.inr ⟨v, v1, ck_mv_ok hF h9 hT hS c v2⟩
        | succ i => exact h2.2 i a' ha
theorem ck_mstk_ok {g : ck_g} {z : Nat} {F : List ck_F} {th : List ck_L} {ta : List Nat} {r r' : List Int} {s s' : List Nat} (hF : ∀ f ∈ F, ck_fa g z r s f) (h9 : g 999 = none) (hT : ck_Th th r r') (hS : ck_Ta ta s s') : ∀ {P A : List ck_V} {st : List Value}, ck_mstk F th ta P A = true → ck_stk r s A st → ck_stk r' s' P st := by
  intro P
  induction P with
  | nil =>
    intro A st e h
    cases A with
    | nil => cases st with
      | nil => trivial
      | cons v st => exact h.elim
    | cons a A => cases e
  | cons p P ih =>
    intro A st e h
    cases A with
    | nil => cases e
    | cons a A =>
      cases st with
      | nil => exact h.elim
      | cons v st =>
        obtain ⟨c1, c2⟩ := Bool.and_eq_true_iff.mp e
        exact ⟨ck_mv_ok hF h9 hT hS c1 h.1, ih c2 h.2⟩
/-- the pattern: its numbers' bounds, forms, rows, count of references, places, stack -/
def ck_mt (V : ck_I) (C : List ck_L) (F : List ck_F) (nr : Nat) (Ls St : List ck_V) (W : ck_I) (D : List ck_L) (E : List ck_F) (mr : Nat) (Ps Pt : List ck_V) (th : List ck_L) (ta : List Nat) : Bool :=
  (th.all (ck_sq V.length) && (Nat.beq ta.length mr && ta.all fun c => ck_nc c || Nat.blt c nr)) && ((ck_bd V C th W && D.all fun c => ck_sq th.length c && ck_ge V C (ck_sb th c)) && (E.all (ck_mf F th ta) && (ck_mloc F th ta Ps Ls && ck_mstk F th ta Pt St)))
def ck_r' (th : List ck_L) (r : List Int) : List Int := th.map fun e => e.1 + ck_ev r e.2
def ck_s' (ta : List Nat) (s : List Nat) : List Nat := ta.map fun c => bif ck_nc c then 999 else s.getD c 0
theorem ck_mt_ok {g : ck_g} {z : Nat} {V : ck_I} {C : List ck_L} {F : List ck_F} {nr : Nat} {Ls St : List ck_V} {W : ck_I} {D : List ck_L} {E : List ck_F} {mr : Nat} {Ps Pt : List ck_V} {th : List ck_L} {ta : List Nat} {r : List Int} {s : List Nat} {L : List (Option Value)} {st : List Value}
    (e : ck_mt V C F nr Ls St W D E mr Ps Pt th ta = true) (h1 : ck_In V r) (h2 : ck_Co C r) (hF : ∀ f ∈ F, ck_fa g z r s f) (hn : s.length = nr) (hL : ck_loc r s Ls L) (hS : ck_stk r s St st) (h9 : g 999 = none) :
    ck_Th th r (ck_r' th r) ∧ ck_Ta ta s (ck_s' ta s) ∧ ck_In W (ck_r' th r) ∧ ck_Co D (ck_r' th r) ∧ (∀ f ∈ E, ck_fa g z (ck_r' th r) (ck_s' ta s) f) ∧ (ck_s' ta s).length = mr ∧ ck_loc (ck_r' th r) (ck_s' ta s) Ps L ∧ ck_stk (ck_r' th r) (ck_s' ta s) Pt st := by
  obtain ⟨c1, c2⟩ := Bool.and_eq_true_iff.mp e
  obtain ⟨c1, c3⟩ := Bool.and_eq_true_iff.mp c1
  obtain ⟨c3, c4⟩ := Bool.and_eq_true_iff.mp c3
  obtain ⟨c2, c5⟩ := Bool.and_eq_true_iff.mp c2
  obtain ⟨c2, c6⟩ := Bool.and_eq_true_iff.mp c2
  obtain ⟨c5, c7⟩ := Bool.and_eq_true_iff.mp c5
  obtain ⟨c7, c8⟩ := Bool.and_eq_true_iff.mp c7
  have hT : ck_Th th r (ck_r' th r) := by
    refine ⟨by unfold ck_r'; rw [List.length_map], fun i e' x h3 h4 => ?_⟩
    unfold ck_r' at h4
    rw [List.getElem?_map, h3] at h4
    cases h4
    have h5 := List.all_eq_true.mp c1 e' (List.mem_of_getElem? h3)
    exact ⟨by rw [← h1.1]; exact ck_sq_ok h5, rfl⟩
  have hA : ck_Ta ta s (ck_s' ta s) := by
    refine ⟨by unfold ck_s'; rw [List.length_map], fun i c q h3 h4 => ?_⟩
    unfold ck_s' at h4
    rw [List.getElem?_map, h3] at h4
    cases h4
    have h5 := List.all_eq_true.mp c4 c (List.mem_of_getElem? h3)
    cases hc : ck_nc c
    · right
      rw [hc, Bool.false_or] at h5
      refine ⟨fun z => by (rw [z] at hc; cases hc), ?_⟩
      have h6 : c < s.length := by rw [hn]; exact Nat.blt_eq.mp h5
      show s[c]? = some (bif ck_nc c then 999 else s.getD c 0)
      rw [hc, cond_false, List.getD_eq_getElem?_getD, List.getElem?_eq_getElem h6]
      rfl
    · refine Or.inl ⟨ck_beq hc, ?_⟩
      show (bif ck_nc c then 999 else s.getD c 0) = 999
      rw [hc, cond_true]
  refine ⟨hT, hA, ck_bd_ok ⟨h1, h2⟩ hT c2, fun c hc => ?_, fun f hf => ck_mf_ok hF h9 hT hA (List.all_eq_true.mp c5 f hf), by unfold ck_s'; rw [List.length_map]; exact ck_beq c3, ck_mloc_ok hF h9 hT hA c7 hL, ck_mstk_ok hF h9 hT hA c8 hS⟩
  obtain ⟨d1, d2⟩ := Bool.and_eq_true_iff.mp (List.all_eq_true.mp c6 c hc)
  have h3 : ck_Lv (ck_r' th r) c (c.1 + ck_ev (ck_r' th r) c.2) := ⟨by rw [← hT.1]; exact ck_sq_ok d1, rfl⟩
  exact ⟨_, h3, ck_ge_ok d2 h1 h2 (ck_sb_ok hT h3)⟩
