/-! A WALK THAT KNOWS MORE THAN THE TYPES -/
def cn_S (Iv : Nat → List (Option Value) → List Value → List am_C → Prop) (S : ck_SS) : ck_SS := fun pc L st h k n => Iv pc L st h → S pc L st h k n
/-- what is known is carried on by the instruction -/
def cn_st (G : am_G) (Iv : Nat → List (Option Value) → List Value → List am_C → Prop) (cm cm' : Nat → ck_CM) (pc : Nat) (o : ck_O) : Prop := match o with
  | (c, f, f2, v, nx, tg, ex) => match c with
    | 0 => ∀ (L : List (Option Value)) (st : List Value) (L' : List (Option Value)) (st' : List Value) (h : List am_C), ck_cf f f2 v L st = some (L', st') → Iv pc L st h → Iv nx L' st' h
    | 2 => ∀ (L : List (Option Value)) (x y : Int32) (st : List Value) (h : List am_C), Iv pc L (.int y :: .int x :: st) h → Iv tg L st h ∧ Iv nx L st h
    | 3 => ∀ (L : List (Option Value)) (st : List Value) (h : List am_C), Iv pc L st h → Iv tg L st h
    | 6 => ∀ (L : List (Option Value)) (x : Int32) (st : List Value) (h : List am_C), Iv pc L (.int x :: st) h → (∀ e ∈ ex, x.toInt = e.1 → Iv e.2 L st h) ∧ Iv tg L st h
    | 9 => ∀ (t : Nat) (L : List (Option Value)) (st : List Value) (h : List am_C), t % 100 = f → Iv pc L st h → Iv nx L (.ref (1000 + h.length) :: st) (h ++ [(t, (ex.map fun q => q.2).map ck_d0)])
    | 11 => ∀ (L : List (Option Value)) (st : List Value) (h : List am_C) (q t : Nat) (vs : List Value), am_g G h q = some (t, vs) → Iv pc L (.ref q :: st) h → Iv nx L (.int (Int32.ofNat vs.length) :: st) h
    | 12 => ∀ (L : List (Option Value)) (st : List Value) (h : List am_C) (q t : Nat) (x : Int32) (vs : List Value) (v : Value), am_g G h q = some (t, vs) → vs[x.toInt.toNat]? = some v → Iv pc L (.int x :: .ref q :: st) h → Iv nx L (v :: st) h
    | 14 => True
    | 16 => ∀ (a : List Value) (L : List (Option Value)) (st : List Value) (h : List am_C) (mc ms : Nat) (P : am_O → List am_C → Prop), cm' f a h mc ms P → Iv pc L (a.reverse ++ st) h → ∃ P' : am_O → List am_C → Prop, cm f a h mc ms P' ∧ (∀ (v : Option Value) (h' : List am_C), P' (.inl v) h' → P (.inl v) h' ∧ Iv nx L (v.toList ++ st) h') ∧ ∀ (E : String) (h' : List am_C), P' (.inr E) h' → P (.inr E) h'
    | _ => False
set_option maxHeartbeats 1000000 in
theorem cn_lift {G : am_G} {Iv : Nat → List (Option Value) → List Value → List am_C → Prop} {S : ck_SS} {SX : Nat → ck_SX} {P : am_O → List am_C → Prop} {Rc Rs : Nat} {cm cm' : Nat → ck_CM} {E : ck_E} {pc : Nat} {o : ck_O} (h : ck_os G S SX P Rc Rs cm E pc o) (w : cn_st G Iv cm cm' pc o) : ck_os G (cn_S Iv S) SX P Rc Rs cm' E pc o := by
  obtain ⟨c, f, f2, v, nx, tg, ex⟩ := o
  obtain ⟨T, pr, own, nL, code, cl, hds, gh, cuts⟩ := E
  unfold cn_st at w
  unfold ck_os at h ⊢
  dsimp only at h w ⊢
  split at w
  · exact fun L st L' st' h' k n e hk hl => h L st L' st' h' k n e (hk (w _ _ _ _ _ e hl))
  · exact fun L x y st h' k n a b hl => h L x y st h' k n (fun z => a z (w _ _ _ _ _ hl).1) (fun z => b z (w _ _ _ _ _ hl).2)
  · exact fun L st h' k n a hl => h L st h' k n (a (w _ _ _ hl))
  · exact fun L x st h' k n a b hl => h L x st h' k n (fun e he z => a e he z ((w _ _ _ _ hl).1 e he z)) (fun z => b z (w _ _ _ _ hl).2)
  · exact fun t L st h' k n e1 e2 e3 a hl => h t L st h' k n e1 e2 e3 (a (w _ _ _ _ e1 hl))
  · exact fun L st h' k n q t vs e1 e2 e3 a hl => h L st h' k n q t vs e1 e2 e3 (a (w _ _ _ _ _ _ e1 hl))
  · exact fun L st h' k n q t x vs v e1 e2 e3 e4 a hl => h L st h' k n q t x vs v e1 e2 e3 e4 (a (w _ _ _ _ _ _ _ _ e1 e4 hl))
  · exact fun L v h' k n e1 e2 e3 e4 _ => h L v h' k n e1 e2 e3 e4
  · have h_ : (match cl[f]? with
      | some (rc, na, _) => ck_sQ G S (SX pc) Rc Rs nL pc nx rc (cm f) na
      | none => True) := h
    show (match cl[f]? with
      | some (rc, na, _) => ck_sQ G (cn_S Iv S) (SX pc) Rc Rs nL pc nx rc (cm' f) na
      | none => True)
    cases hcl_ : cl[f]? with
    | none => trivial
    | some y_ =>
      obtain ⟨rc_, na_, cs_⟩ := y_
      rw [hcl_] at h_
      have h2_ : ck_sQ G S (SX pc) Rc Rs nL pc nx rc_ (cm f) na_ := h_
      show ck_sQ G (cn_S Iv S) (SX pc) Rc Rs nL pc nx rc_ (cm' f) na_
      intro a L st h' k n mc ms P' hCM e1 e2 e3 e4 e5 e6 kr kx hl
      obtain ⟨P2_, c1_, c2_, c3_⟩ := w a L st h' mc ms P' hCM hl
      exact h2_ a L st h' k n mc ms P2_ c1_ e1 e2 e3 e4 e5 e6 (fun v h2 hp => kr v h2 (c2_ v h2 hp).1 (c2_ v h2 hp).2) (fun Ex h2 hp => kx Ex h2 (c3_ Ex h2 hp))
  · exact w.elim
/-- the comparison of two numbers that are one -/
theorem cn_lift2 {G : am_G} {Iv : Nat → List (Option Value) → List Value → List am_C → Prop} {S : ck_SS} {pc nx tg tg2 : Nat} (h : ck_sC S pc nx 0 tg) (w : ∀ (L : List (Option Value)) (x y : Int32) (st : List Value) (hh : List am_C), Iv pc L (.int y :: .int x :: st) hh → x = y ∧ Iv tg L st hh) : ck_sC (cn_S Iv S) pc tg tg2 tg := by
  intro L x y st h' k n a b hl
  obtain ⟨e_, w_⟩ := w L x y st h' hl
  by_cases c_ : ck_cv tg2 (x.toInt - y.toInt)
  · exact h L x y st h' k n (fun _ => a c_ w_) (fun z => absurd (show ck_cv 0 (x.toInt - y.toInt) from by rw [e_]; show y.toInt - y.toInt = 0; omega) z)
  · exact h L x y st h' k n (fun _ => b c_ w_) (fun z => absurd (show ck_cv 0 (x.toInt - y.toInt) from by rw [e_]; show y.toInt - y.toInt = 0; omega) z)
