/-! CASTS, A MADE CELL GETS ITS KIND; ONE STATE IS FOUND IN ANOTHER ONE'S WORDS -/
def ck_sT (G : am_G) (S : ck_SS) (pc nx : Nat) (m : List Nat) : Prop := ∀ (L : List (Option Value)) (v : Value) (st : List Value) (h : List am_C) (k n : Nat), (v = .null ∨ ∃ (q t : Nat) (vs : List Value), v = .ref q ∧ am_g G h q = some (t, vs) ∧ t % 100 ∈ m) → S nx L (v :: st) h k n → S pc L (v :: st) h k n
def ck_kin (m : List Nat) (o : Option ck_F) : Bool := match o with
  | some f => m.any (Nat.beq (f.2.2.2.1 % 100))
  | none => false
def ck_tT (nx : Nat) (m : List Nat) (A : ck_A) : Option (List (Nat × ck_A)) := match A.2.2.2.2.2.1 with
  | a :: _ => bif Nat.beq a.1 4 || ((Nat.beq a.1 3 && ck_kin m (ck_f2 A.2.2.1 a.2.1)) || (Nat.beq a.1 7 && ck_kin m (ck_f8 A.2.2.1 a.2.1))) then some [(nx, A)] else none
  | _ => none
theorem ck_kin_ok {m : List Nat} {o : Option ck_F} (h : ck_kin m o = true) : ∃ f, o = some f ∧ f.2.2.2.1 % 100 ∈ m := by
  unfold ck_kin at h
  split at h
  · next f =>
    obtain ⟨x, h1, h2⟩ := List.any_eq_true.mp h
    exact ⟨f, rfl, by rw [ck_beq h2]; exact h1⟩
  · cases h
theorem ck_tT_ok {w : ck_W} {S : ck_SS} {pc nx : Nat} {m : List Nat} {A : ck_A} {l : List (Nat × ck_A)} (hs : ck_sT w.1 S pc nx m) (ht : ck_tT nx m A = some l) (hK : ck_K w S l)
    {r : List Int} {s : List Nat} {L : List (Option Value)} {st : List Value} {h : List am_C} {k n : Nat} (H : ck_Ga w A r s L st h k n) : S pc L st h k n := by
  unfold ck_tT at ht
  obtain ⟨h1, h2, h3, h4, hL, hS, h7⟩ := id H
  split at ht
  · next a St heq =>
    obtain ⟨hc, ht⟩ := ck_bt rfl ht
    cases ht
    rw [heq] at hS
    match st, hS with
    | v :: st, hS =>
      refine hs L v st h k n ?_ (hK _ (List.mem_singleton.mpr rfl) r s L _ h k n H)
      have ha := hS.1
      unfold ck_av at ha
      rcases Bool.or_eq_true_iff.mp hc with c | c
      · rw [ck_beq c] at ha; exact Or.inl ha
      · rcases Bool.or_eq_true_iff.mp c with c | c
        · obtain ⟨c1, c2⟩ := Bool.and_eq_true_iff.mp c
          obtain ⟨f, f1, f2⟩ := ck_kin_ok c2
          obtain ⟨q, vs, g1, g2, -⟩ := ck_f2_ok h3 f1
          rw [ck_beq c1] at ha
          obtain ⟨q', a1, a2⟩ := ha
          rw [g1] at a1
          cases a1
          exact Or.inr ⟨q, _, vs, a2, g2, f2⟩
        · obtain ⟨c1, c2⟩ := Bool.and_eq_true_iff.mp c
          obtain ⟨f, f1, f2⟩ := ck_kin_ok c2
          obtain ⟨q, g1, g2⟩ := ck_f8_ok h3 f1
          rw [ck_beq c1] at ha
          obtain ⟨q', a1, a2⟩ := ha
          rw [g1] at a1
          cases a1
          unfold ck_rv at a2
          by_cases e : q = 999
          · rw [if_pos e] at a2; exact Or.inl a2
          · rw [if_neg e] at a2
            obtain ⟨vs, g3, -⟩ := g2.resolve_left e
            exact Or.inr ⟨q, _, vs, a2, g3, f2⟩
  · cases ht
def ck_cs (St : List ck_V) : Nat := match St with
  | [] => 0
  | a :: u => (bif Nat.beq a.1 2 then 2 else 1) + ck_cs u
theorem ck_cs_ok {r : List Int} {s : List Nat} {St : List ck_V} {st : List Value} (h : ck_stk r s St st) : (st.map fun v => v.category).sum = ck_cs St := by
  induction St generalizing st with
  | nil => cases st with
    | nil => rfl
    | cons v st => exact h.elim
  | cons a St ih => cases st with
    | nil => exact h.elim
    | cons v st =>
      rw [List.map_cons, List.sum_cons, ih h.2]
      show _ = (bif Nat.beq a.1 2 then 2 else 1) + ck_cs St
      have ha := h.1
      cases hc : Nat.beq a.1 2
      · have : v.category ≠ 2 := fun e => by rw [h.1.wide e] at hc; cases hc
        have h2 : v.category = 1 ∨ v.category = 2 := by cases v <;> first | exact Or.inl rfl | exact Or.inr rfl
        rw [h2.resolve_right this]
        rfl
      · obtain ⟨x, e, -⟩ := h.1.long (ck_beq hc)
        rw [e]
        rfl
def ck_sO (S : ck_SS) (nL pc nx : Nat) : Prop := ∀ (L : List (Option Value)) (q : Nat) (st : List Value) (h : List am_C) (k n : Nat), L.length = nL → (st.map fun v => v.category).sum ≤ 8 → S nx L st h k n → S pc L (.ref q :: st) h k n
def ck_tO (nL nx : Nat) (A : ck_A) : Option (List (Nat × ck_A)) := match A with
  | (V, C, F, nr, Ls, (3, _, _) :: St, ek, en) => bif Nat.ble (ck_cs St) 8 && Nat.beq Ls.length nL then some [(nx, (V, C, F, nr, Ls, St, ek, en))] else none
  | _ => none
theorem ck_tO_ok {w : ck_W} {S : ck_SS} {nL pc nx : Nat} {A : ck_A} {l : List (Nat × ck_A)} (hs : ck_sO S nL pc nx) (ht : ck_tO nL nx A = some l) (hK : ck_K w S l)
    {r : List Int} {s : List Nat} {L : List (Option Value)} {st : List Value} {h : List am_C} {k n : Nat} (H : ck_Ga w A r s L st h k n) : S pc L st h k n := by
  unfold ck_tO at ht
  split at ht
  · obtain ⟨hc, ht⟩ := ck_bt rfl ht
    cases ht
    obtain ⟨h1, h2, h3, h4, hL, hS, h7⟩ := id H
    match st, hS with
    | v :: st, hS =>
      obtain ⟨q, -, rfl⟩ := hS.1
      obtain ⟨c1, c2⟩ := Bool.and_eq_true_iff.mp hc
      exact hs L q st h k n (by rw [hL.1]; exact ck_beq c2) (by rw [ck_cs_ok hS.2]; exact Nat.le_of_ble_eq_true c1) (hK _ (List.mem_singleton.mpr rfl) r s L st h k n (H.frame hL hS.2))
  · cases ht
-- a made cell gets its kind
def ck_sR (G : am_G) (S : ck_SS) (pc : Nat) : Prop := ∀ (L : List (Option Value)) (st : List Value) (h : List am_C) (k n q t t' : Nat) (vs : List Value), am_g G h q = some (t, vs) → 1000 ≤ q → t' % 100 = t % 100 → S pc L st (am_s h q (t', vs)) k n → S pc L st h k n
def ck_rg (i t t' : Nat) (f : ck_F) : Option ck_F := bif Nat.beq f.2.2.2.1 t && (Nat.beq f.1 2 || (Nat.beq f.1 3 || (Nat.beq f.1 8 || Nat.beq f.1 6))) then (bif Nat.beq f.2.1 i && !(Nat.beq f.1 8 || Nat.beq f.1 6) then some (f.1, f.2.1, f.2.2.1, t', f.2.2.2.2) else none) else some f
def ck_allm (Q : ck_Q) (F : List ck_F) (i : Nat) (d : ck_D) (e : ck_L) : Bool := match ck_ci e with
  | some N => (List.range N).all fun j => (match ck_f3 F i j, ck_yt d j with
    | some m, some y => ck_ft Q F m.2.2.2.2 y
    | _, _ => false)
  | none => false
/-- the same row kind, other bounds of its length -/
def ck_semi (T : ck_TT) (t : Nat) (d : ck_D) : Bool := match ck_lk T t with
  | some c => (Nat.beq (c.1 % 2) 1 && Nat.beq (d.1 % 2) 1) && (match ck_yt c 0, ck_yt d 0 with
    | some (1, _, a, b), some (1, _, a', b') => ck_nn (a - a') && ck_nn (b' - b)
    | _, _ => false)
  | none => false
def ck_tR (T : ck_TT) (rt : List Nat) (i t' : Nat) (A : ck_A) : Option ck_A := match A with
  | (V, C, F, nr, Ls, St, ek, en) => match ck_f2 F i with
    | some f => match ck_lk T t' with
      | some d => bif ((Nat.beq (t' % 100) (f.2.2.2.1 % 100) && Nat.blt f.2.2.2.1 1000) && ((Nat.blt t' 40000 && ck_wr T f.2.2.2.1) && (ck_f5 F i || (Nat.beq i 0 && rt.any (Nat.beq f.2.2.2.1))))) && ((ck_le V C (ck_k d.2.1) f.2.2.2.2.2.2 && ck_le V C f.2.2.2.2.2.2 (ck_k d.2.2.1)) && (ck_allm (V, C) F i d f.2.2.2.2.2.2 || ck_semi T f.2.2.2.1 d)) then some (V, C, F.filterMap (ck_rg i f.2.2.2.1 t'), nr, Ls, St, ek, en) else none
      | none => none
    | none => none
theorem ck_tR_ok {w : ck_W} (hX : ck_XO w.2.1) (hX0 : ck_X0 w.2.1) {rt : List Nat} (hR : ck_Rt w rt) {S : ck_SS} {pc i t' : Nat} {A B : ck_A} (hs : ck_sR w.1 S pc) (ht : ck_tR w.2.2.1 rt i t' A = some B)
    {r : List Int} {s : List Nat} {L : List (Option Value)} {st : List Value} {h : List am_C} {k n : Nat} (H : ck_Ga w A r s L st h k n) (hK : ∀ h' : List am_C, ck_Ga w B r s L st h' k n → S pc L st h' k n) : S pc L st h k n := by
  obtain ⟨V, C, F, nr, Ls, St, ek, en⟩ := A
  unfold ck_tR at ht
  dsimp only at ht
  obtain ⟨h1, h2, h3, h4, hL, hS, h7, h8, h9⟩ := id H
  split at ht
  · next f hf =>
    obtain ⟨q, vs, g1, g2, g3⟩ := ck_f2_ok h3 hf
    split at ht
    · next d hd =>
      obtain ⟨hc, ht⟩ := ck_bt rfl ht
      cases ht
      simp only [Bool.and_eq_true] at hc
      obtain ⟨⟨⟨c1, c4⟩, ⟨c3, cw⟩, c5⟩, ⟨c2, c7⟩, c6⟩ := hc
      have k2 := ck_le_ok c2 h1 h2 (ck_Lv.k r _) g3
      have k7 := ck_le_ok c7 h1 h2 g3 (ck_Lv.k r _)
      have k4 : f.2.2.2.1 < 1000 := Nat.blt_eq.mp c4
      have k3 : t' < 40000 := Nat.blt_eq.mp c3
      have hq : 1000 ≤ q := (h9.1.2 q _ vs g2).2.2 cw
      have hlt := am_g_lt hq g2
      have hgs : ∀ m, am_g w.1 (am_s h q (t', vs)) m = if m = q then some (t', vs) else am_g w.1 h m := fun m => am_g_s hq hlt
      refine hs L st h k n q _ t' vs g2 hq (ck_beq c1) (hK _ ⟨h1, h2, fun f' hf' => ?_, h4, hL, hS, h7, h8, ?_⟩)
      · obtain ⟨f0, f1, f2⟩ := List.mem_filterMap.mp hf'
        have h0 := h3 f0 f1
        unfold ck_rg at f2
        cases hb : (Nat.beq f0.2.2.2.1 f.2.2.2.1 && (Nat.beq f0.1 2 || (Nat.beq f0.1 3 || (Nat.beq f0.1 8 || Nat.beq f0.1 6))))
        · rw [hb, cond_false] at f2
          cases f2
          by_cases e8 : f'.1 = 2 ∨ f'.1 = 3 ∨ f'.1 = 8 ∨ f'.1 = 6
          · refine h0.heap fun q1 t1 vs1 e1 e2 => ?_
            rw [hgs]
            by_cases e : q1 = q
            · exfalso
              subst e
              rw [g2] at e1
              have e3 : f.2.2.2.1 = t1 := (Prod.mk.inj (Option.some.inj e1)).1
              rw [e2, ← e3] at hb
              rcases e8 with e8 | e8 | e8 | e8 <;> rw [e8] at hb <;> simp at hb
            · rw [if_neg e]
              exact ⟨vs1, e1, rfl, fun _ => rfl, fun _ => rfl⟩
          · unfold ck_fa at h0 ⊢
            split at h0
            · next e => exact absurd (Or.inl e) e8
            · next e => exact absurd (Or.inr (Or.inl e)) e8
            · exact h0
            · exact h0
            · next e => exact absurd (Or.inr (Or.inr (Or.inr e))) e8
            · next e => exact absurd (Or.inr (Or.inr (Or.inl e))) e8
            · exact h0.elim
        · rw [hb, cond_true] at f2
          obtain ⟨f2c, f2⟩ := ck_bt rfl f2
          obtain ⟨b1, b2⟩ := Bool.and_eq_true_iff.mp hb
          obtain ⟨b3, b4⟩ := Bool.and_eq_true_iff.mp f2c
          have b3 := ck_beq b3
          unfold ck_fa at h0
          split at h0
          · next e =>
            obtain ⟨q1, vs1, e1, e2, e3⟩ := h0
            rw [b3, g1] at e1
            cases e1
            rw [g2] at e2
            have e4 := (Prod.mk.inj (Option.some.inj e2)).2
            subst e4
            rw [← f2]
            unfold ck_fa
            dsimp only
            rw [e]
            exact ⟨q, vs, by rw [b3]; exact g1, by rw [hgs, if_pos rfl], e3⟩
          · next e =>
            obtain ⟨q1, vs1, v, e1, e2, e3, e5⟩ := h0
            rw [b3, g1] at e1
            cases e1
            rw [g2] at e2
            have e4 := (Prod.mk.inj (Option.some.inj e2)).2
            subst e4
            rw [← f2]
            unfold ck_fa
            dsimp only
            rw [e]
            exact ⟨q, vs, v, by rw [b3]; exact g1, by rw [hgs, if_pos rfl], e3, e5⟩
          · next e => rw [e] at b2; simp at b2
          · next e => rw [e] at b2; simp at b2
          · next e => rw [e] at b4; simp at b4
          · next e => rw [e] at b4; simp at b4
          · exact h0.elim
      · refine h9.put hX hX0 g2 hq k3 (by omega) rfl (Or.inr k4) (fun g' hE D hD => ?_) ?_
        · rw [hd] at hD
          cases hD
          refine ⟨⟨k2, k7⟩, fun j v hv => ?_⟩
          have hex : ∀ (a b : Nat) (c : List Value), am_g w.1 h a = some (b, c) → 1000 ≤ b → ∃ vs' : List Value, g' a = some (b, vs') ∧ vs'.length = c.length := fun a b c d1 d2 => by obtain ⟨x1, x2, x3, -⟩ := hE a b c d1 d2; exact ⟨x1, x2, x3⟩
          rcases Bool.or_eq_true_iff.mp c6 with c6 | c6
          · unfold ck_allm at c6
            split at c6
            · next N hN =>
              have hlen := ck_ci_ok hN g3
              have hj : j < N := by have := (List.getElem?_eq_some_iff.mp hv).1; omega
              have h6 := List.all_eq_true.mp c6 j (List.mem_range.mpr hj)
              split at h6
              · next m y hm hy =>
                obtain ⟨q1, vs1, v1, e1, e2, e3, e4⟩ := ck_f3_ok h3 hm
                rw [g1] at e1
                cases e1
                rw [g2] at e2
                have e5 := (Prod.mk.inj (Option.some.inj e2)).2
                subst e5
                rw [hv] at e3
                cases e3
                exact ⟨y, hy, (ck_ft_ok h3 ⟨h1, h2⟩ h6 e4).ex hex⟩
              · cases h6
            · cases c6
          · unfold ck_semi at c6
            split at c6
            · next c0 hc0 =>
              obtain ⟨s1, s2⟩ := Bool.and_eq_true_iff.mp c6
              obtain ⟨s1, s3⟩ := Bool.and_eq_true_iff.mp s1
              split at s2
              · next u1 a b u2 a' b' y1 y2 =>
                obtain ⟨y', y3, y4⟩ := ((h9.1.2 q _ vs g2).1 c0 hc0).2 j v hv
                rw [ck_yt_arr s1, y1] at y3
                cases y3
                obtain ⟨x, x1, x2, x3⟩ := y4
                obtain ⟨s4, s5⟩ := Bool.and_eq_true_iff.mp s2
                have s4 := ck_nn_ok s4
                have s5 := ck_nn_ok s5
                have x2 : a ≤ x.toInt := x2
                have x3 : x.toInt ≤ b := x3
                have y5 : ck_ty w.2.2.2.1 g' (1, u2, a', b') v := ⟨x, x1, by show a' ≤ x.toInt; omega, by show x.toInt ≤ b'; omega⟩
                exact ⟨_, by rw [ck_yt_arr s3]; exact y2, y5⟩
              · cases s2
            · cases c6
        · rcases Bool.or_eq_true_iff.mp c5 with c5 | c5
          · exact Or.inr (Or.inl (ck_f5_ok h3 c5 g1))
          · obtain ⟨e1, e2⟩ := Bool.and_eq_true_iff.mp c5
            obtain ⟨t1, e3, e4⟩ := List.any_eq_true.mp e2
            have e4 := ck_beq e4
            rw [← e4] at e3
            obtain ⟨q', e5, e6⟩ := hR _ e3
            obtain ⟨p, hs⟩ := h9.2.2.2.2
            rw [ck_beq e1, hs, ck_get_app e5] at g1
            cases g1
            exact Or.inr (Or.inr e6)
    · cases ht
  · cases ht
