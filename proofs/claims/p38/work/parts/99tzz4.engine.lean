/-! THE WALK FOR WHAT GIVES KINDS TO RAW CELLS ALONE, AND CALLS NO LEMMAS -/
def cn_sR (G : am_G) (S : ck_SS) (pc : Nat) : Prop := ∀ (L : List (Option Value)) (st : List Value) (h : List am_C) (k n q t t' : Nat) (vs : List Value), am_g G h q = some (t, vs) → 1000 ≤ q → t < 1000 → t' % 100 = t % 100 → S pc L st (am_s h q (t', vs)) k n → S pc L st h k n
theorem cn_tR_ok {w : ck_W} (hX : ck_XO w.2.1) (hX0 : ck_X0 w.2.1) {rt : List Nat} (hR : ck_Rt w rt) {S : ck_SS} {pc i t' : Nat} {A B : ck_A} (hs : cn_sR w.1 S pc) (ht : ck_tR w.2.2.1 rt i t' A = some B)
    {r : List Int} {s : List Nat} {L : List (Option Value)} {st : List Value} {h : List am_C} {k n : Nat} (H : ck_Ga w A r s L st h k n) (hK : ∀ h' : List am_C, ck_Ga w B r s L st h' k n → S pc L st h' k n) : S pc L st h k n := by
  obtain ⟨V, C, F, nr, Ls, St, ek, en⟩ := A
  unfold ck_tR at ht
  dsimp only at ht
  obtain ⟨h1, h2, h3, h4, hL, hS, h7, h8, h9⟩ := id H
  split at ht
  · next f hf =>
    obtain ⟨q, vs, g1, g2, g3⟩ := ck_f2_ok h3 hf
    split at ht
    · next d hd =>
      obtain ⟨hc, ht⟩ := ck_bt rfl ht
      cases ht
      simp only [Bool.and_eq_true] at hc
      obtain ⟨⟨⟨c1, c4⟩, ⟨c3, cw⟩, c5⟩, ⟨c2, c7⟩, c6⟩ := hc
      have k2 := ck_le_ok c2 h1 h2 (ck_Lv.k r _) g3
      have k7 := ck_le_ok c7 h1 h2 g3 (ck_Lv.k r _)
      have k4 : f.2.2.2.1 < 1000 := Nat.blt_eq.mp c4
      have k3 : t' < 40000 := Nat.blt_eq.mp c3
      have hq : 1000 ≤ q := (h9.1.2 q _ vs g2).2.2 cw
      have hlt := am_g_lt hq g2
      have hgs : ∀ m, am_g w.1 (am_s h q (t', vs)) m = if m = q then some (t', vs) else am_g w.1 h m := fun m => am_g_s hq hlt
      refine hs L st h k n q _ t' vs g2 hq k4 (ck_beq c1) (hK _ ⟨h1, h2, fun f' hf' => ?_, h4, hL, hS, h7, h8, ?_⟩)
      · obtain ⟨f0, f1, f2⟩ := List.mem_filterMap.mp hf'
        have h0 := h3 f0 f1
        unfold ck_rg at f2
        cases hb : (Nat.beq f0.2.2.2.1 f.2.2.2.1 && (Nat.beq f0.1 2 || (Nat.beq f0.1 3 || (Nat.beq f0.1 8 || Nat.beq f0.1 6))))
        · rw [hb, cond_false] at f2
          cases f2
          by_cases e8 : f'.1 = 2 ∨ f'.1 = 3 ∨ f'.1 = 8 ∨ f'.1 = 6
          · refine h0.heap fun q1 t1 vs1 e1 e2 => ?_
            rw [hgs]
            by_cases e : q1 = q
            · exfalso
              subst e
              rw [g2] at e1
              have e3 : f.2.2.2.1 = t1 := (Prod.mk.inj (Option.some.inj e1)).1
              rw [e2, ← e3] at hb
              rcases e8 with e8 | e8 | e8 | e8 <;> rw [e8] at hb <;> simp at hb
            · rw [if_neg e]
              exact ⟨vs1, e1, rfl, fun _ => rfl, fun _ => rfl⟩
          · unfold ck_fa at h0 ⊢
            split at h0
            · next e => exact absurd (Or.inl e) e8
            · next e => exact absurd (Or.inr (Or.inl e)) e8
            · exact h0
            · exact h0
            · next e => exact absurd (Or.inr (Or.inr (Or.inr e))) e8
            · next e => exact absurd (Or.inr (Or.inr (Or.inl e))) e8
            · exact h0.elim
        · rw [hb, cond_true] at f2
          obtain ⟨f2c, f2⟩ := ck_bt rfl f2
          obtain ⟨b1, b2⟩ := Bool.and_eq_true_iff.mp hb
          obtain ⟨b3, b4⟩ := Bool.and_eq_true_iff.mp f2c
          have b3 := ck_beq b3
          unfold ck_fa at h0
          split at h0
          · next e =>
            obtain ⟨q1, vs1, e1, e2, e3⟩ := h0
            rw [b3, g1] at e1
            cases e1
            rw [g2] at e2
            have e4 := (Prod.mk.inj (Option.some.inj e2)).2
            subst e4
            rw [← f2]
            unfold ck_fa
            dsimp only
            rw [e]
            exact ⟨q, vs, by rw [b3]; exact g1, by rw [hgs, if_pos rfl], e3⟩
          · next e =>
            obtain ⟨q1, vs1, v, e1, e2, e3, e5⟩ := h0
            rw [b3, g1] at e1
            cases e1
            rw [g2] at e2
            have e4 := (Prod.mk.inj (Option.some.inj e2)).2
            subst e4
            rw [← f2]
            unfold ck_fa
            dsimp only
            rw [e]
            exact ⟨q, vs, v, by rw [b3]; exact g1, by rw [hgs, if_pos rfl], e3, e5⟩
          · next e => rw [e] at b2; simp at b2
          · next e => rw [e] at b2; simp at b2
          · next e => rw [e] at b4; simp at b4
          · next e => rw [e] at b4; simp at b4
          · exact h0.elim
      · refine h9.put hX hX0 g2 hq k3 (by omega) rfl (Or.inr k4) (fun g' hE D hD => ?_) ?_
        · rw [hd] at hD
          cases hD
          refine ⟨⟨k2, k7⟩, fun j v hv => ?_⟩
          have hex : ∀ (a b : Nat) (c : List Value), am_g w.1 h a = some (b, c) → 1000 ≤ b → ∃ vs' : List Value, g' a = some (b, vs') ∧ vs'.length = c.length := fun a b c d1 d2 => by obtain ⟨x1, x2, x3, -⟩ := hE a b c d1 d2; exact ⟨x1, x2, x3⟩
          rcases Bool.or_eq_true_iff.mp c6 with c6 | c6
          · unfold ck_allm at c6
            split at c6
            · next N hN =>
              have hlen := ck_ci_ok hN g3
              have hj : j < N := by have := (List.getElem?_eq_some_iff.mp hv).1; omega
              have h6 := List.all_eq_true.mp c6 j (List.mem_range.mpr hj)
              split at h6
              · next m y hm hy =>
                obtain ⟨q1, vs1, v1, e1, e2, e3, e4⟩ := ck_f3_ok h3 hm
                rw [g1] at e1
                cases e1
                rw [g2] at e2
                have e5 := (Prod.mk.inj (Option.some.inj e2)).2
                subst e5
                rw [hv] at e3
                cases e3
                exact ⟨y, hy, (ck_ft_ok h3 ⟨h1, h2⟩ h6 e4).ex hex⟩
              · cases h6
            · cases c6
          · unfold ck_semi at c6
            split at c6
            · next c0 hc0 =>
              obtain ⟨s1, s2⟩ := Bool.and_eq_true_iff.mp c6
              obtain ⟨s1, s3⟩ := Bool.and_eq_true_iff.mp s1
              split at s2
              · next u1 a b u2 a' b' y1 y2 =>
                obtain ⟨y', y3, y4⟩ := ((h9.1.2 q _ vs g2).1 c0 hc0).2 j v hv
                rw [ck_yt_arr s1, y1] at y3
                cases y3
                obtain ⟨x, x1, x2, x3⟩ := y4
                obtain ⟨s4, s5⟩ := Bool.and_eq_true_iff.mp s2
                have s4 := ck_nn_ok s4
                have s5 := ck_nn_ok s5
                have x2 : a ≤ x.toInt := x2
                have x3 : x.toInt ≤ b := x3
                have y5 : ck_ty w.2.2.2.1 g' (1, u2, a', b') v := ⟨x, x1, by show a' ≤ x.toInt; omega, by show x.toInt ≤ b'; omega⟩
                exact ⟨_, by rw [ck_yt_arr s3]; exact y2, y5⟩
              · cases s2
            · cases c6
        · rcases Bool.or_eq_true_iff.mp c5 with c5 | c5
          · exact Or.inr (Or.inl (ck_f5_ok h3 c5 g1))
          · obtain ⟨e1, e2⟩ := Bool.and_eq_true_iff.mp c5
            obtain ⟨t1, e3, e4⟩ := List.any_eq_true.mp e2
            have e4 := ck_beq e4
            rw [← e4] at e3
            obtain ⟨q', e5, e6⟩ := hR _ e3
            obtain ⟨p, hs⟩ := h9.2.2.2.2
            rw [ck_beq e1, hs, ck_get_app e5] at g1
            cases g1
            exact Or.inr (Or.inr e6)
    · cases ht
  · cases ht
/-- all that a method's walk rests on -/
def cn_Ctx (E : ck_E) (w : ck_W) (S : ck_SS) (SX : Nat → ck_SX) (Rc Rs : Nat) (cm : Nat → ck_CM) (re : List Int) (se : List Nat) : Prop :=
  ck_XO w.2.1 ∧ ck_X0 w.2.1 ∧ w.2.2.1 = E.1 ∧ (∀ t, t < 100 → ck_wr w.2.2.1 t = true) ∧ w.2.2.2.2.2.2.2.1 = E.2.2.1.2.2.1 ∧ w.2.2.2.2.2.2.2.2 = ck_rq E.2.2.1.2.2.2.1 se ∧ ck_Rt w E.2.2.1.2.2.2.1 ∧ ck_Rm w E.2.2.1.2.1.1 E.2.2.1.2.1.2 Rc Rs ∧
  (∃ q, w.2.2.2.2.2.1 = re ++ q) ∧ (∃ q, w.2.2.2.2.2.2.1 = se ++ q) ∧ re.length = E.2.2.1.1.1.length ∧ se.length = E.2.2.1.1.2.2.2.1 ∧
  (∀ (i : Nat) (x : ck_Cl), E.2.2.2.2.2.1[i]? = some x → ∀ c ∈ x.2.2, ck_Con (cm i) w.1 w.2.1 w.2.2.1 c) ∧
  (∀ (pc : Nat), ∀ q ∈ ck_at [] pc E.2.2.2.2.2.2.1, ∀ (L : List (Option Value)) (h : List am_C) (k n : Nat), L.length = E.2.2.2.1 → S q.2 ((am_cut L (E.2.2.2.1 - 1)).set (E.2.2.2.1 - 1) none) [] h k n → SX pc q.1 L h k n) ∧
  (∀ (pc : Nat) (Ex : String) (L : List (Option Value)) (h : List am_C) (k n : Nat), (∀ q ∈ ck_at [] pc E.2.2.2.2.2.2.1, q.1 ≠ Ex) → ck_Po w.1 w.2.1 w.2.2.1 w.2.2.2.1 E.2.2.1 re se w.2.2.2.2.1 (.inr Ex) h → k ≤ Rc → n ≤ Rs → SX pc Ex L h k n) ∧
  (∀ pc, cn_sR w.1 S pc) ∧ (∀ (pc : Nat) (L : List (Option Value)) (st : List Value) (h : List am_C) (k n k' n' : Nat), k ≤ k' → n ≤ n' → S pc L st h k' n' → S pc L st h k n) ∧ ck_KT w.1 w.2.2.1 ∧ ck_g5 E = []
theorem cn_Po_x {E : ck_E} {w : ck_W} {S : ck_SS} {SX : Nat → ck_SX} {Rc Rs : Nat} {cm : Nat → ck_CM} {re : List Int} {se : List Nat} (X : cn_Ctx E w S SX Rc Rs cm re se) {r : List Int} {s : List Nat} {h : List am_C} (H : ck_Hp w r s h) {Ex : String} (hE : Ex ∈ E.2.2.1.2.2.2.2.2) : ck_Po w.1 w.2.1 w.2.2.1 w.2.2.2.1 E.2.2.1 re se w.2.2.2.2.1 (.inr Ex) h := by
  obtain ⟨x1, x2, x3, x4, x5, x6, -⟩ := X
  unfold ck_Hp at H
  rw [x5, x6] at H
  exact ⟨H.1, H.2.1, H.2.2.1, hE⟩
set_option maxHeartbeats 4000000 in
theorem cn_op_ok {E : ck_E} {w : ck_W} {S : ck_SS} {SX : Nat → ck_SX} {Rc Rs : Nat} {cm : Nat → ck_CM} {re : List Int} {se : List Nat} (X : cn_Ctx E w S SX Rc Rs cm re se) {pc : Nat} {o : ck_O} (hs : ck_os w.1 S SX (ck_Po w.1 w.2.1 w.2.2.1 w.2.2.2.1 E.2.2.1 re se w.2.2.2.2.1) Rc Rs cm E pc o)
    {A : ck_A} {l : List (Nat × ck_A)} (ht : ck_op E pc o A = some l) (hK : ck_K w S l) {r : List Int} {s : List Nat} {L : List (Option Value)} {st : List Value} {h : List am_C} {k n : Nat} (H : ck_Ga w A r s L st h k n) : S pc L st h k n := by
  obtain ⟨x1, x2, x3, x4, x5, x6, x7, x8, x9, x10, x11, x12, x13, x14, x15, x16, x17, x18, x19⟩ := id X
  obtain ⟨c, f, f2, v, nx, tg, ex⟩ := o
  obtain ⟨T, pr, own, nL, code, cl, hds, gh, cuts⟩ := E
  have x3 : w.2.2.1 = T := x3
  subst x3
  have x5 : w.2.2.2.2.2.2.2.1 = own.2.2.1 := x5
  unfold ck_op at ht
  unfold ck_os at hs
  dsimp only at ht hs
  split at ht
  · exact ck_tK_ok x18 hs ht hK H
  · exact ck_tI_ok hs ht hK H
  · exact ck_tC_ok hs ht hK H
  · cases ht; exact ck_tG_ok hs hK H
  · exact ck_tN_ok hs ht hK H
  · exact ck_tN_ok hs ht hK H
  · exact ck_tS_ok hs ht hK H
  · exact ck_tF_ok hs ht hK H
  · rw [← x5] at ht; exact ck_tU_ok x1 x2 x7 hs ht hK H
  · exact ck_tW_ok x1 x2 x8 hs ht hK H
  · exact ck_tE_ok x1 x2 x8 hs ht hK H
  · exact ck_tL_ok hs ht hK H
  · exact ck_tA_ok hs ht hK H
  · rw [← x5] at ht; exact ck_tB_ok x1 x2 x7 hs ht hK H
  · split at ht
    · next a ha =>
      obtain ⟨hc, ht⟩ := ck_bt rfl ht
      obtain ⟨c1, c2⟩ := Bool.and_eq_true_iff.mp hc
      obtain ⟨h1, h2, h3, h4, hL, hS, h7⟩ := id H
      rw [ha] at hS
      obtain ⟨b1, b2, b3⟩ := ck_ret_ok x8 c2 x5 x9 x10 x6 x11 x12 H
      match st, hS with
      | [u], hS => exact hs L u h k n (ck_sh_ok c1 ⟨h1, h2⟩ hS.1) b1 b2 (b3 (some u) rfl)
      | u :: u' :: st, hS => exact hS.2.elim
    · cases ht
  · split at ht
    · next ha =>
      obtain ⟨hc, ht⟩ := ck_bt rfl ht
      obtain ⟨h1, h2, h3, h4, hL, hS, h7⟩ := id H
      rw [ha] at hS
      obtain ⟨b1, b2, b3⟩ := ck_ret_ok x8 hc x5 x9 x10 x6 x11 x12 H
      match st, hS with
      | [], hS => exact hs L h k n b1 b2 (b3 none rfl)
      | u :: st, hS => exact hS.elim
    · cases ht
  · split at ht
    · next rc na cs hcl =>
      have hs' : ck_sQ w.1 S (SX pc) Rc Rs nL pc nx rc (cm f) na := by rw [hcl] at hs; exact hs
      obtain ⟨c0, hc0, ht⟩ := List.exists_of_findSome?_eq_some ht
      rw [← x5] at ht
      exact ck_tQ_ok x7 x8 hs' (x13 f _ hcl c0 hc0) (fun q hq L h k n hl => x14 pc q hq L h k n hl) (fun Ex hEx r s L h k n hp hk hn hno => x15 pc Ex L h k n hno (cn_Po_x X hp hEx) hk hn) ht hK H
    · cases ht
  · split at ht
    · next Ex hEx =>
      obtain ⟨hc, ht⟩ := ck_bt rfl ht
      have hs' : ck_sZ S (ck_Po w.1 w.2.1 w.2.2.1 w.2.2.2.1 own re se w.2.2.2.2.1) Rc Rs nL pc Ex := by rw [hEx] at hs; exact hs
      obtain ⟨V, C, F, nr, Ls, St, ek, en⟩ := A
      unfold ck_tZ at hc
      dsimp only at hc
      simp only [Bool.and_eq_true] at hc
      obtain ⟨⟨c1, c2⟩, ⟨c3, c4⟩, c5⟩ := hc
      obtain ⟨h1, h2, h3, h4, hL, hS, h7, h8, h9⟩ := id H
      obtain ⟨m1, m2⟩ := x8.at h9
      have b1 := ck_le_ok c3 h1 h2 (h7.add (ck_Lv.k r 1)) m1
      have b2 := ck_le_ok c4 h1 h2 (h8.add (ck_Lv.k r 6)) m2
      have hp := h9.make x1 x2 (t := 99) (vs := []) (by decide) (fun g' d hd => by rw [Option.isNone_iff_eq_none.mp c5] at hd; cases hd)
      exact hs' L st h k n (by rw [hL.1]; exact ck_beq c2) (by rw [ck_cs_ok hS]; exact Nat.le_of_ble_eq_true c1) (by omega) (by omega) (cn_Po_x X hp (List.mem_of_getElem? hEx))
    · cases ht
  · exact ck_tO_ok hs ht hK H
  · exact ck_tT_ok hs ht hK H
  · exact ck_tM_ok x2 hs ht hK H
  · cases ht
theorem cn_gh_ok {E : ck_E} {w : ck_W} {S : ck_SS} {SX : Nat → ck_SX} {Rc Rs : Nat} {cm : Nat → ck_CM} {re : List Int} {se : List Nat} (X : cn_Ctx E w S SX Rc Rs cm re se) {pc : Nat} {g : ck_Gh} {A : ck_A} {l : List (Nat × ck_A)} (ht : ck_gh w.2.2.1 E.2.2.1.2.2.2.1 pc g A = some l) (hK : ck_K w S l)
    {r : List Int} {s : List Nat} {L : List (Option Value)} {st : List Value} {h : List am_C} {k n : Nat} (H : ck_Ga w A r s L st h k n) : S pc L st h k n := by
  obtain ⟨x1, x2, x3, x4, x5, x6, x7, x8, x9, x10, x11, x12, x13, x14, x15, x16, x17, x18, x19⟩ := id X
  obtain ⟨kd, p, u, v, tm⟩ := g
  unfold ck_gh at ht
  dsimp only at ht
  obtain ⟨h1, h2, h3, h4, hL, hS, h7, h8, h9⟩ := id H
  split at ht
  · split at ht
    · next d hd =>
      cases ht
      obtain ⟨x, hx⟩ := ck_sm_ok h3 hL hS hd
      by_cases e : 0 ≤ x
      · exact ck_br_ok hK.l H hS hx e
      · exact ck_br_ok hK.r H hS hx (show x < 0 by omega)
    · cases ht
  · split at ht
    · next B hB =>
      cases ht
      obtain ⟨i, -, hB⟩ := Option.bind_eq_some_iff.mp hB
      exact cn_tR_ok x1 x2 x7 (x16 pc) hB H fun h' H' => hK _ (List.mem_singleton.mpr rfl) r s L st h' k n H'
    · cases ht
  · split at ht
    · split at ht
      · next B hB =>
        cases ht
        exact cn_tR_ok x1 x2 x7 (x16 pc) hB H fun h' H' => hK _ (List.mem_singleton.mpr rfl) r s L st h' k n H'
      · cases ht
    · cases ht
  · split at ht
    · next B hB =>
      cases ht
      obtain ⟨i, -, hB⟩ := Option.bind_eq_some_iff.mp hB
      exact hK _ (List.mem_singleton.mpr rfl) r s L st h k n (ck_t6_ok hB H)
    · cases ht
  · split at ht
    · next B hB =>
      cases ht
      obtain ⟨i, -, hB⟩ := Option.bind_eq_some_iff.mp hB
      obtain ⟨r', s', H'⟩ := ck_tH_ok hB H
      exact hK _ (List.mem_singleton.mpr rfl) r' s' L st h k n H'
    · cases ht
set_option maxHeartbeats 2000000 in
theorem cn_gx_ok {E : ck_E} {w : ck_W} {S : ck_SS} {SX : Nat → ck_SX} {Rc Rs : Nat} {cm : Nat → ck_CM} {re : List Int} {se : List Nat} (X : cn_Ctx E w S SX Rc Rs cm re se) {pc : Nat} {g : ck_Gh} {n9 : Nat} (hg9 : (ck_at [] pc E.2.2.2.2.2.2.2.1)[n9]? = some g) {A : ck_A} {l : List (Nat × ck_A)} (ht : ck_gx E pc g A = some l) (hK : ck_K w S l)
    {r : List Int} {s : List Nat} {L : List (Option Value)} {st : List Value} {h : List am_C} {k n : Nat} (H : ck_Ga w A r s L st h k n) : S pc L st h k n := by
  unfold ck_gx at ht
  cases hg : Nat.beq g.1 5
  · rw [hg, cond_false, ← X.2.2.1] at ht
    exact cn_gh_ok X ht hK H
  · rw [hg, cond_true] at ht
    obtain ⟨x1, x2, x3, x4, x5, x6, x7, x8, x9, x10, x11, x12, x13, x14, x15, x16, x17, x18, x19⟩ := id X
    have hn_ := ck_g5_mem hg9 hg
    rw [x19] at hn_
    cases hn_
theorem cn_cut_ok {E : ck_E} {w : ck_W} {S : ck_SS} {SX : Nat → ck_SX} {Rc Rs : Nat} {cm : Nat → ck_CM} {re : List Int} {se : List Nat} (X : cn_Ctx E w S SX Rc Rs cm re se) {m0 : Option ck_L} {mu : Option Int} (hmu : (m0 = none → mu = none) ∧ ∀ e, m0 = some e → ∃ y, mu = some y ∧ ck_Lv w.2.2.2.2.2.1 e y) (ih : ck_IH E w S re se mu)
    {c : Nat × ck_A × ck_L} (hc : c ∈ E.2.2.2.2.2.2.2.2) {A : ck_A} (ht : ck_cut E m0 c.2.1 c.2.2 A = true) {r : List Int} {s : List Nat} {L : List (Option Value)} {st : List Value} {h : List am_C} {k n : Nat} (H : ck_Ga w A r s L st h k n) : S c.1 L st h k n := by
  obtain ⟨x1, x2, x3, x4, x5, x6, x7, x8, x9, x10, x11, x12, x13, x14, x15, x16, x17, x18, x19⟩ := id X
  obtain ⟨V, C, F, nr, Ls, St, ek, en⟩ := A
  obtain ⟨pc, ⟨V', C', F', mr, Ls', St', ek', en'⟩, m⟩ := c
  unfold ck_cut at ht
  dsimp only at ht
  generalize ck_ug F E.2.2.1.1.1.length E.2.2.1.1.2.2.2.1 V' mr F' Ls' Ls St' St [(ek', ek), (en', en)] = u at ht
  obtain ⟨h1, h2, h3, h4, hL, hS, h7, h8, h9⟩ := id H
  obtain ⟨ht, hm⟩ := Bool.and_eq_true_iff.mp ht
  simp only [Bool.and_eq_true] at ht
  obtain ⟨⟨c1, c2⟩, ⟨c3, c4⟩, c5, c6⟩ := ht
  obtain ⟨g1, g2, g3, g4, g5, g6, g7, g8⟩ := ck_mt_ok c1 h1 h2 h3 h4 hL hS h9.1.1.1
  obtain ⟨q, eq⟩ : ∃ q, r = re ++ q := by
    obtain ⟨q, e1⟩ := h9.2.2.2.1
    obtain ⟨q', e2⟩ := x9
    exact ⟨q' ++ q, by rw [e1, e2, List.append_assoc]⟩
  obtain ⟨p, ep⟩ : ∃ q, s = se ++ q := by
    obtain ⟨q, e1⟩ := h9.2.2.2.2
    obtain ⟨q', e2⟩ := x10
    exact ⟨q' ++ q, by rw [e1, e2, List.append_assoc]⟩
  have e1 := ck_id_ok eq x11
  have e2 := ck_ids_ok ep x12 (Nat.le_of_ble_eq_true c2)
  have e3 : ∃ q, ck_r' (ck_id E.2.2.1.1.1.length ++ u.1.drop E.2.2.1.1.1.length) r = re ++ q := ⟨ck_r' (u.1.drop E.2.2.1.1.1.length) r, by unfold ck_r' at e1 ⊢; rw [List.map_append, e1]⟩
  have e4 : ∃ q, ck_s' (List.range E.2.2.1.1.2.2.2.1 ++ u.2.drop E.2.2.1.1.2.2.2.1) s = se ++ q := ⟨ck_s' (u.2.drop E.2.2.1.1.2.2.2.1) s, by unfold ck_s' at e2 ⊢; rw [List.map_append, e2]⟩
  generalize ck_id E.2.2.1.1.1.length ++ u.1.drop E.2.2.1.1.1.length = th at *
  generalize List.range E.2.2.1.1.2.2.2.1 ++ u.2.drop E.2.2.1.1.2.2.2.1 = ta at *
  have hl : V'.length = th.length := by rw [g3.1, g1.1]
  have hv : ∀ e : ck_L, ck_sq V'.length e = true → ck_Lv (ck_r' th r) e (e.1 + ck_ev (ck_r' th r) e.2) := fun e he => ⟨by rw [← g1.1, ← hl]; exact ck_sq_ok he, rfl⟩
  have k1 := hv _ c3
  have k2 := hv _ c4
  have k3 := ck_le_ok c5 h1 h2 h7 (ck_sb_ok g1 k1)
  have k4 := ck_le_ok c6 h1 h2 h8 (ck_sb_ok g1 k2)
  obtain ⟨k', ek1⟩ : ∃ k' : Nat, ek'.1 + ck_ev (ck_r' th r) ek'.2 = (k' : Int) := ⟨(ek'.1 + ck_ev (ck_r' th r) ek'.2).toNat, by omega⟩
  obtain ⟨n', en1⟩ : ∃ n' : Nat, en'.1 + ck_ev (ck_r' th r) en'.2 = (n' : Int) := ⟨(en'.1 + ck_ev (ck_r' th r) en'.2).toNat, by omega⟩
  rw [ek1] at k1 k3
  rw [en1] at k2 k4
  have hms : ck_sq V'.length m = true := by
    split at hm
    · exact hm
    · exact (Bool.and_eq_true_iff.mp hm).1
  have k5 := hv _ hms
  refine x17 pc L st h k n k' n' (by omega) (by omega) (ih _ hc (ck_r' th r) (ck_s' ta s) L st h k' n' _ e3 e4 ⟨g3, g4, g5, g6, g7, g8, k1, k2, h9.1, h9.2.1, h9.2.2.1, ⟨[], by rw [List.append_nil]; rfl⟩, [], by rw [List.append_nil]; rfl⟩ k5 fun y hy => ?_)
  split at hm
  · next => rw [hmu.1 rfl] at hy; cases hy
  · next e =>
    obtain ⟨y', f1, f2⟩ := hmu.2 e rfl
    rw [f1] at hy
    cases hy
    simp only [Bool.and_eq_true] at hm
    obtain ⟨-, d1, d2⟩ := hm
    have d3 := ck_ge_ok d1 h1 h2 (ck_sb_ok g1 k5)
    obtain ⟨qq, e5⟩ := h9.2.2.2.1
    have d4 := ck_le_ok d2 h1 h2 (ck_sb_ok g1 k5) (((show ck_Lv r e y from by rw [e5]; exact f2.app qq)).sub (ck_Lv.k r 1))
    exact ⟨d3, by omega⟩
theorem cn_go_ok {E : ck_E} {w : ck_W} {S : ck_SS} {SX : Nat → ck_SX} {Rc Rs : Nat} {cm : Nat → ck_CM} {re : List Int} {se : List Nat} (X : cn_Ctx E w S SX Rc Rs cm re se) (hcode : ∀ x ∈ E.2.2.2.2.1, ck_os w.1 S SX (ck_Po w.1 w.2.1 w.2.2.1 w.2.2.2.1 E.2.2.1 re se w.2.2.2.2.1) Rc Rs cm E x.1 x.2)
    {m0 : Option ck_L} {mu : Option Int} (hmu : (m0 = none → mu = none) ∧ ∀ e, m0 = some e → ∃ y, mu = some y ∧ ck_Lv w.2.2.2.2.2.1 e y) (ih : ck_IH E w S re se mu) :
    ∀ (f fl pc : Nat) (A : ck_A), ck_go E m0 f fl pc A = true → ∀ (r : List Int) (s : List Nat) (L : List (Option Value)) (st : List Value) (h : List am_C) (k n : Nat), ck_Ga w A r s L st h k n → S pc L st h k n := by
  intro f
  induction f with
  | zero => intro fl pc A ht; cases ht
  | succ f hf =>
    intro fl pc A ht r s L st h k n H
    unfold ck_go at ht
    cases hb : (Nat.beq fl 0 && E.2.2.2.2.2.2.2.2.any (fun c => Nat.beq c.1 pc))
    · rw [hb, cond_false] at ht
      split at ht
      · next g hg =>
        split at ht
        · next l hl =>
          exact cn_gx_ok X hg hl (fun x hx r s L st h k n H' => hf _ _ _ (List.all_eq_true.mp ht x hx) r s L st h k n H') H
        · cases ht
      · split at ht
        · next l hl =>
          refine cn_op_ok X ?_ hl (fun x hx r s L st h k n H' => hf _ _ _ (List.all_eq_true.mp ht x hx) r s L st h k n H') H
          rcases ck_at_mem (d := ((99, 0, 0, 0, 0, 0, []) : ck_O)) (pc := pc) (l := E.2.2.2.2.1) with e | e
          · exact hcode _ e
          · rw [e] at hl; cases hl
        · cases ht
    · rw [hb, cond_true] at ht
      obtain ⟨c, c1, c2⟩ := List.any_eq_true.mp ht
      obtain ⟨c2, c3⟩ := Bool.and_eq_true_iff.mp c2
      have := cn_cut_ok X hmu ih c1 c3 H
      rw [ck_beq c2] at this
      exact this
theorem cn_Ctx.wa {E : ck_E} {w : ck_W} {S : ck_SS} {SX : Nat → ck_SX} {Rc Rs : Nat} {cm : Nat → ck_CM} {re : List Int} {se : List Nat} (X : cn_Ctx E w S SX Rc Rs cm re se) (hw : w.2.2.2.2.2.1 = re) (hw2 : w.2.2.2.2.2.2.1 = se) {r : List Int} {s : List Nat} (hr : ∃ q, r = re ++ q) (hs : ∃ q, s = se ++ q) : cn_Ctx E (ck_wa w r s) S SX Rc Rs cm re se := by
  obtain ⟨x1, x2, x3, x4, x5, x6, x7, x8, x9, x10, x11, x12, x13, x14, x15, x16, x17, x18, x19⟩ := X
  obtain ⟨q, e1⟩ := hr
  obtain ⟨p, e2⟩ := hs
  refine ⟨x1, x2, x3, x4, x5, x6, fun t ht => ?_, ?_, ⟨q, e1⟩, ⟨p, e2⟩, x11, x12, x13, x14, x15, x16, x17, x18, x19⟩
  · obtain ⟨a, b1, b2⟩ := x7 t ht
    exact ⟨a, by show s[0]? = some a; rw [e2, ← hw2]; exact ck_get_app b1, b2⟩
  · obtain ⟨a, b⟩ := x8
    rw [hw] at a b
    exact ⟨by show ck_Lv r _ _; rw [e1]; exact a.app q, by show ck_Lv r _ _; rw [e1]; exact b.app q⟩
theorem cn_cuts_ok {E : ck_E} {w : ck_W} {S : ck_SS} {SX : Nat → ck_SX} {Rc Rs : Nat} {cm : Nat → ck_CM} {re : List Int} {se : List Nat} (X : cn_Ctx E w S SX Rc Rs cm re se) (hw : w.2.2.2.2.2.1 = re) (hw2 : w.2.2.2.2.2.2.1 = se) (hcode : ∀ x ∈ E.2.2.2.2.1, ck_os w.1 S SX (ck_Po w.1 w.2.1 w.2.2.1 w.2.2.2.1 E.2.2.1 re se w.2.2.2.2.1) Rc Rs cm E x.1 x.2)
    {f : Nat} (hg : (E.2.2.2.2.2.2.2.2.all fun c => ck_go E (some c.2.2) f 1 c.1 c.2.1) = true) : ∀ (N : Nat) (y : Int), y < (N : Int) → ck_IH E w S re se (some (y + 1)) := by
  intro N
  induction N with
  | zero =>
    intro y hy c hc r s L st h k n x _ _ _ _ hx
    have := hx _ rfl
    omega
  | succ N hN =>
    intro y hy c hc r s L st h k n x hr hs H hx hlt
    have h1 := hlt _ rfl
    have X' := X.wa hw hw2 hr hs
    refine cn_go_ok (w := ck_wa w r s) X' hcode (m0 := some c.2.2) (mu := some x) ⟨fun z => (nomatch z), fun e he => by cases he; exact ⟨x, rfl, hx⟩⟩ ?_ f 1 c.1 c.2.1 (List.all_eq_true.mp hg c hc) r s L st h k n H
    intro c' hc' r' s' L' st' h' k' n' x' hr' hs' H' hx' hlt'
    have h2 := hlt' _ rfl
    exact hN (x - 1) (by omega) c' hc' r' s' L' st' h' k' n' x' hr' hs' H' hx' (fun z hz => by cases hz; omega)
theorem cn_all_ok {E : ck_E} {w : ck_W} {S : ck_SS} {SX : Nat → ck_SX} {Rc Rs : Nat} {cm : Nat → ck_CM} {re : List Int} {se : List Nat} (X : cn_Ctx E w S SX Rc Rs cm re se) (hw : w.2.2.2.2.2.1 = re) (hw2 : w.2.2.2.2.2.2.1 = se) (hcode : ∀ x ∈ E.2.2.2.2.1, ck_os w.1 S SX (ck_Po w.1 w.2.1 w.2.2.1 w.2.2.2.1 E.2.2.1 re se w.2.2.2.2.1) Rc Rs cm E x.1 x.2)
    {f pc : Nat} {A : ck_A} (hg : (E.2.2.2.2.2.2.2.2.all fun c => ck_go E (some c.2.2) f 1 c.1 c.2.1) = true) (h0 : ck_go E none f 0 pc A = true) {r : List Int} {s : List Nat} {L : List (Option Value)} {st : List Value} {h : List am_C} {k n : Nat} (H : ck_Ga w A r s L st h k n) : S pc L st h k n := by
  refine cn_go_ok X hcode (m0 := none) (mu := none) ⟨fun _ => rfl, fun e he => (nomatch he)⟩ ?_ f 0 pc A h0 r s L st h k n H
  intro c hc r' s' L' st' h' k' n' x hr hs H' hx _
  by_cases e : 0 ≤ x
  · exact cn_cuts_ok X hw hw2 hcode hg (x.toNat + 1) x (by omega) c hc r' s' L' st' h' k' n' x hr hs H' hx (fun z hz => by cases hz; omega)
  · -- a measure below 0: the walk from the stop goes to stops of measure 0 and above alone, below it: to none
    have X' := X.wa hw hw2 hr hs
    refine cn_go_ok (w := ck_wa w r' s') X' hcode (m0 := some c.2.2) (mu := some x) ⟨fun z => (nomatch z), fun e he => by cases he; exact ⟨x, rfl, hx⟩⟩ ?_ f 1 c.1 c.2.1 (List.all_eq_true.mp hg c hc) r' s' L' st' h' k' n' H'
    intro c' hc' r2 s2 L2 st2 h2 k2 n2 x2 _ _ _ _ hlt
    have := hlt _ rfl
    omega
