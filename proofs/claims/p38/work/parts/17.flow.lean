/-! STEPS: pure ones, and those that go elsewhere. S is closed under the instruction (ck_s..); what is known goes to the places behind it -/
abbrev ck_SS : Type := Nat → List (Option Value) → List Value → List am_C → Nat → Nat → Prop
def ck_K (w : ck_W) (S : ck_SS) (l : List (Nat × ck_A)) : Prop := ∀ x ∈ l, ∀ (r : List Int) (s : List Nat) (L : List (Option Value)) (st : List Value) (h : List am_C) (k n : Nat), ck_Ga w x.2 r s L st h k n → S x.1 L st h k n
def ck_sP (S : ck_SS) (pc nx c a : Nat) (v : Int) : Prop := ∀ (L : List (Option Value)) (st : List Value) (L' : List (Option Value)) (st' : List Value) (h : List am_C) (k n : Nat), ck_cf c a v L st = some (L', st') → S nx L' st' h k n → S pc L st h k n
def ck_tP (nx c a : Nat) (v : Int) (A : ck_A) : Option (List (Nat × ck_A)) :=
  match A with
  | (V, C, F, nr, Ls, St, ek, en) => match c, St with
    | 21, (2, _, f) :: (2, _, e) :: St => some [(nx, (V ++ [(-1, 1)], C, (4, V.length, 0, 0, (0, 0, ck_sub e f)) :: F, nr, Ls, (1, 0, ck_x V.length) :: St, ek, en))]
    | c, St => match ck_ap c a v (V, C) Ls St with
      | some (Ls', St', none) => some [(nx, (V, C, F, nr, Ls', St', ek, en))]
      | some (Ls', St', some (kd, (some e, _))) => some [(nx, (V, C, F, nr, Ls', (kd, 0, e) :: St', ek, en))]
      | some (Ls', St', some (kd, (none, lo, hi, D))) => some [(nx, (V ++ [(lo, hi)], D ++ C, F, nr, Ls', (kd, 0, ck_x V.length) :: St', ek, en))]
      | none => bif Nat.beq c 9 then (match Ls[a]? with
        | some (1, _, _) => some [(nx, (V ++ [(-2147483648, 2147483647)], C, F, nr, ck_p1 Ls a (1, 0, ck_x V.length), St, ek, en))]
        | _ => none) else none
theorem ck_Ga.ok {w : ck_W} {A : ck_A} {r : List Int} {s : List Nat} {L : List (Option Value)} {st : List Value} {h : List am_C} {k n : Nat} (H : ck_Ga w A r s L st h k n) : ck_ok (A.1, A.2.1) r := ⟨H.1, H.2.1⟩
theorem ck_Ga.frame {w : ck_W} {V : ck_I} {C : List ck_L} {F : List ck_F} {nr : Nat} {Ls St : List ck_V} {k n : Nat} {ek en : ck_L} {r : List Int} {s : List Nat} {L : List (Option Value)} {st : List Value} {h : List am_C}
    (H : ck_Ga w (V, C, F, nr, Ls, St, ek, en) r s L st h k n) {Ls' St' : List ck_V} {L' : List (Option Value)} {st' : List Value} (hL : ck_loc r s Ls' L') (hS : ck_stk r s St' st') : ck_Ga w (V, C, F, nr, Ls', St', ek, en) r s L' st' h k n := by
  obtain ⟨h1, h2, h3, h4, -, -, h7⟩ := H
  exact ⟨h1, h2, h3, h4, hL, hS, h7⟩
theorem ck_Ga.re {w : ck_W} {V : ck_I} {C : List ck_L} {F : List ck_F} {nr : Nat} {Ls St : List ck_V} {k n : Nat} {ek en : ck_L} {r : List Int} {s : List Nat} {L : List (Option Value)} {st : List Value} {h : List am_C}
    (H : ck_Ga w (V, C, F, nr, Ls, St, ek, en) r s L st h k n) {Q : ck_Q} (hQ : ck_ok Q r) : ck_Ga w (Q.1, Q.2, F, nr, Ls, St, ek, en) r s L st h k n := by
  obtain ⟨-, -, h3⟩ := H
  exact ⟨hQ.1, hQ.2, h3⟩
theorem ck_cmp_ok (x y : Int64) : (-1 ≤ (lg_cmp x y).toInt ∧ (lg_cmp x y).toInt ≤ 1) ∧ ((lg_cmp x y).toInt < 0 ↔ x.toInt - y.toInt < 0) ∧ (0 < (lg_cmp x y).toInt ↔ 0 < x.toInt - y.toInt) := by
  unfold lg_cmp
  by_cases h1 : x > y
  · rw [if_pos h1]
    have h2 := Int64.lt_iff_toInt_lt.mp h1
    refine ⟨by decide, ⟨fun z => absurd z (by decide), fun z => by omega⟩, ⟨fun _ => by omega, fun _ => by decide⟩⟩
  · rw [if_neg h1]
    have h2 : ¬ y.toInt < x.toInt := fun z => h1 (Int64.lt_iff_toInt_lt.mpr z)
    by_cases h3 : x = y
    · rw [if_pos h3]
      have h4 : x.toInt = y.toInt := by rw [h3]
      refine ⟨by decide, ⟨fun z => absurd z (by decide), fun z => by omega⟩, ⟨fun z => absurd z (by decide), fun z => by omega⟩⟩
    · rw [if_neg h3]
      have h4 : x.toInt ≠ y.toInt := fun z => h3 (Int64.toInt_inj.mp z)
      refine ⟨by decide, ⟨fun _ => by omega, fun _ => by decide⟩, ⟨fun z => absurd z (by decide), fun z => by omega⟩⟩
theorem ck_tP_ok {w : ck_W} {S : ck_SS} {pc nx c a : Nat} {v : Int} {A : ck_A} {l : List (Nat × ck_A)} (hs : ck_sP S pc nx c a v) (ht : ck_tP nx c a v A = some l) (hK : ck_K w S l)
    {r : List Int} {s : List Nat} {L : List (Option Value)} {st : List Value} {h : List am_C} {k n : Nat} (H : ck_Ga w A r s L st h k n) : S pc L st h k n := by
  obtain ⟨V, C, F, nr, Ls, St, ek, en⟩ := A
  obtain ⟨h1, h2, h3, h4, hL, hS, h7⟩ := id H
  unfold ck_tP at ht
  dsimp only at ht
  split at ht
  · cases ht
    match st, hS with
    | u1 :: u2 :: st, hS =>
      obtain ⟨y, rfl, g1⟩ := hS.1.long rfl
      obtain ⟨x, rfl, g2⟩ := hS.2.1.long rfl
      refine hs L _ L _ h k n rfl (hK _ (List.mem_singleton.mpr rfl) (r ++ [(lg_cmp x y).toInt]) (s ++ []) L _ h k n ?_)
      have hc := ck_cmp_ok x y
      have hv : (r ++ [(lg_cmp x y).toInt])[V.length]? = some (lg_cmp x y).toInt := by rw [h1.1, List.getElem?_append_right (Nat.le_refl _)]; simp
      refine ck_Ga.more H (C2 := []) (F2 := [(4, V.length, 0, 0, (0, 0, ck_sub _ _))]) (m := 0) (ck_In.one hc.1.1 hc.1.2) (fun c hc => (nomatch hc)) (fun f hf => ?_) rfl (hL.app _ _) ⟨⟨_, rfl, ck_Lv.x hv⟩, hS.2.2.app _ _⟩
      rw [List.mem_singleton] at hf
      rw [hf]
      exact ⟨_, _, hv, (g2.sub g1).app _, hc.2⟩
  · split at ht
    · next Ls' St' e =>
      cases ht
      rcases ck_ap_ok e H.ok hL hS with ⟨-, L', st', e1, e2, e3⟩ | ⟨kd, R, w1, z, st', e1, -⟩
      · exact hs L st L' st' h k n e1 (hK _ (List.mem_singleton.mpr rfl) r s L' st' h k n (H.frame e2 e3))
      · cases e1
    · next Ls' St' kd f u e =>
      cases ht
      rcases ck_ap_ok e H.ok hL hS with ⟨e1, -⟩ | ⟨kd', R, w1, z, st', e1, e0, e2, e3, e4, e5⟩
      · cases e1
      · cases e1
        rw [e0] at hK
        exact hs L st L _ h k n e2 (hK _ (List.mem_singleton.mpr rfl) r s L _ h k n (H.frame hL ⟨e3.av e4 s, e5⟩))
    · next Ls' St' kd lo hi D e =>
      cases ht
      rcases ck_ap_ok e H.ok hL hS with ⟨e1, -⟩ | ⟨kd', R, w1, z, st', e1, e0, e2, e3, e4, e5⟩
      · cases e1
      · cases e1
        rw [e0] at hK
        refine hs L st L _ h k n e2 (hK _ (List.mem_singleton.mpr rfl) (r ++ [z]) (s ++ []) L _ h k n ?_)
        have hv : (r ++ [z])[V.length]? = some z := by rw [h1.1, List.getElem?_append_right (Nat.le_refl _)]; simp
        refine ck_Ga.more H (F2 := []) (m := 0) (ck_In.one e4.1 e4.2.1) e4.2.2 (fun f hf => (nomatch hf)) rfl (hL.app _ _) ⟨e3.av (ck_Lv.x hv) _, e5.app _ _⟩
    · cases hc : Nat.beq c 9
      · rw [hc] at ht; cases ht
      · rw [hc, cond_true] at ht
        have hc := ck_beq hc
        split at ht
        · next i0 e0 hx =>
          cases ht
          obtain ⟨w1, g1, g2⟩ := hL.at hx (show (1 : Nat) ≠ 0 by decide)
          obtain ⟨y, rfl, -⟩ := g2.int rfl
          have hi := ck_i32 (y + Int32.ofInt v)
          unfold ck_M32 at hi
          have hv : (r ++ [(y + Int32.ofInt v).toInt])[V.length]? = some (y + Int32.ofInt v).toInt := by rw [h1.1, List.getElem?_append_right (Nat.le_refl _)]; simp
          refine hs L st (am_put1 L a (.int (y + Int32.ofInt v))) st h k n ?_ (hK _ (List.mem_singleton.mpr rfl) (r ++ [(y + Int32.ofInt v).toInt]) (s ++ []) _ _ h k n ?_)
          · rw [hc]
            simp only [ck_cf, g1]
          · exact ck_Ga.more H (C2 := []) (F2 := []) (m := 0) (ck_In.one (by omega) (by omega)) ck_Co.nil (fun f hf => (nomatch hf)) rfl ((hL.app _ _).p1 a ⟨_, rfl, ck_Lv.x hv⟩) (hS.app _ _)
        · cases ht
-- branches
/-- a comparison's result stands for what was compared -/
def ck_rs (F : List ck_F) (e : ck_L) : ck_L := match e with
  | (0, [(1, c)]) => match F.find? (fun f => Nat.beq f.1 4 && (Nat.beq f.2.1 c && Nat.beq f.2.2.1 0)) with
    | some f => f.2.2.2.2.2.2
    | none => e
  | _ => e
theorem ck_rs_ok {g : ck_g} {z : Nat} {r : List Int} {s : List Nat} {F : List ck_F} (hF : ∀ f ∈ F, ck_fa g z r s f) {e : ck_L} {x : Int} (he : ck_Lv r e x) : ∃ y : Int, ck_Lv r (ck_rs F e) y ∧ (x < 0 ↔ y < 0) ∧ (0 < x ↔ 0 < y) := by
  unfold ck_rs
  split
  · next c =>
    split
    · next f hf =>
      have h1 := List.find?_some hf
      obtain ⟨h2, h3⟩ := Bool.and_eq_true_iff.mp h1
      obtain ⟨h3, h30⟩ := Bool.and_eq_true_iff.mp h3
      have h4 := hF f (List.mem_of_find?_eq_some hf)
      unfold ck_fa at h4
      rw [ck_beq h2] at h4
      have h4 : ck_f4 r f := h4
      unfold ck_f4 at h4
      rw [ck_beq h30] at h4
      obtain ⟨x', d, h5, h6, h7⟩ := h4
      rw [ck_beq h3] at h5
      have h8 := he.fn (ck_Lv.x h5)
      rw [h8]
      exact ⟨d, h6, h7⟩
    · exact ⟨x, he, Iff.rfl, Iff.rfl⟩
  · exact ⟨x, he, Iff.rfl, Iff.rfl⟩
theorem ck_cv_sign {c : Nat} {x y : Int} (h1 : x < 0 ↔ y < 0) (h2 : 0 < x ↔ 0 < y) : ck_cv c x ↔ ck_cv c y := by
  match c with
  | 0 => show x = 0 ↔ y = 0; omega
  | 1 => show x ≠ 0 ↔ y ≠ 0; omega
  | 2 => exact h1
  | 3 => show 0 ≤ x ↔ 0 ≤ y; omega
  | 4 => exact h2
  | 5 => show x ≤ 0 ↔ y ≤ 0; omega
  | n + 6 => exact Iff.rfl
/-- the other way -/
def ck_cn (c : Nat) : Nat := match c with
  | 0 => 1
  | 1 => 0
  | 2 => 3
  | 3 => 2
  | 4 => 5
  | 5 => 4
  | _ => 6
theorem ck_cn_ok {c : Nat} {x : Int} (h : ¬ ck_cv c x) : ck_cv (ck_cn c) x := by
  match c with
  | 0 => exact h
  | 1 => show x = 0; have h : ¬ x ≠ 0 := h; omega
  | 2 => show 0 ≤ x; have h : ¬ x < 0 := h; omega
  | 3 => show x < 0; have h : ¬ 0 ≤ x := h; omega
  | 4 => show x ≤ 0; have h : ¬ 0 < x := h; omega
  | 5 => show 0 < x; have h : ¬ x ≤ 0 := h; omega
  | n + 6 => trivial
/-- what is known, if d compares so with 0 -/
def ck_br (A : ck_A) (St : List ck_V) (c : Nat) (d : ck_L) (to : Nat) : List (Nat × ck_A) := match A with
  | (V, C, F, nr, Ls, _, ek, en) => match ck_cd c (V, C) d with
    | some Q => [(to, (Q.1, Q.2, F, nr, Ls, St, ek, en))]
    | none => []
theorem ck_br_ok {w : ck_W} {S : ck_SS} {A : ck_A} {St : List ck_V} {c : Nat} {d : ck_L} {to : Nat} (hK : ck_K w S (ck_br A St c d to)) {r : List Int} {s : List Nat} {L : List (Option Value)} {st st' : List Value} {h : List am_C} {k n : Nat} (H : ck_Ga w A r s L st h k n) (hS : ck_stk r s St st') {x : Int} (hd : ck_Lv r d x) (hc : ck_cv c x) : S to L st' h k n := by
  obtain ⟨V, C, F, nr, Ls, St0, ek, en⟩ := A
  obtain ⟨h1, h2, h3, h4, hL, hS0, h7⟩ := id H
  obtain ⟨Q, e1, e2⟩ := ck_cd_ok H.ok hd hc
  unfold ck_br at hK
  dsimp only at hK
  rw [e1] at hK
  exact hK _ (List.mem_singleton.mpr rfl) r s L st' h k n ((H.frame hL hS).re e2)
theorem ck_K.l {w : ck_W} {S : ck_SS} {a b : List (Nat × ck_A)} (h : ck_K w S (a ++ b)) : ck_K w S a := fun x hx => h x (List.mem_append_left _ hx)
theorem ck_K.r {w : ck_W} {S : ck_SS} {a b : List (Nat × ck_A)} (h : ck_K w S (a ++ b)) : ck_K w S b := fun x hx => h x (List.mem_append_right _ hx)
def ck_sI (S : ck_SS) (pc nx c tgt : Nat) : Prop := ∀ (L : List (Option Value)) (x : Int32) (st : List Value) (h : List am_C) (k n : Nat), (ck_cv c x.toInt → S tgt L st h k n) → (¬ ck_cv c x.toInt → S nx L st h k n) → S pc L (.int x :: st) h k n
def ck_tI (nx c tgt : Nat) (A : ck_A) : Option (List (Nat × ck_A)) := match A.2.2.2.2.2.1 with
  | (1, _, e) :: St => some (ck_br A St c (ck_rs A.2.2.1 e) tgt ++ ck_br A St (ck_cn c) (ck_rs A.2.2.1 e) nx)
  | _ => none
theorem ck_tI_ok {w : ck_W} {S : ck_SS} {pc nx c tgt : Nat} {A : ck_A} {l : List (Nat × ck_A)} (hs : ck_sI S pc nx c tgt) (ht : ck_tI nx c tgt A = some l) (hK : ck_K w S l)
    {r : List Int} {s : List Nat} {L : List (Option Value)} {st : List Value} {h : List am_C} {k n : Nat} (H : ck_Ga w A r s L st h k n) : S pc L st h k n := by
  unfold ck_tI at ht
  obtain ⟨h1, h2, h3, h4, hL, hS, h7⟩ := id H
  split at ht
  · next i e St heq =>
    cases ht
    rw [heq] at hS
    match st, hS with
    | u :: st, hS =>
      obtain ⟨x, rfl, g1⟩ := hS.1.int rfl
      obtain ⟨y, g2, g3, g4⟩ := ck_rs_ok h3 g1
      have g5 := ck_cv_sign (c := c) g3 g4
      exact hs L x st h k n (fun z => ck_br_ok hK.l H hS.2 g2 (g5.mp z)) (fun z => ck_br_ok hK.r H hS.2 g2 (ck_cn_ok fun z' => z (g5.mpr z')))
  · cases ht
def ck_sC (S : ck_SS) (pc nx c tgt : Nat) : Prop := ∀ (L : List (Option Value)) (x y : Int32) (st : List Value) (h : List am_C) (k n : Nat), (ck_cv c (x.toInt - y.toInt) → S tgt L st h k n) → (¬ ck_cv c (x.toInt - y.toInt) → S nx L st h k n) → S pc L (.int y :: .int x :: st) h k n
def ck_tC (nx c tgt : Nat) (A : ck_A) : Option (List (Nat × ck_A)) := match A.2.2.2.2.2.1 with
  | (1, _, f) :: (1, _, e) :: St => some (ck_br A St c (ck_sub e f) tgt ++ ck_br A St (ck_cn c) (ck_sub e f) nx)
  | _ => none
theorem ck_tC_ok {w : ck_W} {S : ck_SS} {pc nx c tgt : Nat} {A : ck_A} {l : List (Nat × ck_A)} (hs : ck_sC S pc nx c tgt) (ht : ck_tC nx c tgt A = some l) (hK : ck_K w S l)
    {r : List Int} {s : List Nat} {L : List (Option Value)} {st : List Value} {h : List am_C} {k n : Nat} (H : ck_Ga w A r s L st h k n) : S pc L st h k n := by
  unfold ck_tC at ht
  obtain ⟨h1, h2, h3, h4, hL, hS, h7⟩ := id H
  split at ht
  · next i f j e St heq =>
    cases ht
    rw [heq] at hS
    match st, hS with
    | u :: u' :: st, hS =>
      obtain ⟨y, rfl, g1⟩ := hS.1.int rfl
      obtain ⟨x, rfl, g2⟩ := hS.2.1.int rfl
      exact hs L x y st h k n (fun z => ck_br_ok hK.l H hS.2.2 (g2.sub g1) z) (fun z => ck_br_ok hK.r H hS.2.2 (g2.sub g1) (ck_cn_ok z))
  · cases ht
def ck_sG (S : ck_SS) (pc tgt : Nat) : Prop := ∀ (L : List (Option Value)) (st : List Value) (h : List am_C) (k n : Nat), S tgt L st h k n → S pc L st h k n
theorem ck_tG_ok {w : ck_W} {S : ck_SS} {pc tgt : Nat} {A : ck_A} (hs : ck_sG S pc tgt) (hK : ck_K w S [(tgt, A)])
    {r : List Int} {s : List Nat} {L : List (Option Value)} {st : List Value} {h : List am_C} {k n : Nat} (H : ck_Ga w A r s L st h k n) : S pc L st h k n := hs L st h k n (hK _ (List.mem_singleton.mpr rfl) r s L st h k n H)
-- null or not
def ck_nu (i : Nat) (b : ck_V) (a : ck_V) : ck_V := bif Nat.beq a.1 7 && Nat.beq a.2.1 i then b else a
def ck_nf (i : Nat) (b : ck_V) (f : ck_F) : ck_F := bif Nat.beq f.1 3 then (3, f.2.1, f.2.2.1, f.2.2.2.1, ck_nu i b f.2.2.2.2) else f
/-- the reference i is not null: 8 becomes 2 -/
def ck_n8 (i : Nat) (f : ck_F) : ck_F := bif Nat.beq f.1 8 && Nat.beq f.2.1 i then (2, f.2) else f
def ck_sN (S : ck_SS) (pc tn tr : Nat) : Prop := ∀ (L : List (Option Value)) (st : List Value) (h : List am_C) (k n : Nat), (S tn L st h k n → S pc L (.null :: st) h k n) ∧ ∀ q : Nat, S tr L st h k n → S pc L (.ref q :: st) h k n
def ck_tN (tn tr : Nat) (A : ck_A) : Option (List (Nat × ck_A)) := match A with
  | (V, C, F, nr, Ls, a :: St, ek, en) => match a.1 with
    | 3 => some [(tr, (V, C, F, nr, Ls, St, ek, en))]
    | 4 => some [(tn, (V, C, F, nr, Ls, St, ek, en))]
    | 6 => some [(tr, (V, C, F, nr, Ls, St, ek, en))]
    | 7 => some [(tr, (V, C, F.map fun f => ck_n8 a.2.1 (ck_nf a.2.1 (3, a.2.1, (0, [])) f), nr, Ls.map (ck_nu a.2.1 (3, a.2.1, (0, []))), St.map (ck_nu a.2.1 (3, a.2.1, (0, []))), ek, en)),
        (tn, (V, C, F.map (ck_nf a.2.1 (4, 0, (0, []))), nr, Ls.map (ck_nu a.2.1 (4, 0, (0, []))), St.map (ck_nu a.2.1 (4, 0, (0, []))), ek, en))]
    | _ => none
  | _ => none
theorem ck_nu_ok {r : List Int} {s : List Nat} {i : Nat} {b a : ck_V} {v : Value} (h : ck_av r s a v) (hb : ∀ q, s[i]? = some q → ck_av r s b (ck_rv q)) : ck_av r s (ck_nu i b a) v := by
  unfold ck_nu
  cases hc : (Nat.beq a.1 7 && Nat.beq a.2.1 i)
  · exact h
  · rw [cond_true]
    obtain ⟨h1, h2⟩ := Bool.and_eq_true_iff.mp hc
    unfold ck_av at h
    rw [ck_beq h1, ck_beq h2] at h
    obtain ⟨q, h3, h4⟩ := h
    rw [h4]
    exact hb q h3
theorem ck_nf_ok {g : ck_g} {z : Nat} {r : List Int} {s : List Nat} {i : Nat} {b : ck_V} {f : ck_F} (h : ck_fa g z r s f) (hb : ∀ q, s[i]? = some q → ck_av r s b (ck_rv q)) : ck_fa g z r s (ck_nf i b f) := by
  unfold ck_nf
  cases hc : Nat.beq f.1 3
  · exact h
  · rw [cond_true]
    unfold ck_fa at h
    rw [ck_beq hc] at h
    obtain ⟨q, vs, v, h1, h2, h3, h4⟩ := h
    exact ⟨q, vs, v, h1, h2, h3, ck_nu_ok h4 hb⟩
theorem ck_n8_ok {g : ck_g} {z : Nat} {r : List Int} {s : List Nat} {i : Nat} {f : ck_F} (h : ck_fa g z r s f) (hb : ∀ q, s[i]? = some q → q ≠ 999) : ck_fa g z r s (ck_n8 i f) := by
  unfold ck_n8
  cases hc : (Nat.beq f.1 8 && Nat.beq f.2.1 i)
  · exact h
  · rw [cond_true]
    obtain ⟨h1, h2⟩ := Bool.and_eq_true_iff.mp hc
    unfold ck_fa at h
    rw [ck_beq h1] at h
    obtain ⟨q, h3, h4⟩ := h
    rcases h4 with h4 | ⟨vs, h4, h5⟩
    · exact absurd h4 (hb q (by rw [← ck_beq h2]; exact h3))
    · exact ⟨q, vs, h3, h4, h5⟩
theorem ck_nl_ok {r : List Int} {s : List Nat} {i : Nat} {b : ck_V} {A : List ck_V} {L : List (Option Value)} (h : ck_loc r s A L) (hb : ∀ q, s[i]? = some q → ck_av r s b (ck_rv q)) : ck_loc r s (A.map (ck_nu i b)) L := by
  refine ⟨by rw [List.length_map]; exact h.1, fun j a ha => ?_⟩
  rw [List.getElem?_map] at ha
  cases hj : A[j]? with
  | none => rw [hj] at ha; cases ha
  | some a0 =>
    rw [hj] at ha
    cases ha
    rcases h.2 j a0 hj with e | ⟨v, e1, e2⟩
    · left
      unfold ck_nu
      cases hc : (Nat.beq a0.1 7 && Nat.beq a0.2.1 i)
      · exact e
      · obtain ⟨h1, -⟩ := Bool.and_eq_true_iff.mp hc
        rw [ck_beq h1] at e
        cases e
    · exact Or.inr ⟨v, e1, ck_nu_ok e2 hb⟩
theorem ck_ns_ok {r : List Int} {s : List Nat} {i : Nat} {b : ck_V} {A : List ck_V} {st : List Value} (h : ck_stk r s A st) (hb : ∀ q, s[i]? = some q → ck_av r s b (ck_rv q)) : ck_stk r s (A.map (ck_nu i b)) st := by
  induction A generalizing st with
  | nil => exact h
  | cons a A ih => cases st with
    | nil => exact h.elim
    | cons v st => exact ⟨ck_nu_ok h.1 hb, ih h.2⟩
theorem ck_Ga.facts {w : ck_W} {V : ck_I} {C : List ck_L} {F : List ck_F} {nr : Nat} {Ls St : List ck_V} {k n : Nat} {ek en : ck_L} {r : List Int} {s : List Nat} {L : List (Option Value)} {st : List Value} {h : List am_C}
    (H : ck_Ga w (V, C, F, nr, Ls, St, ek, en) r s L st h k n) {F' : List ck_F} {Ls' St' : List ck_V} {st' : List Value} (hF : ∀ f ∈ F', ck_fa (am_g w.1 h) (ck_z w) r s f) (hL : ck_loc r s Ls' L) (hS : ck_stk r s St' st') : ck_Ga w (V, C, F', nr, Ls', St', ek, en) r s L st' h k n := by
  obtain ⟨h1, h2, -, h4, -, -, h7⟩ := H
  exact ⟨h1, h2, hF, h4, hL, hS, h7⟩
theorem ck_tN_ok {w : ck_W} {S : ck_SS} {pc tn tr : Nat} {A : ck_A} {l : List (Nat × ck_A)} (hs : ck_sN S pc tn tr) (ht : ck_tN tn tr A = some l) (hK : ck_K w S l)
    {r : List Int} {s : List Nat} {L : List (Option Value)} {st : List Value} {h : List am_C} {k n : Nat} (H : ck_Ga w A r s L st h k n) : S pc L st h k n := by
  obtain ⟨V, C, F, nr, Ls, St, ek, en⟩ := A
  unfold ck_tN at ht
  obtain ⟨h1, h2, h3, h4, hL, hS, h7⟩ := id H
  split at ht
  · next V C F nr Ls a St ek en heq =>
    cases heq
    match st, hS with
    | u :: st, hS =>
      have ha := hS.1
      unfold ck_av at ha
      split at ht
      · next e =>
        cases ht
        rw [e] at ha
        obtain ⟨q, g1, rfl⟩ := ha
        exact (hs L st h k n).2 q (hK _ (List.mem_singleton.mpr rfl) r s L st h k n (H.frame hL hS.2))
      · next e =>
        cases ht
        rw [e] at ha
        have ha : u = .null := ha
        subst ha
        exact (hs L st h k n).1 (hK _ (List.mem_singleton.mpr rfl) r s L st h k n (H.frame hL hS.2))
      · next e =>
        cases ht
        rw [e] at ha
        obtain ⟨q, rfl⟩ := ha
        exact (hs L st h k n).2 q (hK _ (List.mem_singleton.mpr rfl) r s L st h k n (H.frame hL hS.2))
      · next e =>
        cases ht
        rw [e] at ha
        obtain ⟨q, g1, g2⟩ := ha
        by_cases hq : q = 999
        · have hb : ∀ q', s[a.2.1]? = some q' → ck_av r s (4, 0, (0, [])) (ck_rv q') := fun q' hq' => by
            rw [g1] at hq'
            cases hq'
            unfold ck_rv
            rw [if_pos hq]
            rfl
          have g3 : u = .null := by rw [g2]; unfold ck_rv; rw [if_pos hq]
          subst g3
          refine (hs L st h k n).1 (hK _ (List.mem_cons_of_mem _ (List.mem_singleton.mpr rfl)) r s L st h k n (H.facts (fun f hf => ?_) (ck_nl_ok hL hb) (ck_ns_ok hS.2 hb)))
          obtain ⟨f0, hf0, e0⟩ := List.mem_map.mp hf
          rw [← e0]
          exact ck_nf_ok (h3 f0 hf0) hb
        · have hb : ∀ q', s[a.2.1]? = some q' → ck_av r s (3, a.2.1, (0, [])) (ck_rv q') := fun q' hq' => by
            rw [g1] at hq'
            cases hq'
            unfold ck_rv
            rw [if_neg hq]
            exact ⟨q, g1, rfl⟩
          have g3 : u = .ref q := by rw [g2]; unfold ck_rv; rw [if_neg hq]
          subst g3
          refine (hs L st h k n).2 q (hK _ List.mem_cons_self r s L st h k n (H.facts (fun f hf => ?_) (ck_nl_ok hL hb) (ck_ns_ok hS.2 hb)))
          obtain ⟨f0, hf0, e0⟩ := List.mem_map.mp hf
          rw [← e0]
          exact ck_n8_ok (ck_nf_ok (h3 f0 hf0) hb) (fun q' hq' => by rw [g1] at hq'; cases hq'; exact hq)
      · cases ht
  · cases ht
-- switches: cases (number, place), else the place d
def ck_sS (S : ck_SS) (pc d : Nat) (m : List (Int × Nat)) : Prop := ∀ (L : List (Option Value)) (x : Int32) (st : List Value) (h : List am_C) (k n : Nat), (∀ e ∈ m, x.toInt = e.1 → S e.2 L st h k n) → ((∀ e ∈ m, x.toInt ≠ e.1) → S d L st h k n) → S pc L (.int x :: st) h k n
/-- none of the cases -/
def ck_ans (Q : ck_Q) (e : ck_L) : List (Int × Nat) → Option ck_Q
  | [] => some Q
  | c :: u => match ck_an Q (ck_sub e (ck_k c.1)) with
    | some Q' => ck_ans Q' e u
    | none => none
theorem ck_ans_ok {e : ck_L} {r : List Int} {x : Int} (he : ck_Lv r e x) : ∀ {m : List (Int × Nat)} {Q : ck_Q}, ck_ok Q r → (∀ c ∈ m, x ≠ c.1) → ∃ Q' : ck_Q, ck_ans Q e m = some Q' ∧ ck_ok Q' r := by
  intro m
  induction m with
  | nil => intro Q h _; exact ⟨Q, rfl, h⟩
  | cons c u ih =>
    intro Q h hc
    have h0 := hc c List.mem_cons_self
    obtain ⟨Q1, e1, e2⟩ := ck_an_ok h (he.sub (ck_Lv.k r c.1)) (by omega)
    obtain ⟨Q2, e3, e4⟩ := ih e2 (fun d hd => hc d (List.mem_cons_of_mem _ hd))
    exact ⟨Q2, by unfold ck_ans; rw [e1]; exact e3, e4⟩
def ck_dfl (A : ck_A) (St : List ck_V) (e : ck_L) (m : List (Int × Nat)) (d : Nat) : List (Nat × ck_A) := match A with
  | (V, C, F, nr, Ls, _, ek, en) => match ck_ans (V, C) e m with
    | some Q => [(d, (Q.1, Q.2, F, nr, Ls, St, ek, en))]
    | none => []
theorem ck_dfl_ok {w : ck_W} {S : ck_SS} {A : ck_A} {St : List ck_V} {e : ck_L} {m : List (Int × Nat)} {d : Nat} (hK : ck_K w S (ck_dfl A St e m d)) {r : List Int} {s : List Nat} {L : List (Option Value)} {st st' : List Value} {h : List am_C} {k n : Nat} (H : ck_Ga w A r s L st h k n) (hS : ck_stk r s St st') {x : Int} (he : ck_Lv r e x) (hc : ∀ c ∈ m, x ≠ c.1) : S d L st' h k n := by
  obtain ⟨V, C, F, nr, Ls, St0, ek, en⟩ := A
  obtain ⟨h1, h2, h3, h4, hL, hS0, h7⟩ := id H
  obtain ⟨Q, e1, e2⟩ := ck_ans_ok he H.ok hc
  unfold ck_dfl at hK
  dsimp only at hK
  rw [e1] at hK
  exact hK _ (List.mem_singleton.mpr rfl) r s L st' h k n ((H.frame hL hS).re e2)
def ck_tS (d : Nat) (m : List (Int × Nat)) (A : ck_A) : Option (List (Nat × ck_A)) := match A.2.2.2.2.2.1 with
  | (1, _, e) :: St => some (m.flatMap (fun c => ck_br A St 0 (ck_sub e (ck_k c.1)) c.2) ++ ck_dfl A St e m d)
  | _ => none
theorem ck_tS_ok {w : ck_W} {S : ck_SS} {pc d : Nat} {m : List (Int × Nat)} {A : ck_A} {l : List (Nat × ck_A)} (hs : ck_sS S pc d m) (ht : ck_tS d m A = some l) (hK : ck_K w S l)
    {r : List Int} {s : List Nat} {L : List (Option Value)} {st : List Value} {h : List am_C} {k n : Nat} (H : ck_Ga w A r s L st h k n) : S pc L st h k n := by
  unfold ck_tS at ht
  obtain ⟨h1, h2, h3, h4, hL, hS, h7⟩ := id H
  split at ht
  · next i e St heq =>
    cases ht
    rw [heq] at hS
    match st, hS with
    | u :: st, hS =>
      obtain ⟨x, rfl, g1⟩ := hS.1.int rfl
      refine hs L x st h k n (fun c hc hx => ck_br_ok (fun y hy => hK y (List.mem_append_left _ (List.mem_flatMap.mpr ⟨c, hc, hy⟩))) H hS.2 (g1.sub (ck_Lv.k r c.1)) (by show x.toInt - c.1 = 0; omega)) (fun hc => ck_dfl_ok hK.r H hS.2 g1 hc)
  · cases ht
