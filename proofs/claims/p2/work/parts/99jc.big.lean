section
/-! NUMBERS OF MANY LIMBS -/
/-- limbs of nine digits -/
def sb_d (ls : List Int) : Prop := ls.length = 10 ∧ ∀ x ∈ ls, 0 ≤ x ∧ x ≤ 999999999
theorem sb_d.at {ls : List Int} (h : sb_d ls) {j : Nat} {x : Int} (e : ls[j]? = some x) : 0 ≤ x ∧ x ≤ 999999999 := h.2 x (List.mem_of_getElem? e)
theorem sb_d.get {ls : List Int} (h : sb_d ls) {j : Nat} (hj : j < 10) : ∃ x, ls[j]? = some x ∧ 0 ≤ x ∧ x ≤ 999999999 := by
  have hl := h.1
  have e : ls[j]? = some (ls[j]'(by omega)) := List.getElem?_eq_getElem (by omega)
  exact ⟨_, e, h.at e⟩
def sb_c (t p : Nat) (n sg : Int) : am_C := (t, [.ref p, .int (Int32.ofInt n), .int (Int32.ofInt sg)])
section SBU
variable {G : am_G} {S : ck_SS} {pc nx q t p k m : Nat} {n sg x : Int} {h0 h : List am_C} {L : List (Option Value)} {st : List Value}
theorem sb_U1 (H : ck_sU G S pc nx 7 1 0) (hq : 1000 ≤ q) (hw : hd_w G h0 h q (sb_c t p n sg)) (ht : t % 100 = 7) (kk : ∀ h', hd_w G h0 h' q (sb_c t p x sg) → S nx L st h' k m) : S pc L (.int (Int32.ofInt x) :: .ref q :: st) h k m :=
  H L st h k m q t _ _ hq hw.at ht ⟨_, rfl⟩ (kk _ (hw.tr (hd_w.s hq hw.at)))
theorem sb_U2 (H : ck_sU G S pc nx 7 2 0) (hq : 1000 ≤ q) (hw : hd_w G h0 h q (sb_c t p n sg)) (ht : t % 100 = 7) (kk : ∀ h', hd_w G h0 h' q (sb_c t p n x) → S nx L st h' k m) : S pc L (.int (Int32.ofInt x) :: .ref q :: st) h k m :=
  H L st h k m q t _ _ hq hw.at ht ⟨_, rfl⟩ (kk _ (hw.tr (hd_w.s hq hw.at)))
end SBU
set_option maxHeartbeats 4000000 in
theorem sb_settle_M {l : Launch} {G : am_G} {X : ck_XT} (g : gM l G X) {q p t tp n : Nat} {ls : List Int} {len sg ns : Int} {h : List am_C} (hq : 1000 ≤ q) (hpq : p ≠ q) (hg : am_g G h q = some (sb_c t p len sg)) (ht : t % 100 = 7) (hgp : am_g G h p = some (tp, hd_r ls)) (htp : tp % 100 = 50) (hd : sb_d ls) (hn : hd_pl ls n) {mc ms : Nat} {Post : am_O → List am_C → Prop}
    (hP : ∀ h', hd_w G h h' q (sb_c t p (n : Int) (if n = 0 then 0 else ns)) → Post (.inl none) h') :
    am_M l G yX0_settle (.code yX0_settle prog_2_method_5_code 3 none) 1 20 mc ms [.ref q, .int (Int32.ofInt ns)] h Post := by
  refine gh_yX0_settle_H g (Nat.le_of_ble_eq_true rfl) fun S SX hs hr hw => ?_
  have rv : ∀ x : Int32, ck_fv 0 (.int x) := fun x => ⟨_, rfl⟩
  have fin : ∀ (h1 : List am_C) (i : Int), hd_w G h h1 q (sb_c t p (n : Int) sg) → S 41 [some (.ref q), some (.int (Int32.ofInt ns)), some (.int (Int32.ofInt i))] [] h1 0 0 := by
    intro h1 i hw1
    have hn10 : n ≤ 10 := by have := hn.1; have := hd.1; omega
    by_cases h0 : n = 0
    · have hP := fun h' => hP h'
      rw [if_pos h0] at hP
      subst h0
      refine hs 22 _ rfl _ _ _ _ _ _ _ rfl ?_
      refine hs 23 _ rfl _ _ _ _ _ _ _ rfl ?_
      refine hs 24 _ rfl _ _ _ _ _ _ _ _ _ hw1.at ht rfl ?_
      refine hs 25 _ rfl _ _ _ _ _ _ (fun zq => absurd (hd_c1z (c := 1) (by omega) (by omega) zq) (by omega : ¬ (((0 : Nat) : Int) ≠ 0))) (fun _ => ?_)
      refine hs 26 _ rfl _ _ _ _ _ _ _ rfl ?_
      refine hs 27 _ rfl _ _ _ _ _ ?_
      refine sb_U2 (hs 29 _ rfl) hq hw1 ht fun h2 hw2 => ?_
      exact hs 30 _ rfl _ _ _ _ (Nat.zero_le _) (Nat.zero_le _) (hP _ hw2)
    · have hP := fun h' => hP h'
      rw [if_neg h0] at hP
      refine hs 22 _ rfl _ _ _ _ _ _ _ rfl ?_
      refine hs 23 _ rfl _ _ _ _ _ _ _ rfl ?_
      refine hs 24 _ rfl _ _ _ _ _ _ _ _ _ hw1.at ht rfl ?_
      refine hs 25 _ rfl _ _ _ _ _ _ (fun _ => ?_) (fun zq => absurd (hd_c1t (c := 1) (by omega) (by omega) (by omega : (n : Int) ≠ 0)) zq)
      refine hs 28 _ rfl _ _ _ _ _ _ _ rfl ?_
      refine sb_U2 (hs 29 _ rfl) hq hw1 ht fun h2 hw2 => ?_
      exact hs 30 _ rfl _ _ _ _ (Nat.zero_le _) (Nat.zero_le _) (hP _ hw2)
  have loop : ∀ (m : Nat) (h1 : List am_C), n ≤ m → m ≤ 10 → hd_w G h h1 q (sb_c t p 0 sg) → S 8 [some (.ref q), some (.int (Int32.ofInt ns)), some (.int (Int32.ofInt ((m : Int) - 1)))] [] h1 0 0 := by
    intro m
    induction m with
    | zero =>
      intro h1 hm hm2 hw1
      obtain rfl : n = 0 := by omega
      refine hs 5 _ rfl _ _ _ _ _ _ _ rfl ?_
      refine hs 6 _ rfl _ _ _ _ _ _ (fun _ => ?_) (fun zq => absurd (hd_c1t (c := 2) (by omega) (by omega) (by omega : (((0 : Nat) : Int) - 1) < 0)) zq)
      exact fin h1 _ hw1
    | succ m ih =>
      intro h1 hm hm2 hw1
      obtain ⟨x, x1, x2, x3⟩ := hd.get (j := m) (by omega)
      have hgp1 : am_g G h1 p = some (tp, hd_r ls) := by rw [hw1.ne hpq]; exact hgp
      by_cases e : n = m + 1
      · have hx0 : ¬ x = 0 := fun z => by
          obtain ⟨d, d1, d2⟩ := hn.2.2 (by omega)
          rw [show n - 1 = m by omega, x1] at d1
          cases d1
          exact d2 z
        refine hs 5 _ rfl _ _ _ _ _ _ _ rfl ?_
        refine hs 6 _ rfl _ _ _ _ _ _ (fun zq => absurd (hd_c1z (c := 2) (by omega) (by omega) zq) (by omega : ¬ ((((m + 1 : Nat) : Int) - 1) < 0))) (fun _ => ?_)
        refine hs 7 _ rfl _ _ _ _ _ _ _ rfl ?_
        refine hs 8 _ rfl _ _ _ _ _ _ _ _ _ hw1.at ht rfl ?_
        refine hs 9 _ rfl _ _ _ _ _ _ (fun zq => absurd (hd_c1z (c := 1) (by omega) (by omega) zq) (by omega : ¬ ((0 : Int) ≠ 0))) (fun _ => ?_)
        refine hs 10 _ rfl _ _ _ _ _ _ _ rfl ?_
        refine hs 11 _ rfl _ _ _ _ _ _ _ _ _ hw1.at ht rfl ?_
        refine hs 12 _ rfl _ _ _ _ _ _ _ rfl ?_
        refine hd_A (hs 13 _ rfl) (by decide) (by decide) hgp1 htp (j := m) (by omega) (by omega) x1 ?_
        refine hs 14 _ rfl _ _ _ _ _ _ (fun zq => absurd (hd_c1z (c := 0) (by omega) (by omega) zq) (by omega : ¬ (x = 0))) (fun _ => ?_)
        refine hs 15 _ rfl _ _ _ _ _ _ _ rfl ?_
        refine hs 16 _ rfl _ _ _ _ _ _ _ rfl ?_
        refine hs 17 _ rfl _ _ _ _ _ _ _ rfl ?_
        refine hs 18 _ rfl _ _ _ _ _ _ _ hd_add ?_
        refine sb_U1 (hs 19 _ rfl) hq hw1 ht fun h2 hw2 => ?_
        refine hs 20 _ rfl _ _ _ _ _ _ _ (hd_inc rfl) ?_
        refine hs 21 _ rfl _ _ _ _ _ ?_
        by_cases em : m = 0
        · subst em
          refine hs 5 _ rfl _ _ _ _ _ _ _ rfl ?_
          refine hs 6 _ rfl _ _ _ _ _ _ (fun _ => ?_) (fun zq => absurd (hd_c1t (c := 2) (by omega) (by omega) (by omega : ((((0 : Nat) + 1 : Nat) : Int) - 1 + -1) < 0)) zq)
          refine fin h2 _ ?_
          rw [show (n : Int) = ((((0 : Nat) + 1 : Nat) : Int) - 1 + 1) by omega]
          exact hw2
        · 
          refine hs 5 _ rfl _ _ _ _ _ _ _ rfl ?_
          refine hs 6 _ rfl _ _ _ _ _ _ (fun zq => absurd (hd_c1z (c := 2) (by omega) (by omega) zq) (by omega : ¬ ((((m + 1 : Nat) : Int) - 1 + -1) < 0))) (fun _ => ?_)
          refine hs 7 _ rfl _ _ _ _ _ _ _ rfl ?_
          refine hs 8 _ rfl _ _ _ _ _ _ _ _ _ hw2.at ht rfl ?_
          refine hs 9 _ rfl _ _ _ _ _ _ (fun _ => ?_) (fun zq => absurd (hd_c1t (c := 1) (by omega) (by omega) (by omega : (((m + 1 : Nat) : Int) - 1 + 1) ≠ 0)) zq)
          refine fin h2 _ ?_
          rw [show (n : Int) = (((m + 1 : Nat) : Int) - 1 + 1) by omega]
          exact hw2
      · have hx0 : x = 0 := hn.2.1 m x (by omega) x1
        refine hs 5 _ rfl _ _ _ _ _ _ _ rfl ?_
        refine hs 6 _ rfl _ _ _ _ _ _ (fun zq => absurd (hd_c1z (c := 2) (by omega) (by omega) zq) (by omega : ¬ ((((m + 1 : Nat) : Int) - 1) < 0))) (fun _ => ?_)
        refine hs 7 _ rfl _ _ _ _ _ _ _ rfl ?_
        refine hs 8 _ rfl _ _ _ _ _ _ _ _ _ hw1.at ht rfl ?_
        refine hs 9 _ rfl _ _ _ _ _ _ (fun zq => absurd (hd_c1z (c := 1) (by omega) (by omega) zq) (by omega : ¬ ((0 : Int) ≠ 0))) (fun _ => ?_)
        refine hs 10 _ rfl _ _ _ _ _ _ _ rfl ?_
        refine hs 11 _ rfl _ _ _ _ _ _ _ _ _ hw1.at ht rfl ?_
        refine hs 12 _ rfl _ _ _ _ _ _ _ rfl ?_
        refine hd_A (hs 13 _ rfl) (by decide) (by decide) hgp1 htp (j := m) (by omega) (by omega) x1 ?_
        refine hs 14 _ rfl _ _ _ _ _ _ (fun _ => ?_) (fun zq => absurd (hd_c1t (c := 0) (by omega) (by omega) (by omega : x = 0)) zq)
        refine hs 20 _ rfl _ _ _ _ _ _ _ (hd_inc rfl) ?_
        refine hs 21 _ rfl _ _ _ _ _ ?_
        rw [show ((m + 1 : Nat) : Int) - 1 + -1 = (m : Int) - 1 by omega]
        exact ih h1 (by omega) (by omega) hw1
  refine hs 0 _ rfl _ _ _ _ _ _ _ rfl ?_
  refine hs 1 _ rfl _ _ _ _ _ _ _ rfl ?_
  refine sb_U1 (hs 2 _ rfl) hq (hd_w.rf hg) ht fun h2 hw2 => ?_
  refine hs 3 _ rfl _ _ _ _ _ _ _ rfl ?_
  refine hs 4 _ rfl _ _ _ _ _ _ _ rfl ?_
  exact loop 10 h2 (by have := hn.1; have := hd.1; omega) (Nat.le_refl _) hw2
/-- two cells are written, and nothing else -/
def sb_w (G : am_G) (h h' : List am_C) (q : Nat) (c : am_C) (p : Nat) (d : am_C) : Prop := h'.length = h.length ∧ ∀ x, am_g G h' x = if x = q then some c else if x = p then some d else am_g G h x
theorem sb_w.of {G : am_G} {h h1 h2 : List am_C} {q p : Nat} {c d : am_C} (a : hd_w G h h1 p d) (b : hd_w G h1 h2 q c) : sb_w G h h2 q c p d := ⟨b.1.trans a.1, fun x => by
  rw [b.2 x, a.2 x]⟩
theorem sb_w.of' {G : am_G} {h h1 h2 : List am_C} {q p : Nat} {c d : am_C} (hpq : p ≠ q) (a : hd_w G h h1 q c) (b : hd_w G h1 h2 p d) : sb_w G h h2 q c p d := ⟨b.1.trans a.1, fun x => by
  rw [b.2 x, a.2 x]
  by_cases e : x = q
  · rw [if_pos e, if_neg (fun z => hpq (z.symm.trans e)), if_pos e]
  · rw [if_neg e, if_neg e]⟩
theorem sb_w.q {G : am_G} {h h' : List am_C} {q p : Nat} {c d : am_C} (a : sb_w G h h' q c p d) : am_g G h' q = some c := by rw [a.2 q, if_pos rfl]
theorem sb_w.p {G : am_G} {h h' : List am_C} {q p : Nat} {c d : am_C} (hpq : p ≠ q) (a : sb_w G h h' q c p d) : am_g G h' p = some d := by rw [a.2 p, if_neg hpq, if_pos rfl]
theorem sb_w.ne {G : am_G} {h h' : List am_C} {q p x : Nat} {c d : am_C} (a : sb_w G h h' q c p d) (h1 : x ≠ q) (h2 : x ≠ p) : am_g G h' x = am_g G h x := by rw [a.2 x, if_neg h1, if_neg h2]
theorem sb_w.tq {G : am_G} {h h' h2 : List am_C} {q p : Nat} {c d c' : am_C} (a : sb_w G h h' q c p d) (b : hd_w G h' h2 q c') : sb_w G h h2 q c' p d := ⟨b.1.trans a.1, fun x => by
  rw [b.2 x, a.2 x]
  by_cases e : x = q
  · rw [if_pos e, if_pos e]
  · rw [if_neg e, if_neg e, if_neg e]⟩
theorem sb_w.tp {G : am_G} {h h' h2 : List am_C} {q p : Nat} {c d d' : am_C} (hpq : p ≠ q) (a : sb_w G h h' q c p d) (b : hd_w G h' h2 p d') : sb_w G h h2 q c p d' := ⟨b.1.trans a.1, fun x => by
  rw [b.2 x, a.2 x]
  by_cases e : x = q
  · rw [if_neg (fun z => hpq (z.symm.trans e)), if_pos e, if_pos e]
  · by_cases e2 : x = p
    · rw [if_pos e2, if_neg e, if_pos e2]
    · rw [if_neg e2, if_neg e, if_neg e2, if_neg e, if_neg e2]⟩
theorem sb_w.tr {G : am_G} {h h' h2 : List am_C} {q p : Nat} {c d c' d' : am_C} (a : sb_w G h h' q c p d) (b : sb_w G h' h2 q c' p d') : sb_w G h h2 q c' p d' := ⟨b.1.trans a.1, fun x => by
  rw [b.2 x, a.2 x]
  by_cases e : x = q
  · rw [if_pos e, if_pos e]
  · rw [if_neg e, if_neg e, if_neg e]
    by_cases e2 : x = p
    · rw [if_pos e2, if_pos e2]
    · rw [if_neg e2, if_neg e2, if_neg e2]⟩
def sb_0 : List Int := List.replicate 10 0
set_option maxHeartbeats 4000000 in
theorem sb_clear_M {l : Launch} {G : am_G} {X : ck_XT} (g : gM l G X) {q p t tp : Nat} {ls : List Int} {len sg : Int} {h : List am_C} (hq : 1000 ≤ q) (hp : 1000 ≤ p) (hpq : p ≠ q) (hg : am_g G h q = some (sb_c t p len sg)) (ht : t % 100 = 7) (hgp : am_g G h p = some (tp, hd_r ls)) (htp : tp % 100 = 50) (hl : ls.length = 10) {mc ms : Nat} {Post : am_O → List am_C → Prop}
    (hP : ∀ h', sb_w G h h' q (sb_c t p 0 0) p (tp, hd_r sb_0) → Post (.inl none) h') :
    am_M l G yX0_clear (.code yX0_clear prog_2_method_6_code 2 none) 1 20 mc ms [.ref q] h Post := by
  refine gh_yX0_clear_H g (Nat.le_of_ble_eq_true rfl) fun S SX hs hr hw => ?_
  have loop : ∀ (m k : Nat) (cur : List Int) (h1 : List am_C), k + m = 10 → cur.length = 10 → cur.take k = List.replicate k 0 → hd_w G h h1 p (tp, hd_r cur) → S 2 [some (.ref q), some (.int (Int32.ofInt (k : Int)))] [] h1 0 0 := by
    intro m
    induction m with
    | zero =>
      intro k cur h1 hk hc hz hw1
      obtain rfl : k = 10 := by omega
      have e1 : cur = sb_0 := by rw [List.take_of_length_le (by omega)] at hz; exact hz
      subst e1
      have hg1 : am_g G h1 q = some (sb_c t p len sg) := by rw [hw1.ne (fun z => hpq z.symm)]; exact hg
      refine hs 2 _ rfl _ _ _ _ _ _ _ rfl ?_
      refine hs 3 _ rfl _ _ _ _ _ _ _ rfl ?_
      refine hs 4 _ rfl _ _ _ _ _ _ _ (fun _ => ?_) (fun zq => absurd (hd_c2t (c := 3) (by omega) (by omega) (by omega) (by omega) (by omega : 0 ≤ (((10 : Nat) : Int) - (10 : Int)))) zq)
      refine hs 12 _ rfl _ _ _ _ _ _ _ rfl ?_
      refine hs 13 _ rfl _ _ _ _ _ _ _ rfl ?_
      refine sb_U1 (hs 14 _ rfl) hq (hd_w.rf hg1) ht fun h2 hw2 => ?_
      refine hs 15 _ rfl _ _ _ _ _ _ _ rfl ?_
      refine hs 16 _ rfl _ _ _ _ _ _ _ rfl ?_
      refine sb_U2 (hs 17 _ rfl) hq hw2 ht fun h3 hw3 => ?_
      exact hs 18 _ rfl _ _ _ _ (Nat.zero_le _) (Nat.zero_le _) (hP _ (sb_w.of hw1 hw3))
    | succ m ih =>
      intro k cur h1 hk hc hz hw1
      have hg1 : am_g G h1 q = some (sb_c t p len sg) := by rw [hw1.ne (fun z => hpq z.symm)]; exact hg
      refine hs 2 _ rfl _ _ _ _ _ _ _ rfl ?_
      refine hs 3 _ rfl _ _ _ _ _ _ _ rfl ?_
      refine hs 4 _ rfl _ _ _ _ _ _ _ (fun zq => absurd (hd_c2z (c := 3) (by omega) (by omega) (by omega) (by omega) zq) (by omega : ¬ (0 ≤ ((k : Int) - (10 : Int))))) (fun _ => ?_)
      refine hs 5 _ rfl _ _ _ _ _ _ _ rfl ?_
      refine hs 6 _ rfl _ _ _ _ _ _ _ _ _ hg1 ht rfl ?_
      refine hs 7 _ rfl _ _ _ _ _ _ _ rfl ?_
      refine hs 8 _ rfl _ _ _ _ _ _ _ rfl ?_
      refine hd_B (hs 9 _ rfl) (by decide) (by decide) hp hw1.at htp (j := k) rfl (by omega) (by omega) ?_
      refine hs 10 _ rfl _ _ _ _ _ _ _ (hd_inc rfl) ?_
      refine hs 11 _ rfl _ _ _ _ _ ?_
      refine ih (k + 1) (cur.set k 0) _ (by omega) (by rw [List.length_set]; exact hc) ?_ (hw1.tr (hd_w.s hp hw1.at))
      rw [List.take_add_one, List.getElem?_set_self (by omega), List.take_set_of_le (Nat.le_refl k), hz, List.replicate_succ']
      rfl
  refine hs 0 _ rfl _ _ _ _ _ _ _ rfl ?_
  refine hs 1 _ rfl _ _ _ _ _ _ _ rfl ?_
  exact loop 10 0 ls h (by omega) hl rfl (hd_w.rf hgp)
def sb_v : List Int → Int
  | [] => 0
  | x :: u => x + 1000000000 * sb_v u
def sb_a (ls : List Int) : Prop := ∀ x ∈ ls, 0 ≤ x ∧ x ≤ 999999999
theorem sb_a.nn {ls : List Int} (h : sb_a ls) : 0 ≤ sb_v ls := by
  induction ls with
  | nil => exact Int.le_refl 0
  | cons x u ih =>
    have h1 := h x List.mem_cons_self
    have h2 := ih fun y hy => h y (List.mem_cons_of_mem _ hy)
    show 0 ≤ x + 1000000000 * sb_v u
    omega
theorem sb_less : ∀ {i : Nat} {A B : List Int} {a b : Int}, sb_a A → sb_a B → A[i]? = some a → B[i]? = some b → A.drop (i + 1) = B.drop (i + 1) → a < b → sb_v A < sb_v B := by
  intro i
  induction i with
  | zero =>
    intro A B a b hA hB ha hb he hl
    match A, B, ha, hb with
    | x :: A, y :: B, ha, hb =>
      cases ha; cases hb
      have he : A = B := he
      subst he
      show a + 1000000000 * sb_v A < b + 1000000000 * sb_v A
      omega
  | succ i ih =>
    intro A B a b hA hB ha hb he hl
    match A, B, ha, hb with
    | x :: A, y :: B, ha, hb =>
      have h1 := ih (A := A) (B := B) (fun z hz => hA z (List.mem_cons_of_mem _ hz)) (fun z hz => hB z (List.mem_cons_of_mem _ hz)) ha hb he hl
      have h2 := hA x List.mem_cons_self
      have h3 := hB y List.mem_cons_self
      show x + 1000000000 * sb_v A < y + 1000000000 * sb_v B
      omega
set_option maxHeartbeats 4000000 in
theorem sb_compare_M {l : Launch} {G : am_G} {X : ck_XT} (g : gM l G X) {q p t tp q2 p2 t2 tp2 : Nat} {A B : List Int} {len sg len2 sg2 : Int} {h : List am_C} (hg : am_g G h q = some (sb_c t p len sg)) (ht : t % 100 = 7) (hgp : am_g G h p = some (tp, hd_r A)) (htp : tp % 100 = 50) (hA : sb_d A)
    (hg2 : am_g G h q2 = some (sb_c t2 p2 len2 sg2)) (ht2 : t2 % 100 = 7) (hgp2 : am_g G h p2 = some (tp2, hd_r B)) (htp2 : tp2 % 100 = 50) (hB : sb_d B) {mc ms : Nat} {Post : am_O → List am_C → Prop}
    (hP : ∀ c : Int, (c = -1 ∧ sb_v A < sb_v B) ∨ (c = 1 ∧ sb_v B < sb_v A) ∨ (c = 0 ∧ A = B) → Post (.inl (some (.int (Int32.ofInt c)))) h) :
    am_M l G yX0_compareSize (.code yX0_compareSize prog_2_method_9_code 3 (some .int)) 1 20 mc ms [.ref q, .ref q2] h Post := by
  refine gh_yX0_compareSize_H g (Nat.le_of_ble_eq_true rfl) fun S SX hs hr hw => ?_
  have rv : ∀ x : Int32, ck_fv 0 (.int x) := fun x => ⟨_, rfl⟩
  have loop : ∀ (m : Nat), m ≤ 10 → A.drop m = B.drop m → S 3 [some (.ref q), some (.ref q2), some (.int (Int32.ofInt ((m : Int) - 1)))] [] h 0 0 := by
    intro m
    induction m with
    | zero =>
      intro hm he
      have hP := hP 0 (Or.inr (Or.inr ⟨rfl, he⟩))
      refine hs 2 _ rfl _ _ _ _ _ _ _ rfl ?_
      refine hs 3 _ rfl _ _ _ _ _ _ (fun _ => ?_) (fun zq => absurd (hd_c1t (c := 2) (by omega) (by omega) (by omega : (((0 : Nat) : Int) - 1) < 0)) zq)
      refine hs 28 _ rfl _ _ _ _ _ _ _ rfl ?_
      exact hs 29 _ rfl _ _ _ _ _ (rv _) (Nat.zero_le _) (Nat.zero_le _) hP
    | succ m ih =>
      intro hm he
      obtain ⟨a, a1, a2, a3⟩ := hA.get (j := m) (by omega)
      obtain ⟨b, b1, b2, b3⟩ := hB.get (j := m) (by omega)
      by_cases e : a = b
      · subst e
        refine hs 2 _ rfl _ _ _ _ _ _ _ rfl ?_
        refine hs 3 _ rfl _ _ _ _ _ _ (fun zq => absurd (hd_c1z (c := 2) (by omega) (by omega) zq) (by omega : ¬ ((((m + 1 : Nat) : Int) - 1) < 0))) (fun _ => ?_)
        refine hs 4 _ rfl _ _ _ _ _ _ _ rfl ?_
        refine hs 5 _ rfl _ _ _ _ _ _ _ _ _ hg ht rfl ?_
        refine hs 6 _ rfl _ _ _ _ _ _ _ rfl ?_
        refine hd_A (hs 7 _ rfl) (by decide) (by decide) hgp htp (j := m) (by omega) (by omega) a1 ?_
        refine hs 8 _ rfl _ _ _ _ _ _ _ rfl ?_
        refine hs 9 _ rfl _ _ _ _ _ _ _ _ _ hg2 ht2 rfl ?_
        refine hs 10 _ rfl _ _ _ _ _ _ _ rfl ?_
        refine hd_A (hs 11 _ rfl) (by decide) (by decide) hgp2 htp2 (j := m) (by omega) (by omega) b1 ?_
        refine hs 12 _ rfl _ _ _ _ _ _ _ (fun _ => ?_) (fun zq => absurd (hd_c2t (c := 0) (by omega) (by omega) (by omega) (by omega) (by omega : (a - a) = 0)) zq)
        refine hs 26 _ rfl _ _ _ _ _ _ _ (hd_inc rfl) ?_
        refine hs 27 _ rfl _ _ _ _ _ ?_
        rw [show ((m + 1 : Nat) : Int) - 1 + -1 = (m : Int) - 1 by omega]
        refine ih (by omega) ?_
        rw [List.drop_eq_getElem_cons (by have := hA.1; omega), List.drop_eq_getElem_cons (l := B) (by have := hB.1; omega), he, Option.some.inj ((List.getElem?_eq_getElem _).symm.trans a1), Option.some.inj ((List.getElem?_eq_getElem _).symm.trans b1)]
      · by_cases hab : a < b
        · have hP := hP (-1) (Or.inl ⟨rfl, sb_less hA.2 hB.2 a1 b1 he hab⟩)
          refine hs 2 _ rfl _ _ _ _ _ _ _ rfl ?_
          refine hs 3 _ rfl _ _ _ _ _ _ (fun zq => absurd (hd_c1z (c := 2) (by omega) (by omega) zq) (by omega : ¬ ((((m + 1 : Nat) : Int) - 1) < 0))) (fun _ => ?_)
          refine hs 4 _ rfl _ _ _ _ _ _ _ rfl ?_
          refine hs 5 _ rfl _ _ _ _ _ _ _ _ _ hg ht rfl ?_
          refine hs 6 _ rfl _ _ _ _ _ _ _ rfl ?_
          refine hd_A (hs 7 _ rfl) (by decide) (by decide) hgp htp (j := m) (by omega) (by omega) a1 ?_
          refine hs 8 _ rfl _ _ _ _ _ _ _ rfl ?_
          refine hs 9 _ rfl _ _ _ _ _ _ _ _ _ hg2 ht2 rfl ?_
          refine hs 10 _ rfl _ _ _ _ _ _ _ rfl ?_
          refine hd_A (hs 11 _ rfl) (by decide) (by decide) hgp2 htp2 (j := m) (by omega) (by omega) b1 ?_
          refine hs 12 _ rfl _ _ _ _ _ _ _ (fun zq => absurd (hd_c2z (c := 0) (by omega) (by omega) (by omega) (by omega) zq) (by omega : ¬ ((a - b) = 0))) (fun _ => ?_)
          refine hs 13 _ rfl _ _ _ _ _ _ _ rfl ?_
          refine hs 14 _ rfl _ _ _ _ _ _ _ _ _ hg ht rfl ?_
          refine hs 15 _ rfl _ _ _ _ _ _ _ rfl ?_
          refine hd_A (hs 16 _ rfl) (by decide) (by decide) hgp htp (j := m) (by omega) (by omega) a1 ?_
          refine hs 17 _ rfl _ _ _ _ _ _ _ rfl ?_
          refine hs 18 _ rfl _ _ _ _ _ _ _ _ _ hg2 ht2 rfl ?_
          refine hs 19 _ rfl _ _ _ _ _ _ _ rfl ?_
          refine hd_A (hs 20 _ rfl) (by decide) (by decide) hgp2 htp2 (j := m) (by omega) (by omega) b1 ?_
          refine hs 21 _ rfl _ _ _ _ _ _ _ (fun zq => absurd (hd_c2z (c := 3) (by omega) (by omega) (by omega) (by omega) zq) (by omega : ¬ (0 ≤ (a - b)))) (fun _ => ?_)
          refine hs 22 _ rfl _ _ _ _ _ _ _ rfl ?_
          refine hs 23 _ rfl _ _ _ _ _ ?_
          exact hs 25 _ rfl _ _ _ _ _ (rv _) (Nat.zero_le _) (Nat.zero_le _) hP
        · have hP := hP 1 (Or.inr (Or.inl ⟨rfl, sb_less hB.2 hA.2 b1 a1 he.symm (by omega)⟩))
          refine hs 2 _ rfl _ _ _ _ _ _ _ rfl ?_
          refine hs 3 _ rfl _ _ _ _ _ _ (fun zq => absurd (hd_c1z (c := 2) (by omega) (by omega) zq) (by omega : ¬ ((((m + 1 : Nat) : Int) - 1) < 0))) (fun _ => ?_)
          refine hs 4 _ rfl _ _ _ _ _ _ _ rfl ?_
          refine hs 5 _ rfl _ _ _ _ _ _ _ _ _ hg ht rfl ?_
          refine hs 6 _ rfl _ _ _ _ _ _ _ rfl ?_
          refine hd_A (hs 7 _ rfl) (by decide) (by decide) hgp htp (j := m) (by omega) (by omega) a1 ?_
          refine hs 8 _ rfl _ _ _ _ _ _ _ rfl ?_
          refine hs 9 _ rfl _ _ _ _ _ _ _ _ _ hg2 ht2 rfl ?_
          refine hs 10 _ rfl _ _ _ _ _ _ _ rfl ?_
          refine hd_A (hs 11 _ rfl) (by decide) (by decide) hgp2 htp2 (j := m) (by omega) (by omega) b1 ?_
          refine hs 12 _ rfl _ _ _ _ _ _ _ (fun zq => absurd (hd_c2z (c := 0) (by omega) (by omega) (by omega) (by omega) zq) (by omega : ¬ ((a - b) = 0))) (fun _ => ?_)
          refine hs 13 _ rfl _ _ _ _ _ _ _ rfl ?_
          refine hs 14 _ rfl _ _ _ _ _ _ _ _ _ hg ht rfl ?_
          refine hs 15 _ rfl _ _ _ _ _ _ _ rfl ?_
          refine hd_A (hs 16 _ rfl) (by decide) (by decide) hgp htp (j := m) (by omega) (by omega) a1 ?_
          refine hs 17 _ rfl _ _ _ _ _ _ _ rfl ?_
          refine hs 18 _ rfl _ _ _ _ _ _ _ _ _ hg2 ht2 rfl ?_
          refine hs 19 _ rfl _ _ _ _ _ _ _ rfl ?_
          refine hd_A (hs 20 _ rfl) (by decide) (by decide) hgp2 htp2 (j := m) (by omega) (by omega) b1 ?_
          refine hs 21 _ rfl _ _ _ _ _ _ _ (fun _ => ?_) (fun zq => absurd (hd_c2t (c := 3) (by omega) (by omega) (by omega) (by omega) (by omega : 0 ≤ (a - b))) zq)
          refine hs 24 _ rfl _ _ _ _ _ _ _ rfl ?_
          exact hs 25 _ rfl _ _ _ _ _ (rv _) (Nat.zero_le _) (Nat.zero_le _) hP
  refine hs 0 _ rfl _ _ _ _ _ _ _ rfl ?_
  refine hs 1 _ rfl _ _ _ _ _ _ _ rfl ?_
  refine loop 10 (Nat.le_refl _) ?_
  rw [List.drop_eq_nil_of_le (by have := hA.1; omega), List.drop_eq_nil_of_le (by have := hB.1; omega)]
def sb_join (f : Int) : Int → List Int → List Int → List Int
  | c, x :: A, y :: B => (x + f * y + c) % 1000000000 :: sb_join f ((x + f * y + c) / 1000000000) A B
  | _, _, _ => []
theorem sb_f {f x y c : Int} (hf : f = 1 ∨ f = -1) (hx : 0 ≤ x ∧ x ≤ 999999999) (hy : 0 ≤ y ∧ y ≤ 999999999) (hc : -1 ≤ c ∧ c ≤ 1) : (-1000000000 ≤ x + f * y + c ∧ x + f * y + c ≤ 1999999999) ∧ (-1 ≤ (x + f * y + c) / 1000000000 ∧ (x + f * y + c) / 1000000000 ≤ 1) ∧ -999999999 ≤ f * y ∧ f * y ≤ 999999999 := by
  rcases hf with rfl | rfl <;> omega
set_option maxHeartbeats 4000000 in
theorem sb_join_M {l : Launch} {G : am_G} {X : ck_XT} (g : gM l G X) {q p t tp qa pa ta tpa qb pb tb tpb : Nat} {ls A B : List Int} {f len sg lena sga lenb sgb : Int} {h : List am_C} (hq : 1000 ≤ q) (hp : 1000 ≤ p) (hpq : p ≠ q) (hg : am_g G h q = some (sb_c t p len sg)) (ht : t % 100 = 7) (hgp : am_g G h p = some (tp, hd_r ls)) (htp : tp % 100 = 50) (hl : ls.length = 10)
    (hga : am_g G h qa = some (sb_c ta pa lena sga)) (hta : ta % 100 = 7) (hgpa : am_g G h pa = some (tpa, hd_r A)) (htpa : tpa % 100 = 50) (hA : sb_d A) (hga2 : pa = p → A = ls) (hqa : p ≠ qa)
    (hgb : am_g G h qb = some (sb_c tb pb lenb sgb)) (htb : tb % 100 = 7) (hgpb : am_g G h pb = some (tpb, hd_r B)) (htpb : tpb % 100 = 50) (hB : sb_d B) (hgb2 : pb = p → B = ls) (hqb : p ≠ qb) (hf : f = 1 ∨ f = -1) {mc ms : Nat} {Post : am_O → List am_C → Prop}
    (hP : ∀ h', hd_w G h h' p (tp, hd_r (sb_join f 0 A B)) → Post (.inl none) h') :
    am_M l G yX0_joinSizes (.code yX0_joinSizes prog_2_method_11_code 7 none) 2 42 mc ms [.ref q, .ref qa, .ref qb, .int (Int32.ofInt f)] h Post := by
  refine gh_yX0_joinSizes_H g (Nat.le_of_ble_eq_true rfl) fun S SX hs hr hw => ?_
  have loop : ∀ (m k : Nat) (c : Int) (dn : List Int) (h1 : List am_C) (w : Option Value), k + m = 10 → dn.length = k → (-1 ≤ c ∧ c ≤ 1) → sb_join f 0 A B = dn ++ sb_join f c (A.drop k) (B.drop k) → hd_w G h h1 p (tp, hd_r (dn ++ ls.drop k)) → S 6 [some (.ref q), some (.ref qa), some (.ref qb), some (.int (Int32.ofInt f)), some (.int (Int32.ofInt c)), some (.int (Int32.ofInt (k : Int))), w] [] h1 0 0 := by
    intro m
    induction m with
    | zero =>
      intro k c dn h1 w hk hdn hc hj hw1
      obtain rfl : k = 10 := by omega
      have e1 : sb_join f 0 A B = dn ++ ls.drop 10 := by
        rw [hj, List.drop_eq_nil_of_le (as := A) (by have := hA.1; omega), List.drop_eq_nil_of_le (as := ls) (by omega)]
        rfl
      rw [← e1] at hw1
      refine hs 4 _ rfl _ _ _ _ _ _ _ rfl ?_
      refine hs 5 _ rfl _ _ _ _ _ _ _ rfl ?_
      refine hs 6 _ rfl _ _ _ _ _ _ _ (fun _ => ?_) (fun zq => absurd (hd_c2t (c := 3) (by omega) (by omega) (by omega) (by omega) (by omega : 0 ≤ (((10 : Nat) : Int) - (10 : Int)))) zq)
      exact hs 34 _ rfl _ _ _ _ (Nat.zero_le _) (Nat.zero_le _) (hP _ hw1)
    | succ m ih =>
      intro k c dn h1 w hk hdn hc hj hw1
      obtain ⟨x, x1, x2⟩ := hA.get (j := k) (by omega)
      obtain ⟨y, y1, y2⟩ := hB.get (j := k) (by omega)
      obtain ⟨f1, f2, f3⟩ := sb_f hf x2 y2 hc
      have hcur : ∀ j, k ≤ j → (dn ++ ls.drop k)[j]? = ls[j]? := fun j hj => by
        rw [List.getElem?_append_right (by omega), List.getElem?_drop, hdn, show k + (j - k) = j by omega]
      have hga1 : am_g G h1 qa = some (sb_c ta pa lena sga) := by rw [hw1.ne (fun z => hqa z.symm)]; exact hga
      have hgb1 : am_g G h1 qb = some (sb_c tb pb lenb sgb) := by rw [hw1.ne (fun z => hqb z.symm)]; exact hgb
      have hg1 : am_g G h1 q = some (sb_c t p len sg) := by rw [hw1.ne (fun z => hpq z.symm)]; exact hg
      obtain ⟨t1, A1, ga, ta1, xa⟩ : ∃ (t1 : Nat) (A1 : List Int), am_g G h1 pa = some (t1, hd_r A1) ∧ t1 % 100 = 50 ∧ A1[k]? = some x := by
        by_cases e : pa = p
        · exact ⟨tp, _, by rw [e]; exact hw1.at, htp, by rw [hcur k (Nat.le_refl k), ← hga2 e]; exact x1⟩
        · exact ⟨tpa, A, by rw [hw1.ne e]; exact hgpa, htpa, x1⟩
      obtain ⟨t2, B1, gb, tb1, yb⟩ : ∃ (t2 : Nat) (B1 : List Int), am_g G h1 pb = some (t2, hd_r B1) ∧ t2 % 100 = 50 ∧ B1[k]? = some y := by
        by_cases e : pb = p
        · exact ⟨tp, _, by rw [e]; exact hw1.at, htp, by rw [hcur k (Nat.le_refl k), ← hgb2 e]; exact y1⟩
        · exact ⟨tpb, B, by rw [hw1.ne e]; exact hgpb, htpb, y1⟩
      refine hs 4 _ rfl _ _ _ _ _ _ _ rfl ?_
      refine hs 5 _ rfl _ _ _ _ _ _ _ rfl ?_
      refine hs 6 _ rfl _ _ _ _ _ _ _ (fun zq => absurd (hd_c2z (c := 3) (by omega) (by omega) (by omega) (by omega) zq) (by omega : ¬ (0 ≤ ((k : Int) - (10 : Int))))) (fun _ => ?_)
      refine hs 7 _ rfl _ _ _ _ _ _ _ rfl ?_
      refine hs 8 _ rfl _ _ _ _ _ _ _ _ _ hga1 hta rfl ?_
      refine hs 9 _ rfl _ _ _ _ _ _ _ rfl ?_
      refine hd_A (hs 10 _ rfl) (by decide) (by decide) ga ta1 (j := k) rfl (by omega) xa ?_
      refine hs 11 _ rfl _ _ _ _ _ _ _ rfl ?_
      refine hs 12 _ rfl _ _ _ _ _ _ _ rfl ?_
      refine hs 13 _ rfl _ _ _ _ _ _ _ _ _ hgb1 htb rfl ?_
      refine hs 14 _ rfl _ _ _ _ _ _ _ rfl ?_
      refine hd_A (hs 15 _ rfl) (by decide) (by decide) gb tb1 (j := k) rfl (by omega) yb ?_
      refine hs 16 _ rfl _ _ _ _ _ _ _ hd_mul ?_
      refine hs 17 _ rfl _ _ _ _ _ _ _ hd_add ?_
      refine hs 18 _ rfl _ _ _ _ _ _ _ rfl ?_
      refine hs 19 _ rfl _ _ _ _ _ _ _ hd_add ?_
      refine hs 20 _ rfl _ _ _ _ _ _ _ rfl ?_
      refine hs 21 _ rfl _ _ _ _ _ _ _ rfl ?_
      refine hs 22 _ rfl _ _ _ _ _ _ _ _ _ hg1 ht rfl ?_
      refine hs 23 _ rfl _ _ _ _ _ _ _ rfl ?_
      refine hs 24 _ rfl _ _ _ _ _ _ _ rfl ?_
      refine hs 25 _ rfl _ _ _ _ _ _ _ rfl ?_
      refine hd_call (hs 26 _ rfl) (a := [.int (Int32.ofInt (x + f * y + c)), .int (Int32.ofInt 1000000000)]) (st := [.int (Int32.ofInt (k : Int)), .ref p]) (P := fun o h9 => o = .inl (some (.int (Int32.ofInt ((x + f * y + c) % 1000000000)))) ∧ h9 = h1) (sm_fmod_M g (by omega) (by omega) (by omega) (by omega) ⟨rfl, rfl⟩) rfl rfl (Nat.le_of_ble_eq_true rfl) (Nat.zero_le _) (Nat.zero_le _) (fun v9 h9 e9 => ?_) (fun E h9 hp => by cases hp.1)
      cases e9.1; cases e9.2
      refine hd_B (hs 27 _ rfl) (by decide) (by decide) hp hw1.at htp (j := k) rfl (by omega) (by rw [List.length_append, List.length_drop]; omega) ?_
      refine hs 28 _ rfl _ _ _ _ _ _ _ rfl ?_
      refine hs 29 _ rfl _ _ _ _ _ _ _ rfl ?_
      refine hd_call (hs 30 _ rfl) (a := [.int (Int32.ofInt (x + f * y + c)), .int (Int32.ofInt 1000000000)]) (st := []) (P := fun o h9 => o = .inl (some (.int (Int32.ofInt ((x + f * y + c) / 1000000000)))) ∧ h9 = _) (sm_fdiv_M g (by omega) (by omega) (by omega) (by omega) ⟨rfl, rfl⟩) rfl rfl (Nat.le_of_ble_eq_true rfl) (Nat.zero_le _) (Nat.zero_le _) (fun v9 h9 e9 => ?_) (fun E h9 hp => by cases hp.1)
      cases e9.1; cases e9.2
      refine hs 31 _ rfl _ _ _ _ _ _ _ rfl ?_
      refine hs 32 _ rfl _ _ _ _ _ _ _ (hd_inc rfl) ?_
      refine hs 33 _ rfl _ _ _ _ _ ?_
      have hw2 := hw1.tr (hd_w.s (c := (tp, hd_r ((dn ++ ls.drop k).set k ((x + f * y + c) % 1000000000)))) hp hw1.at)
      refine ih (k + 1) ((x + f * y + c) / 1000000000) (dn ++ [(x + f * y + c) % 1000000000]) _ _ (by omega) (by rw [List.length_append, hdn]; rfl) f2 ?_ ?_
      · rw [hj, List.drop_eq_getElem_cons (by have := hA.1; omega), List.drop_eq_getElem_cons (l := B) (by have := hB.1; omega), Option.some.inj ((List.getElem?_eq_getElem _).symm.trans x1), Option.some.inj ((List.getElem?_eq_getElem _).symm.trans y1), List.append_assoc]
        rfl
      · have e2 : (dn ++ [(x + f * y + c) % 1000000000]) ++ ls.drop (k + 1) = (dn ++ ls.drop k).set k ((x + f * y + c) % 1000000000) := by
          rw [List.set_append_right _ _ (by omega), hdn, Nat.sub_self, List.drop_eq_getElem_cons (show k < ls.length by omega), List.set_cons_zero, List.append_assoc]
          rfl
        rw [e2]
        exact hw2
  refine hs 0 _ rfl _ _ _ _ _ _ _ rfl ?_
  refine hs 1 _ rfl _ _ _ _ _ _ _ rfl ?_
  refine hs 2 _ rfl _ _ _ _ _ _ _ rfl ?_
  refine hs 3 _ rfl _ _ _ _ _ _ _ rfl ?_
  exact loop 10 0 0 [] h none (by omega) rfl (by omega) rfl (by rw [List.drop_zero]; exact hd_w.rf hgp)
end
section
/-! SUMS OF MANY LIMBS -/
theorem hd_callV {G : am_G} {S : ck_SS} {SX : ck_SX} {Rc Rs nL pc nx ci : Nat} {CM : ck_CM} {na : Nat} (H : ck_sQ G S SX Rc Rs nL pc nx (some ci) CM na) {a : List Value} {L : List (Option Value)} {st : List Value} {h : List am_C} {k n : Nat} {P : am_O → List am_C → Prop} (hM : CM a h 0 0 P) (hR : ck_rcv G (some ci) a h) (ha : a.length = na) (hL : L.length = nL) (hst : (st.map fun v => v.category).sum ≤ 8) (hk : k ≤ Rc) (hn : n ≤ Rs)
    (kr : ∀ (v : Option Value) (h' : List am_C), P (.inl v) h' → S nx L (v.toList ++ st) h' k n) (kx : ∀ (E : String) (h' : List am_C), P (.inr E) h' → False) : S pc L (a.reverse ++ st) h k n :=
  H a L st h k n 0 0 P hM ha hL hst hR hk hn kr fun E h' hp => (kx E h' hp).elim
theorem sb_jv {f : Int} (hf : f = 1 ∨ f = -1) : ∀ (A B : List Int) (c : Int), A.length = B.length → sb_a A → sb_a B → (-1 ≤ c ∧ c ≤ 1) → ∃ co : Int, (-1 ≤ co ∧ co ≤ 1) ∧ sb_a (sb_join f c A B) ∧ (sb_join f c A B).length = A.length ∧ sb_v (sb_join f c A B) + 1000000000 ^ A.length * co = sb_v A + f * sb_v B + c := by
  intro A
  induction A with
  | nil =>
    intro B c hl hA hB hc
    match B, hl with
    | [], _ => exact ⟨c, hc, (fun x hx => nomatch (show x ∈ ([] : List Int) from hx)), rfl, (by show (0 : Int) + 1 * c = 0 + f * 0 + c; omega)⟩
  | cons x A ih =>
    intro B c hl hA hB hc
    match B, hl with
    | y :: B, hl =>
      have hx := hA x List.mem_cons_self
      have hy := hB y List.mem_cons_self
      obtain ⟨f1, f2, f3⟩ := sb_f hf hx hy hc
      obtain ⟨co, c1, c2, c3, c4⟩ := ih B ((x + f * y + c) / 1000000000) (by simpa using hl) (fun z hz => hA z (List.mem_cons_of_mem _ hz)) (fun z hz => hB z (List.mem_cons_of_mem _ hz)) f2
      refine ⟨co, c1, fun z hz => ?_, by show (sb_join f _ A B).length + 1 = A.length + 1; rw [c3], ?_⟩
      · rcases List.mem_cons.mp hz with rfl | hz
        · omega
        · exact c2 z hz
      · show (x + f * y + c) % 1000000000 + 1000000000 * sb_v (sb_join f ((x + f * y + c) / 1000000000) A B) + 1000000000 ^ (A.length + 1) * co = x + 1000000000 * sb_v A + f * (y + 1000000000 * sb_v B) + c
        have e1 : (1000000000 : Int) ^ (A.length + 1) * co = 1000000000 * (1000000000 ^ A.length * co) := by rw [Int.pow_succ, Int.mul_comm ((1000000000 : Int) ^ A.length), Int.mul_assoc]
        rw [e1]
        generalize (1000000000 : Int) ^ A.length * co = w at *
        rcases hf with rfl | rfl <;> omega
theorem sb_lt : ∀ {ls : List Int}, sb_a ls → sb_v ls < 1000000000 ^ ls.length := by
  intro ls
  induction ls with
  | nil => intro _; decide
  | cons x u ih =>
    intro h
    have h1 := h x List.mem_cons_self
    have h2 := ih fun y hy => h y (List.mem_cons_of_mem _ hy)
    show x + 1000000000 * sb_v u < 1000000000 ^ (u.length + 1)
    rw [Int.pow_succ]
    omega
theorem sb_pos : ∀ {ls : List Int} {j : Nat} {d : Int}, sb_a ls → ls[j]? = some d → d ≠ 0 → 0 < sb_v ls := by
  intro ls
  induction ls with
  | nil => intro j d _ h; cases h
  | cons x u ih =>
    intro j d h hj hd
    have h1 := h x List.mem_cons_self
    have h2 : sb_a u := fun y hy => h y (List.mem_cons_of_mem _ hy)
    have h3 := h2.nn
    show 0 < x + 1000000000 * sb_v u
    match j, hj with
    | 0, hj => cases hj; omega
    | j + 1, hj => have := ih h2 hj hd; omega
theorem sb_zero : ∀ {ls : List Int}, (∀ (j : Nat) (d : Int), ls[j]? = some d → d = 0) → sb_v ls = 0 := by
  intro ls
  induction ls with
  | nil => intro _; rfl
  | cons x u ih =>
    intro h
    have h1 := h 0 x rfl
    have h2 := ih fun j d hj => h (j + 1) d hj
    show x + 1000000000 * sb_v u = 0
    omega
theorem sb_pl (ls : List Int) : ∃ n, hd_pl ls n := by
  have key : ∀ k : Nat, k ≤ ls.length → ∃ n, n ≤ k ∧ (∀ (j : Nat) (d : Int), n ≤ j → j < k → ls[j]? = some d → d = 0) ∧ (0 < n → ∃ d, ls[n - 1]? = some d ∧ d ≠ 0) := by
    intro k
    induction k with
    | zero => intro _; exact ⟨0, Nat.le_refl _, fun j d _ h => by omega, fun h => by omega⟩
    | succ k ih =>
      intro hk
      obtain ⟨n, n1, n2, n3⟩ := ih (by omega)
      have hx : ls[k]? = some (ls[k]'(by omega)) := List.getElem?_eq_getElem (by omega)
      generalize ls[k]'(by omega) = x at hx
      by_cases e : x = 0
      · refine ⟨n, by omega, fun j d h1 h2 h3 => ?_, n3⟩
        by_cases ej : j = k
        · subst ej; rw [hx] at h3; cases h3; exact e
        · exact n2 j d h1 (by omega) h3
      · exact ⟨k + 1, Nat.le_refl _, fun j d h1 h2 => by omega, fun _ => ⟨x, hx, e⟩⟩
  obtain ⟨n, n1, n2, n3⟩ := key ls.length (Nat.le_refl _)
  exact ⟨n, n1, fun j d h1 h2 => n2 j d h1 (List.getElem?_eq_some_iff.mp h2).1 h2, n3⟩
/-- a number is held: how long, its sign, its limbs -/
def sb_is (n : Nat) (sg : Int) (ls : List Int) (z : Int) : Prop := sb_d ls ∧ hd_pl ls n ∧ z = sg * sb_v ls ∧ (sg = -1 ∨ sg = 0 ∨ sg = 1) ∧ (sg = 0 ↔ sb_v ls = 0)
theorem sb_n0 {ls : List Int} {n : Nat} (hd : sb_d ls) (hn : hd_pl ls n) : n = 0 ↔ sb_v ls = 0 := by
  constructor
  · intro e
    subst e
    exact sb_zero fun j d hj => hn.2.1 j d (Nat.zero_le _) hj
  · intro e
    apply Nat.eq_zero_of_not_pos
    intro h
    obtain ⟨d, d1, d2⟩ := hn.2.2 h
    have := sb_pos hd.2 d1 d2
    omega
/-- the limbs of a sum or a difference that fits -/
theorem sb_fit {f : Int} (hf : f = 1 ∨ f = -1) {A B : List Int} (hA : sb_d A) (hB : sb_d B) (h0 : 0 ≤ sb_v A + f * sb_v B) (h1 : sb_v A + f * sb_v B < 1000000000 ^ 10) : sb_d (sb_join f 0 A B) ∧ sb_v (sb_join f 0 A B) = sb_v A + f * sb_v B := by
  obtain ⟨co, c1, c2, c3, c4⟩ := sb_jv hf A B 0 (by rw [hA.1, hB.1]) hA.2 hB.2 (by omega)
  have h2 := c2.nn
  have h3 := sb_lt c2
  rw [c3, hA.1] at h3
  rw [hA.1] at c4 c3
  refine ⟨⟨c3, c2⟩, ?_⟩
  have h4 : (1000000000 : Int) ^ 10 = 1000000000000000000000000000000000000000000000000000000000000000000000000000000000000000000 := by decide
  rw [h4] at c4 h1 h3
  have : co = 0 := by omega
  subst this
  omega
theorem sb_mk {f s : Int} (hf : f = 1 ∨ f = -1) {A B : List Int} (hA : sb_d A) (hB : sb_d B) (h0 : 0 ≤ sb_v A + f * sb_v B) (h1 : sb_v A + f * sb_v B < 1000000000 ^ 10) (hs : s = -1 ∨ s = 1 ∨ (s = 0 ∧ sb_v A + f * sb_v B = 0)) {n : Nat} (hn : hd_pl (sb_join f 0 A B) n) : sb_is n (if n = 0 then 0 else s) (sb_join f 0 A B) (s * (sb_v A + f * sb_v B)) := by
  obtain ⟨e1, e2⟩ := sb_fit hf hA hB h0 h1
  have h3 := sb_n0 e1 hn
  refine ⟨e1, hn, ?_, ?_, ?_⟩
  · by_cases z : n = 0
    · rw [if_pos z, ← e2, h3.mp z]; simp
    · rw [if_neg z, e2]
  · by_cases z : n = 0
    · rw [if_pos z]; omega
    · rw [if_neg z]; omega
  · by_cases z : n = 0
    · rw [if_pos z]; exact ⟨fun _ => h3.mp z, fun _ => rfl⟩
    · rw [if_neg z]
      have : ¬ sb_v (sb_join f 0 A B) = 0 := fun y => z (h3.mpr y)
      constructor
      · intro y; omega
      · intro y; exact absurd y this
set_option maxHeartbeats 4000000 in
theorem sb_sum_M {l : Launch} {G : am_G} {X : ck_XT} (g : gM l G X) {q p t tp qa pa ta tpa qb pb tb tpb na nb : Nat} {ls A B : List Int} {len sg sga sgb za zb : Int} {h : List am_C} (hq : 1000 ≤ q) (hp : 1000 ≤ p) (hpq : p ≠ q) (hg : am_g G h q = some (sb_c t p len sg)) (ht : t % 100 = 7) (hgp : am_g G h p = some (tp, hd_r ls)) (htp : tp % 100 = 50) (hl : ls.length = 10)
    (hga : am_g G h qa = some (sb_c ta pa (na : Int) sga)) (hta : ta % 100 = 7) (hgpa : am_g G h pa = some (tpa, hd_r A)) (htpa : tpa % 100 = 50) (hAi : sb_is na sga A za) (hga2 : pa = p → A = ls) (hqa : p ≠ qa)
    (hgb : am_g G h qb = some (sb_c tb pb (nb : Int) sgb)) (htb : tb % 100 = 7) (hgpb : am_g G h pb = some (tpb, hd_r B)) (htpb : tpb % 100 = 50) (hBi : sb_is nb sgb B zb) (hgb2 : pb = p → B = ls) (hqb : p ≠ qb) (hv : sb_v A + sb_v B < 1000000000 ^ 10) {mc ms : Nat} {Post : am_O → List am_C → Prop}
    (hP : ∀ (h' : List am_C) (n : Nat) (s : Int) (ls' : List Int), sb_w G h h' q (sb_c t p (n : Int) s) p (tp, hd_r ls') → sb_is n s ls' (za + zb) → Post (.inl none) h') :
    am_M l G yX0_becomeSum (.code yX0_becomeSum prog_2_method_10_code 4 none) 3 68 mc ms [.ref q, .ref qa, .ref qb] h Post := by
  refine gh_yX0_becomeSum_H g (Nat.le_of_ble_eq_true rfl) fun S SX hs hr hw => ?_
  obtain ⟨hA, hnA, rfl, sA, zA⟩ := hAi
  obtain ⟨hB, hnB, rfl, sB, zB⟩ := hBi
  have a0 := sb_a.nn hA.2
  have b0 := sb_a.nn hB.2
  have hL : (1000000000 : Int) ^ 10 = 1000000000000000000000000000000000000000000000000000000000000000000000000000000000000000000 := by decide
  rw [hL] at hv
  have hab : -1 ≤ sga * sgb ∧ sga * sgb ≤ 1 := by
    rcases sA with z | z | z <;> rcases sB with y | y | y <;> rw [z, y] <;> decide
  by_cases hs0 : 0 ≤ sga * sgb
  · by_cases ha0 : sga = 0
    · have va := zA.mp ha0
      have hsb : sgb = -1 ∨ sgb = 1 ∨ (sgb = 0 ∧ sb_v A + 1 * sb_v B = 0) := by
        rcases sB with z | z | z
        · exact Or.inl z
        · exact Or.inr (Or.inr ⟨z, by have := zB.mp z; omega⟩)
        · exact Or.inr (Or.inl z)
      have eq : sga * sb_v A + sgb * sb_v B = sgb * (sb_v A + 1 * sb_v B) := by rw [va]; simp
      refine hs 0 _ rfl _ _ _ _ _ _ _ rfl ?_
      refine hs 1 _ rfl _ _ _ _ _ _ _ _ _ hga hta rfl ?_
      refine hs 2 _ rfl _ _ _ _ _ _ _ rfl ?_
      refine hs 3 _ rfl _ _ _ _ _ _ _ _ _ hgb htb rfl ?_
      refine hs 4 _ rfl _ _ _ _ _ _ _ hd_mul ?_
      refine hs 5 _ rfl _ _ _ _ _ _ (fun zq => absurd (hd_c1z (c := 2) (by omega) (by omega) zq) (by omega : ¬ ((sga * sgb) < 0))) (fun _ => ?_)
      refine hs 6 _ rfl _ _ _ _ _ _ _ rfl ?_
      refine hs 7 _ rfl _ _ _ _ _ _ _ _ _ hga hta rfl ?_
      refine hs 8 _ rfl _ _ _ _ _ _ (fun _ => ?_) (fun zq => absurd (hd_c1t (c := 0) (by omega) (by omega) (by omega : sga = 0)) zq)
      refine hs 12 _ rfl _ _ _ _ _ _ _ rfl ?_
      refine hs 13 _ rfl _ _ _ _ _ _ _ _ _ hgb htb rfl ?_
      refine hs 14 _ rfl _ _ _ _ _ _ _ rfl ?_
      refine hs 15 _ rfl _ _ _ _ _ _ _ rfl ?_
      refine hs 16 _ rfl _ _ _ _ _ _ _ rfl ?_
      refine hs 17 _ rfl _ _ _ _ _ _ _ rfl ?_
      refine hs 18 _ rfl _ _ _ _ _ _ _ rfl ?_
      refine hd_callV (hs 19 _ rfl) (a := [.ref q, .ref qa, .ref qb, .int (Int32.ofInt 1)]) (st := []) (P := fun o h9 => o = .inl none ∧ hd_w G h h9 p (tp, hd_r (sb_join 1 0 A B))) (sb_join_M g hq hp hpq hg ht hgp htp hl hga hta hgpa htpa hA hga2 hqa hgb htb hgpb htpb hB hgb2 hqb (by decide) fun h9 hw => ⟨rfl, hw⟩) ⟨_, _, _, rfl, hg, ht⟩ rfl rfl (Nat.le_of_ble_eq_true rfl) (Nat.zero_le _) (Nat.zero_le _) (fun v9 h9 e9 => ?_) (fun E h9 hp => by first | exact nomatch hp.1 | (obtain ⟨⟨_, hz, _⟩, _⟩ := hp; cases hz))
      obtain ⟨e9, hw1⟩ := e9
      cases e9
      have hg1 : am_g G h9 q = some (sb_c t p len sg) := by rw [hw1.ne (fun z => hpq z.symm)]; exact hg
      obtain ⟨n, hn⟩ := sb_pl (sb_join 1 0 A B)
      refine hs 20 _ rfl _ _ _ _ _ _ _ rfl ?_
      refine hs 21 _ rfl _ _ _ _ _ _ _ rfl ?_
      obtain ⟨k1, k2⟩ := sb_fit (f := 1) (by decide) hA hB (by omega) (show _ < (1000000000 : Int) ^ 10 by rw [hL]; omega)
      refine hd_callV (hs 22 _ rfl) (a := [.ref q, .int (Int32.ofInt sgb)]) (st := []) (P := fun o h10 => o = .inl none ∧ hd_w G h9 h10 q (sb_c t p (n : Int) (if n = 0 then 0 else sgb))) (sb_settle_M g hq hpq hg1 ht hw1.at htp k1 hn fun h10 hw => ⟨rfl, hw⟩) ⟨_, _, _, rfl, hg1, ht⟩ rfl rfl (Nat.le_of_ble_eq_true rfl) (Nat.zero_le _) (Nat.zero_le _) (fun v9 h10 e10 => ?_) (fun E h9 hp => by first | exact nomatch hp.1 | (obtain ⟨⟨_, hz, _⟩, _⟩ := hp; cases hz))
      obtain ⟨e10, hw2⟩ := e10
      cases e10
      have hfin := hP h10 n _ _ (sb_w.of hw1 hw2) (by rw [eq]; exact sb_mk (by decide) hA hB (by omega) (show _ < (1000000000 : Int) ^ 10 by rw [hL]; omega) hsb hn)
      refine hs 23 _ rfl _ _ _ _ _ ?_
      exact hs 51 _ rfl _ _ _ _ (Nat.zero_le _) (Nat.zero_le _) hfin
    · have hsa : sga = -1 ∨ sga = 1 ∨ (sga = 0 ∧ sb_v A + 1 * sb_v B = 0) := by omega
      have eq : sga * sb_v A + sgb * sb_v B = sga * (sb_v A + 1 * sb_v B) := by
        rcases sA with z | z | z <;> rcases sB with y | y | y <;> first | (subst z; subst y; omega) | (have := zB.mp y; subst z; subst y; omega)
      refine hs 0 _ rfl _ _ _ _ _ _ _ rfl ?_
      refine hs 1 _ rfl _ _ _ _ _ _ _ _ _ hga hta rfl ?_
      refine hs 2 _ rfl _ _ _ _ _ _ _ rfl ?_
      refine hs 3 _ rfl _ _ _ _ _ _ _ _ _ hgb htb rfl ?_
      refine hs 4 _ rfl _ _ _ _ _ _ _ hd_mul ?_
      refine hs 5 _ rfl _ _ _ _ _ _ (fun zq => absurd (hd_c1z (c := 2) (by omega) (by omega) zq) (by omega : ¬ ((sga * sgb) < 0))) (fun _ => ?_)
      refine hs 6 _ rfl _ _ _ _ _ _ _ rfl ?_
      refine hs 7 _ rfl _ _ _ _ _ _ _ _ _ hga hta rfl ?_
      refine hs 8 _ rfl _ _ _ _ _ _ (fun zq => absurd (hd_c1z (c := 0) (by omega) (by omega) zq) (by omega : ¬ (sga = 0))) (fun _ => ?_)
      refine hs 9 _ rfl _ _ _ _ _ _ _ rfl ?_
      refine hs 10 _ rfl _ _ _ _ _ _ _ _ _ hga hta rfl ?_
      refine hs 11 _ rfl _ _ _ _ _ ?_
      refine hs 14 _ rfl _ _ _ _ _ _ _ rfl ?_
      refine hs 15 _ rfl _ _ _ _ _ _ _ rfl ?_
      refine hs 16 _ rfl _ _ _ _ _ _ _ rfl ?_
      refine hs 17 _ rfl _ _ _ _ _ _ _ rfl ?_
      refine hs 18 _ rfl _ _ _ _ _ _ _ rfl ?_
      refine hd_callV (hs 19 _ rfl) (a := [.ref q, .ref qa, .ref qb, .int (Int32.ofInt 1)]) (st := []) (P := fun o h9 => o = .inl none ∧ hd_w G h h9 p (tp, hd_r (sb_join 1 0 A B))) (sb_join_M g hq hp hpq hg ht hgp htp hl hga hta hgpa htpa hA hga2 hqa hgb htb hgpb htpb hB hgb2 hqb (by decide) fun h9 hw => ⟨rfl, hw⟩) ⟨_, _, _, rfl, hg, ht⟩ rfl rfl (Nat.le_of_ble_eq_true rfl) (Nat.zero_le _) (Nat.zero_le _) (fun v9 h9 e9 => ?_) (fun E h9 hp => by first | exact nomatch hp.1 | (obtain ⟨⟨_, hz, _⟩, _⟩ := hp; cases hz))
      obtain ⟨e9, hw1⟩ := e9
      cases e9
      have hg1 : am_g G h9 q = some (sb_c t p len sg) := by rw [hw1.ne (fun z => hpq z.symm)]; exact hg
      obtain ⟨n, hn⟩ := sb_pl (sb_join 1 0 A B)
      refine hs 20 _ rfl _ _ _ _ _ _ _ rfl ?_
      refine hs 21 _ rfl _ _ _ _ _ _ _ rfl ?_
      obtain ⟨k1, k2⟩ := sb_fit (f := 1) (by decide) hA hB (by omega) (show _ < (1000000000 : Int) ^ 10 by rw [hL]; omega)
      refine hd_callV (hs 22 _ rfl) (a := [.ref q, .int (Int32.ofInt sga)]) (st := []) (P := fun o h10 => o = .inl none ∧ hd_w G h9 h10 q (sb_c t p (n : Int) (if n = 0 then 0 else sga))) (sb_settle_M g hq hpq hg1 ht hw1.at htp k1 hn fun h10 hw => ⟨rfl, hw⟩) ⟨_, _, _, rfl, hg1, ht⟩ rfl rfl (Nat.le_of_ble_eq_true rfl) (Nat.zero_le _) (Nat.zero_le _) (fun v9 h10 e10 => ?_) (fun E h9 hp => by first | exact nomatch hp.1 | (obtain ⟨⟨_, hz, _⟩, _⟩ := hp; cases hz))
      obtain ⟨e10, hw2⟩ := e10
      cases e10
      have hfin := hP h10 n _ _ (sb_w.of hw1 hw2) (by rw [eq]; exact sb_mk (by decide) hA hB (by omega) (show _ < (1000000000 : Int) ^ 10 by rw [hL]; omega) hsa hn)
      refine hs 23 _ rfl _ _ _ _ _ ?_
      exact hs 51 _ rfl _ _ _ _ (Nat.zero_le _) (Nat.zero_le _) hfin
  · have hc : (sga = 1 ∧ sgb = -1) ∨ (sga = -1 ∧ sgb = 1) := by
      rcases sA with z | z | z <;> rcases sB with y | y | y <;> subst z <;> subst y <;> simp at hs0 ⊢
    have hM := @sb_compare_M l G X g qa pa ta tpa qb pb tb tpb A B na sga nb sgb h hga hta hgpa htpa hA hgb htb hgpb htpb hB
    by_cases hlt : sb_v A < sb_v B
    · have hsb : sgb = -1 ∨ sgb = 1 ∨ (sgb = 0 ∧ sb_v B + -1 * sb_v A = 0) := by omega
      have eq : sga * sb_v A + sgb * sb_v B = sgb * (sb_v B + -1 * sb_v A) := by rcases hc with ⟨rfl, rfl⟩ | ⟨rfl, rfl⟩ <;> omega
      refine hs 0 _ rfl _ _ _ _ _ _ _ rfl ?_
      refine hs 1 _ rfl _ _ _ _ _ _ _ _ _ hga hta rfl ?_
      refine hs 2 _ rfl _ _ _ _ _ _ _ rfl ?_
      refine hs 3 _ rfl _ _ _ _ _ _ _ _ _ hgb htb rfl ?_
      refine hs 4 _ rfl _ _ _ _ _ _ _ hd_mul ?_
      refine hs 5 _ rfl _ _ _ _ _ _ (fun _ => ?_) (fun zq => absurd (hd_c1t (c := 2) (by omega) (by omega) (by omega : (sga * sgb) < 0)) zq)
      refine hs 24 _ rfl _ _ _ _ _ _ _ rfl ?_
      refine hs 25 _ rfl _ _ _ _ _ _ _ rfl ?_
      refine hd_callV (hs 26 _ rfl) (a := [.ref qa, .ref qb]) (st := []) (P := fun o h9 => (∃ c : Int, o = .inl (some (.int (Int32.ofInt c))) ∧ c = -1) ∧ h = h9) (hM fun c hc9 => ⟨⟨c, rfl, by rcases hc9 with z | z | z <;> first | exact z.1 | omega | (exact absurd z.2 (by intro zz; subst zz; omega))⟩, rfl⟩) ⟨_, _, _, rfl, hga, hta⟩ rfl rfl (Nat.le_of_ble_eq_true rfl) (Nat.zero_le _) (Nat.zero_le _) (fun v9 h9 e9 => ?_) (fun E h9 hp => by first | exact nomatch hp.1 | (obtain ⟨⟨_, hz, _⟩, _⟩ := hp; cases hz))
      obtain ⟨⟨c, e9, ec⟩, rfl⟩ := e9
      cases e9
      subst ec
      refine hs 27 _ rfl _ _ _ _ _ _ (fun _ => ?_) (fun zq => absurd (hd_c1t (c := 2) (by omega) (by omega) (by omega : (-1 : Int) < 0)) zq)
      refine hs 40 _ rfl _ _ _ _ _ _ _ rfl ?_
      refine hs 41 _ rfl _ _ _ _ _ _ _ _ _ hgb htb rfl ?_
      refine hs 42 _ rfl _ _ _ _ _ _ _ rfl ?_
      refine hs 43 _ rfl _ _ _ _ _ _ _ rfl ?_
      refine hs 44 _ rfl _ _ _ _ _ _ _ rfl ?_
      refine hs 45 _ rfl _ _ _ _ _ _ _ rfl ?_
      refine hs 46 _ rfl _ _ _ _ _ _ _ rfl ?_
      refine hd_callV (hs 47 _ rfl) (a := [.ref q, .ref qb, .ref qa, .int (Int32.ofInt (-1))]) (st := []) (P := fun o h9 => o = .inl none ∧ hd_w G h h9 p (tp, hd_r (sb_join (-1) 0 B A))) (sb_join_M g hq hp hpq hg ht hgp htp hl hgb htb hgpb htpb hB hgb2 hqb hga hta hgpa htpa hA hga2 hqa (by decide) fun h9 hw => ⟨rfl, hw⟩) ⟨_, _, _, rfl, hg, ht⟩ rfl rfl (Nat.le_of_ble_eq_true rfl) (Nat.zero_le _) (Nat.zero_le _) (fun v9 h9 e9 => ?_) (fun E h9 hp => by first | exact nomatch hp.1 | (obtain ⟨⟨_, hz, _⟩, _⟩ := hp; cases hz))
      obtain ⟨e9, hw1⟩ := e9
      cases e9
      have hg1 : am_g G h9 q = some (sb_c t p len sg) := by rw [hw1.ne (fun z => hpq z.symm)]; exact hg
      obtain ⟨n, hn⟩ := sb_pl (sb_join (-1) 0 B A)
      refine hs 48 _ rfl _ _ _ _ _ _ _ rfl ?_
      refine hs 49 _ rfl _ _ _ _ _ _ _ rfl ?_
      obtain ⟨k1, k2⟩ := sb_fit (f := (-1)) (by decide) hB hA (by omega) (show _ < (1000000000 : Int) ^ 10 by rw [hL]; omega)
      refine hd_callV (hs 50 _ rfl) (a := [.ref q, .int (Int32.ofInt sgb)]) (st := []) (P := fun o h10 => o = .inl none ∧ hd_w G h9 h10 q (sb_c t p (n : Int) (if n = 0 then 0 else sgb))) (sb_settle_M g hq hpq hg1 ht hw1.at htp k1 hn fun h10 hw => ⟨rfl, hw⟩) ⟨_, _, _, rfl, hg1, ht⟩ rfl rfl (Nat.le_of_ble_eq_true rfl) (Nat.zero_le _) (Nat.zero_le _) (fun v9 h10 e10 => ?_) (fun E h9 hp => by first | exact nomatch hp.1 | (obtain ⟨⟨_, hz, _⟩, _⟩ := hp; cases hz))
      obtain ⟨e10, hw2⟩ := e10
      cases e10
      have hfin := hP h10 n _ _ (sb_w.of hw1 hw2) (by rw [eq]; exact sb_mk (by decide) hB hA (by omega) (show _ < (1000000000 : Int) ^ 10 by rw [hL]; omega) hsb hn)
      exact hs 51 _ rfl _ _ _ _ (Nat.zero_le _) (Nat.zero_le _) hfin
    · have hsa : sga = -1 ∨ sga = 1 ∨ (sga = 0 ∧ sb_v A + -1 * sb_v B = 0) := by omega
      have eq : sga * sb_v A + sgb * sb_v B = sga * (sb_v A + -1 * sb_v B) := by rcases hc with ⟨rfl, rfl⟩ | ⟨rfl, rfl⟩ <;> omega
      refine hs 0 _ rfl _ _ _ _ _ _ _ rfl ?_
      refine hs 1 _ rfl _ _ _ _ _ _ _ _ _ hga hta rfl ?_
      refine hs 2 _ rfl _ _ _ _ _ _ _ rfl ?_
      refine hs 3 _ rfl _ _ _ _ _ _ _ _ _ hgb htb rfl ?_
      refine hs 4 _ rfl _ _ _ _ _ _ _ hd_mul ?_
      refine hs 5 _ rfl _ _ _ _ _ _ (fun _ => ?_) (fun zq => absurd (hd_c1t (c := 2) (by omega) (by omega) (by omega : (sga * sgb) < 0)) zq)
      refine hs 24 _ rfl _ _ _ _ _ _ _ rfl ?_
      refine hs 25 _ rfl _ _ _ _ _ _ _ rfl ?_
      refine hd_callV (hs 26 _ rfl) (a := [.ref qa, .ref qb]) (st := []) (P := fun o h9 => (∃ c : Int, o = .inl (some (.int (Int32.ofInt c))) ∧ 0 ≤ c ∧ c ≤ 1) ∧ h = h9) (hM fun c hc9 => ⟨⟨c, rfl, by rcases hc9 with z | z | z <;> omega⟩, rfl⟩) ⟨_, _, _, rfl, hga, hta⟩ rfl rfl (Nat.le_of_ble_eq_true rfl) (Nat.zero_le _) (Nat.zero_le _) (fun v9 h9 e9 => ?_) (fun E h9 hp => by first | exact nomatch hp.1 | (obtain ⟨⟨_, hz, _⟩, _⟩ := hp; cases hz))
      obtain ⟨⟨c, e9, ec1, ec2⟩, rfl⟩ := e9
      cases e9
      refine hs 27 _ rfl _ _ _ _ _ _ (fun zq => absurd (hd_c1z (c := 2) (by omega) (by omega) zq) (by omega : ¬ (c < 0))) (fun _ => ?_)
      refine hs 28 _ rfl _ _ _ _ _ _ _ rfl ?_
      refine hs 29 _ rfl _ _ _ _ _ _ _ _ _ hga hta rfl ?_
      refine hs 30 _ rfl _ _ _ _ _ _ _ rfl ?_
      refine hs 31 _ rfl _ _ _ _ _ _ _ rfl ?_
      refine hs 32 _ rfl _ _ _ _ _ _ _ rfl ?_
      refine hs 33 _ rfl _ _ _ _ _ _ _ rfl ?_
      refine hs 34 _ rfl _ _ _ _ _ _ _ rfl ?_
      refine hd_callV (hs 35 _ rfl) (a := [.ref q, .ref qa, .ref qb, .int (Int32.ofInt (-1))]) (st := []) (P := fun o h9 => o = .inl none ∧ hd_w G h h9 p (tp, hd_r (sb_join (-1) 0 A B))) (sb_join_M g hq hp hpq hg ht hgp htp hl hga hta hgpa htpa hA hga2 hqa hgb htb hgpb htpb hB hgb2 hqb (by decide) fun h9 hw => ⟨rfl, hw⟩) ⟨_, _, _, rfl, hg, ht⟩ rfl rfl (Nat.le_of_ble_eq_true rfl) (Nat.zero_le _) (Nat.zero_le _) (fun v9 h9 e9 => ?_) (fun E h9 hp => by first | exact nomatch hp.1 | (obtain ⟨⟨_, hz, _⟩, _⟩ := hp; cases hz))
      obtain ⟨e9, hw1⟩ := e9
      cases e9
      have hg1 : am_g G h9 q = some (sb_c t p len sg) := by rw [hw1.ne (fun z => hpq z.symm)]; exact hg
      obtain ⟨n, hn⟩ := sb_pl (sb_join (-1) 0 A B)
      refine hs 36 _ rfl _ _ _ _ _ _ _ rfl ?_
      refine hs 37 _ rfl _ _ _ _ _ _ _ rfl ?_
      obtain ⟨k1, k2⟩ := sb_fit (f := (-1)) (by decide) hA hB (by omega) (show _ < (1000000000 : Int) ^ 10 by rw [hL]; omega)
      refine hd_callV (hs 38 _ rfl) (a := [.ref q, .int (Int32.ofInt sga)]) (st := []) (P := fun o h10 => o = .inl none ∧ hd_w G h9 h10 q (sb_c t p (n : Int) (if n = 0 then 0 else sga))) (sb_settle_M g hq hpq hg1 ht hw1.at htp k1 hn fun h10 hw => ⟨rfl, hw⟩) ⟨_, _, _, rfl, hg1, ht⟩ rfl rfl (Nat.le_of_ble_eq_true rfl) (Nat.zero_le _) (Nat.zero_le _) (fun v9 h10 e10 => ?_) (fun E h9 hp => by first | exact nomatch hp.1 | (obtain ⟨⟨_, hz, _⟩, _⟩ := hp; cases hz))
      obtain ⟨e10, hw2⟩ := e10
      cases e10
      have hfin := hP h10 n _ _ (sb_w.of hw1 hw2) (by rw [eq]; exact sb_mk (by decide) hA hB (by omega) (show _ < (1000000000 : Int) ^ 10 by rw [hL]; omega) hsa hn)
      refine hs 39 _ rfl _ _ _ _ _ ?_
      exact hs 51 _ rfl _ _ _ _ (Nat.zero_le _) (Nat.zero_le _) hfin
end
section
/-! LIMBS, RESTS, DIGITS -/
theorem sb_limb_M {l : Launch} {G : am_G} {X : ck_XT} (g : gM l G X) {q p t tp j : Nat} {ls : List Int} {len sg : Int} {h : List am_C} (hg : am_g G h q = some (sb_c t p len sg)) (ht : t % 100 = 7) (hgp : am_g G h p = some (tp, hd_r ls)) (htp : tp % 100 = 50) (hd : sb_d ls) (hj : j ≤ 2147483647) {mc ms : Nat} {Post : am_O → List am_C → Prop} (hP : Post (.inl (some (.int (Int32.ofInt (ls.getD j 0))))) h) :
    am_M l G yX0_limb (.code yX0_limb prog_2_method_2_code 2 (some .int)) 1 20 mc ms [.ref q, .int (Int32.ofInt (j : Int))] h Post := by
  refine gh_yX0_limb_H g (Nat.le_of_ble_eq_true rfl) fun S SX hs hr hw => ?_
  have rv : ∀ x : Int32, ck_fv 0 (.int x) := fun x => ⟨_, rfl⟩
  by_cases hj2 : j < 10
  · obtain ⟨x, x1, x2⟩ := hd.get hj2
    rw [List.getD_eq_getElem?_getD, x1, Option.getD_some] at hP
    refine hs 0 _ rfl _ _ _ _ _ _ _ rfl ?_
    refine hs 1 _ rfl _ _ _ _ _ _ (fun zq => absurd (hd_c1z (c := 2) (by omega) (by omega) zq) (by omega : ¬ ((j : Int) < 0))) (fun _ => ?_)
    refine hs 2 _ rfl _ _ _ _ _ _ _ rfl ?_
    refine hs 3 _ rfl _ _ _ _ _ _ _ rfl ?_
    refine hs 4 _ rfl _ _ _ _ _ _ _ (fun zq => absurd (hd_c2z (c := 3) (by omega) (by omega) (by omega) (by omega) zq) (by omega : ¬ (0 ≤ ((j : Int) - (10 : Int))))) (fun _ => ?_)
    refine hs 5 _ rfl _ _ _ _ _ _ _ rfl ?_
    refine hs 6 _ rfl _ _ _ _ _ _ _ _ _ hg ht rfl ?_
    refine hs 7 _ rfl _ _ _ _ _ _ _ rfl ?_
    refine hd_A (hs 8 _ rfl) (by decide) (by decide) hgp htp (j := j) rfl hj x1 ?_
    refine hs 9 _ rfl _ _ _ _ _ ?_
    exact hs 11 _ rfl _ _ _ _ _ (rv _) (Nat.zero_le _) (Nat.zero_le _) hP
  · rw [List.getD_eq_getElem?_getD, List.getElem?_eq_none (by have := hd.1; omega), Option.getD_none] at hP
    refine hs 0 _ rfl _ _ _ _ _ _ _ rfl ?_
    refine hs 1 _ rfl _ _ _ _ _ _ (fun zq => absurd (hd_c1z (c := 2) (by omega) (by omega) zq) (by omega : ¬ ((j : Int) < 0))) (fun _ => ?_)
    refine hs 2 _ rfl _ _ _ _ _ _ _ rfl ?_
    refine hs 3 _ rfl _ _ _ _ _ _ _ rfl ?_
    refine hs 4 _ rfl _ _ _ _ _ _ _ (fun _ => ?_) (fun zq => absurd (hd_c2t (c := 3) (by omega) (by omega) (by omega) (by omega) (by omega : 0 ≤ ((j : Int) - (10 : Int)))) zq)
    refine hs 10 _ rfl _ _ _ _ _ _ _ rfl ?_
    exact hs 11 _ rfl _ _ _ _ _ (rv _) (Nat.zero_le _) (Nat.zero_le _) hP
theorem sb_long_M {l : Launch} {G : am_G} {X : ck_XT} (g : gM l G X) {q p t n : Nat} {sg : Int} {h : List am_C} (hg : am_g G h q = some (sb_c t p (n : Int) sg)) (ht : t % 100 = 7) (hn : n ≤ 10) {mc ms : Nat} {Post : am_O → List am_C → Prop} (hP : Post (.inl (some (.int (Int32.ofInt (if 4 < n then 1 else 0))))) h) :
    am_M l G yX0_isTooLong (.code yX0_isTooLong prog_2_method_4_code 1 (some .boolean)) 1 20 mc ms [.ref q] h Post := by
  refine gh_yX0_isTooLong_H g (Nat.le_of_ble_eq_true rfl) fun S SX hs hr hw => ?_
  have rv : ∀ x : Int32, ck_fv 0 (.int x) := fun x => ⟨_, rfl⟩
  by_cases h4 : 4 < n
  · rw [if_pos h4] at hP
    refine hs 0 _ rfl _ _ _ _ _ _ _ rfl ?_
    refine hs 1 _ rfl _ _ _ _ _ _ _ _ _ hg ht rfl ?_
    refine hs 2 _ rfl _ _ _ _ _ _ _ rfl ?_
    refine hs 3 _ rfl _ _ _ _ _ _ _ (fun zq => absurd (hd_c2z (c := 5) (by omega) (by omega) (by omega) (by omega) zq) (by omega : ¬ (((n : Int) - (4 : Int)) ≤ 0))) (fun _ => ?_)
    refine hs 4 _ rfl _ _ _ _ _ _ _ rfl ?_
    refine hs 5 _ rfl _ _ _ _ _ ?_
    exact hs 7 _ rfl _ _ _ _ _ ⟨_, rfl, by decide, by decide⟩ (Nat.zero_le _) (Nat.zero_le _) hP
  · rw [if_neg h4] at hP
    refine hs 0 _ rfl _ _ _ _ _ _ _ rfl ?_
    refine hs 1 _ rfl _ _ _ _ _ _ _ _ _ hg ht rfl ?_
    refine hs 2 _ rfl _ _ _ _ _ _ _ rfl ?_
    refine hs 3 _ rfl _ _ _ _ _ _ _ (fun _ => ?_) (fun zq => absurd (hd_c2t (c := 5) (by omega) (by omega) (by omega) (by omega) (by omega : ((n : Int) - (4 : Int)) ≤ 0)) zq)
    refine hs 6 _ rfl _ _ _ _ _ _ _ rfl ?_
    exact hs 7 _ rfl _ _ _ _ _ ⟨_, rfl, by decide, by decide⟩ (Nat.zero_le _) (Nat.zero_le _) hP
theorem sb_lsub {L : List (Option Value)} {st : List Value} {v x y : Int} : ck_cf 16 1 v L (.long (Int64.ofInt y) :: .long (Int64.ofInt x) :: st) = some (L, .long (Int64.ofInt (x - y)) :: st) := by rw [Int64.ofInt_sub]; rfl
theorem sb_lcmp {L : List (Option Value)} {st : List Value} {a : Nat} {v x : Int} (h1 : 0 ≤ x) (h2 : x ≤ 1000000) : ck_cf 21 a v L (.long (Int64.ofInt 0) :: .long (Int64.ofInt x) :: st) = some (L, .int (Int32.ofInt (if 0 < x then 1 else 0)) :: st) := by
  have e : lg_cmp (Int64.ofInt x) (Int64.ofInt 0) = Int32.ofInt (if 0 < x then 1 else 0) := by
    unfold lg_cmp
    by_cases h : 0 < x
    · have hgt : Int64.ofInt x > Int64.ofInt 0 := Int64.lt_iff_toInt_lt.mpr (by rw [hd_li (by omega) (by omega), hd_li (by omega) (by omega)]; exact h)
      rw [if_pos h, if_pos hgt]
      rfl
    · obtain rfl : x = 0 := by omega
      rfl
  rw [← e]
  rfl
theorem sb_mod1 (r L x m : Int) : (r % m * L + x) % m = (x + L * r) % m := by
  rw [Int.add_emod, Int.mul_emod, Int.emod_emod, ← Int.mul_emod, ← Int.add_emod, Int.add_comm, Int.mul_comm]
set_option maxHeartbeats 4000000 in
theorem sb_rest_M {l : Launch} {G : am_G} {X : ck_XT} (g : gM l G X) {q p t tp n m : Nat} {ls : List Int} {sg z : Int} {h : List am_C} (hg : am_g G h q = some (sb_c t p (n : Int) sg)) (ht : t % 100 = 7) (hgp : am_g G h p = some (tp, hd_r ls)) (htp : tp % 100 = 50) (hi : sb_is n sg ls z) (hm : 1 ≤ m) (hm2 : m ≤ 1000) {mc ms : Nat} {Post : am_O → List am_C → Prop} (hP : Post (.inl (some (.int (Int32.ofInt (z % (m : Int)))))) h) :
    am_M l G yX0_restBy (.code yX0_restBy prog_2_method_15_code 5 (some .int)) 2 41 mc ms [.ref q, .int (Int32.ofInt (m : Int))] h Post := by
  refine gh_yX0_restBy_H g (Nat.le_of_ble_eq_true rfl) fun S SX hs hr hw => ?_
  have rv : ∀ x : Int32, ck_fv 0 (.int x) := fun x => ⟨_, rfl⟩
  obtain ⟨hd, hn, rfl, hsg, hz⟩ := hi
  have hn10 : n ≤ 10 := by have := hn.1; have := hd.1; omega
  have rb : ∀ v : Int, 0 ≤ v % (m : Int) ∧ v % (m : Int) < 1000 := fun v => by
    have h1 := Int.emod_nonneg v (b := (m : Int)) (by omega)
    have h2 := Int.emod_lt_of_pos v (b := (m : Int)) (by omega)
    omega
  have loop : ∀ k : Nat, k ≤ n → S 16 [some (.ref q), some (.int (Int32.ofInt (m : Int))), some (.long (Int64.ofInt (sb_v (ls.drop k) % (m : Int)))), none, some (.int (Int32.ofInt ((k : Int) - 1)))] [] h 0 0 := by
    intro k
    induction k with
    | zero =>
      intro hk
      obtain ⟨r1, r2⟩ := rb (sb_v (ls.drop 0))
      rw [List.drop_zero] at r1 r2 ⊢
      by_cases hsn : sg < 0
      · obtain rfl : sg = -1 := by omega
        by_cases h0 : 0 < sb_v ls % (m : Int)
        · have e : (-1 * sb_v ls) % (m : Int) = (m : Int) - sb_v ls % (m : Int) := by
            have := Int.mul_ediv_add_emod (sb_v ls) (m : Int)
            exact ((Int.ediv_emod_unique (a := -1 * sb_v ls) (r := (m : Int) - sb_v ls % (m : Int)) (q := -(sb_v ls / (m : Int)) - 1) (by omega)).mpr ⟨by rw [Int.mul_sub, Int.mul_neg]; omega, by have := Int.emod_lt_of_pos (sb_v ls) (b := (m : Int)) (by omega); omega, by omega⟩).2
          rw [e] at hP
          have ec : (if 0 < sb_v ls % (m : Int) then (1 : Int) else 0) = 1 := if_pos h0
          refine hs 11 _ rfl _ _ _ _ _ _ _ rfl ?_
          refine hs 12 _ rfl _ _ _ _ _ _ (fun _ => ?_) (fun zq => absurd (hd_c1t (c := 2) (by omega) (by omega) (by omega : (((0 : Nat) : Int) - 1) < 0)) zq)
          refine hs 27 _ rfl _ _ _ _ _ _ _ rfl ?_
          refine hs 28 _ rfl _ _ _ _ _ _ _ _ _ hg ht rfl ?_
          refine hs 29 _ rfl _ _ _ _ _ _ (fun zq => absurd (hd_c1z (c := 3) (by omega) (by omega) zq) (by omega : ¬ (0 ≤ (-1 : Int)))) (fun _ => ?_)
          refine hs 30 _ rfl _ _ _ _ _ _ _ rfl ?_
          refine hs 31 _ rfl _ _ _ _ _ _ _ rfl ?_
          refine hs 32 _ rfl _ _ _ _ _ _ _ (sb_lcmp r1 (by omega)) ?_
          refine hs 33 _ rfl _ _ _ _ _ _ (fun zq => absurd (hd_c1z (c := 5) (by omega) (by omega) zq) (by omega : ¬ ((if 0 < sb_v ls % (m : Int) then 1 else 0 : Int) ≤ 0))) (fun _ => ?_)
          refine hs 34 _ rfl _ _ _ _ _ _ _ rfl ?_
          refine hs 35 _ rfl _ _ _ _ _ _ _ (hd_i2l (by omega) (by omega)) ?_
          refine hs 36 _ rfl _ _ _ _ _ _ _ rfl ?_
          refine hs 37 _ rfl _ _ _ _ _ _ _ sb_lsub ?_
          refine hs 38 _ rfl _ _ _ _ _ ?_
          refine hs 40 _ rfl _ _ _ _ _ _ _ (hd_l2i (by omega) (by omega)) ?_
          exact hs 41 _ rfl _ _ _ _ _ (rv _) (Nat.zero_le _) (Nat.zero_le _) hP
        · have e0 : sb_v ls % (m : Int) = 0 := by omega
          have e : (-1 * sb_v ls) % (m : Int) = sb_v ls % (m : Int) := by
            rw [e0, Int.emod_eq_zero_of_dvd]
            exact Int.dvd_trans (Int.dvd_of_emod_eq_zero e0) (Int.dvd_mul_left (-1) (sb_v ls))
          rw [e] at hP
          have ec : (if 0 < sb_v ls % (m : Int) then (1 : Int) else 0) = 0 := if_neg h0
          refine hs 11 _ rfl _ _ _ _ _ _ _ rfl ?_
          refine hs 12 _ rfl _ _ _ _ _ _ (fun _ => ?_) (fun zq => absurd (hd_c1t (c := 2) (by omega) (by omega) (by omega : (((0 : Nat) : Int) - 1) < 0)) zq)
          refine hs 27 _ rfl _ _ _ _ _ _ _ rfl ?_
          refine hs 28 _ rfl _ _ _ _ _ _ _ _ _ hg ht rfl ?_
          refine hs 29 _ rfl _ _ _ _ _ _ (fun zq => absurd (hd_c1z (c := 3) (by omega) (by omega) zq) (by omega : ¬ (0 ≤ (-1 : Int)))) (fun _ => ?_)
          refine hs 30 _ rfl _ _ _ _ _ _ _ rfl ?_
          refine hs 31 _ rfl _ _ _ _ _ _ _ rfl ?_
          refine hs 32 _ rfl _ _ _ _ _ _ _ (sb_lcmp r1 (by omega)) ?_
          refine hs 33 _ rfl _ _ _ _ _ _ (fun _ => ?_) (fun zq => absurd (hd_c1t (c := 5) (by omega) (by omega) (by omega : (if 0 < sb_v ls % (m : Int) then 1 else 0 : Int) ≤ 0)) zq)
          refine hs 39 _ rfl _ _ _ _ _ _ _ rfl ?_
          refine hs 40 _ rfl _ _ _ _ _ _ _ (hd_l2i (by omega) (by omega)) ?_
          exact hs 41 _ rfl _ _ _ _ _ (rv _) (Nat.zero_le _) (Nat.zero_le _) hP
      · have e : (sg * sb_v ls) % (m : Int) = sb_v ls % (m : Int) := by
          rcases hsg with y | y | y
          · omega
          · rw [y, hz.mp y]; rfl
          · rw [y, Int.one_mul]
        rw [e] at hP
        refine hs 11 _ rfl _ _ _ _ _ _ _ rfl ?_
        refine hs 12 _ rfl _ _ _ _ _ _ (fun _ => ?_) (fun zq => absurd (hd_c1t (c := 2) (by omega) (by omega) (by omega : (((0 : Nat) : Int) - 1) < 0)) zq)
        refine hs 27 _ rfl _ _ _ _ _ _ _ rfl ?_
        refine hs 28 _ rfl _ _ _ _ _ _ _ _ _ hg ht rfl ?_
        refine hs 29 _ rfl _ _ _ _ _ _ (fun _ => ?_) (fun zq => absurd (hd_c1t (c := 3) (by omega) (by omega) (by omega : 0 ≤ sg)) zq)
        refine hs 39 _ rfl _ _ _ _ _ _ _ rfl ?_
        refine hs 40 _ rfl _ _ _ _ _ _ _ (hd_l2i (by omega) (by omega)) ?_
        exact hs 41 _ rfl _ _ _ _ _ (rv _) (Nat.zero_le _) (Nat.zero_le _) hP
    | succ k ih =>
      intro hk
      obtain ⟨r1, r2⟩ := rb (sb_v (ls.drop (k + 1)))
      obtain ⟨x, x1, x2⟩ := hd.get (j := k) (by omega)
      have gx : ls.getD k 0 = x := by rw [List.getD_eq_getElem?_getD, x1]; rfl
      rw [show (((k + 1 : Nat) : Int) - 1) = (k : Int) by omega]
      refine hs 11 _ rfl _ _ _ _ _ _ _ rfl ?_
      refine hs 12 _ rfl _ _ _ _ _ _ (fun zq => absurd (hd_c1z (c := 2) (by omega) (by omega) zq) (by omega : ¬ ((k : Int) < 0))) (fun _ => ?_)
      refine hs 13 _ rfl _ _ _ _ _ _ _ rfl ?_
      refine hs 14 _ rfl _ _ _ _ _ _ _ rfl ?_
      refine hs 15 _ rfl _ _ _ _ _ _ _ hd_lmul ?_
      refine hs 16 _ rfl _ _ _ _ _ _ _ rfl ?_
      refine hs 17 _ rfl _ _ _ _ _ _ _ rfl ?_
      refine hd_callV (hs 18 _ rfl) (a := [.ref q, .int (Int32.ofInt (k : Int))]) (st := [.long (Int64.ofInt (sb_v (ls.drop (k + 1)) % (m : Int) * 1000000000))]) (P := fun o h9 => o = .inl (some (.int (Int32.ofInt (ls.getD k 0)))) ∧ h = h9) (sb_limb_M g hg ht hgp htp hd (by omega) ⟨rfl, rfl⟩) ⟨_, _, _, rfl, hg, ht⟩ rfl rfl (Nat.le_of_ble_eq_true rfl) (Nat.zero_le _) (Nat.zero_le _) (fun v9 h9 e9 => ?_) (fun E h9 hp => by first | exact nomatch hp.1 | (obtain ⟨⟨_, hz, _⟩, _⟩ := hp; cases hz))
      obtain ⟨e9, rfl⟩ := e9
      cases e9
      refine hs 19 _ rfl _ _ _ _ _ _ _ (hd_i2l (by omega) (by omega)) ?_
      refine hs 20 _ rfl _ _ _ _ _ _ _ hd_ladd ?_
      refine hs 21 _ rfl _ _ _ _ _ _ _ rfl ?_
      refine hs 22 _ rfl _ _ _ _ _ _ _ (hd_i2l (by omega) (by omega)) ?_
      refine hs 23 _ rfl _ _ _ _ _ _ _ (hd_lrem (by omega) (by omega) (by omega) (by omega)) ?_
      refine hs 24 _ rfl _ _ _ _ _ _ _ rfl ?_
      refine hs 25 _ rfl _ _ _ _ _ _ _ (hd_inc rfl) ?_
      refine hs 26 _ rfl _ _ _ _ _ ?_
      have e : (sb_v (ls.drop (k + 1)) % (m : Int) * 1000000000 + ls.getD k 0) % (m : Int) = sb_v (ls.drop k) % (m : Int) := by
        rw [sb_mod1, gx, List.drop_eq_getElem_cons (l := ls) (show k < ls.length by have := hd.1; omega), Option.some.inj ((List.getElem?_eq_getElem _).symm.trans x1)]
        rfl
      rw [e]
      exact ih (by omega)
  refine hs 0 _ rfl _ _ _ _ _ _ _ rfl ?_
  refine hs 1 _ rfl _ _ _ _ _ _ (fun _ => ?_) (fun zq => absurd (hd_c1t (c := 4) (by omega) (by omega) (by omega : 0 < (m : Int))) zq)
  refine hs 4 _ rfl _ _ _ _ _ _ _ rfl ?_
  refine hs 5 _ rfl _ _ _ _ _ _ _ rfl ?_
  refine hs 6 _ rfl _ _ _ _ _ _ _ rfl ?_
  refine hs 7 _ rfl _ _ _ _ _ _ _ _ _ hg ht rfl ?_
  refine hs 8 _ rfl _ _ _ _ _ _ _ rfl ?_
  refine hs 9 _ rfl _ _ _ _ _ _ _ hd_sub ?_
  refine hs 10 _ rfl _ _ _ _ _ _ _ rfl ?_
  have := loop n (Nat.le_refl _)
  rw [show sb_v (ls.drop n) = 0 from sb_zero fun j d hj => by rw [List.getElem?_drop] at hj; exact hn.2.1 _ d (by omega) hj, Int.zero_emod] at this
  exact this
end
section
/-! POWERS -/
/-- what is told of a power -/
def sm_pw (a m : Nat) (sg v z : Int) : Prop := (sg < 0 ∧ Nat.gcd a m ≠ 1 ∧ z = -8) ∨ ((sg < 0 → Nat.gcd a m = 1) ∧ ∃ f : Nat, f < m ∧ (sg < 0 → (a : Int) * (f : Int) % m = 1 % m) ∧ (¬ sg < 0 → f = a) ∧ z = ((f ^ v.toNat % m : Nat) : Int))
set_option maxHeartbeats 4000000 in
theorem sm_pow_M {l : Launch} {G : am_G} {X : ck_XT} (g : gM l G X) {q p t tp n a m : Nat} {ls : List Int} {sg z : Int} {h : List am_C} (ha : a < m) (hm2 : m ≤ 999) (hg : am_g G h q = some (sb_c t p (n : Int) sg)) (ht : t % 100 = 7) (hgp : am_g G h p = some (tp, hd_r ls)) (htp : tp % 100 = 50) (hi : sb_is n sg ls z) {mc ms : Nat} {Post : am_O → List am_C → Prop} (hP : ∀ z : Int, sm_pw a m sg (sb_v ls) z → Post (.inl (some (.int (Int32.ofInt z)))) h) :
    am_M l G yX7_raise (.code yX7_raise prog_9_method_5_code 6 (some .int)) 2 49 mc ms [.int (Int32.ofInt (a : Int)), .ref q, .int (Int32.ofInt (m : Int))] h Post := by
  refine gh_yX7_raise_H g (Nat.le_of_ble_eq_true rfl) fun S SX hs hr hw => ?_
  have rv : ∀ x : Int32, ck_fv 0 (.int x) := fun x => ⟨_, rfl⟩
  obtain ⟨hd, hn, -, hsg, hz⟩ := hi
  have hn10 : n ≤ 10 := by have := hn.1; have := hd.1; omega
  have loop : ∀ (f : Nat), f < m → (Post (.inl (some (.int (Int32.ofInt ((f ^ (sb_v ls).toNat % m : Nat) : Int))))) h) → ∀ k : Nat, k ≤ n → S 46 [some (.int (Int32.ofInt (a : Int))), some (.ref q), some (.int (Int32.ofInt (m : Int))), some (.int (Int32.ofInt (f : Int))), some (.int (Int32.ofInt ((f ^ (sb_v (ls.drop k)).toNat % m : Nat) : Int))), some (.int (Int32.ofInt ((k : Int) - 1)))] [] h 0 0 := by
    intro f hf hP k
    induction k with
    | zero =>
      intro hk
      rw [List.drop_zero]
      refine hs 27 _ rfl _ _ _ _ _ _ _ rfl ?_
      refine hs 28 _ rfl _ _ _ _ _ _ (fun _ => ?_) (fun zq => absurd (hd_c1t (c := 2) (by omega) (by omega) (by omega : (((0 : Nat) : Int) - 1) < 0)) zq)
      refine hs 45 _ rfl _ _ _ _ _ _ _ rfl ?_
      exact hs 46 _ rfl _ _ _ _ _ (rv _) (Nat.zero_le _) (Nat.zero_le _) hP
    | succ k ih =>
      intro hk
      obtain ⟨x, x1, x2, x3⟩ := hd.get (j := k) (by omega)
      obtain ⟨y, rfl⟩ : ∃ y : Nat, x = (y : Int) := ⟨x.toNat, by omega⟩
      have gx : ls.getD k 0 = (y : Int) := by rw [List.getD_eq_getElem?_getD, x1]; rfl
      have hlt := Nat.mod_lt (f ^ (sb_v (ls.drop (k + 1))).toNat) (show 0 < m by omega)
      rw [show (((k + 1 : Nat) : Int) - 1) = (k : Int) by omega]
      generalize hV : (sb_v (ls.drop (k + 1))).toNat = V at *
      generalize hres : f ^ V % m = res at *
      have hl1 := Nat.mod_lt (res ^ 1000000000) (show 0 < m by omega)
      have hl2 := Nat.mod_lt (f ^ y) (show 0 < m by omega)
      have hpp := sm_le hl1 hl2 (by omega)
      have hpp' : (((res ^ 1000000000 % m) * (f ^ y % m) : Nat) : Int) = ((res ^ 1000000000 % m : Nat) : Int) * ((f ^ y % m : Nat) : Int) := Int.natCast_mul _ _
      have key : (sb_v (ls.drop k)).toNat = V * 1000000000 + y := by
        have h0 := sb_a.nn (ls := ls.drop (k + 1)) fun z hz => hd.2 z (List.mem_of_mem_drop hz)
        rw [List.drop_eq_getElem_cons (l := ls) (show k < ls.length by have := hd.1; omega), Option.some.inj ((List.getElem?_eq_getElem _).symm.trans x1)]
        show ((y : Int) + 1000000000 * sb_v (ls.drop (k + 1))).toNat = _
        omega
      generalize hw1 : res ^ 1000000000 % m = w1 at *
      generalize hw2 : f ^ y % m = w2 at *
      refine hs 27 _ rfl _ _ _ _ _ _ _ rfl ?_
      refine hs 28 _ rfl _ _ _ _ _ _ (fun zq => absurd (hd_c1z (c := 2) (by omega) (by omega) zq) (by omega : ¬ ((k : Int) < 0))) (fun _ => ?_)
      refine hs 29 _ rfl _ _ _ _ _ _ _ rfl ?_
      refine hs 30 _ rfl _ _ _ _ _ _ _ rfl ?_
      refine hs 31 _ rfl _ _ _ _ _ _ _ rfl ?_
      refine hd_call (hs 32 _ rfl) (a := [.int (Int32.ofInt (res : Int)), .int (Int32.ofInt 1000000000), .int (Int32.ofInt (m : Int))]) (st := []) (P := fun o h9 => o = .inl (some (.int (Int32.ofInt (w1 : Int)))) ∧ h = h9) (sm_raise_M g (e := 1000000000) hlt (by omega) (by decide) (by rw [hw1]; exact ⟨rfl, rfl⟩)) rfl rfl (Nat.le_of_ble_eq_true rfl) (Nat.zero_le _) (Nat.zero_le _) (fun v9 h9 e9 => ?_) (fun E h9 hp => by first | exact nomatch hp.1 | (obtain ⟨⟨_, hz, _⟩, _⟩ := hp; cases hz))
      obtain ⟨e9, rfl⟩ := e9
      cases e9
      refine hs 33 _ rfl _ _ _ _ _ _ _ rfl ?_
      refine hs 34 _ rfl _ _ _ _ _ _ _ rfl ?_
      refine hs 35 _ rfl _ _ _ _ _ _ _ rfl ?_
      refine hd_callV (hs 36 _ rfl) (a := [.ref q, .int (Int32.ofInt (k : Int))]) (st := [.int (Int32.ofInt (f : Int)), .int (Int32.ofInt (w1 : Int))]) (P := fun o h9 => o = .inl (some (.int (Int32.ofInt (y : Int)))) ∧ h = h9) (sb_limb_M g hg ht hgp htp hd (by omega) (by rw [gx]; exact ⟨rfl, rfl⟩)) ⟨_, _, _, rfl, hg, ht⟩ rfl rfl (Nat.le_of_ble_eq_true rfl) (Nat.zero_le _) (Nat.zero_le _) (fun v9 h9 e9 => ?_) (fun E h9 hp => by first | exact nomatch hp.1 | (obtain ⟨⟨_, hz, _⟩, _⟩ := hp; cases hz))
      obtain ⟨e9, rfl⟩ := e9
      cases e9
      refine hs 37 _ rfl _ _ _ _ _ _ _ rfl ?_
      refine hd_call (hs 38 _ rfl) (a := [.int (Int32.ofInt (f : Int)), .int (Int32.ofInt (y : Int)), .int (Int32.ofInt (m : Int))]) (st := [.int (Int32.ofInt (w1 : Int))]) (P := fun o h9 => o = .inl (some (.int (Int32.ofInt (w2 : Int)))) ∧ h = h9) (sm_raise_M g hf (by omega) (by omega) (by rw [hw2]; exact ⟨rfl, rfl⟩)) rfl rfl (Nat.le_of_ble_eq_true rfl) (Nat.zero_le _) (Nat.zero_le _) (fun v9 h9 e9 => ?_) (fun E h9 hp => by first | exact nomatch hp.1 | (obtain ⟨⟨_, hz, _⟩, _⟩ := hp; cases hz))
      obtain ⟨e9, rfl⟩ := e9
      cases e9
      refine hs 39 _ rfl _ _ _ _ _ _ _ hd_mul ?_
      refine hs 40 _ rfl _ _ _ _ _ _ _ rfl ?_
      refine hs 41 _ rfl _ _ _ _ _ _ _ (hd_rem (by omega) (by omega) (by omega) (by omega)) ?_
      refine hs 42 _ rfl _ _ _ _ _ _ _ rfl ?_
      refine hs 43 _ rfl _ _ _ _ _ _ _ (hd_inc rfl) ?_
      refine hs 44 _ rfl _ _ _ _ _ ?_
      rw [sm_mm]
      have e : w1 * w2 % m = f ^ (sb_v (ls.drop k)).toNat % m := by
        rw [key, ← hw1, ← hw2, ← hres, ← Nat.pow_mod, ← Nat.mul_mod, ← Nat.pow_mul, ← Nat.pow_add]
      rw [e]
      exact ih (by omega)
  have start : ∀ (f : Nat) (L0 : List (Option Value)), f < m → S 46 [some (.int (Int32.ofInt (a : Int))), some (.ref q), some (.int (Int32.ofInt (m : Int))), some (.int (Int32.ofInt (f : Int))), some (.int (Int32.ofInt ((1 : Int) % (m : Int)))), some (.int (Int32.ofInt ((n : Int) - 1)))] [] h 0 0 → S 33 [some (.int (Int32.ofInt (a : Int))), some (.ref q), some (.int (Int32.ofInt (m : Int))), some (.int (Int32.ofInt (f : Int))), none, none] [] h 0 0 := by
    intro f L0 hf kk
    refine hs 18 _ rfl _ _ _ _ _ _ _ rfl ?_
    refine hs 19 _ rfl _ _ _ _ _ _ _ rfl ?_
    refine hs 20 _ rfl _ _ _ _ _ _ _ (hd_rem (by omega) (by omega) (by omega) (by omega)) ?_
    refine hs 21 _ rfl _ _ _ _ _ _ _ rfl ?_
    refine hs 22 _ rfl _ _ _ _ _ _ _ rfl ?_
    refine hs 23 _ rfl _ _ _ _ _ _ _ _ _ hg ht rfl ?_
    refine hs 24 _ rfl _ _ _ _ _ _ _ rfl ?_
    refine hs 25 _ rfl _ _ _ _ _ _ _ hd_sub ?_
    refine hs 26 _ rfl _ _ _ _ _ _ _ rfl ?_
    exact kk
  have hfin : ∀ f : Nat, f < m → Post (.inl (some (.int (Int32.ofInt ((f ^ (sb_v ls).toNat % m : Nat) : Int))))) h → S 33 [some (.int (Int32.ofInt (a : Int))), some (.ref q), some (.int (Int32.ofInt (m : Int))), some (.int (Int32.ofInt (f : Int))), none, none] [] h 0 0 := by
    intro f hf hP
    refine start f [] hf ?_
    have := loop f hf hP n (Nat.le_refl _)
    rw [show sb_v (ls.drop n) = 0 from sb_zero fun j d hj => by rw [List.getElem?_drop] at hj; exact hn.2.1 _ d (by omega) hj, Int.toNat_zero, Nat.pow_zero, ← sm_1m] at this
    exact this
  by_cases hsn : sg < 0
  · obtain rfl : sg = -1 := by omega
    refine hs 0 _ rfl _ _ _ _ _ _ _ rfl ?_
    refine hs 1 _ rfl _ _ _ _ _ _ (fun _ => ?_) (fun zq => absurd (hd_c1t (c := 4) (by omega) (by omega) (by omega : 0 < (m : Int))) zq)
    refine hs 4 _ rfl _ _ _ _ _ _ _ rfl ?_
    refine hs 5 _ rfl _ _ _ _ _ _ _ _ _ hg ht rfl ?_
    refine hs 6 _ rfl _ _ _ _ _ _ (fun zq => absurd (hd_c1z (c := 3) (by omega) (by omega) zq) (by omega : ¬ (0 ≤ (-1 : Int)))) (fun _ => ?_)
    refine hs 7 _ rfl _ _ _ _ _ _ _ rfl ?_
    refine hs 8 _ rfl _ _ _ _ _ _ _ rfl ?_
    refine hd_call (hs 9 _ rfl) (a := [.int (Int32.ofInt (a : Int)), .int (Int32.ofInt (m : Int))]) (st := []) (P := fun o h9 => (∃ zi : Int, o = .inl (some (.int (Int32.ofInt zi))) ∧ sm_inv a m zi) ∧ h = h9) (sm_invert_M g ha hm2 fun zi hzi => ⟨⟨zi, rfl, hzi⟩, rfl⟩) rfl rfl (Nat.le_of_ble_eq_true rfl) (Nat.zero_le _) (Nat.zero_le _) (fun v9 h9 e9 => ?_) (fun E h9 hp => by first | exact nomatch hp.1 | (obtain ⟨⟨_, hz, _⟩, _⟩ := hp; cases hz))
    obtain ⟨⟨zi, e9, hinv⟩, rfl⟩ := e9
    cases e9
    rcases hinv with ⟨i1, rfl⟩ | ⟨i1, i2, i3, i4⟩
    · have hP := hP (-8) (Or.inl ⟨by decide, i1, rfl⟩)
      show S 19 _ [.int (Int32.ofInt (-8))] _ 0 0
      refine hs 10 _ rfl _ _ _ _ _ ?_
      refine hs 12 _ rfl _ _ _ _ _ _ _ rfl ?_
      refine hs 13 _ rfl _ _ _ _ _ _ _ rfl ?_
      refine hs 14 _ rfl _ _ _ _ _ _ _ rfl ?_
      refine hs 15 _ rfl _ _ _ _ _ _ _ (fun zq => absurd (hd_c2z (c := 1) (by omega) (by omega) (by omega) (by omega) zq) (by omega : ¬ (((-8 : Int) - (-8 : Int)) ≠ 0))) (fun _ => ?_)
      refine hs 16 _ rfl _ _ _ _ _ _ _ rfl ?_
      exact hs 17 _ rfl _ _ _ _ _ (rv _) (Nat.zero_le _) (Nat.zero_le _) hP
    · obtain ⟨f, rfl⟩ : ∃ f : Nat, zi = (f : Int) := ⟨zi.toNat, by omega⟩
      show S 19 _ [.int (Int32.ofInt (f : Int))] _ 0 0
      refine hs 10 _ rfl _ _ _ _ _ ?_
      refine hs 12 _ rfl _ _ _ _ _ _ _ rfl ?_
      refine hs 13 _ rfl _ _ _ _ _ _ _ rfl ?_
      refine hs 14 _ rfl _ _ _ _ _ _ _ rfl ?_
      refine hs 15 _ rfl _ _ _ _ _ _ _ (fun _ => ?_) (fun zq => absurd (hd_c2t (c := 1) (by omega) (by omega) (by omega) (by omega) (by omega : ((f : Int) - (-8 : Int)) ≠ 0)) zq)
      exact hfin f (by omega) (hP _ (Or.inr ⟨fun _ => i1, f, by omega, fun _ => i4, fun z => absurd (by decide) z, rfl⟩))
  · 
    refine hs 0 _ rfl _ _ _ _ _ _ _ rfl ?_
    refine hs 1 _ rfl _ _ _ _ _ _ (fun _ => ?_) (fun zq => absurd (hd_c1t (c := 4) (by omega) (by omega) (by omega : 0 < (m : Int))) zq)
    refine hs 4 _ rfl _ _ _ _ _ _ _ rfl ?_
    refine hs 5 _ rfl _ _ _ _ _ _ _ _ _ hg ht rfl ?_
    refine hs 6 _ rfl _ _ _ _ _ _ (fun _ => ?_) (fun zq => absurd (hd_c1t (c := 3) (by omega) (by omega) (by omega : 0 ≤ sg)) zq)
    refine hs 11 _ rfl _ _ _ _ _ _ _ rfl ?_
    refine hs 12 _ rfl _ _ _ _ _ _ _ rfl ?_
    refine hs 13 _ rfl _ _ _ _ _ _ _ rfl ?_
    refine hs 14 _ rfl _ _ _ _ _ _ _ rfl ?_
    refine hs 15 _ rfl _ _ _ _ _ _ _ (fun _ => ?_) (fun zq => absurd (hd_c2t (c := 1) (by omega) (by omega) (by omega) (by omega) (by omega : ((a : Int) - (-8 : Int)) ≠ 0)) zq)
    exact hfin a ha (hP _ (Or.inr ⟨fun z => absurd z hsn, a, ha, fun z => absurd z hsn, fun _ => rfl, rfl⟩))
end
section
/-! THE START: what fits, what is read of it -/
theorem st_forget {s t : State} {L : List Loc} {k n : Nat} (h : s.sameButNew t L k n) (hf : ∀ q ∈ L, s.heap.size ≤ q.base) : s.sameButNew t [] k n := by
  obtain ⟨h1, h2, h3, h4, h5, h6⟩ := h
  refine ⟨h1, h2, h3, h4, h5, fun a c hc => ?_⟩
  obtain ⟨c', e1, e2, e3, e4⟩ := h6 a c hc
  refine ⟨c', e1, e2, e3, fun i _ => e4 i fun hm => ?_⟩
  have h7 : s.heap.size ≤ a := hf _ hm
  have h8 := (Array.getElem?_eq_some_iff.mp hc).1
  omega
theorem st_fit {s : State} (h : heapFits s = true) {a : Nat} {cell : Cell} (hc : s.heap[a]? = some cell) {i : Nat} {v : Value} (hv : cell.slots[i]? = some v) : s.fitsSlot cell.cls cell.vm i v = true := by
  obtain ⟨ha, rfl⟩ := Array.getElem?_eq_some_iff.mp hc
  have h1 := (Array.all_eq_true_iff_forall_mem.mp h) _ (Array.getElem_mem ha)
  have hi : i < (s.heap[a]).slots.size := (Array.getElem?_eq_some_iff.mp hv).1
  have h2 := (List.all_eq_true.mp h1) i (List.mem_range.mpr hi)
  simpa [hv] using h2
theorem st_fit_arr {s : State} (h : heapFits s = true) {a : Nat} {cell : Cell} (hc : s.heap[a]? = some cell) {ty : FieldType} (hof : s.isArrayOf cell ty) {i : Nat} {v : Value} (hv : cell.slots[i]? = some v) : fits ty v = true := by
  have h1 := st_fit h hc hv
  obtain ⟨g1, k, g2, comp, g3⟩ := hof
  have h2 : s.slotType? cell.cls cell.vm i = some ty := by
    cases hvm : cell.vm with
    | statics z => exact absurd hvm (g1 z)
    | _ => simp [State.slotType?, g2, g3]
  unfold State.fitsSlot at h1
  rw [h2] at h1
  exact h1
theorem st_fby {v : Value} (h : fits .byte v = true) : ∃ x : Int32, v = .int x ∧ -128 ≤ x.toInt ∧ x.toInt ≤ 127 := by
  cases v with
  | int x =>
    refine ⟨x, rfl, ?_⟩
    have h : (decide ((-128 : Int32) ≤ x) && decide (x ≤ 127)) = true := h
    rw [Bool.and_eq_true, decide_eq_true_eq, decide_eq_true_eq, Int32.le_iff_toInt_le, Int32.le_iff_toInt_le] at h
    exact ⟨(show (-128 : Int) ≤ x.toInt from h.1), (show x.toInt ≤ (127 : Int) from h.2)⟩
  | _ => cases h
theorem st_fbo {v : Value} (h : fits .boolean v = true) : ∃ x : Int32, v = .int x ∧ 0 ≤ x.toInt ∧ x.toInt ≤ 1 := by
  cases v with
  | int x =>
    refine ⟨x, rfl, ?_⟩
    have h : (x == 0 || x == 1) = true := h
    rw [Bool.or_eq_true, beq_iff_eq, beq_iff_eq] at h
    rcases h with rfl | rfl
    · exact ⟨by decide, by decide⟩
    · exact ⟨by decide, by decide⟩
  | _ => cases h
theorem st_fin {v : Value} (h : fits .int v = true) : ∃ x : Int32, v = .int x := by
  cases v with
  | int x => exact ⟨x, rfl⟩
  | _ => cases h
theorem st_nst {s : State} {cell : Cell} {ty : FieldType} (hof : s.isArrayOf cell ty) : cell.vm.isStatics = false := by
  cases hvm : cell.vm with
  | statics z => exact absurd hvm (hof.1 z)
  | _ => rfl
theorem st_arr {s : State} {cell : Cell} {ty : FieldType} (hof : s.isArrayOf cell ty) : ArrOfT s cell.cls ty := fun n z => ⟨(fun k h => by cases h), hof.2⟩
/-- a field of an object of the start, by its type -/
theorem st_slot {ws : List Cond} {s : State} {args : Array Value} {C : String} {T : u_T} {N : Nat} {cC : ClassId} {iS : Nat → Nat} (hfit : heapFits s = true) (hts : ∀ w ∈ ws, w.before args s = true) (hin : ∀ w ∈ u_ws C T N, w ∈ ws) (hK : u_Kn s C T N cC iS) {a : Nat} {cell : Cell} (hc : s.heap[a]? = some cell) (hcl : cell.cls = cC) (hst : cell.vm.isStatics = false)
    (hsz : ∀ k : Class, s.vm.classes[cC]? = some k → k.kind = .ordinary → cell.slots.size = k.instanceTypes.size) {k : Nat} (hk : k < N) {ty : FieldType} (hd : parseFieldDescriptor (T k).2.2.1 = some ty) : ∃ v, cell.slots[iS k]? = some v ∧ fits ty v = true := by
  obtain ⟨hS, hfc, kC, hkC, hkind⟩ := hK
  obtain ⟨cf, kf, fi, fd, hi, he⟩ := hS k hk
  have h3 := (u_facts hfc hkC (u_lays hts hin hk) hi).2.2
  rw [(State.fieldFound?_type hi hd).2, he] at h3
  have hlt := (Array.getElem?_eq_some_iff.mp h3).1
  have hz := hsz kC hkC hkind
  have hlt2 : iS k < cell.slots.size := by omega
  have hv : cell.slots[iS k]? = some (cell.slots[iS k]'hlt2) := Array.getElem?_eq_getElem hlt2
  refine ⟨_, hv, ?_⟩
  have h1 := st_fit hfit hc hv
  have h2 : s.slotType? cell.cls cell.vm (iS k) = some ty := by
    rw [hcl]
    cases hvm : cell.vm with
    | statics z => rw [hvm] at hst; cases hst
    | _ => simp [State.slotType?, hkC, hkind, h3]
  unfold State.fitsSlot at h1
  rw [h2] at h1
  exact h1
/-- a row of the start whose length is told -/
theorem st_row {s : State} {args : Array Value} {tm : Term} {ty : FieldType} {N : Nat} (hfit : heapFits s = true) (harr : (Cond.arrayOf tm ty).before args s = true) (hlen : (Cond.eq (.length tm) (.int (Int32.ofNat N))).before args s = true) (hN : N < 2147483648) :
    ∃ (a : Nat) (cell : Cell), tm.eval args s none [] s = some (.ref a) ∧ s.heap[a]? = some cell ∧ cell.vm ≠ .unknown ∧ cell.vm.isStatics = false ∧ s.isArrayOf cell ty ∧ N ≤ cell.slots.size ∧ cell.slots.size.toInt32 = Int32.ofNat N ∧ ∀ (i : Nat) (v : Value), cell.slots[i]? = some v → fits ty v = true := by
  obtain ⟨a, cell, ht, hat, hv⟩ := Term.length_spec (va_eqt hlen)
  obtain ⟨hcell, hkn, hst, -⟩ := State.arrayAt?_spec hat
  obtain ⟨hof, -⟩ := Cond.arrayOf_spec harr ht hcell
  have e : Int32.ofNat cell.slots.size = Int32.ofNat N := (Value.int.inj hv).symm
  refine ⟨a, cell, ht, hcell, hkn, hst, hof, ?_, e, fun i v hv => st_fit_arr hfit hcell hof hv⟩
  apply Nat.not_lt.mp
  intro hlt
  have h1 : (Int32.ofNat cell.slots.size).toNatClampNeg = cell.slots.size := Int32.toNatClampNeg_ofNat_of_lt (by omega)
  have h2 : (Int32.ofNat N).toNatClampNeg = N := Int32.toNatClampNeg_ofNat_of_lt (by omega)
  rw [e, h2] at h1
  omega
/-- a text of the start -/
theorem st_str {ws : List Cond} {s : State} {args : Array Value} {own : String} {k N : Nat} {cC cB : ClassId} {iS : Nat → Nat} (hfit : heapFits s = true) (hts : ∀ w ∈ ws, w.before args s = true) (hin : ∀ w ∈ u_ws RJ0 TJ0 4, w ∈ ws) (hKn : u_Kn s RJ0 TJ0 4 cC iS) (hB : s.vm.findClass "[B" = some cB)
    (h1 : (Cond.exactly (.string own k) "java/lang/String").before args s = true) (h2 : (Cond.eq (.field (.string own k) "java/lang/String" "coder" "B") (.int 0)).before args s = true) (h3 : (Cond.arrayOf (.field (.string own k) "java/lang/String" "value" "[B") .byte).before args s = true)
    (h4 : (Cond.eq (.length (.field (.string own k) "java/lang/String" "value" "[B")) (.int (Int32.ofNat N))).before args s = true) (h5 : (Cond.exactly (.field (.string own k) "java/lang/String" "value" "[B") "[B").before args s = true) (hN : N < 2147483648) :
    ∃ (a r : Nat) (cs cr : Cell) (hs zs : Int32), (Term.string own k).eval args s none [] s = some (.ref a) ∧ s.heap[a]? = some cs ∧ s.heap[r]? = some cr ∧
      (cs.vm ≠ .unknown ∧ cs.vm.isStatics = false ∧ cs.cls = cC ∧ cs.slots[iS 0]? = some (.ref r) ∧ cs.slots[iS 1]? = some (.int 0) ∧ cs.slots[iS 2]? = some (.int hs) ∧ cs.slots[iS 3]? = some (.int zs) ∧ 0 ≤ zs.toInt ∧ zs.toInt ≤ 1) ∧
      (cr.vm ≠ .unknown ∧ cr.vm.isStatics = false ∧ cr.cls = cB ∧ N ≤ cr.slots.size ∧ cr.slots.size.toInt32 = Int32.ofNat N ∧ ∀ (i : Nat) (v : Value), cr.slots[i]? = some v → fits .byte v = true) := by
  obtain ⟨a, c, cs, k0, q1, q2, q3, q4, q5, q6, q7⟩ := Cond.exactly_spec h1
  obtain ⟨hS, hfc, kC, hkC, hkind⟩ := id hKn
  have hcC : c = cC := Option.some.inj (q2.symm.trans hfc)
  subst hcC
  obtain ⟨cf1, kf1, fi1, fd1, hi1, he1⟩ := hS 1 (by decide)
  obtain ⟨-, cs1, g1, g2, -, -, g5⟩ := Term.field_spec hi1 q1 (va_eqt h2)
  cases q3.symm.trans g1
  rw [he1] at g5
  obtain ⟨r, cB', cr, kB, p1, p2, p3, p4, p5, p6, -⟩ := Cond.exactly_spec h5
  have hcB : cB' = cB := Option.some.inj (p2.symm.trans hB)
  obtain ⟨cf0, kf0, fi0, fd0, hi0, he0⟩ := hS 0 (by decide)
  obtain ⟨-, cs2, f1, -, -, -, f5⟩ := Term.field_spec hi0 q1 p1
  cases q3.symm.trans f1
  rw [he0] at f5
  obtain ⟨r', cr', t1, t2, t3, t4, -, t6, t7, t8⟩ := st_row hfit h3 h4 hN
  cases p1.symm.trans t1
  cases p3.symm.trans t2
  have hsz : ∀ k : Class, s.vm.classes[c]? = some k → k.kind = .ordinary → cs.slots.size = k.instanceTypes.size := fun k hk hd => by
    cases q4.symm.trans hk
    exact q7 hd
  obtain ⟨v2, m1, m2⟩ := st_slot hfit hts hin hKn q3 q6 q5 hsz (k := 2) (by decide) (tyJ0_ok 2 (by decide))
  obtain ⟨v3, n1, n2⟩ := st_slot hfit hts hin hKn q3 q6 q5 hsz (k := 3) (by decide) (tyJ0_ok 3 (by decide))
  obtain ⟨hs, rfl⟩ := st_fin m2
  obtain ⟨zs, rfl, z1, z2⟩ := st_fbo n2
  exact ⟨a, r, cs, cr, hs, zs, q1, q3, p3, ⟨g2, q5, q6, f5, g5, m1, n1, z1, z2⟩, t3, t4, p6.trans hcB, t6, t7, t8⟩
end
section
/-! THE START: classes -/
theorem st_cl0 : ∀ w ∈ u_ws RJ0 TJ0 4, w ∈ lw_tbl := by decide +kernel
theorem st_ci0 : Cond.instantiable RJ0 4 ∈ lw_tbl := by decide +kernel
theorem st_cl1 : ∀ w ∈ u_ws RJ4 TJ4 4, w ∈ lw_tbl := by decide +kernel
theorem st_ci1 : Cond.instantiable RJ4 4 ∈ lw_tbl := by decide +kernel
theorem st_cl2 : ∀ w ∈ u_ws RJ6 TJ6 1, w ∈ lw_tbl := by decide +kernel
theorem st_ci2 : Cond.instantiable RJ6 1 ∈ lw_tbl := by decide +kernel
theorem st_cl3 : ∀ w ∈ u_ws RJx00060 TJx00060 6, w ∈ lw_tbl := by decide +kernel
theorem st_ci3 : Cond.instantiable RJx00060 6 ∈ lw_tbl := by decide +kernel
theorem st_cl4 : ∀ w ∈ u_ws RJx7c733 TJx7c733 6, w ∈ lw_tbl := by decide +kernel
theorem st_ci4 : Cond.instantiable RJx7c733 6 ∈ lw_tbl := by decide +kernel
theorem st_cl5 : ∀ w ∈ u_ws RJx35411 TJx35411 4, w ∈ lw_tbl := by decide +kernel
theorem st_ci5 : Cond.instantiable RJx35411 4 ∈ lw_tbl := by decide +kernel
theorem st_cl6 : ∀ w ∈ u_ws RJx4a65c TJx4a65c 3, w ∈ lw_tbl := by decide +kernel
theorem st_ci6 : Cond.instantiable RJx4a65c 3 ∈ lw_tbl := by decide +kernel
theorem st_cl7 : ∀ w ∈ u_ws RX0 TX0 3, w ∈ lw_tbl := by decide +kernel
theorem st_ci7 : Cond.instantiable RX0 3 ∈ lw_tbl := by decide +kernel
theorem st_cl8 : ∀ w ∈ u_ws RX1 TX1 7, w ∈ lw_tbl := by decide +kernel
theorem st_ci8 : Cond.instantiable RX1 7 ∈ lw_tbl := by decide +kernel
theorem st_cl9 : ∀ w ∈ u_ws RX2 TX2 3, w ∈ lw_tbl := by decide +kernel
theorem st_ci9 : Cond.instantiable RX2 3 ∈ lw_tbl := by decide +kernel
theorem st_cl10 : ∀ w ∈ u_ws RX3 TX3 4, w ∈ lw_tbl := by decide +kernel
theorem st_ci10 : Cond.instantiable RX3 4 ∈ lw_tbl := by decide +kernel
theorem st_cl11 : ∀ w ∈ u_ws RX4 TX4 3, w ∈ lw_tbl := by decide +kernel
theorem st_ci11 : Cond.instantiable RX4 3 ∈ lw_tbl := by decide +kernel
theorem st_cl12 : ∀ w ∈ u_ws RX5 TX5 3, w ∈ lw_tbl := by decide +kernel
theorem st_ci12 : Cond.instantiable RX5 3 ∈ lw_tbl := by decide +kernel
theorem st_cl13 : ∀ w ∈ u_ws RX6 TX6 4, w ∈ lw_tbl := by decide +kernel
theorem st_ci13 : Cond.instantiable RX6 4 ∈ lw_tbl := by decide +kernel
theorem st_cl14 : ∀ w ∈ u_ws RX9 TX9 7, w ∈ lw_tbl := by decide +kernel
theorem st_ci14 : Cond.instantiable RX9 7 ∈ lw_tbl := by decide +kernel
theorem st_cl15 : ∀ w ∈ u_ws RX10 TX10 13, w ∈ lw_tbl := by decide +kernel
theorem st_ci15 : Cond.instantiable RX10 13 ∈ lw_tbl := by decide +kernel
theorem st_cl16 : ∀ w ∈ u_ws RX11 TX11 2, w ∈ lw_tbl := by decide +kernel
theorem st_ci16 : Cond.instantiable RX11 2 ∈ lw_tbl := by decide +kernel
theorem st_cl17 : ∀ w ∈ u_ws RX12 TX12 2, w ∈ lw_tbl := by decide +kernel
theorem st_ci17 : Cond.instantiable RX12 2 ∈ lw_tbl := by decide +kernel
theorem st_cl18 : ∀ w ∈ u_ws RX13 TX13 4, w ∈ lw_tbl := by decide +kernel
theorem st_ci18 : Cond.instantiable RX13 4 ∈ lw_tbl := by decide +kernel
theorem st_cl19 : ∀ w ∈ u_ws RX14 TX14 6, w ∈ lw_tbl := by decide +kernel
theorem st_ci19 : Cond.instantiable RX14 6 ∈ lw_tbl := by decide +kernel
theorem st_cl : ∀ (c : Nat) (q : vw_C), am_cl[c]? = some q → (∀ w ∈ u_ws q.1 q.2.1 q.2.2, w ∈ lw_tbl) ∧ Cond.instantiable q.1 q.2.2 ∈ lw_tbl := by
  intro c q hq
  match c, hq with
  | 0, hq => cases hq; exact ⟨st_cl0, st_ci0⟩
  | 1, hq => cases hq; exact ⟨st_cl1, st_ci1⟩
  | 2, hq => cases hq; exact ⟨st_cl2, st_ci2⟩
  | 3, hq => cases hq; exact ⟨st_cl3, st_ci3⟩
  | 4, hq => cases hq; exact ⟨st_cl4, st_ci4⟩
  | 5, hq => cases hq; exact ⟨st_cl5, st_ci5⟩
  | 6, hq => cases hq; exact ⟨st_cl6, st_ci6⟩
  | 7, hq => cases hq; exact ⟨st_cl7, st_ci7⟩
  | 8, hq => cases hq; exact ⟨st_cl8, st_ci8⟩
  | 9, hq => cases hq; exact ⟨st_cl9, st_ci9⟩
  | 10, hq => cases hq; exact ⟨st_cl10, st_ci10⟩
  | 11, hq => cases hq; exact ⟨st_cl11, st_ci11⟩
  | 12, hq => cases hq; exact ⟨st_cl12, st_ci12⟩
  | 13, hq => cases hq; exact ⟨st_cl13, st_ci13⟩
  | 14, hq => cases hq; exact ⟨st_cl14, st_ci14⟩
  | 15, hq => cases hq; exact ⟨st_cl15, st_ci15⟩
  | 16, hq => cases hq; exact ⟨st_cl16, st_ci16⟩
  | 17, hq => cases hq; exact ⟨st_cl17, st_ci17⟩
  | 18, hq => cases hq; exact ⟨st_cl18, st_ci18⟩
  | 19, hq => cases hq; exact ⟨st_cl19, st_ci19⟩
  | c + 20, hq => simp [am_cl] at hq
theorem st_K {s : State} {args : Array Value} (hts : ∀ w ∈ lw_tbl, w.before args s = true) : ∃ (dC : Nat → ClassId) (dI : Nat → Nat → Nat), ∀ (c : Nat) (q : vw_C), am_cl[c]? = some q → u_Kn s q.1 q.2.1 q.2.2 (dC c) (dI c) := by
  have h : ∀ c : Nat, ∃ z : ClassId × (Nat → Nat), ∀ q, am_cl[c]? = some q → u_Kn s q.1 q.2.1 q.2.2 z.1 z.2 := by
    intro c
    cases hq : am_cl[c]? with
    | none => exact ⟨((0 : Nat), fun _ => 0), fun q h => by cases h⟩
    | some q =>
      obtain ⟨h1, h2⟩ := st_cl c q hq
      obtain ⟨cC, iS, h3⟩ := u_known hts h1 (hts _ h2)
      exact ⟨(cC, iS), fun q' h => by cases h; exact h3⟩
  obtain ⟨f, hf⟩ := Classical.axiomOfChoice h
  exact ⟨fun c => (f c).1, fun c => (f c).2, fun c q hq => hf c q hq⟩
theorem st_prim {s : State} {args : Array Value} {ty : FieldType} (hp : ∀ C, ty ≠ .object C) (h : (Cond.arrayClass ty).before args s = true) : ∃ c : ClassId, ArrOfT s c ty ∧ va_RA s c ty := by
  obtain ⟨c, k, comp, h1, h2, h3⟩ := Cond.arrayClass_spec h
  refine ⟨c, fun n z => ⟨(fun k h => by cases h), k, h2, comp, h3⟩, ?_⟩
  cases ty with
  | object C => exact absurd rfl (hp C)
  | _ => exact h1
theorem st_obj {s : State} {args : Array Value} {C : String} (h : (Cond.arrayOver (.object C)).before args s = true) : ∃ c : ClassId, ArrOfT s c (.object C) ∧ va_RA s c (.object C) := by
  obtain ⟨comp, c, k, h1, h2, h3, h4, h5⟩ := Cond.arrayOver_spec h
  exact ⟨c, fun n z => ⟨(fun k h => by cases h), k, h3, comp, h4⟩, k, comp, h3, h4, h1, h5⟩
theorem st_ii {s : State} {args : Array Value} {cI : ClassId} (hI : s.vm.findClass "[I" = some cI) (h : (Cond.arrayOver (.array .int)).before args s = true) : ∃ c : ClassId, ArrOfT s c (.array .int) ∧ va_RA s c (.array .int) := by
  have e3 : (FieldType.array .int).toString = "[I" := by decide
  have e2 : s.vm.findClass (FieldType.array .int).toString = some cI := by rw [e3]; exact hI
  simp only [Cond.before, Cond.holds, Cond.value, beq_iff_eq, e2, Option.bind_some, Option.bind_eq_some_iff, Option.map_eq_some_iff] at h
  obtain ⟨cc, hi, k, hk1, hk2⟩ := h
  cases hkind : k.kind with
  | array component ty =>
    rw [hkind] at hk2
    simp at hk2
    obtain ⟨rfl, h5⟩ := hk2
    exact ⟨cc, fun n z => ⟨(fun k h => by cases h), k, hk1, component, hkind⟩, h5⟩
  | _ => rw [hkind] at hk2; simp at hk2
theorem st_w50 : Cond.arrayClass .int ∈ lw_tbl := by decide +kernel
theorem st_w51 : Cond.arrayClass .byte ∈ lw_tbl := by decide +kernel
theorem st_w52 : Cond.arrayClass .long ∈ lw_tbl := by decide +kernel
theorem st_w53 : Cond.arrayOver (.object "Clockhouse$Big") ∈ lw_tbl := by decide +kernel
theorem st_w54 : Cond.arrayOver (.object "Clockhouse$State") ∈ lw_tbl := by decide +kernel
theorem st_w55 : Cond.arrayOver (.object "ClockhouseModel$Num") ∈ lw_tbl := by decide +kernel
theorem st_w56 : Cond.arrayOver (.object "java/lang/Object") ∈ lw_tbl := by decide +kernel
theorem st_w57 : Cond.arrayOver (.array .int) ∈ lw_tbl := by decide +kernel
theorem st_A {s : State} {args : Array Value} (hts : ∀ w ∈ lw_tbl, w.before args s = true) : ∃ f : Nat → ClassId, ∀ k : Nat, 50 ≤ k → k < 58 → ArrOfT s (f k) (am_aty k) ∧ va_RA s (f k) (am_aty k) := by
  obtain ⟨c50, a50⟩ := st_prim (ty := .int) (fun C h => by cases h) (hts _ st_w50)
  obtain ⟨c51, a51⟩ := st_prim (ty := .byte) (fun C h => by cases h) (hts _ st_w51)
  obtain ⟨c52, a52⟩ := st_prim (ty := .long) (fun C h => by cases h) (hts _ st_w52)
  obtain ⟨c53, a53⟩ := st_obj (hts _ st_w53)
  obtain ⟨c54, a54⟩ := st_obj (hts _ st_w54)
  obtain ⟨c55, a55⟩ := st_obj (hts _ st_w55)
  obtain ⟨c56, a56⟩ := st_obj (hts _ st_w56)
  have hI : s.vm.findClass "[I" = some c50 := by
    have h := am_RAn a50.2
    rw [show ("[" ++ (FieldType.int).toString) = "[I" by decide] at h
    exact h
  obtain ⟨c57, a57⟩ := st_ii hI (hts _ st_w57)
  refine ⟨fun k => match k with
    | 50 => c50
    | 51 => c51
    | 52 => c52
    | 53 => c53
    | 54 => c54
    | 55 => c55
    | 56 => c56
    | _ => c57, fun k h1 h2 => ?_⟩
  have h3 : k = 50 ∨ k = 51 ∨ k = 52 ∨ k = 53 ∨ k = 54 ∨ k = 55 ∨ k = 56 ∨ k = 57 := by omega
  rcases h3 with rfl | rfl | rfl | rfl | rfl | rfl | rfl | rfl
  · exact a50
  · exact a51
  · exact a52
  · exact a53
  · exact a54
  · exact a55
  · exact a56
  · exact a57
theorem st_vb : ∀ j : Nat, j < 256 → vb_c j = Int32.ofInt ((j : Int) - 128) := by decide +kernel
/-- the small numbers -/
theorem st_cache {s : State} {args : Array Value} {st : Term} (hc : st.closed = true) (hlen : (Cond.eq (.length st) (.int (Int32.ofNat 256))).before args s = true) (harr : (Cond.arrayOf st (.object "java/lang/Integer")).before args s = true)
    (hall : (Cond.all st (.and (.exactly (.elem st (.index 0)) "java/lang/Integer") (.eq (.field (.elem st (.index 0)) "java/lang/Integer" "value" "I") (.sub (.index 0) (.int 128))))).before args s = true) :
    ∃ (t : Nat) (cell : Cell) (ad : Nat → Nat), st.eval args s none [] s = some (.ref t) ∧ s.heap[t]? = some cell ∧ s.isArrayOf cell (.object "java/lang/Integer") ∧ cell.vm ≠ .unknown ∧ 256 ≤ cell.slots.size ∧ cell.slots.size.toInt32 = Int32.ofNat 256 ∧ (∀ j : Nat, j < 256 → cell.slots[j]? = some (.ref (ad j))) ∧
      ∀ j : Nat, j < 256 → ∃ c2 : Cell, s.heap[ad j]? = some c2 ∧ c2.vm ≠ .unknown ∧ c2.vm.isStatics = false ∧ s.vm.findClass "java/lang/Integer" = some c2.cls ∧ ∃ cf k i f, s.fieldFound? "java/lang/Integer" "value" "I" = some (cf, k, i, f) ∧ c2.slots[f.slot]? = some (.int (vb_c j)) := by
  have hA : ∀ a : Nat, a < s.heap.size → ¬ (fun q : Nat => s.heap.size ≤ q) a := fun a h => Nat.not_le.mpr h
  obtain ⟨ad, ⟨hO, hE⟩, hel⟩ := vb_Cof (A := fun q : Nat => s.heap.size ≤ q) hc (va_eqt hlen) hall hA
  obtain ⟨t, ht, cell, g1, g2, g3, g4, g5, g6, -⟩ := va_Tof (N := 256) (f := fun j => .ref (ad j)) (by decide) harr (va_eqt hlen) hel hA
  refine ⟨t, cell, ad, ht, g1, g2, g3, g4, g5, g6, fun j hj => ?_⟩
  obtain ⟨c2, a1, a2, a3, -⟩ := hO j hj
  obtain ⟨cf, k, i, f, c3, b1, -, b3, b4, b5, -⟩ := hE j hj
  cases a1.symm.trans b3
  exact ⟨c2, a1, b4, a2, a3, cf, k, i, f, b1, b5⟩
end
