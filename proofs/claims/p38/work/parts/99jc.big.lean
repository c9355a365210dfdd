/-! NUMBERS OF MANY LIMBS -/
/-- limbs of nine digits -/
def sb_d (ls : List Int) : Prop := ls.length = 10 ∧ ∀ x ∈ ls, 0 ≤ x ∧ x ≤ 999999999
theorem sb_d.at {ls : List Int} (h : sb_d ls) {j : Nat} {x : Int} (e : ls[j]? = some x) : 0 ≤ x ∧ x ≤ 999999999 := h.2 x (List.mem_of_getElem? e)
theorem sb_d.get {ls : List Int} (h : sb_d ls) {j : Nat} (hj : j < 10) : ∃ x, ls[j]? = some x ∧ 0 ≤ x ∧ x ≤ 999999999 := by
  have hl := h.1
  have e : ls[j]? = some (ls[j]'(by omega)) := List.getElem?_eq_getElem (by omega)
  exact ⟨_, e, h.at e⟩
def sb_c (t p : Nat) (n sg : Int) : am_C := (t, [.ref p, .int (Int32.ofInt n), .int (Int32.ofInt sg)])
section SBU
variable {G : am_G} {S : ck_SS} {pc nx q t p k m : Nat} {n sg x : Int} {h0 h : List am_C} {L : List (Option Value)} {st : List Value}
theorem sb_U1 (H : ck_sU G S pc nx 7 1 0) (hq : 1000 ≤ q) (hw : hd_w G h0 h q (sb_c t p n sg)) (ht : t % 100 = 7) (kk : ∀ h', hd_w G h0 h' q (sb_c t p x sg) → S nx L st h' k m) : S pc L (.int (Int32.ofInt x) :: .ref q :: st) h k m :=
  H L st h k m q t _ _ hq hw.at ht ⟨_, rfl⟩ (kk _ (hw.tr (hd_w.s hq hw.at)))
theorem sb_U2 (H : ck_sU G S pc nx 7 2 0) (hq : 1000 ≤ q) (hw : hd_w G h0 h q (sb_c t p n sg)) (ht : t % 100 = 7) (kk : ∀ h', hd_w G h0 h' q (sb_c t p n x) → S nx L st h' k m) : S pc L (.int (Int32.ofInt x) :: .ref q :: st) h k m :=
  H L st h k m q t _ _ hq hw.at ht ⟨_, rfl⟩ (kk _ (hw.tr (hd_w.s hq hw.at)))
end SBU
set_option maxHeartbeats 4000000 in
theorem sb_settle_M {l : Launch} {G : am_G} {X : ck_XT} (g : gM l G X) {q p t tp n : Nat} {ls : List Int} {len sg ns : Int} {h : List am_C} (hq : 1000 ≤ q) (hpq : p ≠ q) (hg : am_g G h q = some (sb_c t p len sg)) (ht : t % 100 = 7) (hgp : am_g G h p = some (tp, hd_r ls)) (htp : tp % 100 = 50) (hd : sb_d ls) (hn : hd_pl ls n) {mc ms : Nat} {Post : am_O → List am_C → Prop}
    (hP : ∀ h', hd_w G h h' q (sb_c t p (n : Int) (if n = 0 then 0 else ns)) → Post (.inl none) h') :
    am_M l G yX0_settle (.code yX0_settle prog_2_method_5_code 3 none) 1 20 mc ms [.ref q, .int (Int32.ofInt ns)] h Post := by
  refine gh_yX0_settle_H g (Nat.le_of_ble_eq_true rfl) fun S SX hs hr hw => ?_
  have rv : ∀ x : Int32, ck_fv 0 (.int x) := fun x => ⟨_, rfl⟩
  have fin : ∀ (h1 : List am_C) (i : Int), hd_w G h h1 q (sb_c t p (n : Int) sg) → S 41 [some (.ref q), some (.int (Int32.ofInt ns)), some (.int (Int32.ofInt i))] [] h1 0 0 := by
    intro h1 i hw1
    have hn10 : n ≤ 10 := by have := hn.1; have := hd.1; omega
    by_cases h0 : n = 0
    · have hP := fun h' => hP h'
      rw [if_pos h0] at hP
      subst h0
      refine hs 22 _ rfl _ _ _ _ _ _ _ rfl ?_
      refine hs 23 _ rfl _ _ _ _ _ _ _ rfl ?_
      refine hs 24 _ rfl _ _ _ _ _ _ _ _ _ hw1.at ht rfl ?_
      refine hs 25 _ rfl _ _ _ _ _ _ (fun zq => absurd (hd_c1z (c := 1) (by omega) (by omega) zq) (by omega : ¬ (((0 : Nat) : Int) ≠ 0))) (fun _ => ?_)
      refine hs 26 _ rfl _ _ _ _ _ _ _ rfl ?_
      refine hs 27 _ rfl _ _ _ _ _ ?_
      refine sb_U2 (hs 29 _ rfl) hq hw1 ht fun h2 hw2 => ?_
      exact hs 30 _ rfl _ _ _ _ (Nat.zero_le _) (Nat.zero_le _) (hP _ hw2)
    · have hP := fun h' => hP h'
      rw [if_neg h0] at hP
      refine hs 22 _ rfl _ _ _ _ _ _ _ rfl ?_
      refine hs 23 _ rfl _ _ _ _ _ _ _ rfl ?_
      refine hs 24 _ rfl _ _ _ _ _ _ _ _ _ hw1.at ht rfl ?_
      refine hs 25 _ rfl _ _ _ _ _ _ (fun _ => ?_) (fun zq => absurd (hd_c1t (c := 1) (by omega) (by omega) (by omega : (n : Int) ≠ 0)) zq)
      refine hs 28 _ rfl _ _ _ _ _ _ _ rfl ?_
      refine sb_U2 (hs 29 _ rfl) hq hw1 ht fun h2 hw2 => ?_
      exact hs 30 _ rfl _ _ _ _ (Nat.zero_le _) (Nat.zero_le _) (hP _ hw2)
  have loop : ∀ (m : Nat) (h1 : List am_C), n ≤ m → m ≤ 10 → hd_w G h h1 q (sb_c t p 0 sg) → S 8 [some (.ref q), some (.int (Int32.ofInt ns)), some (.int (Int32.ofInt ((m : Int) - 1)))] [] h1 0 0 := by
    intro m
    induction m with
    | zero =>
      intro h1 hm hm2 hw1
      obtain rfl : n = 0 := by omega
      refine hs 5 _ rfl _ _ _ _ _ _ _ rfl ?_
      refine hs 6 _ rfl _ _ _ _ _ _ (fun _ => ?_) (fun zq => absurd (hd_c1t (c := 2) (by omega) (by omega) (by omega : (((0 : Nat) : Int) - 1) < 0)) zq)
      exact fin h1 _ hw1
    | succ m ih =>
      intro h1 hm hm2 hw1
      obtain ⟨x, x1, x2, x3⟩ := hd.get (j := m) (by omega)
      have hgp1 : am_g G h1 p = some (tp, hd_r ls) := by rw [hw1.ne hpq]; exact hgp
      by_cases e : n = m + 1
      · have hx0 : ¬ x = 0 := fun z => by
          obtain ⟨d, d1, d2⟩ := hn.2.2 (by omega)
          rw [show n - 1 = m by omega, x1] at d1
          cases d1
          exact d2 z
        refine hs 5 _ rfl _ _ _ _ _ _ _ rfl ?_
        refine hs 6 _ rfl _ _ _ _ _ _ (fun zq => absurd (hd_c1z (c := 2) (by omega) (by omega) zq) (by omega : ¬ ((((m + 1 : Nat) : Int) - 1) < 0))) (fun _ => ?_)
        refine hs 7 _ rfl _ _ _ _ _ _ _ rfl ?_
        refine hs 8 _ rfl _ _ _ _ _ _ _ _ _ hw1.at ht rfl ?_
        refine hs 9 _ rfl _ _ _ _ _ _ (fun zq => absurd (hd_c1z (c := 1) (by omega) (by omega) zq) (by omega : ¬ ((0 : Int) ≠ 0))) (fun _ => ?_)
        refine hs 10 _ rfl _ _ _ _ _ _ _ rfl ?_
        refine hs 11 _ rfl _ _ _ _ _ _ _ _ _ hw1.at ht rfl ?_
        refine hs 12 _ rfl _ _ _ _ _ _ _ rfl ?_
        refine hd_A (hs 13 _ rfl) (by decide) (by decide) hgp1 htp (j := m) (by omega) (by omega) x1 ?_
        refine hs 14 _ rfl _ _ _ _ _ _ (fun zq => absurd (hd_c1z (c := 0) (by omega) (by omega) zq) (by omega : ¬ (x = 0))) (fun _ => ?_)
        refine hs 15 _ rfl _ _ _ _ _ _ _ rfl ?_
        refine hs 16 _ rfl _ _ _ _ _ _ _ rfl ?_
        refine hs 17 _ rfl _ _ _ _ _ _ _ rfl ?_
        refine hs 18 _ rfl _ _ _ _ _ _ _ hd_add ?_
        refine sb_U1 (hs 19 _ rfl) hq hw1 ht fun h2 hw2 => ?_
        refine hs 20 _ rfl _ _ _ _ _ _ _ (hd_inc rfl) ?_
        refine hs 21 _ rfl _ _ _ _ _ ?_
        by_cases em : m = 0
        · subst em
          refine hs 5 _ rfl _ _ _ _ _ _ _ rfl ?_
          refine hs 6 _ rfl _ _ _ _ _ _ (fun _ => ?_) (fun zq => absurd (hd_c1t (c := 2) (by omega) (by omega) (by omega : ((((0 : Nat) + 1 : Nat) : Int) - 1 + -1) < 0)) zq)
          refine fin h2 _ ?_
          rw [show (n : Int) = ((((0 : Nat) + 1 : Nat) : Int) - 1 + 1) by omega]
          exact hw2
        · 
          refine hs 5 _ rfl _ _ _ _ _ _ _ rfl ?_
          refine hs 6 _ rfl _ _ _ _ _ _ (fun zq => absurd (hd_c1z (c := 2) (by omega) (by omega) zq) (by omega : ¬ ((((m + 1 : Nat) : Int) - 1 + -1) < 0))) (fun _ => ?_)
          refine hs 7 _ rfl _ _ _ _ _ _ _ rfl ?_
          refine hs 8 _ rfl _ _ _ _ _ _ _ _ _ hw2.at ht rfl ?_
          refine hs 9 _ rfl _ _ _ _ _ _ (fun _ => ?_) (fun zq => absurd (hd_c1t (c := 1) (by omega) (by omega) (by omega : (((m + 1 : Nat) : Int) - 1 + 1) ≠ 0)) zq)
          refine fin h2 _ ?_
          rw [show (n : Int) = (((m + 1 : Nat) : Int) - 1 + 1) by omega]
          exact hw2
      · have hx0 : x = 0 := hn.2.1 m x (by omega) x1
        refine hs 5 _ rfl _ _ _ _ _ _ _ rfl ?_
        refine hs 6 _ rfl _ _ _ _ _ _ (fun zq => absurd (hd_c1z (c := 2) (by omega) (by omega) zq) (by omega : ¬ ((((m + 1 : Nat) : Int) - 1) < 0))) (fun _ => ?_)
        refine hs 7 _ rfl _ _ _ _ _ _ _ rfl ?_
        refine hs 8 _ rfl _ _ _ _ _ _ _ _ _ hw1.at ht rfl ?_
        refine hs 9 _ rfl _ _ _ _ _ _ (fun zq => absurd (hd_c1z (c := 1) (by omega) (by omega) zq) (by omega : ¬ ((0 : Int) ≠ 0))) (fun _ => ?_)
        refine hs 10 _ rfl _ _ _ _ _ _ _ rfl ?_
        refine hs 11 _ rfl _ _ _ _ _ _ _ _ _ hw1.at ht rfl ?_
        refine hs 12 _ rfl _ _ _ _ _ _ _ rfl ?_
        refine hd_A (hs 13 _ rfl) (by decide) (by decide) hgp1 htp (j := m) (by omega) (by omega) x1 ?_
        refine hs 14 _ rfl _ _ _ _ _ _ (fun _ => ?_) (fun zq => absurd (hd_c1t (c := 0) (by omega) (by omega) (by omega : x = 0)) zq)
        refine hs 20 _ rfl _ _ _ _ _ _ _ (hd_inc rfl) ?_
        refine hs 21 _ rfl _ _ _ _ _ ?_
        rw [show ((m + 1 : Nat) : Int) - 1 + -1 = (m : Int) - 1 by omega]
        exact ih h1 (by omega) (by omega) hw1
  refine hs 0 _ rfl _ _ _ _ _ _ _ rfl ?_
  refine hs 1 _ rfl _ _ _ _ _ _ _ rfl ?_
  refine sb_U1 (hs 2 _ rfl) hq (hd_w.rf hg) ht fun h2 hw2 => ?_
  refine hs 3 _ rfl _ _ _ _ _ _ _ rfl ?_
  refine hs 4 _ rfl _ _ _ _ _ _ _ rfl ?_
  exact loop 10 h2 (by have := hn.1; have := hd.1; omega) (Nat.le_refl _) hw2
/-- two cells are written, and nothing else -/
def sb_w (G : am_G) (h h' : List am_C) (q : Nat) (c : am_C) (p : Nat) (d : am_C) : Prop := h'.length = h.length ∧ ∀ x, am_g G h' x = if x = q then some c else if x = p then some d else am_g G h x
theorem sb_w.of {G : am_G} {h h1 h2 : List am_C} {q p : Nat} {c d : am_C} (a : hd_w G h h1 p d) (b : hd_w G h1 h2 q c) : sb_w G h h2 q c p d := ⟨b.1.trans a.1, fun x => by
  rw [b.2 x, a.2 x]⟩
theorem sb_w.of' {G : am_G} {h h1 h2 : List am_C} {q p : Nat} {c d : am_C} (hpq : p ≠ q) (a : hd_w G h h1 q c) (b : hd_w G h1 h2 p d) : sb_w G h h2 q c p d := ⟨b.1.trans a.1, fun x => by
  rw [b.2 x, a.2 x]
  by_cases e : x = q
  · rw [if_pos e, if_neg (fun z => hpq (z.symm.trans e)), if_pos e]
  · rw [if_neg e, if_neg e]⟩
theorem sb_w.q {G : am_G} {h h' : List am_C} {q p : Nat} {c d : am_C} (a : sb_w G h h' q c p d) : am_g G h' q = some c := by rw [a.2 q, if_pos rfl]
theorem sb_w.p {G : am_G} {h h' : List am_C} {q p : Nat} {c d : am_C} (hpq : p ≠ q) (a : sb_w G h h' q c p d) : am_g G h' p = some d := by rw [a.2 p, if_neg hpq, if_pos rfl]
theorem sb_w.ne {G : am_G} {h h' : List am_C} {q p x : Nat} {c d : am_C} (a : sb_w G h h' q c p d) (h1 : x ≠ q) (h2 : x ≠ p) : am_g G h' x = am_g G h x := by rw [a.2 x, if_neg h1, if_neg h2]
theorem sb_w.tq {G : am_G} {h h' h2 : List am_C} {q p : Nat} {c d c' : am_C} (a : sb_w G h h' q c p d) (b : hd_w G h' h2 q c') : sb_w G h h2 q c' p d := ⟨b.1.trans a.1, fun x => by
  rw [b.2 x, a.2 x]
  by_cases e : x = q
  · rw [if_pos e, if_pos e]
  · rw [if_neg e, if_neg e, if_neg e]⟩
theorem sb_w.tp {G : am_G} {h h' h2 : List am_C} {q p : Nat} {c d d' : am_C} (hpq : p ≠ q) (a : sb_w G h h' q c p d) (b : hd_w G h' h2 p d') : sb_w G h h2 q c p d' := ⟨b.1.trans a.1, fun x => by
  rw [b.2 x, a.2 x]
  by_cases e : x = q
  · rw [if_neg (fun z => hpq (z.symm.trans e)), if_pos e, if_pos e]
  · by_cases e2 : x = p
    · rw [if_pos e2, if_neg e, if_pos e2]
    · rw [if_neg e2, if_neg e, if_neg e2, if_neg e, if_neg e2]⟩
theorem sb_w.tr {G : am_G} {h h' h2 : List am_C} {q p : Nat} {c d c' d' : am_C} (a : sb_w G h h' q c p d) (b : sb_w G h' h2 q c' p d') : sb_w G h h2 q c' p d' := ⟨b.1.trans a.1, fun x => by
  rw [b.2 x, a.2 x]
  by_cases e : x = q
  · rw [if_pos e, if_pos e]
  · rw [if_neg e, if_neg e, if_neg e]
    by_cases e2 : x = p
    · rw [if_pos e2, if_pos e2]
    · rw [if_neg e2, if_neg e2, if_neg e2]⟩
def sb_0 : List Int := List.replicate 10 0
set_option maxHeartbeats 4000000 in
theorem sb_clear_M {l : Launch} {G : am_G} {X : ck_XT} (g : gM l G X) {q p t tp : Nat} {ls : List Int} {len sg : Int} {h : List am_C} (hq : 1000 ≤ q) (hp : 1000 ≤ p) (hpq : p ≠ q) (hg : am_g G h q = some (sb_c t p len sg)) (ht : t % 100 = 7) (hgp : am_g G h p = some (tp, hd_r ls)) (htp : tp % 100 = 50) (hl : ls.length = 10) {mc ms : Nat} {Post : am_O → List am_C → Prop}
    (hP : ∀ h', sb_w G h h' q (sb_c t p 0 0) p (tp, hd_r sb_0) → Post (.inl none) h') :
    am_M l G yX0_clear (.code yX0_clear prog_2_method_6_code 2 none) 1 20 mc ms [.ref q] h Post := by
  refine gh_yX0_clear_H g (Nat.le_of_ble_eq_true rfl) fun S SX hs hr hw => ?_
  have loop : ∀ (m k : Nat) (cur : List Int) (h1 : List am_C), k + m = 10 → cur.length = 10 → cur.take k = List.replicate k 0 → hd_w G h h1 p (tp, hd_r cur) → S 2 [some (.ref q), some (.int (Int32.ofInt (k : Int)))] [] h1 0 0 := by
    intro m
    induction m with
    | zero =>
      intro k cur h1 hk hc hz hw1
      obtain rfl : k = 10 := by omega
      have e1 : cur = sb_0 := by rw [List.take_of_length_le (by omega)] at hz; exact hz
      subst e1
      have hg1 : am_g G h1 q = some (sb_c t p len sg) := by rw [hw1.ne (fun z => hpq z.symm)]; exact hg
      refine hs 2 _ rfl _ _ _ _ _ _ _ rfl ?_
      refine hs 3 _ rfl _ _ _ _ _ _ _ rfl ?_
      refine hs 4 _ rfl _ _ _ _ _ _ _ (fun _ => ?_) (fun zq => absurd (hd_c2t (c := 3) (by omega) (by omega) (by omega) (by omega) (by omega : 0 ≤ (((10 : Nat) : Int) - (10 : Int)))) zq)
      refine hs 12 _ rfl _ _ _ _ _ _ _ rfl ?_
      refine hs 13 _ rfl _ _ _ _ _ _ _ rfl ?_
      refine sb_U1 (hs 14 _ rfl) hq (hd_w.rf hg1) ht fun h2 hw2 => ?_
      refine hs 15 _ rfl _ _ _ _ _ _ _ rfl ?_
      refine hs 16 _ rfl _ _ _ _ _ _ _ rfl ?_
      refine sb_U2 (hs 17 _ rfl) hq hw2 ht fun h3 hw3 => ?_
      exact hs 18 _ rfl _ _ _ _ (Nat.zero_le _) (Nat.zero_le _) (hP _ (sb_w.of hw1 hw3))
    | succ m ih =>
      intro k cur h1 hk hc hz hw1
      have hg1 : am_g G h1 q = some (sb_c t p len sg) := by rw [hw1.ne (fun z => hpq z.symm)]; exact hg
      refine hs 2 _ rfl _ _ _ _ _ _ _ rfl ?_
      refine hs 3 _ rfl _ _ _ _ _ _ _ rfl ?_
      refine hs 4 _ rfl _ _ _ _ _ _ _ (fun zq => absurd (hd_c2z (c := 3) (by omega) (by omega) (by omega) (by omega) zq) (by omega : ¬ (0 ≤ ((k : Int) - (10 : Int))))) (fun _ => ?_)
      refine hs 5 _ rfl _ _ _ _ _ _ _ rfl ?_
      refine hs 6 _ rfl _ _ _ _ _ _ _ _ _ hg1 ht rfl ?_
      refine hs 7 _ rfl _ _ _ _ _ _ _ rfl ?_
      refine hs 8 _ rfl _ _ _ _ _ _ _ rfl ?_
      refine hd_B (hs 9 _ rfl) (by decide) (by decide) hp hw1.at htp (j := k) rfl (by omega) (by omega) ?_
      refine hs 10 _ rfl _ _ _ _ _ _ _ (hd_inc rfl) ?_
      refine hs 11 _ rfl _ _ _ _ _ ?_
      refine ih (k + 1) (cur.set k 0) _ (by omega) (by rw [List.length_set]; exact hc) ?_ (hw1.tr (hd_w.s hp hw1.at))
      rw [List.take_add_one, List.getElem?_set_self (by omega), List.take_set_of_le (Nat.le_refl k), hz, List.replicate_succ']
      rfl
  refine hs 0 _ rfl _ _ _ _ _ _ _ rfl ?_
  refine hs 1 _ rfl _ _ _ _ _ _ _ rfl ?_
  exact loop 10 0 ls h (by omega) hl rfl (hd_w.rf hgp)
def sb_v : List Int → Int
  | [] => 0
  | x :: u => x + 1000000000 * sb_v u
def sb_a (ls : List Int) : Prop := ∀ x ∈ ls, 0 ≤ x ∧ x ≤ 999999999
theorem sb_a.nn {ls : List Int} (h : sb_a ls) : 0 ≤ sb_v ls := by
  induction ls with
  | nil => exact Int.le_refl 0
  | cons x u ih =>
    have h1 := h x List.mem_cons_self
    have h2 := ih fun y hy => h y (List.mem_cons_of_mem _ hy)
    show 0 ≤ x + 1000000000 * sb_v u
    omega
theorem sb_less : ∀ {i : Nat} {A B : List Int} {a b : Int}, sb_a A → sb_a B → A[i]? = some a → B[i]? = some b → A.drop (i + 1) = B.drop (i + 1) → a < b → sb_v A < sb_v B := by
  intro i
  induction i with
  | zero =>
    intro A B a b hA hB ha hb he hl
    match A, B, ha, hb with
    | x :: A, y :: B, ha, hb =>
      cases ha; cases hb
      have he : A = B := he
      subst he
      show a + 1000000000 * sb_v A < b + 1000000000 * sb_v A
      omega
  | succ i ih =>
    intro A B a b hA hB ha hb he hl
    match A, B, ha, hb with
    | x :: A, y :: B, ha, hb =>
      have h1 := ih (A := A) (B := B) (fun z hz => hA z (List.mem_cons_of_mem _ hz)) (fun z hz => hB z (List.mem_cons_of_mem _ hz)) ha hb he hl
      have h2 := hA x List.mem_cons_self
      have h3 := hB y List.mem_cons_self
      show x + 1000000000 * sb_v A < y + 1000000000 * sb_v B
      omega
set_option maxHeartbeats 4000000 in
theorem sb_compare_M {l : Launch} {G : am_G} {X : ck_XT} (g : gM l G X) {q p t tp q2 p2 t2 tp2 : Nat} {A B : List Int} {len sg len2 sg2 : Int} {h : List am_C} (hg : am_g G h q = some (sb_c t p len sg)) (ht : t % 100 = 7) (hgp : am_g G h p = some (tp, hd_r A)) (htp : tp % 100 = 50) (hA : sb_d A)
    (hg2 : am_g G h q2 = some (sb_c t2 p2 len2 sg2)) (ht2 : t2 % 100 = 7) (hgp2 : am_g G h p2 = some (tp2, hd_r B)) (htp2 : tp2 % 100 = 50) (hB : sb_d B) {mc ms : Nat} {Post : am_O → List am_C → Prop}
    (hP : ∀ c : Int, (c = -1 ∧ sb_v A < sb_v B) ∨ (c = 1 ∧ sb_v B < sb_v A) ∨ (c = 0 ∧ A = B) → Post (.inl (some (.int (Int32.ofInt c)))) h) :
    am_M l G yX0_compareSize (.code yX0_compareSize prog_2_method_9_code 3 (some .int)) 1 20 mc ms [.ref q, .ref q2] h Post := by
  refine gh_yX0_compareSize_H g (Nat.le_of_ble_eq_true rfl) fun S SX hs hr hw => ?_
  have rv : ∀ x : Int32, ck_fv 0 (.int x) := fun x => ⟨_, rfl⟩
  have loop : ∀ (m : Nat), m ≤ 10 → A.drop m = B.drop m → S 3 [some (.ref q), some (.ref q2), some (.int (Int32.ofInt ((m : Int) - 1)))] [] h 0 0 := by
    intro m
    induction m with
    | zero =>
      intro hm he
      have hP := hP 0 (Or.inr (Or.inr ⟨rfl, he⟩))
      refine hs 2 _ rfl _ _ _ _ _ _ _ rfl ?_
      refine hs 3 _ rfl _ _ _ _ _ _ (fun _ => ?_) (fun zq => absurd (hd_c1t (c := 2) (by omega) (by omega) (by omega : (((0 : Nat) : Int) - 1) < 0)) zq)
      refine hs 28 _ rfl _ _ _ _ _ _ _ rfl ?_
      exact hs 29 _ rfl _ _ _ _ _ (rv _) (Nat.zero_le _) (Nat.zero_le _) hP
    | succ m ih =>
      intro hm he
      obtain ⟨a, a1, a2, a3⟩ := hA.get (j := m) (by omega)
      obtain ⟨b, b1, b2, b3⟩ := hB.get (j := m) (by omega)
      by_cases e : a = b
      · subst e
        refine hs 2 _ rfl _ _ _ _ _ _ _ rfl ?_
        refine hs 3 _ rfl _ _ _ _ _ _ (fun zq => absurd (hd_c1z (c := 2) (by omega) (by omega) zq) (by omega : ¬ ((((m + 1 : Nat) : Int) - 1) < 0))) (fun _ => ?_)
        refine hs 4 _ rfl _ _ _ _ _ _ _ rfl ?_
        refine hs 5 _ rfl _ _ _ _ _ _ _ _ _ hg ht rfl ?_
        refine hs 6 _ rfl _ _ _ _ _ _ _ rfl ?_
        refine hd_A (hs 7 _ rfl) (by decide) (by decide) hgp htp (j := m) (by omega) (by omega) a1 ?_
        refine hs 8 _ rfl _ _ _ _ _ _ _ rfl ?_
        refine hs 9 _ rfl _ _ _ _ _ _ _ _ _ hg2 ht2 rfl ?_
        refine hs 10 _ rfl _ _ _ _ _ _ _ rfl ?_
        refine hd_A (hs 11 _ rfl) (by decide) (by decide) hgp2 htp2 (j := m) (by omega) (by omega) b1 ?_
        refine hs 12 _ rfl _ _ _ _ _ _ _ (fun _ => ?_) (fun zq => absurd (hd_c2t (c := 0) (by omega) (by omega) (by omega) (by omega) (by omega : (a - a) = 0)) zq)
        refine hs 26 _ rfl _ _ _ _ _ _ _ (hd_inc rfl) ?_
        refine hs 27 _ rfl _ _ _ _ _ ?_
        rw [show ((m + 1 : Nat) : Int) - 1 + -1 = (m : Int) - 1 by omega]
        refine ih (by omega) ?_
        rw [List.drop_eq_getElem_cons (by have := hA.1; omega), List.drop_eq_getElem_cons (l := B) (by have := hB.1; omega), he, Option.some.inj ((List.getElem?_eq_getElem _).symm.trans a1), Option.some.inj ((List.getElem?_eq_getElem _).symm.trans b1)]
      · by_cases hab : a < b
        · have hP := hP (-1) (Or.inl ⟨rfl, sb_less hA.2 hB.2 a1 b1 he hab⟩)
          refine hs 2 _ rfl _ _ _ _ _ _ _ rfl ?_
          refine hs 3 _ rfl _ _ _ _ _ _ (fun zq => absurd (hd_c1z (c := 2) (by omega) (by omega) zq) (by omega : ¬ ((((m + 1 : Nat) : Int) - 1) < 0))) (fun _ => ?_)
          refine hs 4 _ rfl _ _ _ _ _ _ _ rfl ?_
          refine hs 5 _ rfl _ _ _ _ _ _ _ _ _ hg ht rfl ?_
          refine hs 6 _ rfl _ _ _ _ _ _ _ rfl ?_
          refine hd_A (hs 7 _ rfl) (by decide) (by decide) hgp htp (j := m) (by omega) (by omega) a1 ?_
          refine hs 8 _ rfl _ _ _ _ _ _ _ rfl ?_
          refine hs 9 _ rfl _ _ _ _ _ _ _ _ _ hg2 ht2 rfl ?_
          refine hs 10 _ rfl _ _ _ _ _ _ _ rfl ?_
          refine hd_A (hs 11 _ rfl) (by decide) (by decide) hgp2 htp2 (j := m) (by omega) (by omega) b1 ?_
          refine hs 12 _ rfl _ _ _ _ _ _ _ (fun zq => absurd (hd_c2z (c := 0) (by omega) (by omega) (by omega) (by omega) zq) (by omega : ¬ ((a - b) = 0))) (fun _ => ?_)
          refine hs 13 _ rfl _ _ _ _ _ _ _ rfl ?_
          refine hs 14 _ rfl _ _ _ _ _ _ _ _ _ hg ht rfl ?_
          refine hs 15 _ rfl _ _ _ _ _ _ _ rfl ?_
          refine hd_A (hs 16 _ rfl) (by decide) (by decide) hgp htp (j := m) (by omega) (by omega) a1 ?_
          refine hs 17 _ rfl _ _ _ _ _ _ _ rfl ?_
          refine hs 18 _ rfl _ _ _ _ _ _ _ _ _ hg2 ht2 rfl ?_
          refine hs 19 _ rfl _ _ _ _ _ _ _ rfl ?_
          refine hd_A (hs 20 _ rfl) (by decide) (by decide) hgp2 htp2 (j := m) (by omega) (by omega) b1 ?_
          refine hs 21 _ rfl _ _ _ _ _ _ _ (fun zq => absurd (hd_c2z (c := 3) (by omega) (by omega) (by omega) (by omega) zq) (by omega : ¬ (0 ≤ (a - b)))) (fun _ => ?_)
          refine hs 22 _ rfl _ _ _ _ _ _ _ rfl ?_
          refine hs 23 _ rfl _ _ _ _ _ ?_
          exact hs 25 _ rfl _ _ _ _ _ (rv _) (Nat.zero_le _) (Nat.zero_le _) hP
        · have hP := hP 1 (Or.inr (Or.inl ⟨rfl, sb_less hB.2 hA.2 b1 a1 he.symm (by omega)⟩))
          refine hs 2 _ rfl _ _ _ _ _ _ _ rfl ?_
          refine hs 3 _ rfl _ _ _ _ _ _ (fun zq => absurd (hd_c1z (c := 2) (by omega) (by omega) zq) (by omega : ¬ ((((m + 1 : Nat) : Int) - 1) < 0))) (fun _ => ?_)
          refine hs 4 _ rfl _ _ _ _ _ _ _ rfl ?_
          refine hs 5 _ rfl _ _ _ _ _ _ _ _ _ hg ht rfl ?_
          refine hs 6 _ rfl _ _ _ _ _ _ _ rfl ?_
          refine hd_A (hs 7 _ rfl) (by decide) (by decide) hgp htp (j := m) (by omega) (by omega) a1 ?_
          refine hs 8 _ rfl _ _ _ _ _ _ _ rfl ?_
          refine hs 9 _ rfl _ _ _ _ _ _ _ _ _ hg2 ht2 rfl ?_
          refine hs 10 _ rfl _ _ _ _ _ _ _ rfl ?_
          refine hd_A (hs 11 _ rfl) (by decide) (by decide) hgp2 htp2 (j := m) (by omega) (by omega) b1 ?_
          refine hs 12 _ rfl _ _ _ _ _ _ _ (fun zq => absurd (hd_c2z (c := 0) (by omega) (by omega) (by omega) (by omega) zq) (by omega : ¬ ((a - b) = 0))) (fun _ => ?_)
          refine hs 13 _ rfl _ _ _ _ _ _ _ rfl ?_
          refine hs 14 _ rfl _ _ _ _ _ _ _ _ _ hg ht rfl ?_
          refine hs 15 _ rfl _ _ _ _ _ _ _ rfl ?_
          refine hd_A (hs 16 _ rfl) (by decide) (by decide) hgp htp (j := m) (by omega) (by omega) a1 ?_
          refine hs 17 _ rfl _ _ _ _ _ _ _ rfl ?_
          refine hs 18 _ rfl _ _ _ _ _ _ _ _ _ hg2 ht2 rfl ?_
          refine hs 19 _ rfl _ _ _ _ _ _ _ rfl ?_
          refine hd_A (hs 20 _ rfl) (by decide) (by decide) hgp2 htp2 (j := m) (by omega) (by omega) b1 ?_
          refine hs 21 _ rfl _ _ _ _ _ _ _ (fun _ => ?_) (fun zq => absurd (hd_c2t (c := 3) (by omega) (by omega) (by omega) (by omega) (by omega : 0 ≤ (a - b))) zq)
          refine hs 24 _ rfl _ _ _ _ _ _ _ rfl ?_
          exact hs 25 _ rfl _ _ _ _ _ (rv _) (Nat.zero_le _) (Nat.zero_le _) hP
  refine hs 0 _ rfl _ _ _ _ _ _ _ rfl ?_
  refine hs 1 _ rfl _ _ _ _ _ _ _ rfl ?_
  refine loop 10 (Nat.le_refl _) ?_
  rw [List.drop_eq_nil_of_le (by have := hA.1; omega), List.drop_eq_nil_of_le (by have := hB.1; omega)]
def sb_join (f : Int) : Int → List Int → List Int → List Int
  | c, x :: A, y :: B => (x + f * y + c) % 1000000000 :: sb_join f ((x + f * y + c) / 1000000000) A B
  | _, _, _ => []
theorem sb_f {f x y c : Int} (hf : f = 1 ∨ f = -1) (hx : 0 ≤ x ∧ x ≤ 999999999) (hy : 0 ≤ y ∧ y ≤ 999999999) (hc : -1 ≤ c ∧ c ≤ 1) : (-1000000000 ≤ x + f * y + c ∧ x + f * y + c ≤ 1999999999) ∧ (-1 ≤ (x + f * y + c) / 1000000000 ∧ (x + f * y + c) / 1000000000 ≤ 1) ∧ -999999999 ≤ f * y ∧ f * y ≤ 999999999 := by
  rcases hf with rfl | rfl <;> omega
set_option maxHeartbeats 4000000 in
theorem sb_join_M {l : Launch} {G : am_G} {X : ck_XT} (g : gM l G X) {q p t tp qa pa ta tpa qb pb tb tpb : Nat} {ls A B : List Int} {f len sg lena sga lenb sgb : Int} {h : List am_C} (hq : 1000 ≤ q) (hp : 1000 ≤ p) (hpq : p ≠ q) (hg : am_g G h q = some (sb_c t p len sg)) (ht : t % 100 = 7) (hgp : am_g G h p = some (tp, hd_r ls)) (htp : tp % 100 = 50) (hl : ls.length = 10)
    (hga : am_g G h qa = some (sb_c ta pa lena sga)) (hta : ta % 100 = 7) (hgpa : am_g G h pa = some (tpa, hd_r A)) (htpa : tpa % 100 = 50) (hA : sb_d A) (hga2 : pa = p → A = ls) (hqa : p ≠ qa)
    (hgb : am_g G h qb = some (sb_c tb pb lenb sgb)) (htb : tb % 100 = 7) (hgpb : am_g G h pb = some (tpb, hd_r B)) (htpb : tpb % 100 = 50) (hB : sb_d B) (hgb2 : pb = p → B = ls) (hqb : p ≠ qb) (hf : f = 1 ∨ f = -1) {mc ms : Nat} {Post : am_O → List am_C → Prop}
    (hP : ∀ h', hd_w G h h' p (tp, hd_r (sb_join f 0 A B)) → Post (.inl none) h') :
    am_M l G yX0_joinSizes (.code yX0_joinSizes prog_2_method_11_code 7 none) 2 42 mc ms [.ref q, .ref qa, .ref qb, .int (Int32.ofInt f)] h Post := by
  refine gh_yX0_joinSizes_H g (Nat.le_of_ble_eq_true rfl) fun S SX hs hr hw => ?_
  have loop : ∀ (m k : Nat) (c : Int) (dn : List Int) (h1 : List am_C) (w : Option Value), k + m = 10 → dn.length = k → (-1 ≤ c ∧ c ≤ 1) → sb_join f 0 A B = dn ++ sb_join f c (A.drop k) (B.drop k) → hd_w G h h1 p (tp, hd_r (dn ++ ls.drop k)) → S 6 [some (.ref q), some (.ref qa), some (.ref qb), some (.int (Int32.ofInt f)), some (.int (Int32.ofInt c)), some (.int (Int32.ofInt (k : Int))), w] [] h1 0 0 := by
    intro m
    induction m with
    | zero =>
      intro k c dn h1 w hk hdn hc hj hw1
      obtain rfl : k = 10 := by omega
      have e1 : sb_join f 0 A B = dn ++ ls.drop 10 := by
        rw [hj, List.drop_eq_nil_of_le (as := A) (by have := hA.1; omega), List.drop_eq_nil_of_le (as := ls) (by omega)]
        rfl
      rw [← e1] at hw1
      refine hs 4 _ rfl _ _ _ _ _ _ _ rfl ?_
      refine hs 5 _ rfl _ _ _ _ _ _ _ rfl ?_
      refine hs 6 _ rfl _ _ _ _ _ _ _ (fun _ => ?_) (fun zq => absurd (hd_c2t (c := 3) (by omega) (by omega) (by omega) (by omega) (by omega : 0 ≤ (((10 : Nat) : Int) - (10 : Int)))) zq)
      exact hs 34 _ rfl _ _ _ _ (Nat.zero_le _) (Nat.zero_le _) (hP _ hw1)
    | succ m ih =>
      intro k c dn h1 w hk hdn hc hj hw1
      obtain ⟨x, x1, x2⟩ := hA.get (j := k) (by omega)
      obtain ⟨y, y1, y2⟩ := hB.get (j := k) (by omega)
      obtain ⟨f1, f2, f3⟩ := sb_f hf x2 y2 hc
      have hcur : ∀ j, k ≤ j → (dn ++ ls.drop k)[j]? = ls[j]? := fun j hj => by
        rw [List.getElem?_append_right (by omega), List.getElem?_drop, hdn, show k + (j - k) = j by omega]
      have hga1 : am_g G h1 qa = some (sb_c ta pa lena sga) := by rw [hw1.ne (fun z => hqa z.symm)]; exact hga
      have hgb1 : am_g G h1 qb = some (sb_c tb pb lenb sgb) := by rw [hw1.ne (fun z => hqb z.symm)]; exact hgb
      have hg1 : am_g G h1 q = some (sb_c t p len sg) := by rw [hw1.ne (fun z => hpq z.symm)]; exact hg
      obtain ⟨t1, A1, ga, ta1, xa⟩ : ∃ (t1 : Nat) (A1 : List Int), am_g G h1 pa = some (t1, hd_r A1) ∧ t1 % 100 = 50 ∧ A1[k]? = some x := by
        by_cases e : pa = p
        · exact ⟨tp, _, by rw [e]; exact hw1.at, htp, by rw [hcur k (Nat.le_refl k), ← hga2 e]; exact x1⟩
        · exact ⟨tpa, A, by rw [hw1.ne e]; exact hgpa, htpa, x1⟩
      obtain ⟨t2, B1, gb, tb1, yb⟩ : ∃ (t2 : Nat) (B1 : List Int), am_g G h1 pb = some (t2, hd_r B1) ∧ t2 % 100 = 50 ∧ B1[k]? = some y := by
        by_cases e : pb = p
        · exact ⟨tp, _, by rw [e]; exact hw1.at, htp, by rw [hcur k (Nat.le_refl k), ← hgb2 e]; exact y1⟩
        · exact ⟨tpb, B, by rw [hw1.ne e]; exact hgpb, htpb, y1⟩
      refine hs 4 _ rfl _ _ _ _ _ _ _ rfl ?_
      refine hs 5 _ rfl _ _ _ _ _ _ _ rfl ?_
      refine hs 6 _ rfl _ _ _ _ _ _ _ (fun zq => absurd (hd_c2z (c := 3) (by omega) (by omega) (by omega) (by omega) zq) (by omega : ¬ (0 ≤ ((k : Int) - (10 : Int))))) (fun _ => ?_)
      refine hs 7 _ rfl _ _ _ _ _ _ _ rfl ?_
      refine hs 8 _ rfl _ _ _ _ _ _ _ _ _ hga1 hta rfl ?_
      refine hs 9 _ rfl _ _ _ _ _ _ _ rfl ?_
      refine hd_A (hs 10 _ rfl) (by decide) (by decide) ga ta1 (j := k) rfl (by omega) xa ?_
      refine hs 11 _ rfl _ _ _ _ _ _ _ rfl ?_
      refine hs 12 _ rfl _ _ _ _ _ _ _ rfl ?_
      refine hs 13 _ rfl _ _ _ _ _ _ _ _ _ hgb1 htb rfl ?_
      refine hs 14 _ rfl _ _ _ _ _ _ _ rfl ?_
      refine hd_A (hs 15 _ rfl) (by decide) (by decide) gb tb1 (j := k) rfl (by omega) yb ?_
      refine hs 16 _ rfl _ _ _ _ _ _ _ hd_mul ?_
      refine hs 17 _ rfl _ _ _ _ _ _ _ hd_add ?_
      refine hs 18 _ rfl _ _ _ _ _ _ _ rfl ?_
      refine hs 19 _ rfl _ _ _ _ _ _ _ hd_add ?_
      refine hs 20 _ rfl _ _ _ _ _ _ _ rfl ?_
      refine hs 21 _ rfl _ _ _ _ _ _ _ rfl ?_
      refine hs 22 _ rfl _ _ _ _ _ _ _ _ _ hg1 ht rfl ?_
      refine hs 23 _ rfl _ _ _ _ _ _ _ rfl ?_
      refine hs 24 _ rfl _ _ _ _ _ _ _ rfl ?_
      refine hs 25 _ rfl _ _ _ _ _ _ _ rfl ?_
      refine hd_call (hs 26 _ rfl) (a := [.int (Int32.ofInt (x + f * y + c)), .int (Int32.ofInt 1000000000)]) (st := [.int (Int32.ofInt (k : Int)), .ref p]) (P := fun o h9 => o = .inl (some (.int (Int32.ofInt ((x + f * y + c) % 1000000000)))) ∧ h9 = h1) (sm_fmod_M g (by omega) (by omega) (by omega) (by omega) ⟨rfl, rfl⟩) rfl rfl (Nat.le_of_ble_eq_true rfl) (Nat.zero_le _) (Nat.zero_le _) (fun v9 h9 e9 => ?_) (fun E h9 hp => by cases hp.1)
      cases e9.1; cases e9.2
      refine hd_B (hs 27 _ rfl) (by decide) (by decide) hp hw1.at htp (j := k) rfl (by omega) (by rw [List.length_append, List.length_drop]; omega) ?_
      refine hs 28 _ rfl _ _ _ _ _ _ _ rfl ?_
      refine hs 29 _ rfl _ _ _ _ _ _ _ rfl ?_
      refine hd_call (hs 30 _ rfl) (a := [.int (Int32.ofInt (x + f * y + c)), .int (Int32.ofInt 1000000000)]) (st := []) (P := fun o h9 => o = .inl (some (.int (Int32.ofInt ((x + f * y + c) / 1000000000)))) ∧ h9 = _) (sm_fdiv_M g (by omega) (by omega) (by omega) (by omega) ⟨rfl, rfl⟩) rfl rfl (Nat.le_of_ble_eq_true rfl) (Nat.zero_le _) (Nat.zero_le _) (fun v9 h9 e9 => ?_) (fun E h9 hp => by cases hp.1)
      cases e9.1; cases e9.2
      refine hs 31 _ rfl _ _ _ _ _ _ _ rfl ?_
      refine hs 32 _ rfl _ _ _ _ _ _ _ (hd_inc rfl) ?_
      refine hs 33 _ rfl _ _ _ _ _ ?_
      have hw2 := hw1.tr (hd_w.s (c := (tp, hd_r ((dn ++ ls.drop k).set k ((x + f * y + c) % 1000000000)))) hp hw1.at)
      refine ih (k + 1) ((x + f * y + c) / 1000000000) (dn ++ [(x + f * y + c) % 1000000000]) _ _ (by omega) (by rw [List.length_append, hdn]; rfl) f2 ?_ ?_
      · rw [hj, List.drop_eq_getElem_cons (by have := hA.1; omega), List.drop_eq_getElem_cons (l := B) (by have := hB.1; omega), Option.some.inj ((List.getElem?_eq_getElem _).symm.trans x1), Option.some.inj ((List.getElem?_eq_getElem _).symm.trans y1), List.append_assoc]
        rfl
      · have e2 : (dn ++ [(x + f * y + c) % 1000000000]) ++ ls.drop (k + 1) = (dn ++ ls.drop k).set k ((x + f * y + c) % 1000000000) := by
          rw [List.set_append_right _ _ (by omega), hdn, Nat.sub_self, List.drop_eq_getElem_cons (show k < ls.length by omega), List.set_cons_zero, List.append_assoc]
          rfl
        rw [e2]
        exact hw2
  refine hs 0 _ rfl _ _ _ _ _ _ _ rfl ?_
  refine hs 1 _ rfl _ _ _ _ _ _ _ rfl ?_
  refine hs 2 _ rfl _ _ _ _ _ _ _ rfl ?_
  refine hs 3 _ rfl _ _ _ _ _ _ _ rfl ?_
  exact loop 10 0 0 [] h none (by omega) rfl (by omega) rfl (by rw [List.drop_zero]; exact hd_w.rf hgp)
