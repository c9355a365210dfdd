/-! SUMS OF MANY LIMBS -/
theorem hd_callV {G : am_G} {S : ck_SS} {SX : ck_SX} {Rc Rs nL pc nx ci : Nat} {CM : ck_CM} {na : Nat} (H : ck_sQ G S SX Rc Rs nL pc nx (some ci) CM na) {a : List Value} {L : List (Option Value)} {st : List Value} {h : List am_C} {k n : Nat} {P : am_O → List am_C → Prop} (hM : CM a h 0 0 P) (hR : ck_rcv G (some ci) a h) (ha : a.length = na) (hL : L.length = nL) (hst : (st.map fun v => v.category).sum ≤ 8) (hk : k ≤ Rc) (hn : n ≤ Rs)
    (kr : ∀ (v : Option Value) (h' : List am_C), P (.inl v) h' → S nx L (v.toList ++ st) h' k n) (kx : ∀ (E : String) (h' : List am_C), P (.inr E) h' → False) : S pc L (a.reverse ++ st) h k n :=
  H a L st h k n 0 0 P hM ha hL hst hR hk hn kr fun E h' hp => (kx E h' hp).elim
theorem sb_jv {f : Int} (hf : f = 1 ∨ f = -1) : ∀ (A B : List Int) (c : Int), A.length = B.length → sb_a A → sb_a B → (-1 ≤ c ∧ c ≤ 1) → ∃ co : Int, (-1 ≤ co ∧ co ≤ 1) ∧ sb_a (sb_join f c A B) ∧ (sb_join f c A B).length = A.length ∧ sb_v (sb_join f c A B) + 1000000000 ^ A.length * co = sb_v A + f * sb_v B + c := by
  intro A
  induction A with
  | nil =>
    intro B c hl hA hB hc
    match B, hl with
    | [], _ => exact ⟨c, hc, (fun x hx => nomatch (show x ∈ ([] : List Int) from hx)), rfl, (by show (0 : Int) + 1 * c = 0 + f * 0 + c; omega)⟩
  | cons x A ih =>
    intro B c hl hA hB hc
    match B, hl with
    | y :: B, hl =>
      have hx := hA x List.mem_cons_self
      have hy := hB y List.mem_cons_self
      obtain ⟨f1, f2, f3⟩ := sb_f hf hx hy hc
      obtain ⟨co, c1, c2, c3, c4⟩ := ih B ((x + f * y + c) / 1000000000) (by simpa using hl) (fun z hz => hA z (List.mem_cons_of_mem _ hz)) (fun z hz => hB z (List.mem_cons_of_mem _ hz)) f2
      refine ⟨co, c1, fun z hz => ?_, by show (sb_join f _ A B).length + 1 = A.length + 1; rw [c3], ?_⟩
      · rcases List.mem_cons.mp hz with rfl | hz
        · omega
        · exact c2 z hz
      · show (x + f * y + c) % 1000000000 + 1000000000 * sb_v (sb_join f ((x + f * y + c) / 1000000000) A B) + 1000000000 ^ (A.length + 1) * co = x + 1000000000 * sb_v A + f * (y + 1000000000 * sb_v B) + c
        have e1 : (1000000000 : Int) ^ (A.length + 1) * co = 1000000000 * (1000000000 ^ A.length * co) := by rw [Int.pow_succ, Int.mul_comm ((1000000000 : Int) ^ A.length), Int.mul_assoc]
        rw [e1]
        generalize (1000000000 : Int) ^ A.length * co = w at *
        rcases hf with rfl | rfl <;> omega
theorem sb_lt : ∀ {ls : List Int}, sb_a ls → sb_v ls < 1000000000 ^ ls.length := by
  intro ls
  induction ls with
  | nil => intro _; decide
  | cons x u ih =>
    intro h
    have h1 := h x List.mem_cons_self
    have h2 := ih fun y hy => h y (List.mem_cons_of_mem _ hy)
    show x + 1000000000 * sb_v u < 1000000000 ^ (u.length + 1)
    rw [Int.pow_succ]
    omega
theorem sb_pos : ∀ {ls : List Int} {j : Nat} {d : Int}, sb_a ls → ls[j]? = some d → d ≠ 0 → 0 < sb_v ls := by
  intro ls
  induction ls with
  | nil => intro j d _ h; cases h
  | cons x u ih =>
    intro j d h hj hd
    have h1 := h x List.mem_cons_self
    have h2 : sb_a u := fun y hy => h y (List.mem_cons_of_mem _ hy)
    have h3 := h2.nn
    show 0 < x + 1000000000 * sb_v u
    match j, hj with
    | 0, hj => cases hj; omega
    | j + 1, hj => have := ih h2 hj hd; omega
theorem sb_zero : ∀ {ls : List Int}, (∀ (j : Nat) (d : Int), ls[j]? = some d → d = 0) → sb_v ls = 0 := by
  intro ls
  induction ls with
  | nil => intro _; rfl
  | cons x u ih =>
    intro h
    have h1 := h 0 x rfl
    have h2 := ih fun j d hj => h (j + 1) d hj
    show x + 1000000000 * sb_v u = 0
    omega
theorem sb_pl (ls : List Int) : ∃ n, hd_pl ls n := by
  have key : ∀ k : Nat, k ≤ ls.length → ∃ n, n ≤ k ∧ (∀ (j : Nat) (d : Int), n ≤ j → j < k → ls[j]? = some d → d = 0) ∧ (0 < n → ∃ d, ls[n - 1]? = some d ∧ d ≠ 0) := by
    intro k
    induction k with
    | zero => intro _; exact ⟨0, Nat.le_refl _, fun j d _ h => by omega, fun h => by omega⟩
    | succ k ih =>
      intro hk
      obtain ⟨n, n1, n2, n3⟩ := ih (by omega)
      have hx : ls[k]? = some (ls[k]'(by omega)) := List.getElem?_eq_getElem (by omega)
      generalize ls[k]'(by omega) = x at hx
      by_cases e : x = 0
      · refine ⟨n, by omega, fun j d h1 h2 h3 => ?_, n3⟩
        by_cases ej : j = k
        · subst ej; rw [hx] at h3; cases h3; exact e
        · exact n2 j d h1 (by omega) h3
      · exact ⟨k + 1, Nat.le_refl _, fun j d h1 h2 => by omega, fun _ => ⟨x, hx, e⟩⟩
  obtain ⟨n, n1, n2, n3⟩ := key ls.length (Nat.le_refl _)
  exact ⟨n, n1, fun j d h1 h2 => n2 j d h1 (List.getElem?_eq_some_iff.mp h2).1 h2, n3⟩
/-- a number is held: how long, its sign, its limbs -/
def sb_is (n : Nat) (sg : Int) (ls : List Int) (z : Int) : Prop := sb_d ls ∧ hd_pl ls n ∧ z = sg * sb_v ls ∧ (sg = -1 ∨ sg = 0 ∨ sg = 1) ∧ (sg = 0 ↔ sb_v ls = 0)
theorem sb_n0 {ls : List Int} {n : Nat} (hd : sb_d ls) (hn : hd_pl ls n) : n = 0 ↔ sb_v ls = 0 := by
  constructor
  · intro e
    subst e
    exact sb_zero fun j d hj => hn.2.1 j d (Nat.zero_le _) hj
  · intro e
    apply Nat.eq_zero_of_not_pos
    intro h
    obtain ⟨d, d1, d2⟩ := hn.2.2 h
    have := sb_pos hd.2 d1 d2
    omega
/-- the limbs of a sum or a difference that fits -/
theorem sb_fit {f : Int} (hf : f = 1 ∨ f = -1) {A B : List Int} (hA : sb_d A) (hB : sb_d B) (h0 : 0 ≤ sb_v A + f * sb_v B) (h1 : sb_v A + f * sb_v B < 1000000000 ^ 10) : sb_d (sb_join f 0 A B) ∧ sb_v (sb_join f 0 A B) = sb_v A + f * sb_v B := by
  obtain ⟨co, c1, c2, c3, c4⟩ := sb_jv hf A B 0 (by rw [hA.1, hB.1]) hA.2 hB.2 (by omega)
  have h2 := c2.nn
  have h3 := sb_lt c2
  rw [c3, hA.1] at h3
  rw [hA.1] at c4 c3
  refine ⟨⟨c3, c2⟩, ?_⟩
  have h4 : (1000000000 : Int) ^ 10 = 1000000000000000000000000000000000000000000000000000000000000000000000000000000000000000000 := by decide
  rw [h4] at c4 h1 h3
  have : co = 0 := by omega
  subst this
  omega
theorem sb_mk {f s : Int} (hf : f = 1 ∨ f = -1) {A B : List Int} (hA : sb_d A) (hB : sb_d B) (h0 : 0 ≤ sb_v A + f * sb_v B) (h1 : sb_v A + f * sb_v B < 1000000000 ^ 10) (hs : s = -1 ∨ s = 1 ∨ (s = 0 ∧ sb_v A + f * sb_v B = 0)) {n : Nat} (hn : hd_pl (sb_join f 0 A B) n) : sb_is n (if n = 0 then 0 else s) (sb_join f 0 A B) (s * (sb_v A + f * sb_v B)) := by
  obtain ⟨e1, e2⟩ := sb_fit hf hA hB h0 h1
  have h3 := sb_n0 e1 hn
  refine ⟨e1, hn, ?_, ?_, ?_⟩
  · by_cases z : n = 0
    · rw [if_pos z, ← e2, h3.mp z]; simp
    · rw [if_neg z, e2]
  · by_cases z : n = 0
    · rw [if_pos z]; omega
    · rw [if_neg z]; omega
  · by_cases z : n = 0
    · rw [if_pos z]; exact ⟨fun _ => h3.mp z, fun _ => rfl⟩
    · rw [if_neg z]
      have : ¬ sb_v (sb_join f 0 A B) = 0 := fun y => z (h3.mpr y)
      constructor
      · intro y; omega
      · intro y; exact absurd y this
set_option maxHeartbeats 4000000 in
theorem sb_sum_M {l : Launch} {G : am_G} {X : ck_XT} (g : gM l G X) {q p t tp qa pa ta tpa qb pb tb tpb na nb : Nat} {ls A B : List Int} {len sg sga sgb za zb : Int} {h : List am_C} (hq : 1000 ≤ q) (hp : 1000 ≤ p) (hpq : p ≠ q) (hg : am_g G h q = some (sb_c t p len sg)) (ht : t % 100 = 7) (hgp : am_g G h p = some (tp, hd_r ls)) (htp : tp % 100 = 50) (hl : ls.length = 10)
    (hga : am_g G h qa = some (sb_c ta pa (na : Int) sga)) (hta : ta % 100 = 7) (hgpa : am_g G h pa = some (tpa, hd_r A)) (htpa : tpa % 100 = 50) (hAi : sb_is na sga A za) (hga2 : pa = p → A = ls) (hqa : p ≠ qa)
    (hgb : am_g G h qb = some (sb_c tb pb (nb : Int) sgb)) (htb : tb % 100 = 7) (hgpb : am_g G h pb = some (tpb, hd_r B)) (htpb : tpb % 100 = 50) (hBi : sb_is nb sgb B zb) (hgb2 : pb = p → B = ls) (hqb : p ≠ qb) (hv : sb_v A + sb_v B < 1000000000 ^ 10) {mc ms : Nat} {Post : am_O → List am_C → Prop}
    (hP : ∀ (h' : List am_C) (n : Nat) (s : Int) (ls' : List Int), sb_w G h h' q (sb_c t p (n : Int) s) p (tp, hd_r ls') → sb_is n s ls' (za + zb) → Post (.inl none) h') :
    am_M l G yX0_becomeSum (.code yX0_becomeSum prog_2_method_10_code 4 none) 3 68 mc ms [.ref q, .ref qa, .ref qb] h Post := by
  refine gh_yX0_becomeSum_H g (Nat.le_of_ble_eq_true rfl) fun S SX hs hr hw => ?_
  obtain ⟨hA, hnA, rfl, sA, zA⟩ := hAi
  obtain ⟨hB, hnB, rfl, sB, zB⟩ := hBi
  have a0 := sb_a.nn hA.2
  have b0 := sb_a.nn hB.2
  have hL : (1000000000 : Int) ^ 10 = 1000000000000000000000000000000000000000000000000000000000000000000000000000000000000000000 := by decide
  rw [hL] at hv
  have hab : -1 ≤ sga * sgb ∧ sga * sgb ≤ 1 := by
    rcases sA with z | z | z <;> rcases sB with y | y | y <;> rw [z, y] <;> decide
  by_cases hs0 : 0 ≤ sga * sgb
  · by_cases ha0 : sga = 0
    · have va := zA.mp ha0
      have hsb : sgb = -1 ∨ sgb = 1 ∨ (sgb = 0 ∧ sb_v A + 1 * sb_v B = 0) := by
        rcases sB with z | z | z
        · exact Or.inl z
        · exact Or.inr (Or.inr ⟨z, by have := zB.mp z; omega⟩)
        · exact Or.inr (Or.inl z)
      have eq : sga * sb_v A + sgb * sb_v B = sgb * (sb_v A + 1 * sb_v B) := by rw [va]; simp
      refine hs 0 _ rfl _ _ _ _ _ _ _ rfl ?_
      refine hs 1 _ rfl _ _ _ _ _ _ _ _ _ hga hta rfl ?_
      refine hs 2 _ rfl _ _ _ _ _ _ _ rfl ?_
      refine hs 3 _ rfl _ _ _ _ _ _ _ _ _ hgb htb rfl ?_
      refine hs 4 _ rfl _ _ _ _ _ _ _ hd_mul ?_
      refine hs 5 _ rfl _ _ _ _ _ _ (fun zq => absurd (hd_c1z (c := 2) (by omega) (by omega) zq) (by omega : ¬ ((sga * sgb) < 0))) (fun _ => ?_)
      refine hs 6 _ rfl _ _ _ _ _ _ _ rfl ?_
      refine hs 7 _ rfl _ _ _ _ _ _ _ _ _ hga hta rfl ?_
      refine hs 8 _ rfl _ _ _ _ _ _ (fun _ => ?_) (fun zq => absurd (hd_c1t (c := 0) (by omega) (by omega) (by omega : sga = 0)) zq)
      refine hs 12 _ rfl _ _ _ _ _ _ _ rfl ?_
      refine hs 13 _ rfl _ _ _ _ _ _ _ _ _ hgb htb rfl ?_
      refine hs 14 _ rfl _ _ _ _ _ _ _ rfl ?_
      refine hs 15 _ rfl _ _ _ _ _ _ _ rfl ?_
      refine hs 16 _ rfl _ _ _ _ _ _ _ rfl ?_
      refine hs 17 _ rfl _ _ _ _ _ _ _ rfl ?_
      refine hs 18 _ rfl _ _ _ _ _ _ _ rfl ?_
      refine hd_callV (hs 19 _ rfl) (a := [.ref q, .ref qa, .ref qb, .int (Int32.ofInt 1)]) (st := []) (P := fun o h9 => o = .inl none ∧ hd_w G h h9 p (tp, hd_r (sb_join 1 0 A B))) (sb_join_M g hq hp hpq hg ht hgp htp hl hga hta hgpa htpa hA hga2 hqa hgb htb hgpb htpb hB hgb2 hqb (by decide) fun h9 hw => ⟨rfl, hw⟩) ⟨_, _, _, rfl, hg, ht⟩ rfl rfl (Nat.le_of_ble_eq_true rfl) (Nat.zero_le _) (Nat.zero_le _) (fun v9 h9 e9 => ?_) (fun E h9 hp => by first | exact nomatch hp.1 | (obtain ⟨⟨_, hz, _⟩, _⟩ := hp; cases hz))
      obtain ⟨e9, hw1⟩ := e9
      cases e9
      have hg1 : am_g G h9 q = some (sb_c t p len sg) := by rw [hw1.ne (fun z => hpq z.symm)]; exact hg
      obtain ⟨n, hn⟩ := sb_pl (sb_join 1 0 A B)
      refine hs 20 _ rfl _ _ _ _ _ _ _ rfl ?_
      refine hs 21 _ rfl _ _ _ _ _ _ _ rfl ?_
      obtain ⟨k1, k2⟩ := sb_fit (f := 1) (by decide) hA hB (by omega) (show _ < (1000000000 : Int) ^ 10 by rw [hL]; omega)
      refine hd_callV (hs 22 _ rfl) (a := [.ref q, .int (Int32.ofInt sgb)]) (st := []) (P := fun o h10 => o = .inl none ∧ hd_w G h9 h10 q (sb_c t p (n : Int) (if n = 0 then 0 else sgb))) (sb_settle_M g hq hpq hg1 ht hw1.at htp k1 hn fun h10 hw => ⟨rfl, hw⟩) ⟨_, _, _, rfl, hg1, ht⟩ rfl rfl (Nat.le_of_ble_eq_true rfl) (Nat.zero_le _) (Nat.zero_le _) (fun v9 h10 e10 => ?_) (fun E h9 hp => by first | exact nomatch hp.1 | (obtain ⟨⟨_, hz, _⟩, _⟩ := hp; cases hz))
      obtain ⟨e10, hw2⟩ := e10
      cases e10
      have hfin := hP h10 n _ _ (sb_w.of hw1 hw2) (by rw [eq]; exact sb_mk (by decide) hA hB (by omega) (show _ < (1000000000 : Int) ^ 10 by rw [hL]; omega) hsb hn)
      refine hs 23 _ rfl _ _ _ _ _ ?_
      exact hs 51 _ rfl _ _ _ _ (Nat.zero_le _) (Nat.zero_le _) hfin
    · have hsa : sga = -1 ∨ sga = 1 ∨ (sga = 0 ∧ sb_v A + 1 * sb_v B = 0) := by omega
      have eq : sga * sb_v A + sgb * sb_v B = sga * (sb_v A + 1 * sb_v B) := by
        rcases sA with z | z | z <;> rcases sB with y | y | y <;> first | (subst z; subst y; omega) | (have := zB.mp y; subst z; subst y; omega)
      refine hs 0 _ rfl _ _ _ _ _ _ _ rfl ?_
      refine hs 1 _ rfl _ _ _ _ _ _ _ _ _ hga hta rfl ?_
      refine hs 2 _ rfl _ _ _ _ _ _ _ rfl ?_
      refine hs 3 _ rfl _ _ _ _ _ _ _ _ _ hgb htb rfl ?_
      refine hs 4 _ rfl _ _ _ _ _ _ _ hd_mul ?_
      refine hs 5 _ rfl _ _ _ _ _ _ (fun zq => absurd (hd_c1z (c := 2) (by omega) (by omega) zq) (by omega : ¬ ((sga * sgb) < 0))) (fun _ => ?_)
      refine hs 6 _ rfl _ _ _ _ _ _ _ rfl ?_
      refine hs 7 _ rfl _ _ _ _ _ _ _ _ _ hga hta rfl ?_
      refine hs 8 _ rfl _ _ _ _ _ _ (fun zq => absurd (hd_c1z (c := 0) (by omega) (by omega) zq) (by omega : ¬ (sga = 0))) (fun _ => ?_)
      refine hs 9 _ rfl _ _ _ _ _ _ _ rfl ?_
      refine hs 10 _ rfl _ _ _ _ _ _ _ _ _ hga hta rfl ?_
      refine hs 11 _ rfl _ _ _ _ _ ?_
      refine hs 14 _ rfl _ _ _ _ _ _ _ rfl ?_
      refine hs 15 _ rfl _ _ _ _ _ _ _ rfl ?_
      refine hs 16 _ rfl _ _ _ _ _ _ _ rfl ?_
      refine hs 17 _ rfl _ _ _ _ _ _ _ rfl ?_
      refine hs 18 _ rfl _ _ _ _ _ _ _ rfl ?_
      refine hd_callV (hs 19 _ rfl) (a := [.ref q, .ref qa, .ref qb, .int (Int32.ofInt 1)]) (st := []) (P := fun o h9 => o = .inl none ∧ hd_w G h h9 p (tp, hd_r (sb_join 1 0 A B))) (sb_join_M g hq hp hpq hg ht hgp htp hl hga hta hgpa htpa hA hga2 hqa hgb htb hgpb htpb hB hgb2 hqb (by decide) fun h9 hw => ⟨rfl, hw⟩) ⟨_, _, _, rfl, hg, ht⟩ rfl rfl (Nat.le_of_ble_eq_true rfl) (Nat.zero_le _) (Nat.zero_le _) (fun v9 h9 e9 => ?_) (fun E h9 hp => by first | exact nomatch hp.1 | (obtain ⟨⟨_, hz, _⟩, _⟩ := hp; cases hz))
      obtain ⟨e9, hw1⟩ := e9
      cases e9
      have hg1 : am_g G h9 q = some (sb_c t p len sg) := by rw [hw1.ne (fun z => hpq z.symm)]; exact hg
      obtain ⟨n, hn⟩ := sb_pl (sb_join 1 0 A B)
      refine hs 20 _ rfl _ _ _ _ _ _ _ rfl ?_
      refine hs 21 _ rfl _ _ _ _ _ _ _ rfl ?_
      obtain ⟨k1, k2⟩ := sb_fit (f := 1) (by decide) hA hB (by omega) (show _ < (1000000000 : Int) ^ 10 by rw [hL]; omega)
      refine hd_callV (hs 22 _ rfl) (a := [.ref q, .int (Int32.ofInt sga)]) (st := []) (P := fun o h10 => o = .inl none ∧ hd_w G h9 h10 q (sb_c t p (n : Int) (if n = 0 then 0 else sga))) (sb_settle_M g hq hpq hg1 ht hw1.at htp k1 hn fun h10 hw => ⟨rfl, hw⟩) ⟨_, _, _, rfl, hg1, ht⟩ rfl rfl (Nat.le_of_ble_eq_true rfl) (Nat.zero_le _) (Nat.zero_le _) (fun v9 h10 e10 => ?_) (fun E h9 hp => by first | exact nomatch hp.1 | (obtain ⟨⟨_, hz, _⟩, _⟩ := hp; cases hz))
      obtain ⟨e10, hw2⟩ := e10
      cases e10
      have hfin := hP h10 n _ _ (sb_w.of hw1 hw2) (by rw [eq]; exact sb_mk (by decide) hA hB (by omega) (show _ < (1000000000 : Int) ^ 10 by rw [hL]; omega) hsa hn)
      refine hs 23 _ rfl _ _ _ _ _ ?_
      exact hs 51 _ rfl _ _ _ _ (Nat.zero_le _) (Nat.zero_le _) hfin
  · have hc : (sga = 1 ∧ sgb = -1) ∨ (sga = -1 ∧ sgb = 1) := by
      rcases sA with z | z | z <;> rcases sB with y | y | y <;> subst z <;> subst y <;> simp at hs0 ⊢
    have hM := @sb_compare_M l G X g qa pa ta tpa qb pb tb tpb A B na sga nb sgb h hga hta hgpa htpa hA hgb htb hgpb htpb hB
    by_cases hlt : sb_v A < sb_v B
    · have hsb : sgb = -1 ∨ sgb = 1 ∨ (sgb = 0 ∧ sb_v B + -1 * sb_v A = 0) := by omega
      have eq : sga * sb_v A + sgb * sb_v B = sgb * (sb_v B + -1 * sb_v A) := by rcases hc with ⟨rfl, rfl⟩ | ⟨rfl, rfl⟩ <;> omega
      refine hs 0 _ rfl _ _ _ _ _ _ _ rfl ?_
      refine hs 1 _ rfl _ _ _ _ _ _ _ _ _ hga hta rfl ?_
      refine hs 2 _ rfl _ _ _ _ _ _ _ rfl ?_
      refine hs 3 _ rfl _ _ _ _ _ _ _ _ _ hgb htb rfl ?_
      refine hs 4 _ rfl _ _ _ _ _ _ _ hd_mul ?_
      refine hs 5 _ rfl _ _ _ _ _ _ (fun _ => ?_) (fun zq => absurd (hd_c1t (c := 2) (by omega) (by omega) (by omega : (sga * sgb) < 0)) zq)
      refine hs 24 _ rfl _ _ _ _ _ _ _ rfl ?_
      refine hs 25 _ rfl _ _ _ _ _ _ _ rfl ?_
      refine hd_callV (hs 26 _ rfl) (a := [.ref qa, .ref qb]) (st := []) (P := fun o h9 => (∃ c : Int, o = .inl (some (.int (Int32.ofInt c))) ∧ c = -1) ∧ h = h9) (hM fun c hc9 => ⟨⟨c, rfl, by rcases hc9 with z | z | z <;> first | exact z.1 | omega | (exact absurd z.2 (by intro zz; subst zz; omega))⟩, rfl⟩) ⟨_, _, _, rfl, hga, hta⟩ rfl rfl (Nat.le_of_ble_eq_true rfl) (Nat.zero_le _) (Nat.zero_le _) (fun v9 h9 e9 => ?_) (fun E h9 hp => by first | exact nomatch hp.1 | (obtain ⟨⟨_, hz, _⟩, _⟩ := hp; cases hz))
      obtain ⟨⟨c, e9, ec⟩, rfl⟩ := e9
      cases e9
      subst ec
      refine hs 27 _ rfl _ _ _ _ _ _ (fun _ => ?_) (fun zq => absurd (hd_c1t (c := 2) (by omega) (by omega) (by omega : (-1 : Int) < 0)) zq)
      refine hs 40 _ rfl _ _ _ _ _ _ _ rfl ?_
      refine hs 41 _ rfl _ _ _ _ _ _ _ _ _ hgb htb rfl ?_
      refine hs 42 _ rfl _ _ _ _ _ _ _ rfl ?_
      refine hs 43 _ rfl _ _ _ _ _ _ _ rfl ?_
      refine hs 44 _ rfl _ _ _ _ _ _ _ rfl ?_
      refine hs 45 _ rfl _ _ _ _ _ _ _ rfl ?_
      refine hs 46 _ rfl _ _ _ _ _ _ _ rfl ?_
      refine hd_callV (hs 47 _ rfl) (a := [.ref q, .ref qb, .ref qa, .int (Int32.ofInt (-1))]) (st := []) (P := fun o h9 => o = .inl none ∧ hd_w G h h9 p (tp, hd_r (sb_join (-1) 0 B A))) (sb_join_M g hq hp hpq hg ht hgp htp hl hgb htb hgpb htpb hB hgb2 hqb hga hta hgpa htpa hA hga2 hqa (by decide) fun h9 hw => ⟨rfl, hw⟩) ⟨_, _, _, rfl, hg, ht⟩ rfl rfl (Nat.le_of_ble_eq_true rfl) (Nat.zero_le _) (Nat.zero_le _) (fun v9 h9 e9 => ?_) (fun E h9 hp => by first | exact nomatch hp.1 | (obtain ⟨⟨_, hz, _⟩, _⟩ := hp; cases hz))
      obtain ⟨e9, hw1⟩ := e9
      cases e9
      have hg1 : am_g G h9 q = some (sb_c t p len sg) := by rw [hw1.ne (fun z => hpq z.symm)]; exact hg
      obtain ⟨n, hn⟩ := sb_pl (sb_join (-1) 0 B A)
      refine hs 48 _ rfl _ _ _ _ _ _ _ rfl ?_
      refine hs 49 _ rfl _ _ _ _ _ _ _ rfl ?_
      obtain ⟨k1, k2⟩ := sb_fit (f := (-1)) (by decide) hB hA (by omega) (show _ < (1000000000 : Int) ^ 10 by rw [hL]; omega)
      refine hd_callV (hs 50 _ rfl) (a := [.ref q, .int (Int32.ofInt sgb)]) (st := []) (P := fun o h10 => o = .inl none ∧ hd_w G h9 h10 q (sb_c t p (n : Int) (if n = 0 then 0 else sgb))) (sb_settle_M g hq hpq hg1 ht hw1.at htp k1 hn fun h10 hw => ⟨rfl, hw⟩) ⟨_, _, _, rfl, hg1, ht⟩ rfl rfl (Nat.le_of_ble_eq_true rfl) (Nat.zero_le _) (Nat.zero_le _) (fun v9 h10 e10 => ?_) (fun E h9 hp => by first | exact nomatch hp.1 | (obtain ⟨⟨_, hz, _⟩, _⟩ := hp; cases hz))
      obtain ⟨e10, hw2⟩ := e10
      cases e10
      have hfin := hP h10 n _ _ (sb_w.of hw1 hw2) (by rw [eq]; exact sb_mk (by decide) hB hA (by omega) (show _ < (1000000000 : Int) ^ 10 by rw [hL]; omega) hsb hn)
      exact hs 51 _ rfl _ _ _ _ (Nat.zero_le _) (Nat.zero_le _) hfin
    · have hsa : sga = -1 ∨ sga = 1 ∨ (sga = 0 ∧ sb_v A + -1 * sb_v B = 0) := by omega
      have eq : sga * sb_v A + sgb * sb_v B = sga * (sb_v A + -1 * sb_v B) := by rcases hc with ⟨rfl, rfl⟩ | ⟨rfl, rfl⟩ <;> omega
      refine hs 0 _ rfl _ _ _ _ _ _ _ rfl ?_
      refine hs 1 _ rfl _ _ _ _ _ _ _ _ _ hga hta rfl ?_
      refine hs 2 _ rfl _ _ _ _ _ _ _ rfl ?_
      refine hs 3 _ rfl _ _ _ _ _ _ _ _ _ hgb htb rfl ?_
      refine hs 4 _ rfl _ _ _ _ _ _ _ hd_mul ?_
      refine hs 5 _ rfl _ _ _ _ _ _ (fun _ => ?_) (fun zq => absurd (hd_c1t (c := 2) (by omega) (by omega) (by omega : (sga * sgb) < 0)) zq)
      refine hs 24 _ rfl _ _ _ _ _ _ _ rfl ?_
      refine hs 25 _ rfl _ _ _ _ _ _ _ rfl ?_
      refine hd_callV (hs 26 _ rfl) (a := [.ref qa, .ref qb]) (st := []) (P := fun o h9 => (∃ c : Int, o = .inl (some (.int (Int32.ofInt c))) ∧ 0 ≤ c ∧ c ≤ 1) ∧ h = h9) (hM fun c hc9 => ⟨⟨c, rfl, by rcases hc9 with z | z | z <;> omega⟩, rfl⟩) ⟨_, _, _, rfl, hga, hta⟩ rfl rfl (Nat.le_of_ble_eq_true rfl) (Nat.zero_le _) (Nat.zero_le _) (fun v9 h9 e9 => ?_) (fun E h9 hp => by first | exact nomatch hp.1 | (obtain ⟨⟨_, hz, _⟩, _⟩ := hp; cases hz))
      obtain ⟨⟨c, e9, ec1, ec2⟩, rfl⟩ := e9
      cases e9
      refine hs 27 _ rfl _ _ _ _ _ _ (fun zq => absurd (hd_c1z (c := 2) (by omega) (by omega) zq) (by omega : ¬ (c < 0))) (fun _ => ?_)
      refine hs 28 _ rfl _ _ _ _ _ _ _ rfl ?_
      refine hs 29 _ rfl _ _ _ _ _ _ _ _ _ hga hta rfl ?_
      refine hs 30 _ rfl _ _ _ _ _ _ _ rfl ?_
      refine hs 31 _ rfl _ _ _ _ _ _ _ rfl ?_
      refine hs 32 _ rfl _ _ _ _ _ _ _ rfl ?_
      refine hs 33 _ rfl _ _ _ _ _ _ _ rfl ?_
      refine hs 34 _ rfl _ _ _ _ _ _ _ rfl ?_
      refine hd_callV (hs 35 _ rfl) (a := [.ref q, .ref qa, .ref qb, .int (Int32.ofInt (-1))]) (st := []) (P := fun o h9 => o = .inl none ∧ hd_w G h h9 p (tp, hd_r (sb_join (-1) 0 A B))) (sb_join_M g hq hp hpq hg ht hgp htp hl hga hta hgpa htpa hA hga2 hqa hgb htb hgpb htpb hB hgb2 hqb (by decide) fun h9 hw => ⟨rfl, hw⟩) ⟨_, _, _, rfl, hg, ht⟩ rfl rfl (Nat.le_of_ble_eq_true rfl) (Nat.zero_le _) (Nat.zero_le _) (fun v9 h9 e9 => ?_) (fun E h9 hp => by first | exact nomatch hp.1 | (obtain ⟨⟨_, hz, _⟩, _⟩ := hp; cases hz))
      obtain ⟨e9, hw1⟩ := e9
      cases e9
      have hg1 : am_g G h9 q = some (sb_c t p len sg) := by rw [hw1.ne (fun z => hpq z.symm)]; exact hg
      obtain ⟨n, hn⟩ := sb_pl (sb_join (-1) 0 A B)
      refine hs 36 _ rfl _ _ _ _ _ _ _ rfl ?_
      refine hs 37 _ rfl _ _ _ _ _ _ _ rfl ?_
      obtain ⟨k1, k2⟩ := sb_fit (f := (-1)) (by decide) hA hB (by omega) (show _ < (1000000000 : Int) ^ 10 by rw [hL]; omega)
      refine hd_callV (hs 38 _ rfl) (a := [.ref q, .int (Int32.ofInt sga)]) (st := []) (P := fun o h10 => o = .inl none ∧ hd_w G h9 h10 q (sb_c t p (n : Int) (if n = 0 then 0 else sga))) (sb_settle_M g hq hpq hg1 ht hw1.at htp k1 hn fun h10 hw => ⟨rfl, hw⟩) ⟨_, _, _, rfl, hg1, ht⟩ rfl rfl (Nat.le_of_ble_eq_true rfl) (Nat.zero_le _) (Nat.zero_le _) (fun v9 h10 e10 => ?_) (fun E h9 hp => by first | exact nomatch hp.1 | (obtain ⟨⟨_, hz, _⟩, _⟩ := hp; cases hz))
      obtain ⟨e10, hw2⟩ := e10
      cases e10
      have hfin := hP h10 n _ _ (sb_w.of hw1 hw2) (by rw [eq]; exact sb_mk (by decide) hA hB (by omega) (show _ < (1000000000 : Int) ^ 10 by rw [hL]; omega) hsa hn)
      refine hs 39 _ rfl _ _ _ _ _ ?_
      exact hs 51 _ rfl _ _ _ _ (Nat.zero_le _) (Nat.zero_le _) hfin
