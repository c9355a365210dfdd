/-! THE ROW OF POWERS -/
theorem sk_pig : ∀ (m : Nat) (f : Nat → Nat), (∀ i : Nat, i ≤ m → f i < m) → ∃ i j : Nat, i < j ∧ j ≤ m ∧ f i = f j := by
  intro m
  induction m with
  | zero =>
    intro f h
    exact absurd (h 0 (Nat.le_refl 0)) (Nat.not_lt_zero _)
  | succ m_ ih =>
    intro f h
    by_cases c_ : ∃ i : Nat, i ≤ m_ ∧ f i = f (m_ + 1)
    · obtain ⟨i_, a1_, a2_⟩ := c_
      exact ⟨i_, m_ + 1, by omega, Nat.le_refl _, a2_⟩
    · have n_ : ∀ i : Nat, i ≤ m_ → ¬ f i = f (m_ + 1) := fun i h1 h2 => c_ ⟨i, h1, h2⟩
      have v_ := h (m_ + 1) (Nat.le_refl _)
      obtain ⟨i_, j_, a1_, a2_, a3_⟩ := ih (fun i => if f i = m_ then f (m_ + 1) else f i) (fun i hi => by
        have b_ := h i (by omega)
        have k_ := n_ i hi
        show (if f i = m_ then f (m_ + 1) else f i) < m_
        split <;> omega)
      have ki_ := n_ i_ (by omega)
      have kj_ := n_ j_ a2_
      refine ⟨i_, j_, a1_, by omega, ?_⟩
      have a4_ : (if f i_ = m_ then f (m_ + 1) else f i_) = (if f j_ = m_ then f (m_ + 1) else f j_) := a3_
      by_cases c1_ : f i_ = m_
      · rw [if_pos c1_] at a4_
        by_cases c2_ : f j_ = m_
        · rw [c1_, c2_]
        · rw [if_neg c2_] at a4_
          exact absurd a4_.symm kj_
      · rw [if_neg c1_] at a4_
        by_cases c2_ : f j_ = m_
        · rw [if_pos c2_] at a4_
          exact absurd a4_ ki_
        · rw [if_neg c2_] at a4_
          exact a4_
/-- the first power that was there before: so many in front, there at t -/
def sk_w (a m n t : Nat) : Prop := t < n ∧ n ≤ m ∧ sk_p a m n = sk_p a m t ∧ ∀ i j : Nat, i < j → j < n → ¬ sk_p a m i = sk_p a m j
def sk_sm (a m : Nat) : Nat → Int
  | 0 => 0
  | n + 1 => sk_sm a m n + ((sk_p a m n : Nat) : Int)
/-- where each power stands -/
def sk_pl (a m i : Nat) (o : Int) (l : List Int) : Prop := m ≤ l.length ∧ ∀ y : Nat, y < m → (∃ j : Nat, j < i ∧ sk_p a m j = y ∧ l.getD y 0 = (j : Int) + o) ∨ ((∀ j : Nat, j < i → ¬ sk_p a m j = y) ∧ l.getD y 0 = -1 + o)
def sk_rw (a m i : Nat) (r : List Int) : Prop := ∀ j : Nat, j < i → r[j]? = some ((sk_p a m j : Nat) : Int)
def sk_ij (a m n : Nat) : Prop := ∀ i j : Nat, i < j → j < n → ¬ sk_p a m i = sk_p a m j
/-- count, tail, cycle, sum -/
def sk_pw (a m : Nat) (w v : Int) : Prop := ∃ n t : Nat, sk_w a m n t ∧ v = if w = 0 then (n : Int) else if w = 1 then (t : Int) else if w = 2 then (n : Int) - (t : Int) else sk_sm a m n
section SKW
variable {a m n t n2 t2 i w : Nat} {o : Int} {l r : List Int}
theorem sk_p.lt (hm : 1 ≤ m) : sk_p a m i < m := Nat.mod_lt _ hm
theorem sk_p.zero : sk_p a m 0 = 1 % m := by
  show a ^ 0 % m = _
  rw [Nat.pow_zero]
theorem sk_w.fn (h1 : sk_w a m n t) (h2 : sk_w a m n2 t2) : n = n2 ∧ t = t2 := by
  obtain ⟨a1_, a2_, a3_, a4_⟩ := h1
  obtain ⟨b1_, b2_, b3_, b4_⟩ := h2
  have e_ : n = n2 := by
    rcases Nat.lt_trichotomy n n2 with c_ | c_ | c_
    · exact absurd a3_.symm (b4_ t n a1_ c_)
    · exact c_
    · exact absurd b3_.symm (a4_ t2 n2 b1_ c_)
  subst e_
  refine ⟨rfl, ?_⟩
  rcases Nat.lt_trichotomy t t2 with c_ | c_ | c_
  · exact absurd (a3_.symm.trans b3_) (a4_ t t2 c_ b1_)
  · exact c_
  · exact absurd (b3_.symm.trans a3_) (a4_ t2 t c_ a1_)
theorem sk_pw.fn {w v v2 : Int} (h1 : sk_pw a m w v) (h2 : sk_pw a m w v2) : v = v2 := by
  obtain ⟨n_, t_, a1_, a2_⟩ := h1
  obtain ⟨n2_, t2_, b1_, b2_⟩ := h2
  obtain ⟨e1_, e2_⟩ := a1_.fn b1_
  rw [a2_, b2_, e1_, e2_]
theorem sk_sm.bd (hm : 1 ≤ m) (hm2 : m ≤ 400) : ∀ n : Nat, 0 ≤ sk_sm a m n ∧ sk_sm a m n ≤ 400 * (n : Int) := by
  intro n
  induction n with
  | zero =>
    show 0 ≤ (0 : Int) ∧ (0 : Int) ≤ 400 * ((0 : Nat) : Int)
    omega
  | succ n_ ih =>
    have l_ := sk_p.lt (a := a) (i := n_) hm
    show 0 ≤ sk_sm a m n_ + ((sk_p a m n_ : Nat) : Int) ∧ sk_sm a m n_ + ((sk_p a m n_ : Nat) : Int) ≤ 400 * ((n_ + 1 : Nat) : Int)
    omega
theorem sk_pw.bd {w v : Int} (hm : 1 ≤ m) (hm2 : m ≤ 400) (h : sk_pw a m w v) : 0 ≤ v ∧ v ≤ 160000 := by
  obtain ⟨n_, t_, ⟨a1_, a2_, -⟩, v_⟩ := h
  have s_ := sk_sm.bd (a := a) hm hm2 n_
  by_cases c0_ : w = 0
  · rw [if_pos c0_] at v_
    omega
  · rw [if_neg c0_] at v_
    by_cases c1_ : w = 1
    · rw [if_pos c1_] at v_
      omega
    · rw [if_neg c1_] at v_
      by_cases c2_ : w = 2
      · rw [if_pos c2_] at v_
        omega
      · rw [if_neg c2_] at v_
        omega
theorem sk_pl.set (h : sk_pl a m i o l) (hw : w = sk_p a m i) (hl : w < m) (hn : ∀ j : Nat, j < i → ¬ sk_p a m j = w) : sk_pl a m (i + 1) o (l.set w ((i : Int) + o)) := by
  obtain ⟨h1_, h2_⟩ := h
  refine ⟨by rw [List.length_set]; exact h1_, fun y hy => ?_⟩
  by_cases e_ : y = w
  · refine Or.inl ⟨i, by omega, by rw [e_, hw], ?_⟩
    rw [e_, List.getD_eq_getElem?_getD, List.getElem?_set_self (by omega), Option.getD_some]
  · rw [sb_sets e_]
    rcases h2_ y hy with ⟨j_, a1_, a2_, a3_⟩ | ⟨a1_, a2_⟩
    · exact Or.inl ⟨j_, by omega, a2_, a3_⟩
    · refine Or.inr ⟨fun j hj => ?_, a2_⟩
      by_cases c_ : j = i
      · rw [c_, ← hw]
        exact fun y_ => e_ y_.symm
      · exact a1_ j (by omega)
theorem sk_rw.set (h : sk_rw a m i r) (hw : w = sk_p a m i) (hl : i < r.length) : sk_rw a m (i + 1) (r.set i (w : Int)) := fun j hj => by
  by_cases e_ : j = i
  · rw [e_, List.getElem?_set_self hl, hw]
  · rw [List.getElem?_set_ne (fun y_ => e_ y_.symm)]
    exact h j (by omega)
theorem sk_ij.s (h : sk_ij a m i) (hn : ∀ j : Nat, j < i → ¬ sk_p a m j = sk_p a m i) : sk_ij a m (i + 1) := fun i2 j2 h1 h2 => by
  by_cases e_ : j2 = i
  · rw [e_]
    exact hn i2 (by omega)
  · exact h i2 j2 h1 (by omega)
/-- behind m powers there is one more that was there before -/
theorem sk_ij.full (hm : 1 ≤ m) (h : sk_ij a m m) : ∃ j : Nat, j < m ∧ sk_p a m j = sk_p a m m := by
  obtain ⟨i_, j_, a1_, a2_, a3_⟩ := sk_pig m (sk_p a m) fun i _ => sk_p.lt hm
  by_cases e_ : j_ = m
  · rw [e_] at a1_ a3_
    exact ⟨i_, a1_, a3_⟩
  · exact absurd a3_ (h i_ j_ a1_ (by omega))
theorem sk_pl.at (h : sk_pl a m i o l) (hl : w < m) : l[w]? = some (l.getD w 0) := sb_ge (by have := h.1; omega)
end SKW
set_option maxHeartbeats 4000000 in
theorem zc_fill_M {l : Launch} {G : am_G} {X : ck_XT} (g : gM l G X) {p q1 q2 : Nat} {c2 t2 : Int32} {rs ps : List Int} {h : List am_C} (g2 : am_g G h p = some (1013, [.ref q1, .ref q2, .int c2, .int t2])) (g3 : am_g G h q1 = some (1850, hd_r rs)) (g4 : am_g G h q2 = some (1950, hd_r ps)) (l3 : rs.length = 400) (l4 : ps.length = 400) (n1 : p ≠ q1) (n2 : p ≠ q2) (n3 : q1 ≠ q2) (b1 : 1000 ≤ p) (b2 : 1000 ≤ q1) (b3 : 1000 ≤ q2) {A_ M_ : Nat} (ha : A_ < M_) (hm : M_ ≤ 400) {mc ms : Nat} {Post : am_O → List am_C → Prop}
    (hP : ∀ (h' : List am_C) (n t : Nat) (r9 : List Int), sk_w A_ M_ n t → am_g G h' p = some (1013, [.ref q1, .ref q2, .int (Int32.ofInt (n : Int)), .int (Int32.ofInt (t : Int))]) → am_g G h' q1 = some (1850, hd_r r9) → r9.length = 400 → sk_rw A_ M_ n r9 → (∀ z : Nat, z ≠ p → z ≠ q1 → z ≠ q2 → am_g G h' z = am_g G h z) → Post (.inl none) h') :
    am_M l G yX6_fill (.code yX6_fill prog_8_method_2_code 5 none) 1 20 mc ms [.ref p, .int (Int32.ofInt (A_ : Int)), .int (Int32.ofInt (M_ : Int))] h Post := by
  refine gh_yX6_fill_X g (Nat.le_of_ble_eq_true rfl) fun S SX hs hr hw hx => ?_
  have rv : ∀ x : Int32, ck_fv 0 (.int x) := fun x => ⟨_, rfl⟩
  have hm1_ : 1 ≤ M_ := by omega
  have leave : ∀ (h1_ : List am_C) (l_ r_ : List Int) (i_ j_ W_ : Nat) (u_ : Option Value), am_g G h1_ p = some (1013, [.ref q1, .ref q2, .int (Int32.ofInt (i_ : Int)), .int (Int32.ofInt (0 : Int))]) → am_g G h1_ q1 = some (1850, hd_r r_) → am_g G h1_ q2 = some (1950, hd_r l_) → l_.length = 400 → r_.length = 400 → W_ < M_ → l_[W_]? = some (j_ : Int) → sk_rw A_ M_ i_ r_ → sk_w A_ M_ i_ j_ → (∀ z : Nat, z ≠ p → z ≠ q1 → z ≠ q2 → am_g G h1_ z = am_g G h z) → S 112 [some (.ref p), some (.int (Int32.ofInt (A_ : Int))), some (.int (Int32.ofInt (M_ : Int))), some (.int (Int32.ofInt (W_ : Int))), u_] [] h1_ 0 0 := by
    intro h1_ l_ r_ i_ j_ W_ u_ p1_ p2_ p3_ e1_ e2_ hW_ hv_ rw_ sw_ fr_
    have sw2_ := sw_.1
    have sw3_ := sw_.2.1
    refine hs 68 _ rfl _ _ _ _ _ _ _ rfl ?_
    refine hs 69 _ rfl _ _ _ _ _ _ _ rfl ?_
    refine hs 70 _ rfl _ _ _ _ _ _ _ _ _ (p1_) rfl rfl ?_
    refine hs 71 _ rfl _ _ _ _ _ _ _ rfl ?_
    refine hd_A (hs 72 _ rfl) (by decide) (by decide) (p3_) rfl (j := W_) (by omega) (by omega) hv_ ?_
    refine zw_U (hs 73 _ rfl) (by omega) (p1_) rfl ⟨_, rfl⟩ fun hz729 wz730 => ?_
    have wz730 : hd_w G h1_ hz729 p (1013, [.ref q1, .ref q2, .int (Int32.ofInt (i_ : Int)), .int (Int32.ofInt (j_ : Int))]) := wz730
    have lwz730 := wz730.1
    exact hs 74 _ rfl _ _ _ _ (Nat.zero_le _) (Nat.zero_le _) (hP _ i_ j_ r_ sw_ wz730.at ((wz730.ne (by omega)).trans p2_) e2_ rw_ fun z z1 z2 z3 => (wz730.ne z1).trans (fr_ z z1 z2 z3))
  have loop3 : ∀ (n_ i_ W_ : Nat) (h1_ : List am_C) (l_ r_ : List Int), i_ + n_ = M_ → am_g G h1_ p = some (1013, [.ref q1, .ref q2, .int (Int32.ofInt (i_ : Int)), .int (Int32.ofInt (0 : Int))]) → am_g G h1_ q1 = some (1850, hd_r r_) → am_g G h1_ q2 = some (1950, hd_r l_) → l_.length = 400 → r_.length = 400 → W_ = sk_p A_ M_ i_ → sk_pl A_ M_ i_ 0 l_ → sk_rw A_ M_ i_ r_ → sk_ij A_ M_ i_ → (∀ z : Nat, z ≠ p → z ≠ q1 → z ≠ q2 → am_g G h1_ z = am_g G h z) → S 58 [some (.ref p), some (.int (Int32.ofInt (A_ : Int))), some (.int (Int32.ofInt (M_ : Int))), some (.int (Int32.ofInt (W_ : Int))), some (.int (Int32.ofInt (i_ : Int)))] [] h1_ 0 0 := by
    intro n_
    induction n_ with
    | zero =>
      intro i_ W_ h1_ l_ r_ hi_ p1_ p2_ p3_ e1_ e2_ hw_ pl_ rw_ ij_ fr_
      have i2_ : i_ = M_ := by omega
      subst i2_
      have hW_ : W_ < i_ := by
        rw [hw_]
        exact sk_p.lt hm1_
      obtain ⟨j_, j1_, j2_⟩ := ij_.full hm1_
      obtain ⟨k_, k1_, k2_, k3_⟩ : ∃ j : Nat, j < i_ ∧ sk_p A_ i_ j = W_ ∧ l_.getD W_ 0 = (j : Int) + 0 := by
        rcases pl_.2 W_ hW_ with y_ | ⟨y_, -⟩
        · exact y_
        · exact absurd (j2_.trans hw_.symm) (y_ j_ j1_)
      have hv_ : l_[W_]? = some (k_ : Int) := by
        rw [pl_.at hW_, show l_.getD W_ 0 = (k_ : Int) by omega]
      refine hs 35 _ rfl _ _ _ _ _ _ _ rfl ?_
      refine hs 36 _ rfl _ _ _ _ _ _ _ rfl ?_
      refine hs 37 _ rfl _ _ _ _ _ _ _ (fun _ => ?_) (fun zq => absurd (hd_c2t (c := 3) (by omega) (by omega) (by omega) (by omega) (by omega : 0 ≤ ((i_ : Int) - (i_ : Int)))) zq)
      exact leave h1_ l_ r_ i_ k_ W_ _ p1_ p2_ p3_ e1_ e2_ hW_ hv_ rw_ ⟨k1_, Nat.le_refl _, hw_.symm.trans k2_.symm, ij_⟩ fr_
    | succ n_ ih =>
      intro i_ W_ h1_ l_ r_ hi_ p1_ p2_ p3_ e1_ e2_ hw_ pl_ rw_ ij_ fr_
      have hW_ : W_ < M_ := by
        rw [hw_]
        exact sk_p.lt hm1_
      have b4_ : W_ * A_ % M_ < M_ := Nat.mod_lt _ hm1_
      rcases pl_.2 W_ hW_ with ⟨j_, k1_, k2_, k3_⟩ | ⟨k1_, k2_⟩
      · have hv_ : l_[W_]? = some (j_ : Int) := by
          rw [pl_.at hW_, show l_.getD W_ 0 = (j_ : Int) by omega]
        refine hs 35 _ rfl _ _ _ _ _ _ _ rfl ?_
        refine hs 36 _ rfl _ _ _ _ _ _ _ rfl ?_
        refine hs 37 _ rfl _ _ _ _ _ _ _ (fun zq => absurd (hd_c2z (c := 3) (by omega) (by omega) (by omega) (by omega) zq) (by omega : ¬ (0 ≤ ((i_ : Int) - (M_ : Int))))) (fun _ => ?_)
        refine hs 38 _ rfl _ _ _ _ _ _ _ rfl ?_
        refine hs 39 _ rfl _ _ _ _ _ _ _ _ _ (p1_) rfl rfl ?_
        refine hs 40 _ rfl _ _ _ _ _ _ _ rfl ?_
        refine hd_A (hs 41 _ rfl) (by decide) (by decide) (p3_) rfl (j := W_) (by omega) (by omega) hv_ ?_
        refine hs 42 _ rfl _ _ _ _ _ _ _ rfl ?_
        refine hs 43 _ rfl _ _ _ _ _ _ _ (fun _ => ?_) (fun zq => absurd (hd_c2t (c := 1) (by omega) (by omega) (by omega) (by omega) (by omega : ((j_ : Int) - (-1 : Int)) ≠ 0)) zq)
        exact leave h1_ l_ r_ i_ j_ W_ _ p1_ p2_ p3_ e1_ e2_ hW_ hv_ rw_ ⟨k1_, by omega, hw_.symm.trans k2_.symm, ij_⟩ fr_
      · have hv_ : l_[W_]? = some (-1 : Int) := by
          rw [pl_.at hW_, show l_.getD W_ 0 = -1 by omega]
        refine hs 35 _ rfl _ _ _ _ _ _ _ rfl ?_
        refine hs 36 _ rfl _ _ _ _ _ _ _ rfl ?_
        refine hs 37 _ rfl _ _ _ _ _ _ _ (fun zq => absurd (hd_c2z (c := 3) (by omega) (by omega) (by omega) (by omega) zq) (by omega : ¬ (0 ≤ ((i_ : Int) - (M_ : Int))))) (fun _ => ?_)
        refine hs 38 _ rfl _ _ _ _ _ _ _ rfl ?_
        refine hs 39 _ rfl _ _ _ _ _ _ _ _ _ (p1_) rfl rfl ?_
        refine hs 40 _ rfl _ _ _ _ _ _ _ rfl ?_
        refine hd_A (hs 41 _ rfl) (by decide) (by decide) (p3_) rfl (j := W_) (by omega) (by omega) hv_ ?_
        refine hs 42 _ rfl _ _ _ _ _ _ _ rfl ?_
        refine hs 43 _ rfl _ _ _ _ _ _ _ (fun zq => absurd (hd_c2z (c := 1) (by omega) (by omega) (by omega) (by omega) zq) (by omega : ¬ (((-1 : Int) - (-1 : Int)) ≠ 0))) (fun _ => ?_)
        refine hs 44 _ rfl _ _ _ _ _ _ _ rfl ?_
        refine hs 45 _ rfl _ _ _ _ _ _ _ _ _ (p1_) rfl rfl ?_
        refine hs 46 _ rfl _ _ _ _ _ _ _ rfl ?_
        refine hs 47 _ rfl _ _ _ _ _ _ _ rfl ?_
        refine zw_B (hs 48 _ rfl) (by decide) (by decide) (by omega) (p2_) rfl (j := i_) (by omega) (by omega) (by omega) fun hz731 wz732 => ?_
        refine hs 49 _ rfl _ _ _ _ _ _ _ rfl ?_
        refine hs 50 _ rfl _ _ _ _ _ _ _ _ _ ((wz732.ne (by omega)).trans p1_) rfl rfl ?_
        refine hs 51 _ rfl _ _ _ _ _ _ _ rfl ?_
        refine hs 52 _ rfl _ _ _ _ _ _ _ rfl ?_
        refine zw_B (hs 53 _ rfl) (by decide) (by decide) (by omega) ((wz732.ne (by omega)).trans p3_) rfl (j := W_) (by omega) (by omega) (by omega) fun hz733 wz734 => ?_
        refine hs 54 _ rfl _ _ _ _ _ _ _ rfl ?_
        refine hs 55 _ rfl _ _ _ _ _ _ _ rfl ?_
        refine hs 56 _ rfl _ _ _ _ _ _ _ _ _ ((wz734.ne (by omega)).trans ((wz732.ne (by omega)).trans p1_)) rfl rfl ?_
        refine hs 57 _ rfl _ _ _ _ _ _ _ rfl ?_
        refine hs 58 _ rfl _ _ _ _ _ _ _ hd_add ?_
        refine zw_U (hs 59 _ rfl) (by omega) ((wz734.ne (by omega)).trans ((wz732.ne (by omega)).trans p1_)) rfl ⟨_, rfl⟩ fun hz735 wz736 => ?_
        have wz736 : hd_w G hz733 hz735 p (1013, [.ref q1, .ref q2, .int (Int32.ofInt ((i_ : Int) + (1 : Int))), .int (Int32.ofInt (0 : Int))]) := wz736
        have lwz736 := wz736.1
        refine hs 60 _ rfl _ _ _ _ _ _ _ rfl ?_
        refine hs 61 _ rfl _ _ _ _ _ _ _ rfl ?_
        refine hs 62 _ rfl _ _ _ _ _ _ _ hd_mul ?_
        refine hs 63 _ rfl _ _ _ _ _ _ _ rfl ?_
        refine hs 64 _ rfl _ _ _ _ _ _ _ (zt_rem (by omega) (by omega) (by omega) (by omega)) ?_
        refine hs 65 _ rfl _ _ _ _ _ _ _ rfl ?_
        refine hs 66 _ rfl _ _ _ _ _ _ _ (hd_inc rfl) ?_
        refine hs 67 _ rfl _ _ _ _ _ ?_
        have c1_ := ((wz736.ne (by omega)).trans ((wz734.ne (by omega)).trans wz732.at) : am_g G _ q1 = _)
        have c2_ := ((wz736.ne (by omega)).trans wz734.at : am_g G _ q2 = _)
        have s_ := sk_pl.set pl_ hw_ hW_ k1_
        rw [Int.add_zero] at s_
        exact ih (i_ + 1) (W_ * A_ % M_) _ (l_.set W_ (i_ : Int)) (r_.set i_ (W_ : Int)) (by omega) wz736.at c1_ c2_ (by rw [List.length_set]; exact e1_) (by rw [List.length_set]; exact e2_) (by rw [sk_p.s, ← hw_]) s_ (sk_rw.set rw_ hw_ (by omega)) (sk_ij.s ij_ fun j hj => by rw [← hw_]; exact k1_ j hj) fun z z1 z2 z3 => (wz736.ne z1).trans ((wz734.ne z3).trans ((wz732.ne z2).trans (fr_ z z1 z2 z3)))
  have loop2 : ∀ (n_ x_ : Nat) (h1_ : List am_C) (l_ : List Int), x_ + n_ = M_ → am_g G h1_ p = some (1013, [.ref q1, .ref q2, .int (Int32.ofInt (0 : Int)), .int (Int32.ofInt (0 : Int))]) → am_g G h1_ q1 = some (1850, hd_r rs) → am_g G h1_ q2 = some (1950, hd_r l_) → l_.length = 400 → (∀ y : Nat, y < x_ → l_.getD y 0 = -1) → (∀ z : Nat, z ≠ p → z ≠ q1 → z ≠ q2 → am_g G h1_ z = am_g G h z) → S 33 [some (.ref p), some (.int (Int32.ofInt (A_ : Int))), some (.int (Int32.ofInt (M_ : Int))), some (.int (Int32.ofInt (x_ : Int))), none] [] h1_ 0 0 := by
    intro n_
    induction n_ with
    | zero =>
      intro x_ h1_ l_ hi_ p1_ p2_ p3_ e1_ pl_ fr_
      have b5_ : 1 % M_ < M_ := Nat.mod_lt _ hm1_
      refine hs 19 _ rfl _ _ _ _ _ _ _ rfl ?_
      refine hs 20 _ rfl _ _ _ _ _ _ _ rfl ?_
      refine hs 21 _ rfl _ _ _ _ _ _ _ (fun _ => ?_) (fun zq => absurd (hd_c2t (c := 3) (by omega) (by omega) (by omega) (by omega) (by omega : 0 ≤ ((x_ : Int) - (M_ : Int)))) zq)
      refine hs 29 _ rfl _ _ _ _ _ _ _ rfl ?_
      refine hs 30 _ rfl _ _ _ _ _ _ _ rfl ?_
      refine hs 31 _ rfl _ _ _ _ _ _ _ (zt_rem1 (by omega) (by omega)) ?_
      refine hs 32 _ rfl _ _ _ _ _ _ _ rfl ?_
      refine hs 33 _ rfl _ _ _ _ _ _ _ rfl ?_
      refine hs 34 _ rfl _ _ _ _ _ _ _ rfl ?_
      exact loop3 M_ 0 (1 % M_) h1_ l_ rs (by omega) p1_ p2_ p3_ e1_ l3 sk_p.zero.symm ⟨by omega, fun y hy => Or.inr ⟨fun j hj => absurd hj (Nat.not_lt_zero _), by have y9_ := pl_ y (by omega); omega⟩⟩ (fun j hj => absurd hj (Nat.not_lt_zero _)) (fun i j h1 h2 => absurd h2 (Nat.not_lt_zero _)) fr_
    | succ n_ ih =>
      intro x_ h1_ l_ hi_ p1_ p2_ p3_ e1_ pl_ fr_
      refine hs 19 _ rfl _ _ _ _ _ _ _ rfl ?_
      refine hs 20 _ rfl _ _ _ _ _ _ _ rfl ?_
      refine hs 21 _ rfl _ _ _ _ _ _ _ (fun zq => absurd (hd_c2z (c := 3) (by omega) (by omega) (by omega) (by omega) zq) (by omega : ¬ (0 ≤ ((x_ : Int) - (M_ : Int))))) (fun _ => ?_)
      refine hs 22 _ rfl _ _ _ _ _ _ _ rfl ?_
      refine hs 23 _ rfl _ _ _ _ _ _ _ _ _ (p1_) rfl rfl ?_
      refine hs 24 _ rfl _ _ _ _ _ _ _ rfl ?_
      refine hs 25 _ rfl _ _ _ _ _ _ _ rfl ?_
      refine zw_B (hs 26 _ rfl) (by decide) (by decide) (by omega) (p3_) rfl (j := x_) (by omega) (by omega) (by omega) fun hz737 wz738 => ?_
      refine hs 27 _ rfl _ _ _ _ _ _ _ (hd_inc rfl) ?_
      refine hs 28 _ rfl _ _ _ _ _ ?_
      exact ih (x_ + 1) _ (l_.set x_ (-1)) (by omega) ((wz738.ne (by omega)).trans p1_) ((wz738.ne (by omega)).trans p2_) wz738.at (by rw [List.length_set]; exact e1_) (fun y hy => by
        by_cases f_ : y = x_
        · rw [f_, List.getD_eq_getElem?_getD, List.getElem?_set_self (by omega), Option.getD_some]
        · rw [sb_sets f_]
          exact pl_ y (by omega)) fun z z1 z2 z3 => (wz738.ne z3).trans (fr_ z z1 z2 z3)
  refine hs 0 _ rfl _ _ _ _ _ _ _ rfl ?_
  refine hs 1 _ rfl _ _ _ _ _ _ _ rfl ?_
  refine zw_U (hs 2 _ rfl) (by omega) (g2) rfl ⟨_, rfl⟩ fun hz739 wz740 => ?_
  have wz740 : hd_w G h hz739 p (1013, [.ref q1, .ref q2, .int (Int32.ofInt (0 : Int)), .int t2]) := wz740
  have lwz740 := wz740.1
  refine hs 3 _ rfl _ _ _ _ _ _ _ rfl ?_
  refine hs 4 _ rfl _ _ _ _ _ _ _ rfl ?_
  refine zw_U (hs 5 _ rfl) (by omega) (wz740.at) rfl ⟨_, rfl⟩ fun hz741 wz742 => ?_
  have wz742 : hd_w G hz739 hz741 p (1013, [.ref q1, .ref q2, .int (Int32.ofInt (0 : Int)), .int (Int32.ofInt (0 : Int))]) := wz742
  have lwz742 := wz742.1
  refine hs 6 _ rfl _ _ _ _ _ _ _ rfl ?_
  refine hs 7 _ rfl _ _ _ _ _ _ (fun zq => absurd (hd_c1z (c := 5) (by omega) (by omega) zq) (by omega : ¬ ((M_ : Int) ≤ 0))) (fun _ => ?_)
  refine hs 8 _ rfl _ _ _ _ _ _ _ rfl ?_
  refine hs 9 _ rfl _ _ _ _ _ _ _ rfl ?_
  refine hs 10 _ rfl _ _ _ _ _ _ _ (fun zq => absurd (hd_c2z (c := 4) (by omega) (by omega) (by omega) (by omega) zq) (by omega : ¬ (0 < ((M_ : Int) - (400 : Int))))) (fun _ => ?_)
  refine hs 11 _ rfl _ _ _ _ _ _ _ rfl ?_
  refine hs 12 _ rfl _ _ _ _ _ _ (fun zq => absurd (hd_c1z (c := 2) (by omega) (by omega) zq) (by omega : ¬ ((A_ : Int) < 0))) (fun _ => ?_)
  refine hs 13 _ rfl _ _ _ _ _ _ _ rfl ?_
  refine hs 14 _ rfl _ _ _ _ _ _ _ rfl ?_
  refine hs 15 _ rfl _ _ _ _ _ _ _ (fun _ => ?_) (fun zq => absurd (hd_c2t (c := 2) (by omega) (by omega) (by omega) (by omega) (by omega : ((A_ : Int) - (M_ : Int)) < 0)) zq)
  refine hs 17 _ rfl _ _ _ _ _ _ _ rfl ?_
  refine hs 18 _ rfl _ _ _ _ _ _ _ rfl ?_
  exact loop2 M_ 0 _ ps (by omega) wz742.at ((wz742.ne (by omega)).trans ((wz740.ne (by omega)).trans g3)) ((wz742.ne (by omega)).trans ((wz740.ne (by omega)).trans g4)) l4 (fun y hy => absurd hy (Nat.not_lt_zero _)) fun z z1 z2 z3 => (wz742.ne z1).trans (wz740.ne z1)
set_option maxHeartbeats 4000000 in
theorem zc_sumRow_M {l : Launch} {G : am_G} {X : ck_XT} (g : gM l G X) {p q1 q2 n t : Nat} {r9 : List Int} {h : List am_C} (g2 : am_g G h p = some (1013, [.ref q1, .ref q2, .int (Int32.ofInt (n : Int)), .int (Int32.ofInt (t : Int))])) (g3 : am_g G h q1 = some (1850, hd_r r9)) (l3 : r9.length = 400) {A_ M_ : Nat} (hm1 : 1 ≤ M_) (hm : M_ ≤ 400) (sw : sk_w A_ M_ n t) (rw_ : sk_rw A_ M_ n r9) {mc ms : Nat} {Post : am_O → List am_C → Prop} (hP : Post (.inl (some (.int (Int32.ofInt (sk_sm A_ M_ n))))) h) :
    am_M l G yX6_sumOfRow (.code yX6_sumOfRow prog_8_method_4_code 3 (some .int)) 1 20 mc ms [.ref p] h Post := by
  refine gh_yX6_sumOfRow_X g (Nat.le_of_ble_eq_true rfl) fun S SX hs hr hw hx => ?_
  have rv : ∀ x : Int32, ck_fv 0 (.int x) := fun x => ⟨_, rfl⟩
  have n1_ := sw.2.1
  have loop : ∀ (n_ i_ : Nat), i_ + n_ = n → S 4 [some (.ref p), some (.int (Int32.ofInt (sk_sm A_ M_ i_))), some (.int (Int32.ofInt (i_ : Int)))] [] h 0 0 := by
    intro n_
    induction n_ with
    | zero =>
      intro i_ hi_
      refine hs 4 _ rfl _ _ _ _ _ _ _ rfl ?_
      refine hs 5 _ rfl _ _ _ _ _ _ _ rfl ?_
      refine hs 6 _ rfl _ _ _ _ _ _ _ _ _ (g2) rfl rfl ?_
      refine hs 7 _ rfl _ _ _ _ _ _ _ (fun _ => ?_) (fun zq => absurd (hd_c2t (c := 3) (by omega) (by omega) (by omega) (by omega) (by omega : 0 ≤ ((i_ : Int) - (n : Int)))) zq)
      refine hs 17 _ rfl _ _ _ _ _ _ _ rfl ?_
      exact hs 18 _ rfl _ _ _ _ _ (rv _) (Nat.zero_le _) (Nat.zero_le _) (by rw [show n = i_ by omega] at hP; exact hP)
    | succ n_ ih =>
      intro i_ hi_
      have b_ := sk_sm.bd (a := A_) hm1 hm i_
      have b2_ := sk_p.lt (a := A_) (i := i_) hm1
      have z_ := ih (i_ + 1) (by omega)
      refine hs 4 _ rfl _ _ _ _ _ _ _ rfl ?_
      refine hs 5 _ rfl _ _ _ _ _ _ _ rfl ?_
      refine hs 6 _ rfl _ _ _ _ _ _ _ _ _ (g2) rfl rfl ?_
      refine hs 7 _ rfl _ _ _ _ _ _ _ (fun zq => absurd (hd_c2z (c := 3) (by omega) (by omega) (by omega) (by omega) zq) (by omega : ¬ (0 ≤ ((i_ : Int) - (n : Int))))) (fun _ => ?_)
      refine hs 8 _ rfl _ _ _ _ _ _ _ rfl ?_
      refine hs 9 _ rfl _ _ _ _ _ _ _ rfl ?_
      refine hs 10 _ rfl _ _ _ _ _ _ _ _ _ (g2) rfl rfl ?_
      refine hs 11 _ rfl _ _ _ _ _ _ _ rfl ?_
      refine hd_A (hs 12 _ rfl) (by decide) (by decide) (g3) rfl (j := i_) (by omega) (by omega) (rw_ i_ (by omega)) ?_
      refine hs 13 _ rfl _ _ _ _ _ _ _ hd_add ?_
      refine hs 14 _ rfl _ _ _ _ _ _ _ rfl ?_
      refine hs 15 _ rfl _ _ _ _ _ _ _ (hd_inc rfl) ?_
      refine hs 16 _ rfl _ _ _ _ _ ?_
      exact z_
  refine hs 0 _ rfl _ _ _ _ _ _ _ rfl ?_
  refine hs 1 _ rfl _ _ _ _ _ _ _ rfl ?_
  refine hs 2 _ rfl _ _ _ _ _ _ _ rfl ?_
  refine hs 3 _ rfl _ _ _ _ _ _ _ rfl ?_
  exact loop n 0 (by omega)
set_option maxHeartbeats 4000000 in
theorem zc_tellOf_M {l : Launch} {G : am_G} {X : ck_XT} (g : gM l G X) {p q1 q2 n t : Nat} {r9 : List Int} {h : List am_C} (g2 : am_g G h p = some (1013, [.ref q1, .ref q2, .int (Int32.ofInt (n : Int)), .int (Int32.ofInt (t : Int))])) (g3 : am_g G h q1 = some (1850, hd_r r9)) (l3 : r9.length = 400) {A_ M_ : Nat} (hm1 : 1 ≤ M_) (hm : M_ ≤ 400) (sw : sk_w A_ M_ n t) (rw_ : sk_rw A_ M_ n r9) {w : Int} (hw9 : 0 ≤ w ∧ w ≤ 3) {mc ms : Nat} {Post : am_O → List am_C → Prop} (hP : Post (.inl (some (.int (Int32.ofInt (if w = 0 then (n : Int) else if w = 1 then (t : Int) else if w = 2 then (n : Int) - (t : Int) else sk_sm A_ M_ n))))) h) :
    am_M l G yX6_tellOf (.code yX6_tellOf prog_8_method_3_code 2 (some .int)) 2 42 mc ms [.ref p, .int (Int32.ofInt w)] h Post := by
  refine gh_yX6_tellOf_X g (Nat.le_of_ble_eq_true rfl) fun S SX hs hr hw hx => ?_
  have rv : ∀ x : Int32, ck_fv 0 (.int x) := fun x => ⟨_, rfl⟩
  have n1_ := sw.2.1
  have n2_ := sw.1
  have b_ : w = 0 ∨ w = 1 ∨ w = 2 ∨ w = 3 := by omega
  rcases b_ with b0_ | b1_ | b2_ | b3_
  · subst b0_
    rw [if_pos (show (0 : Int) = 0 from rfl)] at hP
    refine hs 0 _ rfl _ _ _ _ _ _ _ rfl ?_
    refine zw_Sy (hs 1 _ rfl) (v := 28) (by decide) (by decide) (by decide) (by decide) ?_
    refine hs 2 _ rfl _ _ _ _ _ _ _ rfl ?_
    refine hs 3 _ rfl _ _ _ _ _ _ _ _ _ (g2) rfl rfl ?_
    exact hs 4 _ rfl _ _ _ _ _ (rv _) (Nat.zero_le _) (Nat.zero_le _) hP
  · subst b1_
    rw [if_neg (show ¬ (1 : Int) = 0 by decide), if_pos (show (1 : Int) = 1 from rfl)] at hP
    refine hs 0 _ rfl _ _ _ _ _ _ _ rfl ?_
    refine zw_Sy (hs 1 _ rfl) (v := 33) (by decide) (by decide) (by decide) (by decide) ?_
    refine hs 5 _ rfl _ _ _ _ _ _ _ rfl ?_
    refine hs 6 _ rfl _ _ _ _ _ _ _ _ _ (g2) rfl rfl ?_
    exact hs 7 _ rfl _ _ _ _ _ (rv _) (Nat.zero_le _) (Nat.zero_le _) hP
  · subst b2_
    rw [if_neg (show ¬ (2 : Int) = 0 by decide), if_neg (show ¬ (2 : Int) = 1 by decide), if_pos (show (2 : Int) = 2 from rfl)] at hP
    refine hs 0 _ rfl _ _ _ _ _ _ _ rfl ?_
    refine zw_Sy (hs 1 _ rfl) (v := 38) (by decide) (by decide) (by decide) (by decide) ?_
    refine hs 8 _ rfl _ _ _ _ _ _ _ rfl ?_
    refine hs 9 _ rfl _ _ _ _ _ _ _ _ _ (g2) rfl rfl ?_
    refine hs 10 _ rfl _ _ _ _ _ _ _ rfl ?_
    refine hs 11 _ rfl _ _ _ _ _ _ _ _ _ (g2) rfl rfl ?_
    refine hs 12 _ rfl _ _ _ _ _ _ _ hd_sub ?_
    exact hs 13 _ rfl _ _ _ _ _ (rv _) (Nat.zero_le _) (Nat.zero_le _) hP
  · subst b3_
    rw [if_neg (show ¬ (3 : Int) = 0 by decide), if_neg (show ¬ (3 : Int) = 1 by decide), if_neg (show ¬ (3 : Int) = 2 by decide)] at hP
    refine hs 0 _ rfl _ _ _ _ _ _ _ rfl ?_
    refine zw_Sn (hs 1 _ rfl) (by omega) (by omega) (List.forall_mem_cons.mpr ⟨by decide, List.forall_mem_cons.mpr ⟨by decide, List.forall_mem_cons.mpr ⟨by decide, List.forall_mem_nil _⟩⟩⟩) ?_
    refine hs 14 _ rfl _ _ _ _ _ _ _ rfl ?_
    refine zw_c (hs 15 _ rfl) (a := [.ref p]) (st := []) rfl rfl (Nat.le_of_ble_eq_true rfl) ⟨_, _, _, rfl, g2, rfl⟩ (by omega) (by omega) (zc_sumRow_M g g2 g3 l3 hm1 hm sw rw_ ?_)
    show S 52 [some (.ref p), some (.int (Int32.ofInt (3 : Int)))] [.int (Int32.ofInt (sk_sm A_ M_ n))] _ _ _
    exact hs 16 _ rfl _ _ _ _ _ (rv _) (Nat.zero_le _) (Nat.zero_le _) hP
def sp_r38 (e e2 : Int) (T : sp_T) (a : Int) : Prop := sp_jm T (fun v => sk_pw (sp_md T e).toNat T.1.1.toNat e2 v) a
def sp_Q38 (e e2 : Int) (T : sp_T) (a th : Int) : Prop := (sp_s1 e ∧ (0 ≤ e2 ∧ e2 ≤ 3) ∧ th = 0 ∧ sp_r38 e e2 T a) ∨ (sp_s1 e ∧ ¬ (0 ≤ e2 ∧ e2 ≤ 3) ∧ th = 2) ∨ (¬ sp_s1 e ∧ th = 1)
def sp_q38 (e e2 : Int) (T : sp_T) (a th : Int) (T' : sp_T) : Prop := T' = T ∧ sp_Q38 e e2 T a th
theorem sp_q38.fn {e e2 a th a2 th2 : Int} {T T' T2 : sp_T} (h1 : sp_q38 e e2 T a th T') (h2 : sp_q38 e e2 T a2 th2 T2) : sp_al a th T' a2 th2 T2 := by
  obtain ⟨e1_, c1_⟩ := h1
  obtain ⟨e2_, c2_⟩ := h2
  have t_ : T' = T2 := e1_.trans e2_.symm
  rcases c1_ with ⟨a1_, a2_, a3_, a4_⟩ | ⟨a1_, a2_, a3_⟩ | ⟨a1_, a2_⟩
  · rcases c2_ with ⟨b1_, b2_, b3_, b4_⟩ | ⟨b1_, b2_, b3_⟩ | ⟨b1_, b2_⟩
    · exact ⟨a3_.trans b3_.symm, t_, fun _ => sp_jm.fn (fun v w y_ z_ => sk_pw.fn y_ z_) a4_ b4_⟩
    · exact absurd a2_ b2_
    · exact absurd a1_ b1_
  · rcases c2_ with ⟨b1_, b2_, b3_, b4_⟩ | ⟨b1_, b2_, b3_⟩ | ⟨b1_, b2_⟩
    · exact absurd b2_ a2_
    · exact ⟨a3_.trans b3_.symm, t_, fun z_ => by omega⟩
    · exact absurd a1_ b1_
  · rcases c2_ with ⟨b1_, b2_, b3_, b4_⟩ | ⟨b1_, b2_, b3_⟩ | ⟨b1_, b2_⟩
    · exact absurd b1_ a1_
    · exact absurd b1_ a1_
    · exact ⟨a2_.trans b2_.symm, t_, fun z_ => by omega⟩
theorem sp_r38.bd {e e2 a : Int} {T : sp_T} (hk : sp_ok T.1) (h : sp_r38 e e2 T a) : -9 ≤ a ∧ a ≤ 160000 := by
  have d_ := hk.1
  rcases h with ⟨-, y_⟩ | ⟨y1_, y2_⟩
  · omega
  · have l_ := sk_pw.bd (show 1 ≤ T.1.1.toNat by omega) (show T.1.1.toNat ≤ 400 by omega) y2_
    omega
set_option maxHeartbeats 4000000 in
theorem zc_qofPowers_M {l : Launch} {G : am_G} {X : ck_XT} (g : gM l G X) {x : Nat} {r : Nat → Nat} {jj mm kk : Int} {c : sp_S} {R : Nat → sp_S} {old cnt : Nat} {h : List am_C} (hX : zc_x G h x r jj mm kk c R old cnt)(hZ : zv_P G h r)  {e : Int} (he1 : -2147483648 ≤ e) (he2 : e ≤ 2147483647) {e2 : Int} (hf1 : -2147483648 ≤ e2) (hf2 : e2 ≤ 2147483647) {mc ms : Nat} {Post : am_O → List am_C → Prop} (hmc : 1 ≤ mc) (hms : 6 ≤ ms)
    (hJ : (0 ≤ e ∧ e < 6) → (0 ≤ e2 ∧ e2 ≤ 3) → c.1 ≤ 0 → Post (.inl (some (.int (Int32.ofInt (-9))))) h)
    (hP : (0 ≤ e ∧ e < 6) → (0 ≤ e2 ∧ e2 ≤ 3) → 0 < c.1 → ∀ (v : Int) (h' : List am_C), sk_pw (c.2.1.getD e.toNat 0 % c.1).toNat c.1.toNat e2 v → (∀ (z t : Nat) (vs : List Value), am_g G h z = some (t, vs) → t ≠ 1013 → t ≠ 1850 → t ≠ 1950 → am_g G h' z = some (t, vs)) → Post (.inl (some (.int (Int32.ofInt v)))) h')
    (hX3 : (0 ≤ e ∧ e < 6) → ¬ (0 ≤ e2 ∧ e2 ≤ 3) → Post (.inr "java/lang/IllegalArgumentException") (h ++ [(99, [])]))
    (hX2 : ¬ (0 ≤ e ∧ e < 6) → Post (.inr "java/lang/IndexOutOfBoundsException") (h ++ [(99, [])])) :
    am_M l G yX10_ofPowers (.code yX10_ofPowers prog_1_method_38_code 4 (some .int)) 7 111 mc ms [.ref x, .int (Int32.ofInt e), .int (Int32.ofInt e2)] h Post := by
  refine gh_yX10_ofPowers_X g (Nat.le_of_ble_eq_true rfl) fun S SX hs hr hw hx => ?_
  have rv : ∀ x : Int32, ck_fv 0 (.int x) := fun x => ⟨_, rfl⟩
  have hx9_ := hX.2.2.2.2.2.2.2
  by_cases c1_ : 0 ≤ e ∧ e < 6
  rotate_left
  · 
    refine hs 0 _ rfl _ _ _ _ _ _ _ rfl ?_
    refine hs 1 _ rfl _ _ _ _ _ _ _ rfl ?_
    exact zw_cm (hs 2 _ rfl) (a := [.ref x, .int (Int32.ofInt e)]) (st := []) 1 6 rfl rfl (Nat.le_of_ble_eq_true rfl) ⟨_, _, _, rfl, (hX.1), rfl⟩ (by omega) (by omega) (zc_numAtX_M g hX he1 he2 (by omega) (by decide) (by decide) (hx _ _ _ _ _ _ (by omega) (by omega) (hX2 c1_)))
  · obtain ⟨i, rfl⟩ : ∃ i : Nat, e = (i : Int) := ⟨e.toNat, by omega⟩
    have hi : i < 6 := by omega
    by_cases c2_ : 0 ≤ e2 ∧ e2 ≤ 3
    rotate_left
    · by_cases c3_ : e2 < 0
      · 
        refine hs 0 _ rfl _ _ _ _ _ _ _ rfl ?_
        refine hs 1 _ rfl _ _ _ _ _ _ _ rfl ?_
        refine zw_c (hs 2 _ rfl) (a := [.ref x, .int (Int32.ofInt (i : Int))]) (st := []) rfl rfl (Nat.le_of_ble_eq_true rfl) ⟨_, _, _, rfl, hX.1, rfl⟩ (by omega) (by omega) (zc_numAt_M g hX (i := i) rfl hi ?_)
        show S 5 [some (.ref x), some (.int (Int32.ofInt (i : Int))), some (.int (Int32.ofInt e2)), none] [.ref (x + 1 + 5 + 2 * i)] _ _ _
        refine hs 3 _ rfl _ _ _ _ _ _ _ rfl ?_
        refine hs 4 _ rfl _ _ _ _ _ _ _ rfl ?_
        refine hs 5 _ rfl _ _ _ _ _ _ (fun _ => ?_) (fun zq => absurd (hd_c1t (c := 2) (by omega) (by omega) (by omega : e2 < 0)) zq)
        exact hs 9 _ rfl _ _ _ _ _ rfl (Nat.le_of_ble_eq_true rfl) (by omega) (by omega) (hX3 c1_ c2_)
      · 
        refine hs 0 _ rfl _ _ _ _ _ _ _ rfl ?_
        refine hs 1 _ rfl _ _ _ _ _ _ _ rfl ?_
        refine zw_c (hs 2 _ rfl) (a := [.ref x, .int (Int32.ofInt (i : Int))]) (st := []) rfl rfl (Nat.le_of_ble_eq_true rfl) ⟨_, _, _, rfl, hX.1, rfl⟩ (by omega) (by omega) (zc_numAt_M g hX (i := i) rfl hi ?_)
        show S 5 [some (.ref x), some (.int (Int32.ofInt (i : Int))), some (.int (Int32.ofInt e2)), none] [.ref (x + 1 + 5 + 2 * i)] _ _ _
        refine hs 3 _ rfl _ _ _ _ _ _ _ rfl ?_
        refine hs 4 _ rfl _ _ _ _ _ _ _ rfl ?_
        refine hs 5 _ rfl _ _ _ _ _ _ (fun zq => absurd (hd_c1z (c := 2) (by omega) (by omega) zq) (by omega : ¬ (e2 < 0))) (fun _ => ?_)
        refine hs 6 _ rfl _ _ _ _ _ _ _ rfl ?_
        refine hs 7 _ rfl _ _ _ _ _ _ _ rfl ?_
        refine hs 8 _ rfl _ _ _ _ _ _ _ (fun zq => absurd (hd_c2z (c := 5) (by omega) (by omega) (by omega) (by omega) zq) (by omega : ¬ ((e2 - (3 : Int)) ≤ 0))) (fun _ => ?_)
        exact hs 9 _ rfl _ _ _ _ _ rfl (Nat.le_of_ble_eq_true rfl) (by omega) (by omega) (hX3 c1_ c2_)
    · have hb_ := hX.2.2.1.1
      by_cases cj_ : c.1 ≤ 0
      · 
        refine hs 0 _ rfl _ _ _ _ _ _ _ rfl ?_
        refine hs 1 _ rfl _ _ _ _ _ _ _ rfl ?_
        refine zw_c (hs 2 _ rfl) (a := [.ref x, .int (Int32.ofInt (i : Int))]) (st := []) rfl rfl (Nat.le_of_ble_eq_true rfl) ⟨_, _, _, rfl, hX.1, rfl⟩ (by omega) (by omega) (zc_numAt_M g hX (i := i) rfl hi ?_)
        show S 5 [some (.ref x), some (.int (Int32.ofInt (i : Int))), some (.int (Int32.ofInt e2)), none] [.ref (x + 1 + 5 + 2 * i)] _ _ _
        refine hs 3 _ rfl _ _ _ _ _ _ _ rfl ?_
        refine hs 4 _ rfl _ _ _ _ _ _ _ rfl ?_
        refine hs 5 _ rfl _ _ _ _ _ _ (fun zq => absurd (hd_c1z (c := 2) (by omega) (by omega) zq) (by omega : ¬ (e2 < 0))) (fun _ => ?_)
        refine hs 6 _ rfl _ _ _ _ _ _ _ rfl ?_
        refine hs 7 _ rfl _ _ _ _ _ _ _ rfl ?_
        refine hs 8 _ rfl _ _ _ _ _ _ _ (fun _ => ?_) (fun zq => absurd (hd_c2t (c := 5) (by omega) (by omega) (by omega) (by omega) (by omega : (e2 - (3 : Int)) ≤ 0)) zq)
        refine hs 10 _ rfl _ _ _ _ _ _ _ rfl ?_
        refine zw_c (hs 11 _ rfl) (a := [.ref x]) (st := []) rfl rfl (Nat.le_of_ble_eq_true rfl) ⟨_, _, _, rfl, hX.1, rfl⟩ (by omega) (by omega) (zc_jam_M g hX (fun _ => ?_) (fun y_ => absurd y_ (by omega)))
        show S 30 [some (.ref x), some (.int (Int32.ofInt (i : Int))), some (.int (Int32.ofInt e2)), some (.ref (x + 1 + 5 + 2 * i))] [.int (Int32.ofInt (1 : Int))] _ _ _
        refine hs 12 _ rfl _ _ _ _ _ _ (fun zq => absurd (hd_c1z (c := 0) (by omega) (by omega) zq) (by omega : ¬ ((1 : Int) = 0))) (fun _ => ?_)
        refine hs 13 _ rfl _ _ _ _ _ _ _ rfl ?_
        exact hs 14 _ rfl _ _ _ _ _ (rv _) (Nat.zero_le _) (Nat.zero_le _) (hJ c1_ c2_ cj_)
      · obtain ⟨M_, hM_⟩ : ∃ M_ : Nat, c.1 = (M_ : Int) := ⟨c.1.toNat, by omega⟩
        have r1_ := Int.emod_nonneg (c.2.1.getD i 0) (b := (M_ : Int)) (by omega)
        have r2_ := Int.emod_lt_of_pos (c.2.1.getD i 0) (b := (M_ : Int)) (by omega)
        obtain ⟨A_, hA_⟩ : ∃ A_ : Nat, c.2.1.getD i 0 % (M_ : Int) = (A_ : Int) := ⟨(c.2.1.getD i 0 % (M_ : Int)).toNat, by omega⟩
        rw [Int.toNat_natCast, hM_, hA_, Int.toNat_natCast, Int.toNat_natCast] at hP
        obtain ⟨ny_, sy_, ly_, y1_, y2_, y3_⟩ := hX.2.1.n hi
        have d1_ := hX.2.1.d
        rw [hM_] at d1_
        obtain ⟨⟨q1_, q2_, c2b_, t2b_, rs_, ps_, g2_, g3_, g4_, e3_, e4_, b1_, b2_, b3_⟩, -⟩ := hZ
        have n1_ : r 2 ≠ q1_ := fun y_ => by
          rw [y_, g3_] at g2_
          cases g2_
        have n2_ : r 2 ≠ q2_ := fun y_ => by
          rw [y_, g4_] at g2_
          cases g2_
        have n3_ : q1_ ≠ q2_ := fun y_ => by
          rw [y_, g4_] at g3_
          cases g3_
        refine hs 0 _ rfl _ _ _ _ _ _ _ rfl ?_
        refine hs 1 _ rfl _ _ _ _ _ _ _ rfl ?_
        refine zw_c (hs 2 _ rfl) (a := [.ref x, .int (Int32.ofInt (i : Int))]) (st := []) rfl rfl (Nat.le_of_ble_eq_true rfl) ⟨_, _, _, rfl, hX.1, rfl⟩ (by omega) (by omega) (zc_numAt_M g hX (i := i) rfl hi ?_)
        show S 5 [some (.ref x), some (.int (Int32.ofInt (i : Int))), some (.int (Int32.ofInt e2)), none] [.ref (x + 1 + 5 + 2 * i)] _ _ _
        refine hs 3 _ rfl _ _ _ _ _ _ _ rfl ?_
        refine hs 4 _ rfl _ _ _ _ _ _ _ rfl ?_
        refine hs 5 _ rfl _ _ _ _ _ _ (fun zq => absurd (hd_c1z (c := 2) (by omega) (by omega) zq) (by omega : ¬ (e2 < 0))) (fun _ => ?_)
        refine hs 6 _ rfl _ _ _ _ _ _ _ rfl ?_
        refine hs 7 _ rfl _ _ _ _ _ _ _ rfl ?_
        refine hs 8 _ rfl _ _ _ _ _ _ _ (fun _ => ?_) (fun zq => absurd (hd_c2t (c := 5) (by omega) (by omega) (by omega) (by omega) (by omega : (e2 - (3 : Int)) ≤ 0)) zq)
        refine hs 10 _ rfl _ _ _ _ _ _ _ rfl ?_
        refine zw_c (hs 11 _ rfl) (a := [.ref x]) (st := []) rfl rfl (Nat.le_of_ble_eq_true rfl) ⟨_, _, _, rfl, hX.1, rfl⟩ (by omega) (by omega) (zc_jam_M g hX (fun y_ => absurd y_ (by omega)) (fun _ => ?_))
        show S 30 [some (.ref x), some (.int (Int32.ofInt (i : Int))), some (.int (Int32.ofInt e2)), some (.ref (x + 1 + 5 + 2 * i))] [.int (Int32.ofInt (0 : Int))] _ _ _
        refine hs 12 _ rfl _ _ _ _ _ _ (fun _ => ?_) (fun zq => absurd (hd_c1t (c := 0) (by omega) (by omega) (by omega : (0 : Int) = 0)) zq)
        refine hs 15 _ rfl _ _ _ _ _ _ _ rfl ?_
        refine hs 16 _ rfl _ _ _ _ _ _ _ _ _ (hX.1) rfl rfl ?_
        refine hs 17 _ rfl _ _ _ _ _ _ _ rfl ?_
        refine hs 18 _ rfl _ _ _ _ _ _ _ rfl ?_
        refine hs 19 _ rfl _ _ _ _ _ _ _ _ _ (hX.1) rfl rfl ?_
        refine hs 20 _ rfl _ _ _ _ _ _ _ _ _ (d1_) rfl rfl ?_
        refine zw_c (hs 21 _ rfl) (a := [.ref (x + 1 + 5 + 2 * i), .int (Int32.ofInt (M_ : Int))]) (st := [.ref (r 2)]) rfl rfl (Nat.le_of_ble_eq_true rfl) ⟨_, _, _, rfl, y1_, rfl⟩ (by omega) (by omega) (sb_restE_M g y1_ rfl y2_ rfl y3_ (by omega) (by omega) ?_)
        rw [hA_]
        show S 51 [some (.ref x), some (.int (Int32.ofInt (i : Int))), some (.int (Int32.ofInt e2)), some (.ref (x + 1 + 5 + 2 * i))] [.int (Int32.ofInt (A_ : Int)), .ref (r 2)] _ _ _
        refine hs 22 _ rfl _ _ _ _ _ _ _ rfl ?_
        refine hs 23 _ rfl _ _ _ _ _ _ _ _ _ (hX.1) rfl rfl ?_
        refine hs 24 _ rfl _ _ _ _ _ _ _ _ _ (d1_) rfl rfl ?_
        refine zw_c (hs 25 _ rfl) (a := [.ref (r 2), .int (Int32.ofInt (A_ : Int)), .int (Int32.ofInt (M_ : Int))]) (st := []) rfl rfl (Nat.le_of_ble_eq_true rfl) ⟨_, _, _, rfl, g2_, rfl⟩ (by omega) (by omega) (zc_fill_M g g2_ g3_ g4_ e3_ e4_ n1_ n2_ n3_ b1_ b2_ b3_ (A_ := A_) (M_ := M_) (by omega) (by omega) fun h1_ n_ t_ r9_ sw_ f1_ f2_ f3_ rw9_ fr_ => ?_)
        have kp_ : ∀ (z t : Nat) (vs : List Value), am_g G h z = some (t, vs) → t ≠ 1013 → t ≠ 1850 → t ≠ 1950 → am_g G h1_ z = some (t, vs) := fun z t vs hz z1 z2 z3 => (fr_ z (fun y_ => by
          rw [y_, g2_] at hz
          cases hz
          exact z1 rfl) (fun y_ => by
          rw [y_, g3_] at hz
          cases hz
          exact z2 rfl) (fun y_ => by
          rw [y_, g4_] at hz
          cases hz
          exact z3 rfl)).trans hz
        have x9_ := kp_ x _ _ hX.1 (by decide) (by decide) (by decide)
        show S 61 [some (.ref x), some (.int (Int32.ofInt (i : Int))), some (.int (Int32.ofInt e2)), some (.ref (x + 1 + 5 + 2 * i))] [] _ _ _
        refine hs 26 _ rfl _ _ _ _ _ _ _ rfl ?_
        refine hs 27 _ rfl _ _ _ _ _ _ _ _ _ (x9_) rfl rfl ?_
        refine hs 28 _ rfl _ _ _ _ _ _ _ rfl ?_
        refine zw_c (hs 29 _ rfl) (a := [.ref (r 2), .int (Int32.ofInt e2)]) (st := []) rfl rfl (Nat.le_of_ble_eq_true rfl) ⟨_, _, _, rfl, f1_, rfl⟩ (by omega) (by omega) (zc_tellOf_M g f1_ f2_ f3_ (A_ := A_) (M_ := M_) (by omega) (by omega) sw_ rw9_ c2_ ?_)
        show S 69 [some (.ref x), some (.int (Int32.ofInt (i : Int))), some (.int (Int32.ofInt e2)), some (.ref (x + 1 + 5 + 2 * i))] [.int (Int32.ofInt (if e2 = 0 then (n_ : Int) else if e2 = 1 then (t_ : Int) else if e2 = 2 then (n_ : Int) - (t_ : Int) else sk_sm A_ M_ n_))] _ _ _
        exact hs 30 _ rfl _ _ _ _ _ (rv _) (Nat.zero_le _) (Nat.zero_le _) (hP c1_ c2_ (by omega) _ _ ⟨n_, t_, sw_, rfl⟩ kp_)
theorem zt_sb1 {L : List (Option Value)} {st : List Value} {v j : Int} : ck_cf 15 1 v L (.int (Int32.ofInt 1) :: .int (Int32.ofInt (j + 1)) :: st) = some (L, .int (Int32.ofInt j) :: st) := by
  have h_ : ck_cf 15 1 v L (.int (Int32.ofInt 1) :: .int (Int32.ofInt (j + 1)) :: st) = some (L, .int (Int32.ofInt (j + 1 - 1)) :: st) := hd_sub
  rw [Int.add_sub_cancel] at h_
  exact h_
set_option maxHeartbeats 4000000 in
theorem zm_powersOf_M {l : Launch} {G : am_G} {X : ck_XT} (g : gM l G X) {o : Nat → Nat} {x tx now qw : Nat} {th j m k : Int} {c : sp_S} {P : List sp_S} {h : List am_C} (hX : zm_x G h o x tx now qw th j m k c P) {A_ M_ : Nat} (hM_ : c.1 = (M_ : Int)) (ha : A_ < M_) (hm : M_ ≤ 400) {mc ms : Nat} {Post : am_O → List am_C → Prop} (hmc : 2 ≤ mc) (hms : 404 ≤ ms)
    (hP : ∀ (n t a9 : Nat) (l9 : List Int) (h' : List am_C), sk_w A_ M_ n t → zg G h h' → am_g G h' a9 = some (50, hd_r l9) → (l9[0]? = some (n : Int) ∧ l9[1]? = some (t : Int) ∧ l9[2]? = some ((n : Int) - (t : Int)) ∧ l9[3]? = some (sk_sm A_ M_ n)) → l9.length = 4 → Post (.inl (some (.ref a9))) h') :
    am_M l G yX14_powersOf (.code yX14_powersOf prog_14_method_66_code 7 (some (.array .int))) 1 20 mc ms [.ref x, .int (Int32.ofInt (A_ : Int))] h Post := by
  refine gh_yX14_powersOf_X g (Nat.le_of_ble_eq_true rfl) fun S SX hs hr hw hx => ?_
  have rv : ∀ x : Int32, ck_fv 0 (.int x) := fun x => ⟨_, rfl⟩
  obtain ⟨a1_, a2_, a3_, a4_⟩ := id hX
  obtain ⟨t_, qn_, ql_, qb_, s1_, up_⟩ := hX.dialL
  rw [hM_] at s1_
  have hm1_ : 1 ≤ M_ := by omega
  have b5_ : 1 % M_ < M_ := Nat.mod_lt _ hm1_
  refine hs 0 _ rfl _ _ _ _ _ _ _ rfl ?_
  refine hs 1 _ rfl _ _ _ _ _ _ _ _ _ (a1_) a2_.1 rfl ?_
  refine hs 2 _ rfl _ _ _ _ _ _ _ _ _ (s1_.1) s1_.2 rfl ?_
  refine zw_E (G := G) (hs 3 _ rfl) (t := 50) (N := M_) rfl (by omega) (by omega) (by omega) (by omega) fun hz759 az760 ez761 lz762 gz763 cz764 => ?_
  refine hs 4 _ rfl _ _ _ _ _ _ _ rfl ?_
  refine hs 5 _ rfl _ _ _ _ _ _ _ rfl ?_
  refine hs 6 _ rfl _ _ _ _ _ _ _ rfl ?_
  refine hs 7 _ rfl _ _ _ _ _ _ _ rfl ?_
  refine hs 8 _ rfl _ _ _ _ _ _ _ rfl ?_
  refine hs 9 _ rfl _ _ _ _ _ _ _ rfl ?_
  refine hs 10 _ rfl _ _ _ _ _ _ _ rfl ?_
  refine hs 11 _ rfl _ _ _ _ _ _ _ _ _ ((gz763.2 _ _ a1_)) a2_.1 rfl ?_
  refine hs 12 _ rfl _ _ _ _ _ _ _ _ _ ((gz763.2 _ _ s1_.1)) s1_.2 rfl ?_
  refine hs 13 _ rfl _ _ _ _ _ _ _ (zt_rem1 (by omega) (by omega)) ?_
  refine hs 14 _ rfl _ _ _ _ _ _ _ rfl ?_
  show S 26 [some (.ref x), some (.int (Int32.ofInt (A_ : Int))), some (.ref az760), some (.int (Int32.ofInt (0 : Int))), some (.int (Int32.ofInt (0 : Int))), some (.int (Int32.ofInt ((1 % M_ : Nat) : Int))), none] [] _ _ _
  have la_ : 1000 + h.length ≤ az760 := by omega
  have lx_ := zg_lt a1_
  have ln_ := zg_lt s1_.1
  have leave : ∀ (h1_ : List am_C) (l_ : List Int) (i_ j_ W_ k_ s_ : Nat) (u_ : Option Value), zg G h h1_ → am_g G h1_ az760 = some (50, hd_r l_) → l_.length = M_ → W_ < M_ → l_[W_]? = some ((j_ : Int) + 1) → sk_w A_ M_ i_ j_ → k_ ≤ 1 → s_ ≤ 400 → S 26 [some (.ref x), some (.int (Int32.ofInt (A_ : Int))), some (.ref az760), some (.int (Int32.ofInt (i_ : Int))), some (.int (Int32.ofInt (sk_sm A_ M_ i_))), some (.int (Int32.ofInt (W_ : Int))), u_] [] h1_ k_ s_ := by
    intro h1_ l_ i_ j_ W_ k_ s_ u_ gz_ g0_ e1_ hW_ hv_ sw_ hk_ hs_
    have sw2_ := sw_.1
    have sw3_ := sw_.2.1
    have b_ := sk_sm.bd (a := A_) (show 1 ≤ M_ by omega) hm i_
    have a9_ := gz_.2 _ _ a1_
    have s9_ := gz_.2 _ _ s1_.1
    have z9_ := gz_.1
    refine hs 15 _ rfl _ _ _ _ _ _ _ rfl ?_
    refine hs 16 _ rfl _ _ _ _ _ _ _ rfl ?_
    refine hd_A (hs 17 _ rfl) (by decide) (by decide) (g0_) rfl (j := W_) (by omega) (by omega) hv_ ?_
    refine hs 18 _ rfl _ _ _ _ _ _ (fun _ => ?_) (fun zq => absurd (hd_c1t (c := 1) (by omega) (by omega) (by omega : ((j_ : Int) + 1) ≠ 0)) zq)
    refine hs 37 _ rfl _ _ _ _ _ _ _ rfl ?_
    refine hs 38 _ rfl _ _ _ _ _ _ _ rfl ?_
    refine hd_A (hs 39 _ rfl) (by decide) (by decide) (g0_) rfl (j := W_) (by omega) (by omega) hv_ ?_
    refine hs 40 _ rfl _ _ _ _ _ _ _ rfl ?_
    refine hs 41 _ rfl _ _ _ _ _ _ _ zt_sb1 ?_
    refine hs 42 _ rfl _ _ _ _ _ _ _ rfl ?_
    refine hs 43 _ rfl _ _ _ _ _ _ _ rfl ?_
    refine zw_E (G := G) (hs 44 _ rfl) (t := 50) (N := 4) rfl (by omega) (by omega) (by omega) (by omega) fun hz743 az744 ez745 lz746 gz747 cz748 => ?_
    refine hs 45 _ rfl _ _ _ _ _ _ _ rfl ?_
    refine hs 46 _ rfl _ _ _ _ _ _ _ rfl ?_
    refine hs 47 _ rfl _ _ _ _ _ _ _ rfl ?_
    refine zw_B (hs 48 _ rfl) (by decide) (by decide) (by omega) (cz748) rfl (j := 0) (by omega) (by omega) (by simp only [List.length_replicate]; decide) fun hz749 wz750 => ?_
    refine hs 49 _ rfl _ _ _ _ _ _ _ rfl ?_
    refine hs 50 _ rfl _ _ _ _ _ _ _ rfl ?_
    refine hs 51 _ rfl _ _ _ _ _ _ _ rfl ?_
    refine zw_B (hs 52 _ rfl) (by decide) (by decide) (by omega) (wz750.at) rfl (j := 1) (by omega) (by omega) (by simp only [List.length_set, List.length_replicate]; decide) fun hz751 wz752 => ?_
    refine hs 53 _ rfl _ _ _ _ _ _ _ rfl ?_
    refine hs 54 _ rfl _ _ _ _ _ _ _ rfl ?_
    refine hs 55 _ rfl _ _ _ _ _ _ _ rfl ?_
    refine hs 56 _ rfl _ _ _ _ _ _ _ rfl ?_
    refine hs 57 _ rfl _ _ _ _ _ _ _ hd_sub ?_
    refine zw_B (hs 58 _ rfl) (by decide) (by decide) (by omega) (wz752.at) rfl (j := 2) (by omega) (by omega) (by simp only [List.length_set, List.length_replicate]; decide) fun hz753 wz754 => ?_
    refine hs 59 _ rfl _ _ _ _ _ _ _ rfl ?_
    refine hs 60 _ rfl _ _ _ _ _ _ _ rfl ?_
    refine hs 61 _ rfl _ _ _ _ _ _ _ rfl ?_
    refine zw_B (hs 62 _ rfl) (by decide) (by decide) (by omega) (wz754.at) rfl (j := 3) (by omega) (by omega) (by simp only [List.length_set, List.length_replicate]; decide) fun hz755 wz756 => ?_
    exact hs 63 _ rfl _ _ _ _ _ (Or.inl ⟨_, rfl⟩) (by omega) (by omega) (hP i_ j_ az744 _ _ sw_ (((((gz_.tr gz747).w wz750 (by omega)).w wz752 (by omega)).w wz754 (by omega)).w wz756 (by omega)) wz756.at ⟨rfl, rfl, rfl, rfl⟩ (by simp only [List.length_set, List.length_replicate]))
  have loop : ∀ (n_ i_ W_ k_ s_ : Nat) (h1_ : List am_C) (l_ : List Int) (u_ : Option Value), i_ + n_ = M_ → zg G h h1_ → am_g G h1_ az760 = some (50, hd_r l_) → l_.length = M_ → W_ = sk_p A_ M_ i_ → sk_pl A_ M_ i_ 1 l_ → sk_ij A_ M_ i_ → k_ ≤ 1 → s_ ≤ 400 → S 26 [some (.ref x), some (.int (Int32.ofInt (A_ : Int))), some (.ref az760), some (.int (Int32.ofInt (i_ : Int))), some (.int (Int32.ofInt (sk_sm A_ M_ i_))), some (.int (Int32.ofInt (W_ : Int))), u_] [] h1_ k_ s_ := by
    intro n_
    induction n_ with
    | zero =>
      intro i_ W_ k_ s_ h1_ l_ u_ hi_ gz_ g0_ e1_ hw_ pl_ ij_ hk_ hs_
      have i2_ : i_ = M_ := by omega
      rw [i2_] at pl_ ij_ hw_ ⊢
      have hW_ : W_ < M_ := by
        rw [hw_]
        exact sk_p.lt hm1_
      obtain ⟨j_, j1_, j2_⟩ := ij_.full hm1_
      obtain ⟨q_, k1_, k2_, k3_⟩ : ∃ j : Nat, j < M_ ∧ sk_p A_ M_ j = W_ ∧ l_.getD W_ 0 = (j : Int) + 1 := by
        rcases pl_.2 W_ hW_ with y_ | ⟨y_, -⟩
        · exact y_
        · exact absurd (j2_.trans hw_.symm) (y_ j_ j1_)
      exact leave h1_ l_ M_ q_ W_ k_ s_ u_ gz_ g0_ e1_ hW_ (by rw [pl_.at hW_, k3_]) ⟨k1_, Nat.le_refl _, hw_.symm.trans k2_.symm, ij_⟩ hk_ hs_
    | succ n_ ih =>
      intro i_ W_ k_ s_ h1_ l_ u_ hi_ gz_ g0_ e1_ hw_ pl_ ij_ hk_ hs_
      have hW_ : W_ < M_ := by
        rw [hw_]
        exact sk_p.lt hm1_
      have b4_ : W_ * A_ % M_ < M_ := Nat.mod_lt _ hm1_
      rcases pl_.2 W_ hW_ with ⟨q_, k1_, k2_, k3_⟩ | ⟨k1_, k2_⟩
      · exact leave h1_ l_ i_ q_ W_ k_ s_ u_ gz_ g0_ e1_ hW_ (by rw [pl_.at hW_, k3_]) ⟨k1_, by omega, hw_.symm.trans k2_.symm, ij_⟩ hk_ hs_
      · have hv_ : l_[W_]? = some (0 : Int) := by
          rw [pl_.at hW_, show l_.getD W_ 0 = 0 by omega]
        have b_ := sk_sm.bd (a := A_) (show 1 ≤ M_ by omega) hm i_
        have a9_ := gz_.2 _ _ a1_
        have s9_ := gz_.2 _ _ s1_.1
        have s8_ : sk_sm A_ M_ (i_ + 1) = sk_sm A_ M_ i_ + (W_ : Int) := by
          rw [hw_]
          rfl
        have z_ := fun (h2_ : List am_C) (w_ : hd_w G h1_ h2_ az760 (50, hd_r (l_.set W_ ((i_ : Int) + 1)))) => ih (i_ + 1) (W_ * A_ % M_) k_ s_ h2_ (l_.set W_ ((i_ : Int) + 1)) u_ (by omega) (gz_.w w_ (by omega)) w_.at (by rw [List.length_set]; exact e1_) (by rw [sk_p.s, ← hw_]) (sk_pl.set pl_ hw_ hW_ k1_) (sk_ij.s ij_ fun j hj => by rw [← hw_]; exact k1_ j hj) hk_ hs_
        rw [s8_] at z_
        refine hs 15 _ rfl _ _ _ _ _ _ _ rfl ?_
        refine hs 16 _ rfl _ _ _ _ _ _ _ rfl ?_
        refine hd_A (hs 17 _ rfl) (by decide) (by decide) (g0_) rfl (j := W_) (by omega) (by omega) hv_ ?_
        refine hs 18 _ rfl _ _ _ _ _ _ (fun zq => absurd (hd_c1z (c := 1) (by omega) (by omega) zq) (by omega : ¬ ((0 : Int) ≠ 0))) (fun _ => ?_)
        refine hs 19 _ rfl _ _ _ _ _ _ _ (hd_inc rfl) ?_
        refine hs 20 _ rfl _ _ _ _ _ _ _ rfl ?_
        refine hs 21 _ rfl _ _ _ _ _ _ _ rfl ?_
        refine hs 22 _ rfl _ _ _ _ _ _ _ rfl ?_
        refine zw_B (hs 23 _ rfl) (by decide) (by decide) (by omega) (g0_) rfl (j := W_) (by omega) (by omega) (by omega) fun hz757 wz758 => ?_
        refine hs 24 _ rfl _ _ _ _ _ _ _ rfl ?_
        refine hs 25 _ rfl _ _ _ _ _ _ _ rfl ?_
        refine hs 26 _ rfl _ _ _ _ _ _ _ hd_add ?_
        refine hs 27 _ rfl _ _ _ _ _ _ _ rfl ?_
        refine hs 28 _ rfl _ _ _ _ _ _ _ rfl ?_
        refine hs 29 _ rfl _ _ _ _ _ _ _ rfl ?_
        refine hs 30 _ rfl _ _ _ _ _ _ _ hd_mul ?_
        refine hs 31 _ rfl _ _ _ _ _ _ _ rfl ?_
        refine hs 32 _ rfl _ _ _ _ _ _ _ _ _ ((wz758.ne (by omega)).trans a9_) a2_.1 rfl ?_
        refine hs 33 _ rfl _ _ _ _ _ _ _ _ _ ((wz758.ne (by omega)).trans s9_) s1_.2 rfl ?_
        refine hs 34 _ rfl _ _ _ _ _ _ _ (zt_rem (by omega) (by omega) (by omega) (by omega)) ?_
        refine hs 35 _ rfl _ _ _ _ _ _ _ rfl ?_
        refine hs 36 _ rfl _ _ _ _ _ ?_
        exact z_ _ wz758
  exact loop M_ 0 (1 % M_) _ _ _ (List.replicate M_ 0) _ (by omega) gz763 cz764 List.length_replicate sk_p.zero.symm ⟨by rw [List.length_replicate]; exact Nat.le_refl _, fun y hy => Or.inr ⟨fun j hj => absurd hj (Nat.not_lt_zero _), by rw [List.getD_eq_getElem?_getD, List.getElem?_replicate, if_pos hy, Option.getD_some]; rfl⟩⟩ (fun i j h1 h2 => absurd h2 (Nat.not_lt_zero _)) (by omega) (by omega)
set_option maxHeartbeats 4000000 in
theorem zm_pwTold_M {l : Launch} {G : am_G} {X : ck_XT} (g : gM l G X) {o : Nat → Nat} {x tx now qw : Nat} {th j m k : Int} {c : sp_S} {P : List sp_S} {h : List am_C} (hX : zm_x G h o x tx now qw th j m k c P) (hok : sp_ok c) {i w_ : Nat} (hi : i < 6) (hw9 : w_ ≤ 3) {mc ms : Nat} {Post : am_O → List am_C → Prop} (hmc : 2 ≤ mc) (hms : 404 ≤ ms)
    (hJ : c.1 ≤ 0 → Post (.inl (some (.int (Int32.ofInt (-9))))) h)
    (hP : 0 < c.1 → ∀ (v : Int) (h' : List am_C), sk_pw (c.2.1.getD i 0 % c.1).toNat c.1.toNat (w_ : Int) v → zg G h h' → Post (.inl (some (.int (Int32.ofInt v)))) h') :
    am_M l G yX14_powersTold (.code yX14_powersTold prog_14_method_68_code 3 (some .int)) 3 64 mc ms [.ref x, .int (Int32.ofInt (i : Int)), .int (Int32.ofInt (w_ : Int))] h Post := by
  refine gh_yX14_powersTold_X g (Nat.le_of_ble_eq_true rfl) fun S SX hs hr hw hx => ?_
  have rv : ∀ x : Int32, ck_fv 0 (.int x) := fun x => ⟨_, rfl⟩
  obtain ⟨a1_, a2_, a3_, a4_⟩ := id hX
  have okd_ := hok.1
  by_cases cj_ : c.1 ≤ 0
  · 
    refine hs 0 _ rfl _ _ _ _ _ _ _ rfl ?_
    refine zw_c (hs 1 _ rfl) (a := [.ref x]) (st := []) rfl rfl (Nat.le_of_ble_eq_true rfl) ⟨_, _, _, rfl, a1_, a2_.1⟩ (by omega) (by omega) (zm_jam_M g hX hok (fun y_ => ?_) (fun y_ => absurd y_ (by omega)))
    show S 4 [some (.ref x), some (.int (Int32.ofInt (i : Int))), some (.int (Int32.ofInt (w_ : Int)))] [.int (Int32.ofInt (1 : Int))] _ _ _
    refine hs 2 _ rfl _ _ _ _ _ _ (fun zq => absurd (hd_c1z (c := 0) (by omega) (by omega) zq) (by omega : ¬ ((1 : Int) = 0))) (fun _ => ?_)
    refine hs 3 _ rfl _ _ _ _ _ _ _ rfl ?_
    refine hs 4 _ rfl _ _ _ _ _ ?_
    exact hs 12 _ rfl _ _ _ _ _ (rv _) (by omega) (by omega) (hJ cj_)
  · obtain ⟨M_, hM_⟩ : ∃ M_ : Nat, c.1 = (M_ : Int) := ⟨c.1.toNat, by omega⟩
    have r1_ := Int.emod_nonneg (c.2.1.getD i 0) (b := c.1) (by omega)
    have r2_ := Int.emod_lt_of_pos (c.2.1.getD i 0) (b := c.1) (by omega)
    obtain ⟨A_, hA_⟩ : ∃ A_ : Nat, c.2.1.getD i 0 % c.1 = (A_ : Int) := ⟨(c.2.1.getD i 0 % c.1).toNat, by omega⟩
    rw [hA_, show c.1.toNat = M_ by omega, Int.toNat_natCast] at hP
    refine hs 0 _ rfl _ _ _ _ _ _ _ rfl ?_
    refine zw_c (hs 1 _ rfl) (a := [.ref x]) (st := []) rfl rfl (Nat.le_of_ble_eq_true rfl) ⟨_, _, _, rfl, a1_, a2_.1⟩ (by omega) (by omega) (zm_jam_M g hX hok (fun y_ => absurd y_ (by omega)) (fun y_ => ?_))
    show S 4 [some (.ref x), some (.int (Int32.ofInt (i : Int))), some (.int (Int32.ofInt (w_ : Int)))] [.int (Int32.ofInt (0 : Int))] _ _ _
    refine hs 2 _ rfl _ _ _ _ _ _ (fun _ => ?_) (fun zq => absurd (hd_c1t (c := 0) (by omega) (by omega) (by omega : (0 : Int) = 0)) zq)
    refine hs 5 _ rfl _ _ _ _ _ _ _ rfl ?_
    refine hs 6 _ rfl _ _ _ _ _ _ _ rfl ?_
    refine hs 7 _ rfl _ _ _ _ _ _ _ rfl ?_
    refine zw_c (hs 8 _ rfl) (a := [.ref x, .int (Int32.ofInt (i : Int))]) (st := [.ref x]) rfl rfl (Nat.le_of_ble_eq_true rfl) ⟨_, _, _, rfl, a1_, a2_.1⟩ (by omega) (by omega) (zm_modAt_M g hX hok rfl hi (fun y_ => absurd y_ (by omega)) (fun y_ => ?_))
    rw [hA_]
    show S 18 [some (.ref x), some (.int (Int32.ofInt (i : Int))), some (.int (Int32.ofInt (w_ : Int)))] [.int (Int32.ofInt (A_ : Int)), .ref x] _ _ _
    refine zw_cm (hs 9 _ rfl) (a := [.ref x, .int (Int32.ofInt (A_ : Int))]) (st := []) 2 404 rfl rfl (Nat.le_of_ble_eq_true rfl) ⟨_, _, _, rfl, a1_, a2_.1⟩ (by omega) (by omega) (zm_powersOf_M g hX hM_ (A_ := A_) (by omega) (by omega) (by omega) (by omega) fun n_ t9_ a9_ l9_ h1_ sw_ gz_ f1_ f2_ f3_ => ?_)
    show S 21 [some (.ref x), some (.int (Int32.ofInt (i : Int))), some (.int (Int32.ofInt (w_ : Int)))] [.ref a9_] _ _ _
    have v9_ : l9_[w_]? = some (if (w_ : Int) = 0 then (n_ : Int) else if (w_ : Int) = 1 then (t9_ : Int) else if (w_ : Int) = 2 then (n_ : Int) - (t9_ : Int) else sk_sm A_ M_ n_) := by
      obtain ⟨y0_, y1_, y2_, y3_⟩ := f2_
      rcases (by omega : w_ = 0 ∨ w_ = 1 ∨ w_ = 2 ∨ w_ = 3) with z_ | z_ | z_ | z_
      · subst z_
        exact y0_
      · subst z_
        exact y1_
      · subst z_
        exact y2_
      · subst z_
        exact y3_
    refine hs 10 _ rfl _ _ _ _ _ _ _ rfl ?_
    refine hd_A (hs 11 _ rfl) (by decide) (by decide) (f1_) rfl (j := w_) (by omega) (by omega) v9_ ?_
    exact hs 12 _ rfl _ _ _ _ _ (rv _) (by omega) (by omega) (hP (by omega) _ _ ⟨n_, t9_, sw_, rfl⟩ gz_)
set_option maxHeartbeats 4000000 in
theorem zm_qofPowers_M {l : Launch} {G : am_G} {X : ck_XT} (g : gM l G X) {o : Nat → Nat} {x tx now qw : Nat} {th j m k : Int} {c : sp_S} {P : List sp_S} {h : List am_C} (hX : zm_x G h o x tx now qw th j m k c P) (hok : sp_ok c) {e e2 : Int} (he1 : -2147483648 ≤ e) (he2 : e ≤ 2147483647) (hf1 : -2147483648 ≤ e2) (hf2 : e2 ≤ 2147483647) {mc ms : Nat} {Post : am_O → List am_C → Prop} (hmc : 2 ≤ mc) (hms : 404 ≤ ms)
    (hP : ∀ (a th : Int) (T' : sp_T) (h' : List am_C), sp_q38 e e2 (c, P, j, m, k) a th T' → zm_fr G h h' → zm_Y G h' x th T' → Post (.inl (some (.int (Int32.ofInt a)))) h') :
    am_M l G yX14_ofPowers (.code yX14_ofPowers prog_14_method_69_code 3 (some .int)) 4 86 mc ms [.ref x, .int (Int32.ofInt e), .int (Int32.ofInt e2)] h Post := by
  refine gh_yX14_ofPowers_X g (Nat.le_of_ble_eq_true rfl) fun S SX hs hr hw hx => ?_
  have rv : ∀ x : Int32, ck_fv 0 (.int x) := fun x => ⟨_, rfl⟩
  obtain ⟨a1_, a2_, a3_, a4_⟩ := id hX
  by_cases c1_ : sp_s1 e
  rotate_left
  · have c1b_ : ¬ (0 ≤ e ∧ e < 6) := c1_
    refine hs 0 _ rfl _ _ _ _ _ _ _ rfl ?_
    refine hs 1 _ rfl _ _ _ _ _ _ _ rfl ?_
    refine zw_c (hs 2 _ rfl) (a := [.int (Int32.ofInt e)]) (st := [.ref x]) rfl rfl (Nat.le_of_ble_eq_true rfl) trivial (by omega) (by omega) (zm_noSlot_M g (e := e) (by omega) (by omega) (fun y_ => ?_) (fun y_ => absurd y_ (by omega)))
    show S 5 [some (.ref x), some (.int (Int32.ofInt e)), some (.int (Int32.ofInt e2))] [.int (Int32.ofInt (1 : Int)), .ref x] _ _ _
    refine hs 3 _ rfl _ _ _ _ _ _ _ rfl ?_
    refine zw_c (hs 4 _ rfl) (a := [.ref x, .int (Int32.ofInt (1 : Int)), .int (Int32.ofInt (1 : Int))]) (st := []) rfl rfl (Nat.le_of_ble_eq_true rfl) ⟨_, _, _, rfl, a1_, a2_.1⟩ (by omega) (by omega) (zm_start_M g hX (i_ := 1) (w_ := 1) (Or.inr rfl) (by decide) (fun y_ h2_ f2_ x2_ => ?_) (fun y_ => absurd y_ (by decide)))
    show S 9 [some (.ref x), some (.int (Int32.ofInt e)), some (.int (Int32.ofInt e2))] [.int (Int32.ofInt (1 : Int))] _ _ _
    refine hs 5 _ rfl _ _ _ _ _ _ (fun _ => ?_) (fun zq => absurd (hd_c1t (c := 1) (by omega) (by omega) (by omega : (1 : Int) ≠ 0)) zq)
    refine hs 18 _ rfl _ _ _ _ _ _ _ rfl ?_
    refine hs 19 _ rfl _ _ _ _ _ ?_
    exact hs 24 _ rfl _ _ _ _ _ (rv _) (by omega) (by omega) (hP 0 _ _ _ ⟨rfl, Or.inr (Or.inr ⟨c1_, rfl⟩)⟩ (f2_) ⟨_, _, _, _, x2_⟩)
  · 
    obtain ⟨i, rfl⟩ : ∃ i : Nat, e = (i : Int) := ⟨e.toNat, by have := c1_.1; omega⟩
    have hi : i < 6 := by have := c1_.2; omega
    have c1b_ := c1_.1
    have c1c_ := c1_.2
    by_cases c3_ : 0 ≤ e2 ∧ e2 ≤ 3
    rotate_left
    · 
      refine hs 0 _ rfl _ _ _ _ _ _ _ rfl ?_
      refine hs 1 _ rfl _ _ _ _ _ _ _ rfl ?_
      refine zw_c (hs 2 _ rfl) (a := [.int (Int32.ofInt (i : Int))]) (st := [.ref x]) rfl rfl (Nat.le_of_ble_eq_true rfl) trivial (by omega) (by omega) (zm_noSlot_M g (e := (i : Int)) (by omega) (by omega) (fun y_ => absurd (by omega) y_) (fun y_ => ?_))
      show S 5 [some (.ref x), some (.int (Int32.ofInt (i : Int))), some (.int (Int32.ofInt e2))] [.int (Int32.ofInt (0 : Int)), .ref x] _ _ _
      refine hs 3 _ rfl _ _ _ _ _ _ _ rfl ?_
      refine zw_c (hs 4 _ rfl) (a := [.ref x, .int (Int32.ofInt (0 : Int)), .int (Int32.ofInt (1 : Int))]) (st := []) rfl rfl (Nat.le_of_ble_eq_true rfl) ⟨_, _, _, rfl, a1_, a2_.1⟩ (by omega) (by omega) (zm_start_M g hX (i_ := 0) (w_ := 1) (Or.inl rfl) (by decide) (fun y_ => absurd y_ (by decide)) (fun y_ h2_ f2_ x2_ => ?_))
      show S 9 [some (.ref x), some (.int (Int32.ofInt (i : Int))), some (.int (Int32.ofInt e2))] [.int (Int32.ofInt (0 : Int))] _ _ _
      refine hs 5 _ rfl _ _ _ _ _ _ (fun zq => absurd (hd_c1z (c := 1) (by omega) (by omega) zq) (by omega : ¬ ((0 : Int) ≠ 0))) (fun _ => ?_)
      refine hs 6 _ rfl _ _ _ _ _ _ _ rfl ?_
      refine hs 7 _ rfl _ _ _ _ _ _ _ rfl ?_
      refine hs 8 _ rfl _ _ _ _ _ _ _ rfl ?_
      refine hs 9 _ rfl _ _ _ _ _ _ _ rfl ?_
      refine zw_c (hs 10 _ rfl) (a := [.int (Int32.ofInt e2), .int (Int32.ofInt (0 : Int)), .int (Int32.ofInt (3 : Int))]) (st := [.ref x]) rfl rfl (Nat.le_of_ble_eq_true rfl) trivial (by omega) (by omega) (zm_isIn_M g (v := e2) (a := 0) (b := 3) (by omega) (by omega) (by omega) (by omega) (by omega) (by omega) (fun y_ => absurd y_ (by omega)) (fun y_ => ?_))
      show S 19 [some (.ref x), some (.int (Int32.ofInt (i : Int))), some (.int (Int32.ofInt e2))] [.int (Int32.ofInt (0 : Int)), .ref x] _ _ _
      refine hs 11 _ rfl _ _ _ _ _ _ (fun zq => absurd (hd_c1z (c := 1) (by omega) (by omega) zq) (by omega : ¬ ((0 : Int) ≠ 0))) (fun _ => ?_)
      refine hs 12 _ rfl _ _ _ _ _ _ _ rfl ?_
      refine hs 13 _ rfl _ _ _ _ _ ?_
      refine hs 15 _ rfl _ _ _ _ _ _ _ rfl ?_
      refine zw_c (hs 16 _ rfl) (a := [.ref x, .int (Int32.ofInt (1 : Int)), .int (Int32.ofInt (2 : Int))]) (st := []) rfl rfl (Nat.le_of_ble_eq_true rfl) ⟨_, _, _, rfl, x2_.1, a2_.1⟩ (by omega) (by omega) (zm_refuse_M g x2_ (i_ := 1) (w_ := 2) (Or.inr rfl) (by decide) (fun y_ h3_ f3_ x3_ => ?_) (fun y_ => absurd y_ (by decide)))
      show S 31 [some (.ref x), some (.int (Int32.ofInt (i : Int))), some (.int (Int32.ofInt e2))] [.int (Int32.ofInt (1 : Int))] _ _ _
      refine hs 17 _ rfl _ _ _ _ _ _ (fun zq => absurd (hd_c1z (c := 0) (by omega) (by omega) zq) (by omega : ¬ ((1 : Int) = 0))) (fun _ => ?_)
      refine hs 18 _ rfl _ _ _ _ _ _ _ rfl ?_
      refine hs 19 _ rfl _ _ _ _ _ ?_
      exact hs 24 _ rfl _ _ _ _ _ (rv _) (by omega) (by omega) (hP 0 _ _ _ ⟨rfl, Or.inr (Or.inl ⟨c1_, c3_, rfl⟩)⟩ (f2_.tr f3_) ⟨_, _, _, _, x3_⟩)
    · obtain ⟨w_, rfl⟩ : ∃ w_ : Nat, e2 = (w_ : Int) := ⟨e2.toNat, by omega⟩
      refine hs 0 _ rfl _ _ _ _ _ _ _ rfl ?_
      refine hs 1 _ rfl _ _ _ _ _ _ _ rfl ?_
      refine zw_c (hs 2 _ rfl) (a := [.int (Int32.ofInt (i : Int))]) (st := [.ref x]) rfl rfl (Nat.le_of_ble_eq_true rfl) trivial (by omega) (by omega) (zm_noSlot_M g (e := (i : Int)) (by omega) (by omega) (fun y_ => absurd (by omega) y_) (fun y_ => ?_))
      show S 5 [some (.ref x), some (.int (Int32.ofInt (i : Int))), some (.int (Int32.ofInt (w_ : Int)))] [.int (Int32.ofInt (0 : Int)), .ref x] _ _ _
      refine hs 3 _ rfl _ _ _ _ _ _ _ rfl ?_
      refine zw_c (hs 4 _ rfl) (a := [.ref x, .int (Int32.ofInt (0 : Int)), .int (Int32.ofInt (1 : Int))]) (st := []) rfl rfl (Nat.le_of_ble_eq_true rfl) ⟨_, _, _, rfl, a1_, a2_.1⟩ (by omega) (by omega) (zm_start_M g hX (i_ := 0) (w_ := 1) (Or.inl rfl) (by decide) (fun y_ => absurd y_ (by decide)) (fun y_ h2_ f2_ x2_ => ?_))
      show S 9 [some (.ref x), some (.int (Int32.ofInt (i : Int))), some (.int (Int32.ofInt (w_ : Int)))] [.int (Int32.ofInt (0 : Int))] _ _ _
      refine hs 5 _ rfl _ _ _ _ _ _ (fun zq => absurd (hd_c1z (c := 1) (by omega) (by omega) zq) (by omega : ¬ ((0 : Int) ≠ 0))) (fun _ => ?_)
      refine hs 6 _ rfl _ _ _ _ _ _ _ rfl ?_
      refine hs 7 _ rfl _ _ _ _ _ _ _ rfl ?_
      refine hs 8 _ rfl _ _ _ _ _ _ _ rfl ?_
      refine hs 9 _ rfl _ _ _ _ _ _ _ rfl ?_
      refine zw_c (hs 10 _ rfl) (a := [.int (Int32.ofInt (w_ : Int)), .int (Int32.ofInt (0 : Int)), .int (Int32.ofInt (3 : Int))]) (st := [.ref x]) rfl rfl (Nat.le_of_ble_eq_true rfl) trivial (by omega) (by omega) (zm_isIn_M g (v := (w_ : Int)) (a := 0) (b := 3) (by omega) (by omega) (by omega) (by omega) (by omega) (by omega) (fun y_ => ?_) (fun y_ => absurd (by omega) y_))
      show S 19 [some (.ref x), some (.int (Int32.ofInt (i : Int))), some (.int (Int32.ofInt (w_ : Int)))] [.int (Int32.ofInt (1 : Int)), .ref x] _ _ _
      refine hs 11 _ rfl _ _ _ _ _ _ (fun _ => ?_) (fun zq => absurd (hd_c1t (c := 1) (by omega) (by omega) (by omega : (1 : Int) ≠ 0)) zq)
      refine hs 14 _ rfl _ _ _ _ _ _ _ rfl ?_
      refine hs 15 _ rfl _ _ _ _ _ _ _ rfl ?_
      refine zw_c (hs 16 _ rfl) (a := [.ref x, .int (Int32.ofInt (0 : Int)), .int (Int32.ofInt (2 : Int))]) (st := []) rfl rfl (Nat.le_of_ble_eq_true rfl) ⟨_, _, _, rfl, x2_.1, a2_.1⟩ (by omega) (by omega) (zm_refuse_M g x2_ (i_ := 0) (w_ := 2) (Or.inl rfl) (by decide) (fun y_ => absurd y_ (by decide)) (fun y_ => ?_))
      show S 31 [some (.ref x), some (.int (Int32.ofInt (i : Int))), some (.int (Int32.ofInt (w_ : Int)))] [.int (Int32.ofInt (0 : Int))] _ _ _
      refine hs 17 _ rfl _ _ _ _ _ _ (fun _ => ?_) (fun zq => absurd (hd_c1t (c := 0) (by omega) (by omega) (by omega : (0 : Int) = 0)) zq)
      refine hs 20 _ rfl _ _ _ _ _ _ _ rfl ?_
      refine hs 21 _ rfl _ _ _ _ _ _ _ rfl ?_
      refine hs 22 _ rfl _ _ _ _ _ _ _ rfl ?_
      refine zw_cm (hs 23 _ rfl) (a := [.ref x, .int (Int32.ofInt (i : Int)), .int (Int32.ofInt (w_ : Int))]) (st := []) 2 404 rfl rfl (Nat.le_of_ble_eq_true rfl) (zm_rc x2_) (by omega) (by omega) (zm_pwTold_M g x2_ hok (i := i) (w_ := w_) hi (by omega) (by omega) (by omega) (fun y_ => ?_) (fun y_ v_ h3_ hv_ g3_ => ?_))
      · show S 44 [some (.ref x), some (.int (Int32.ofInt (i : Int))), some (.int (Int32.ofInt (w_ : Int)))] [.int (Int32.ofInt (-9 : Int))] _ _ _
        exact hs 24 _ rfl _ _ _ _ _ (rv _) (by omega) (by omega) (hP (-9) _ _ _ ⟨rfl, Or.inl ⟨c1_, c3_, rfl, Or.inl ⟨y_, rfl⟩⟩⟩ (f2_) ⟨_, _, _, _, x2_⟩)
      · show S 44 [some (.ref x), some (.int (Int32.ofInt (i : Int))), some (.int (Int32.ofInt (w_ : Int)))] [.int (Int32.ofInt v_)] _ _ _
        exact hs 24 _ rfl _ _ _ _ _ (rv _) (by omega) (by omega) (hP v_ _ _ _ ⟨rfl, Or.inl ⟨c1_, c3_, rfl, Or.inr ⟨y_, hv_⟩⟩⟩ (f2_.tr (zm_fr.g g3_)) ⟨_, _, _, _, x2_.g g3_ fun _ _ => rfl⟩)
set_option maxHeartbeats 4000000 in
theorem zc_wqofPowers_M {l : Launch} {G : am_G} {X : ck_XT} (g : gM l G X) {x : Nat} {r : Nat → Nat} {jj mm kk : Int} {c : sp_S} {R : Nat → sp_S} {old cnt : Nat} {h : List am_C} (hX : zc_x G h x r jj mm kk c R old cnt){o : Nat} {n0 : Int64} {s0 : Value} (hO : am_g G h o = some (1016, [.long n0, s0])) (ho1 : o < x ∨ x + 228 ≤ o) (ho2 : o ≠ r 4) (ho3 : 1000 ≤ o) (hZ : zv_P G h r) {e e2 : Int} (he1 : -2147483648 ≤ e) (he2 : e ≤ 2147483647) (hf1 : -2147483648 ≤ e2) (hf2 : e2 ≤ 2147483647) {mc ms : Nat} {Post : am_O → List am_C → Prop} (hmc : 1 ≤ mc) (hms : 6 ≤ ms)
    (hP : ∀ (a th : Int) (h' : List am_C), sp_Q38 e e2 (c, zc_l R old cnt, jj, mm, kk) a th → (th = 0 → ∃ s1 : Value, am_g G h' o = some (1016, [.long (Int64.ofInt a), s1])) → Post (.inl (some (.int (Int32.ofInt th)))) h') :
    am_M l G yL_ofPowers (.codeWith yL_ofPowers method_35_code 5 (some .int) [(0, 11, 14, 25), (0, 11, 18, 19)]) 8 134 mc ms [.ref x, .int (Int32.ofInt e), .int (Int32.ofInt e2), .ref o] h Post := by
  refine gh_yL_ofPowers_X g (Nat.le_of_ble_eq_true rfl) fun S SX hs hr hw hx => ?_
  have rv : ∀ x : Int32, ck_fv 0 (.int x) := fun x => ⟨_, rfl⟩
  have ok_ := hX.2.2.1
  have okd_ := ok_.1
  have okn_ := ok_.2.1.1
  have okr_ := ok_.2.2.1.1
  have okb_ := ok_.2.2.2.1
  have px_ := hX.2.2.2.2.2.2.2
  refine hs 0 _ rfl _ _ _ _ _ _ _ rfl ?_
  refine hs 1 _ rfl _ _ _ _ _ _ _ rfl ?_
  refine hs 2 _ rfl _ _ _ _ _ _ _ rfl ?_
  refine hs 3 _ rfl _ _ _ _ _ _ _ rfl ?_
  refine zw_cm (hs 4 _ rfl) (a := [.ref x, .int (Int32.ofInt e), .int (Int32.ofInt e2)]) (st := [.ref o]) 1 6 rfl rfl (Nat.le_of_ble_eq_true rfl) ⟨_, _, _, rfl, hX.1, rfl⟩ (by omega) (by omega) (zc_qofPowers_M g hX hZ he1 he2 hf1 hf2 (by omega) (by omega) (fun y_ y2_ cj_ => ?_) (fun y_ y2_ cp_ a_ h9_ r_ kp_ => ?_) (fun y_ y2_ => ?_) (fun hn_ => ?_))
  · show S 7 [some (.ref x), some (.int (Int32.ofInt e)), some (.int (Int32.ofInt e2)), some (.ref o), none] [.int (Int32.ofInt (-9 : Int)), .ref o] _ _ _
    refine hs 5 _ rfl _ _ _ _ _ _ _ (hd_i2l (by omega) (by omega)) ?_
    refine zw_U (hs 6 _ rfl) (by omega) (hO) rfl ⟨_, rfl⟩ fun hz765 wz766 => ?_
    have wz766 : hd_w G _ hz765 o (1016, [.long (Int64.ofInt (-9 : Int)), s0]) := wz766
    have lwz766 := wz766.1
    refine hs 7 _ rfl _ _ _ _ _ ?_
    refine hs 14 _ rfl _ _ _ _ _ _ _ rfl ?_
    exact hs 15 _ rfl _ _ _ _ _ (rv _) (by omega) (by omega) (hP (-9 : Int) 0 _ (Or.inl ⟨y_, y2_, rfl, Or.inl ⟨cj_, rfl⟩⟩) fun _ => ⟨s0, wz766.at⟩)
  · show S 7 [some (.ref x), some (.int (Int32.ofInt e)), some (.int (Int32.ofInt e2)), some (.ref o), none] [.int (Int32.ofInt a_), .ref o] _ _ _
    have bd_ : -9 ≤ a_ ∧ a_ ≤ 160000 := sp_r38.bd (T := (c, zc_l R old cnt, jj, mm, kk)) ok_ (Or.inr ⟨cp_, r_⟩ : sp_r38 e e2 (c, zc_l R old cnt, jj, mm, kk) a_)
    refine hs 5 _ rfl _ _ _ _ _ _ _ (hd_i2l (by omega) (by omega)) ?_
    refine zw_U (hs 6 _ rfl) (by omega) ((kp_ _ _ _ hO (by decide) (by decide) (by decide))) rfl ⟨_, rfl⟩ fun hz767 wz768 => ?_
    have wz768 : hd_w G _ hz767 o (1016, [.long (Int64.ofInt a_), s0]) := wz768
    have lwz768 := wz768.1
    refine hs 7 _ rfl _ _ _ _ _ ?_
    refine hs 14 _ rfl _ _ _ _ _ _ _ rfl ?_
    exact hs 15 _ rfl _ _ _ _ _ (rv _) (by omega) (by omega) (hP a_ 0 _ (Or.inl ⟨y_, y2_, rfl, Or.inr ⟨cp_, r_⟩⟩) fun _ => ⟨s0, wz768.at⟩)
  · refine hx (_, _) (List.mem_cons.mpr (Or.inr (List.mem_cons.mpr (Or.inl rfl)))) _ _ _ _ rfl ?_
    show S 20 _ [] _ _ _
    refine hs 12 _ rfl _ _ _ _ _ _ _ rfl ?_
    exact hs 13 _ rfl _ _ _ _ _ (rv _) (by omega) (by omega) (hP 0 2 _ (Or.inr (Or.inl ⟨y_, y2_, rfl⟩)) fun z_ => absurd z_ (by decide))
  · refine hx (_, _) (List.mem_cons.mpr (Or.inl rfl)) _ _ _ _ rfl ?_
    show S 16 _ [] _ _ _
    refine hs 9 _ rfl _ _ _ _ _ _ _ rfl ?_
    exact hs 10 _ rfl _ _ _ _ _ (rv _) (by omega) (by omega) (hP 0 1 _ (Or.inr (Or.inr ⟨hn_, rfl⟩)) fun z_ => absurd z_ (by decide))
