/-! COUNTING ROUND THE DIAL -/
/-- how many there are below -/
def sk_n (p : Nat → Bool) : Nat → Nat
  | 0 => 0
  | n + 1 => sk_n p n + (bif p n then 1 else 0)
section SKN
variable {p : Nat → Bool} {n k x y m : Nat}
theorem sk_n.yes (h : p n = true) : sk_n p (n + 1) = sk_n p n + 1 := by
  show sk_n p n + (bif p n then 1 else 0) = _
  rw [h]
  rfl
theorem sk_n.no (h : p n = false) : sk_n p (n + 1) = sk_n p n := by
  show sk_n p n + (bif p n then 1 else 0) = _
  rw [h]
  rfl
theorem sk_n.le (p : Nat → Bool) : ∀ n : Nat, sk_n p n ≤ n := by
  intro n
  induction n with
  | zero => exact Nat.le_refl _
  | succ n_ ih =>
    cases h_ : p n_
    · rw [sk_n.no h_]
      omega
    · rw [sk_n.yes h_]
      omega
theorem sk_n.mo (h : n ≤ k) : sk_n p n ≤ sk_n p k := by
  induction k with
  | zero =>
    have e_ : n = 0 := by omega
    rw [e_]
    exact Nat.le_refl _
  | succ k_ ih =>
    by_cases e_ : n = k_ + 1
    · rw [e_]
      exact Nat.le_refl _
    · have z_ := ih (by omega)
      cases h_ : p k_
      · rw [sk_n.no h_]
        exact z_
      · rw [sk_n.yes h_]
        omega
theorem sk_n.lt (h : p x = true) (hl : x < y) : sk_n p x < sk_n p y := by
  have a_ := sk_n.yes h
  have b_ := sk_n.mo (p := p) (show x + 1 ≤ y from hl)
  omega
/-- the one at a place, or -1 -/
def sk_at (p : Nat → Bool) (m : Nat) (place v : Int) : Prop := (∃ x : Nat, x < m ∧ p x = true ∧ ((sk_n p x : Nat) : Int) = place ∧ v = (x : Int)) ∨ ((∀ x : Nat, x < m → p x = true → ¬ ((sk_n p x : Nat) : Int) = place) ∧ v = -1)
theorem sk_at.fn {place v w : Int} (h1 : sk_at p m place v) (h2 : sk_at p m place w) : v = w := by
  rcases h1 with ⟨x_, a1_, a2_, a3_, a4_⟩ | ⟨a1_, a2_⟩
  · rcases h2 with ⟨y_, b1_, b2_, b3_, b4_⟩ | ⟨b1_, b2_⟩
    · rcases Nat.lt_trichotomy x_ y_ with c_ | c_ | c_
      · have l_ := sk_n.lt a2_ c_
        omega
      · rw [a4_, b4_, c_]
      · have l_ := sk_n.lt b2_ c_
        omega
    · exact absurd a3_ (b1_ x_ a1_ a2_)
  · rcases h2 with ⟨y_, b1_, b2_, b3_, b4_⟩ | ⟨b1_, b2_⟩
    · exact absurd b3_ (a1_ y_ b1_ b2_)
    · rw [a2_, b2_]
theorem sk_at.bd {place v : Int} (h : sk_at p m place v) : -1 ≤ v ∧ v ≤ (m : Int) := by
  rcases h with ⟨x_, a1_, -, -, a4_⟩ | ⟨-, a2_⟩
  · omega
  · omega
theorem sk_b (h : x = y) : Nat.beq x y = true := by
  rw [h]
  exact Nat.beq_refl y
theorem sk_bn (h : ¬ x = y) : Nat.beq x y = false := by
  cases hh_ : Nat.beq x y
  · rfl
  · exact absurd (ck_beq hh_) h
end SKN
/-- what times a is b; what times itself is a -/
def sk_s (a b m x : Nat) : Bool := Nat.beq (a * x % m) b
def sk_r (a m x : Nat) : Bool := Nat.beq (x * x % m) a
/-- a power -/
def sk_p (a m k : Nat) : Nat := a ^ k % m
theorem sk_p.one {a m : Nat} : sk_p a m 1 = 1 * a % m := by
  show a ^ 1 % m = _
  rw [Nat.pow_one, Nat.one_mul]
theorem sk_p.one2 {a m : Nat} : sk_p a m 1 = 1 % m * a % m := by
  show a ^ 1 % m = _
  rw [Nat.pow_one, Nat.mod_mul_mod, Nat.one_mul]
theorem sk_p.s {a m k : Nat} : sk_p a m (k + 1) = sk_p a m k * a % m := by
  show a ^ (k + 1) % m = a ^ k % m * a % m
  rw [Nat.mod_mul_mod, Nat.pow_succ]
/-- the order, or 0 -/
def sk_o (a m : Nat) (v : Int) : Prop := (∃ k : Nat, 1 ≤ k ∧ k ≤ m ∧ sk_p a m k = 1 % m ∧ (∀ j : Nat, 1 ≤ j → j < k → ¬ sk_p a m j = 1 % m) ∧ v = (k : Int)) ∨ ((∀ j : Nat, 1 ≤ j → j ≤ m → ¬ sk_p a m j = 1 % m) ∧ v = 0)
theorem sk_o.fn {a m : Nat} {v w : Int} (h1 : sk_o a m v) (h2 : sk_o a m w) : v = w := by
  rcases h1 with ⟨x_, a1_, a2_, a3_, a4_, a5_⟩ | ⟨a1_, a2_⟩
  · rcases h2 with ⟨y_, b1_, b2_, b3_, b4_, b5_⟩ | ⟨b1_, b2_⟩
    · rcases Nat.lt_trichotomy x_ y_ with c_ | c_ | c_
      · exact absurd a3_ (b4_ x_ a1_ c_)
      · rw [a5_, b5_, c_]
      · exact absurd b3_ (a4_ y_ b1_ c_)
    · exact absurd a3_ (b1_ x_ a1_ a2_)
  · rcases h2 with ⟨y_, b1_, b2_, b3_, b4_, b5_⟩ | ⟨b1_, b2_⟩
    · exact absurd b3_ (a1_ y_ b1_ b2_)
    · rw [a2_, b2_]
theorem sk_o.bd {a m : Nat} {v : Int} (h : sk_o a m v) : 0 ≤ v ∧ v ≤ (m : Int) := by
  rcases h with ⟨x_, -, a2_, -, -, a4_⟩ | ⟨-, a2_⟩
  · omega
  · omega
set_option maxHeartbeats 4000000 in
theorem sk_sol_M {l : Launch} {G : am_G} {X : ck_XT} (g : gM l G X) {A_ B_ M_ : Nat} (ha : A_ < M_) (hb : B_ < M_) (hm : M_ ≤ 400) {h : List am_C} {mc ms : Nat} {Post : am_O → List am_C → Prop} (hP : Post (.inl (some (.int (Int32.ofInt ((sk_n (sk_s A_ B_ M_) M_ : Nat) : Int))))) h) :
    am_M l G yX7_countSolutions (.code yX7_countSolutions prog_9_method_6_code 5 (some .int)) 1 20 mc ms [.int (Int32.ofInt (A_ : Int)), .int (Int32.ofInt (B_ : Int)), .int (Int32.ofInt (M_ : Int))] h Post := by
  refine gh_yX7_countSolutions_X g (Nat.le_of_ble_eq_true rfl) fun S SX hs hr hw hx => ?_
  have rv : ∀ x : Int32, ck_fv 0 (.int x) := fun x => ⟨_, rfl⟩
  have loop : ∀ (n_ x_ : Nat), x_ + n_ = M_ → S 5 [some (.int (Int32.ofInt (A_ : Int))), some (.int (Int32.ofInt (B_ : Int))), some (.int (Int32.ofInt (M_ : Int))), some (.int (Int32.ofInt ((sk_n (sk_s A_ B_ M_) x_ : Nat) : Int))), some (.int (Int32.ofInt (x_ : Int)))] [] h 0 0 := by
    intro n_
    induction n_ with
    | zero =>
      intro x_ hx_
      have e_ : x_ = M_ := by omega
      rw [e_]
      refine hs 4 _ rfl _ _ _ _ _ _ _ rfl ?_
      refine hs 5 _ rfl _ _ _ _ _ _ _ rfl ?_
      refine hs 6 _ rfl _ _ _ _ _ _ _ (fun _ => ?_) (fun zq => absurd (hd_c2t (c := 3) (by omega) (by omega) (by omega) (by omega) (by omega : 0 ≤ ((M_ : Int) - (M_ : Int)))) zq)
      refine hs 17 _ rfl _ _ _ _ _ _ _ rfl ?_
      exact hs 18 _ rfl _ _ _ _ _ (rv _) (Nat.zero_le _) (Nat.zero_le _) hP
    | succ n_ ih =>
      intro x_ hx_
      have b3_ : A_ * x_ % M_ < M_ := Nat.mod_lt _ (by omega)
      have c0_ := sk_n.le (sk_s A_ B_ M_) x_
      have z_ := ih (x_ + 1) (by omega)
      by_cases e0_ : A_ * x_ % M_ = B_
      · rw [sk_n.yes (p := (sk_s A_ B_ M_)) (n := x_) (sk_b e0_)] at z_
        refine hs 4 _ rfl _ _ _ _ _ _ _ rfl ?_
        refine hs 5 _ rfl _ _ _ _ _ _ _ rfl ?_
        refine hs 6 _ rfl _ _ _ _ _ _ _ (fun zq => absurd (hd_c2z (c := 3) (by omega) (by omega) (by omega) (by omega) zq) (by omega : ¬ (0 ≤ ((x_ : Int) - (M_ : Int))))) (fun _ => ?_)
        refine hs 7 _ rfl _ _ _ _ _ _ _ rfl ?_
        refine hs 8 _ rfl _ _ _ _ _ _ _ rfl ?_
        refine hs 9 _ rfl _ _ _ _ _ _ _ hd_mul ?_
        refine hs 10 _ rfl _ _ _ _ _ _ _ rfl ?_
        refine hs 11 _ rfl _ _ _ _ _ _ _ (zt_rem (by omega) (by omega) (by omega) (by omega)) ?_
        refine hs 12 _ rfl _ _ _ _ _ _ _ rfl ?_
        refine hs 13 _ rfl _ _ _ _ _ _ _ (fun zq => absurd (hd_c2z (c := 1) (by omega) (by omega) (by omega) (by omega) zq) (by omega : ¬ ((((A_ * x_ % M_ : Nat) : Int) - (B_ : Int)) ≠ 0))) (fun _ => ?_)
        refine hs 14 _ rfl _ _ _ _ _ _ _ (hd_inc rfl) ?_
        refine hs 15 _ rfl _ _ _ _ _ _ _ (hd_inc rfl) ?_
        refine hs 16 _ rfl _ _ _ _ _ ?_
        exact z_
      · rw [sk_n.no (p := (sk_s A_ B_ M_)) (n := x_) (sk_bn e0_)] at z_
        refine hs 4 _ rfl _ _ _ _ _ _ _ rfl ?_
        refine hs 5 _ rfl _ _ _ _ _ _ _ rfl ?_
        refine hs 6 _ rfl _ _ _ _ _ _ _ (fun zq => absurd (hd_c2z (c := 3) (by omega) (by omega) (by omega) (by omega) zq) (by omega : ¬ (0 ≤ ((x_ : Int) - (M_ : Int))))) (fun _ => ?_)
        refine hs 7 _ rfl _ _ _ _ _ _ _ rfl ?_
        refine hs 8 _ rfl _ _ _ _ _ _ _ rfl ?_
        refine hs 9 _ rfl _ _ _ _ _ _ _ hd_mul ?_
        refine hs 10 _ rfl _ _ _ _ _ _ _ rfl ?_
        refine hs 11 _ rfl _ _ _ _ _ _ _ (zt_rem (by omega) (by omega) (by omega) (by omega)) ?_
        refine hs 12 _ rfl _ _ _ _ _ _ _ rfl ?_
        refine hs 13 _ rfl _ _ _ _ _ _ _ (fun _ => ?_) (fun zq => absurd (hd_c2t (c := 1) (by omega) (by omega) (by omega) (by omega) (by omega : (((A_ * x_ % M_ : Nat) : Int) - (B_ : Int)) ≠ 0)) zq)
        refine hs 15 _ rfl _ _ _ _ _ _ _ (hd_inc rfl) ?_
        refine hs 16 _ rfl _ _ _ _ _ ?_
        exact z_
  refine hs 0 _ rfl _ _ _ _ _ _ _ rfl ?_
  refine hs 1 _ rfl _ _ _ _ _ _ _ rfl ?_
  refine hs 2 _ rfl _ _ _ _ _ _ _ rfl ?_
  refine hs 3 _ rfl _ _ _ _ _ _ _ rfl ?_
  exact loop M_ 0 (by omega)
set_option maxHeartbeats 4000000 in
theorem sk_roots_M {l : Launch} {G : am_G} {X : ck_XT} (g : gM l G X) {A_ M_ : Nat} (ha : A_ < M_) (hm : M_ ≤ 400) {h : List am_C} {mc ms : Nat} {Post : am_O → List am_C → Prop} (hP : Post (.inl (some (.int (Int32.ofInt ((sk_n (sk_r A_ M_) M_ : Nat) : Int))))) h) :
    am_M l G yX7_countRoots (.code yX7_countRoots prog_9_method_10_code 4 (some .int)) 1 20 mc ms [.int (Int32.ofInt (A_ : Int)), .int (Int32.ofInt (M_ : Int))] h Post := by
  refine gh_yX7_countRoots_X g (Nat.le_of_ble_eq_true rfl) fun S SX hs hr hw hx => ?_
  have rv : ∀ x : Int32, ck_fv 0 (.int x) := fun x => ⟨_, rfl⟩
  have loop : ∀ (n_ x_ : Nat), x_ + n_ = M_ → S 4 [some (.int (Int32.ofInt (A_ : Int))), some (.int (Int32.ofInt (M_ : Int))), some (.int (Int32.ofInt ((sk_n (sk_r A_ M_) x_ : Nat) : Int))), some (.int (Int32.ofInt (x_ : Int)))] [] h 0 0 := by
    intro n_
    induction n_ with
    | zero =>
      intro x_ hx_
      have e_ : x_ = M_ := by omega
      rw [e_]
      refine hs 4 _ rfl _ _ _ _ _ _ _ rfl ?_
      refine hs 5 _ rfl _ _ _ _ _ _ _ rfl ?_
      refine hs 6 _ rfl _ _ _ _ _ _ _ (fun _ => ?_) (fun zq => absurd (hd_c2t (c := 3) (by omega) (by omega) (by omega) (by omega) (by omega : 0 ≤ ((M_ : Int) - (M_ : Int)))) zq)
      refine hs 17 _ rfl _ _ _ _ _ _ _ rfl ?_
      exact hs 18 _ rfl _ _ _ _ _ (rv _) (Nat.zero_le _) (Nat.zero_le _) hP
    | succ n_ ih =>
      intro x_ hx_
      have b3_ : x_ * x_ % M_ < M_ := Nat.mod_lt _ (by omega)
      have c0_ := sk_n.le (sk_r A_ M_) x_
      have z_ := ih (x_ + 1) (by omega)
      by_cases e0_ : x_ * x_ % M_ = A_
      · rw [sk_n.yes (p := (sk_r A_ M_)) (n := x_) (sk_b e0_)] at z_
        refine hs 4 _ rfl _ _ _ _ _ _ _ rfl ?_
        refine hs 5 _ rfl _ _ _ _ _ _ _ rfl ?_
        refine hs 6 _ rfl _ _ _ _ _ _ _ (fun zq => absurd (hd_c2z (c := 3) (by omega) (by omega) (by omega) (by omega) zq) (by omega : ¬ (0 ≤ ((x_ : Int) - (M_ : Int))))) (fun _ => ?_)
        refine hs 7 _ rfl _ _ _ _ _ _ _ rfl ?_
        refine hs 8 _ rfl _ _ _ _ _ _ _ rfl ?_
        refine hs 9 _ rfl _ _ _ _ _ _ _ hd_mul ?_
        refine hs 10 _ rfl _ _ _ _ _ _ _ rfl ?_
        refine hs 11 _ rfl _ _ _ _ _ _ _ (zt_rem (by omega) (by omega) (by omega) (by omega)) ?_
        refine hs 12 _ rfl _ _ _ _ _ _ _ rfl ?_
        refine hs 13 _ rfl _ _ _ _ _ _ _ (fun zq => absurd (hd_c2z (c := 1) (by omega) (by omega) (by omega) (by omega) zq) (by omega : ¬ ((((x_ * x_ % M_ : Nat) : Int) - (A_ : Int)) ≠ 0))) (fun _ => ?_)
        refine hs 14 _ rfl _ _ _ _ _ _ _ (hd_inc rfl) ?_
        refine hs 15 _ rfl _ _ _ _ _ _ _ (hd_inc rfl) ?_
        refine hs 16 _ rfl _ _ _ _ _ ?_
        exact z_
      · rw [sk_n.no (p := (sk_r A_ M_)) (n := x_) (sk_bn e0_)] at z_
        refine hs 4 _ rfl _ _ _ _ _ _ _ rfl ?_
        refine hs 5 _ rfl _ _ _ _ _ _ _ rfl ?_
        refine hs 6 _ rfl _ _ _ _ _ _ _ (fun zq => absurd (hd_c2z (c := 3) (by omega) (by omega) (by omega) (by omega) zq) (by omega : ¬ (0 ≤ ((x_ : Int) - (M_ : Int))))) (fun _ => ?_)
        refine hs 7 _ rfl _ _ _ _ _ _ _ rfl ?_
        refine hs 8 _ rfl _ _ _ _ _ _ _ rfl ?_
        refine hs 9 _ rfl _ _ _ _ _ _ _ hd_mul ?_
        refine hs 10 _ rfl _ _ _ _ _ _ _ rfl ?_
        refine hs 11 _ rfl _ _ _ _ _ _ _ (zt_rem (by omega) (by omega) (by omega) (by omega)) ?_
        refine hs 12 _ rfl _ _ _ _ _ _ _ rfl ?_
        refine hs 13 _ rfl _ _ _ _ _ _ _ (fun _ => ?_) (fun zq => absurd (hd_c2t (c := 1) (by omega) (by omega) (by omega) (by omega) (by omega : (((x_ * x_ % M_ : Nat) : Int) - (A_ : Int)) ≠ 0)) zq)
        refine hs 15 _ rfl _ _ _ _ _ _ _ (hd_inc rfl) ?_
        refine hs 16 _ rfl _ _ _ _ _ ?_
        exact z_
  refine hs 0 _ rfl _ _ _ _ _ _ _ rfl ?_
  refine hs 1 _ rfl _ _ _ _ _ _ _ rfl ?_
  refine hs 2 _ rfl _ _ _ _ _ _ _ rfl ?_
  refine hs 3 _ rfl _ _ _ _ _ _ _ rfl ?_
  exact loop M_ 0 (by omega)
set_option maxHeartbeats 4000000 in
theorem sk_solAt_M {l : Launch} {G : am_G} {X : ck_XT} (g : gM l G X) {A_ B_ M_ : Nat} (ha : A_ < M_) (hb : B_ < M_) (hm : M_ ≤ 400) {pl_ : Int} (hpl : 0 ≤ pl_) (hpl2 : pl_ ≤ 2147483647) {h : List am_C} {mc ms : Nat} {Post : am_O → List am_C → Prop} (hP : ∀ v : Int, sk_at (sk_s A_ B_ M_) M_ pl_ v → Post (.inl (some (.int (Int32.ofInt v)))) h) :
    am_M l G yX7_solutionAt (.code yX7_solutionAt prog_9_method_7_code 6 (some .int)) 1 20 mc ms [.int (Int32.ofInt (A_ : Int)), .int (Int32.ofInt (B_ : Int)), .int (Int32.ofInt (M_ : Int)), .int (Int32.ofInt pl_)] h Post := by
  refine gh_yX7_solutionAt_X g (Nat.le_of_ble_eq_true rfl) fun S SX hs hr hw hx => ?_
  have rv : ∀ x : Int32, ck_fv 0 (.int x) := fun x => ⟨_, rfl⟩
  have loop : ∀ (n_ x_ : Nat), x_ + n_ = M_ → (∀ y_ : Nat, y_ < x_ → (sk_s A_ B_ M_) y_ = true → ¬ ((sk_n (sk_s A_ B_ M_) y_ : Nat) : Int) = pl_) → S 6 [some (.int (Int32.ofInt (A_ : Int))), some (.int (Int32.ofInt (B_ : Int))), some (.int (Int32.ofInt (M_ : Int))), some (.int (Int32.ofInt pl_)), some (.int (Int32.ofInt ((sk_n (sk_s A_ B_ M_) x_ : Nat) : Int))), some (.int (Int32.ofInt (x_ : Int)))] [] h 0 0 := by
    intro n_
    induction n_ with
    | zero =>
      intro x_ hx_ hn_
      have e_ : x_ = M_ := by omega
      rw [e_] at hn_ ⊢
      have c0_ := sk_n.le (sk_s A_ B_ M_) M_
      refine hs 4 _ rfl _ _ _ _ _ _ _ rfl ?_
      refine hs 5 _ rfl _ _ _ _ _ _ _ rfl ?_
      refine hs 6 _ rfl _ _ _ _ _ _ _ (fun _ => ?_) (fun zq => absurd (hd_c2t (c := 3) (by omega) (by omega) (by omega) (by omega) (by omega : 0 ≤ ((M_ : Int) - (M_ : Int)))) zq)
      refine hs 22 _ rfl _ _ _ _ _ _ _ rfl ?_
      exact hs 23 _ rfl _ _ _ _ _ (rv _) (Nat.zero_le _) (Nat.zero_le _) (hP (-1) (Or.inr ⟨hn_, rfl⟩))
    | succ n_ ih =>
      intro x_ hx_ hn_
      have b3_ : A_ * x_ % M_ < M_ := Nat.mod_lt _ (by omega)
      have c0_ := sk_n.le (sk_s A_ B_ M_) x_
      by_cases e0_ : A_ * x_ % M_ = B_
      · by_cases e2_ : ((sk_n (sk_s A_ B_ M_) x_ : Nat) : Int) = pl_
        · 
          refine hs 4 _ rfl _ _ _ _ _ _ _ rfl ?_
          refine hs 5 _ rfl _ _ _ _ _ _ _ rfl ?_
          refine hs 6 _ rfl _ _ _ _ _ _ _ (fun zq => absurd (hd_c2z (c := 3) (by omega) (by omega) (by omega) (by omega) zq) (by omega : ¬ (0 ≤ ((x_ : Int) - (M_ : Int))))) (fun _ => ?_)
          refine hs 7 _ rfl _ _ _ _ _ _ _ rfl ?_
          refine hs 8 _ rfl _ _ _ _ _ _ _ rfl ?_
          refine hs 9 _ rfl _ _ _ _ _ _ _ hd_mul ?_
          refine hs 10 _ rfl _ _ _ _ _ _ _ rfl ?_
          refine hs 11 _ rfl _ _ _ _ _ _ _ (zt_rem (by omega) (by omega) (by omega) (by omega)) ?_
          refine hs 12 _ rfl _ _ _ _ _ _ _ rfl ?_
          refine hs 13 _ rfl _ _ _ _ _ _ _ (fun zq => absurd (hd_c2z (c := 1) (by omega) (by omega) (by omega) (by omega) zq) (by omega : ¬ ((((A_ * x_ % M_ : Nat) : Int) - (B_ : Int)) ≠ 0))) (fun _ => ?_)
          refine hs 14 _ rfl _ _ _ _ _ _ _ rfl ?_
          refine hs 15 _ rfl _ _ _ _ _ _ _ rfl ?_
          refine hs 16 _ rfl _ _ _ _ _ _ _ (fun zq => absurd (hd_c2z (c := 1) (by omega) (by omega) (by omega) (by omega) zq) (by omega : ¬ ((((sk_n (sk_s A_ B_ M_) x_ : Nat) : Int) - pl_) ≠ 0))) (fun _ => ?_)
          refine hs 17 _ rfl _ _ _ _ _ _ _ rfl ?_
          exact hs 18 _ rfl _ _ _ _ _ (rv _) (Nat.zero_le _) (Nat.zero_le _) (hP (x_ : Int) (Or.inl ⟨x_, by omega, sk_b e0_, e2_, rfl⟩))
        · have z_ := ih (x_ + 1) (by omega) fun y_ hy_ hp_ => by
            by_cases q_ : y_ = x_
            · rw [q_]
              exact e2_
            · exact hn_ y_ (by omega) hp_
          rw [sk_n.yes (p := (sk_s A_ B_ M_)) (n := x_) (sk_b e0_)] at z_
          refine hs 4 _ rfl _ _ _ _ _ _ _ rfl ?_
          refine hs 5 _ rfl _ _ _ _ _ _ _ rfl ?_
          refine hs 6 _ rfl _ _ _ _ _ _ _ (fun zq => absurd (hd_c2z (c := 3) (by omega) (by omega) (by omega) (by omega) zq) (by omega : ¬ (0 ≤ ((x_ : Int) - (M_ : Int))))) (fun _ => ?_)
          refine hs 7 _ rfl _ _ _ _ _ _ _ rfl ?_
          refine hs 8 _ rfl _ _ _ _ _ _ _ rfl ?_
          refine hs 9 _ rfl _ _ _ _ _ _ _ hd_mul ?_
          refine hs 10 _ rfl _ _ _ _ _ _ _ rfl ?_
          refine hs 11 _ rfl _ _ _ _ _ _ _ (zt_rem (by omega) (by omega) (by omega) (by omega)) ?_
          refine hs 12 _ rfl _ _ _ _ _ _ _ rfl ?_
          refine hs 13 _ rfl _ _ _ _ _ _ _ (fun zq => absurd (hd_c2z (c := 1) (by omega) (by omega) (by omega) (by omega) zq) (by omega : ¬ ((((A_ * x_ % M_ : Nat) : Int) - (B_ : Int)) ≠ 0))) (fun _ => ?_)
          refine hs 14 _ rfl _ _ _ _ _ _ _ rfl ?_
          refine hs 15 _ rfl _ _ _ _ _ _ _ rfl ?_
          refine hs 16 _ rfl _ _ _ _ _ _ _ (fun _ => ?_) (fun zq => absurd (hd_c2t (c := 1) (by omega) (by omega) (by omega) (by omega) (by omega : (((sk_n (sk_s A_ B_ M_) x_ : Nat) : Int) - pl_) ≠ 0)) zq)
          refine hs 19 _ rfl _ _ _ _ _ _ _ (hd_inc rfl) ?_
          refine hs 20 _ rfl _ _ _ _ _ _ _ (hd_inc rfl) ?_
          refine hs 21 _ rfl _ _ _ _ _ ?_
          exact z_
      · have z_ := ih (x_ + 1) (by omega) fun y_ hy_ hp_ => by
          by_cases q_ : y_ = x_
          · rw [q_] at hp_
            exact absurd (ck_beq hp_) e0_
          · exact hn_ y_ (by omega) hp_
        rw [sk_n.no (p := (sk_s A_ B_ M_)) (n := x_) (sk_bn e0_)] at z_
        refine hs 4 _ rfl _ _ _ _ _ _ _ rfl ?_
        refine hs 5 _ rfl _ _ _ _ _ _ _ rfl ?_
        refine hs 6 _ rfl _ _ _ _ _ _ _ (fun zq => absurd (hd_c2z (c := 3) (by omega) (by omega) (by omega) (by omega) zq) (by omega : ¬ (0 ≤ ((x_ : Int) - (M_ : Int))))) (fun _ => ?_)
        refine hs 7 _ rfl _ _ _ _ _ _ _ rfl ?_
        refine hs 8 _ rfl _ _ _ _ _ _ _ rfl ?_
        refine hs 9 _ rfl _ _ _ _ _ _ _ hd_mul ?_
        refine hs 10 _ rfl _ _ _ _ _ _ _ rfl ?_
        refine hs 11 _ rfl _ _ _ _ _ _ _ (zt_rem (by omega) (by omega) (by omega) (by omega)) ?_
        refine hs 12 _ rfl _ _ _ _ _ _ _ rfl ?_
        refine hs 13 _ rfl _ _ _ _ _ _ _ (fun _ => ?_) (fun zq => absurd (hd_c2t (c := 1) (by omega) (by omega) (by omega) (by omega) (by omega : (((A_ * x_ % M_ : Nat) : Int) - (B_ : Int)) ≠ 0)) zq)
        refine hs 20 _ rfl _ _ _ _ _ _ _ (hd_inc rfl) ?_
        refine hs 21 _ rfl _ _ _ _ _ ?_
        exact z_
  refine hs 0 _ rfl _ _ _ _ _ _ _ rfl ?_
  refine hs 1 _ rfl _ _ _ _ _ _ _ rfl ?_
  refine hs 2 _ rfl _ _ _ _ _ _ _ rfl ?_
  refine hs 3 _ rfl _ _ _ _ _ _ _ rfl ?_
  exact loop M_ 0 (by omega) (fun y_ hy_ => absurd hy_ (by omega))
set_option maxHeartbeats 4000000 in
theorem sk_rootAt_M {l : Launch} {G : am_G} {X : ck_XT} (g : gM l G X) {A_ M_ : Nat} (ha : A_ < M_) (hm : M_ ≤ 400) {pl_ : Int} (hpl : 0 ≤ pl_) (hpl2 : pl_ ≤ 2147483647) {h : List am_C} {mc ms : Nat} {Post : am_O → List am_C → Prop} (hP : ∀ v : Int, sk_at (sk_r A_ M_) M_ pl_ v → Post (.inl (some (.int (Int32.ofInt v)))) h) :
    am_M l G yX7_rootAt (.code yX7_rootAt prog_9_method_11_code 5 (some .int)) 1 20 mc ms [.int (Int32.ofInt (A_ : Int)), .int (Int32.ofInt (M_ : Int)), .int (Int32.ofInt pl_)] h Post := by
  refine gh_yX7_rootAt_X g (Nat.le_of_ble_eq_true rfl) fun S SX hs hr hw hx => ?_
  have rv : ∀ x : Int32, ck_fv 0 (.int x) := fun x => ⟨_, rfl⟩
  have loop : ∀ (n_ x_ : Nat), x_ + n_ = M_ → (∀ y_ : Nat, y_ < x_ → (sk_r A_ M_) y_ = true → ¬ ((sk_n (sk_r A_ M_) y_ : Nat) : Int) = pl_) → S 5 [some (.int (Int32.ofInt (A_ : Int))), some (.int (Int32.ofInt (M_ : Int))), some (.int (Int32.ofInt pl_)), some (.int (Int32.ofInt ((sk_n (sk_r A_ M_) x_ : Nat) : Int))), some (.int (Int32.ofInt (x_ : Int)))] [] h 0 0 := by
    intro n_
    induction n_ with
    | zero =>
      intro x_ hx_ hn_
      have e_ : x_ = M_ := by omega
      rw [e_] at hn_ ⊢
      have c0_ := sk_n.le (sk_r A_ M_) M_
      refine hs 4 _ rfl _ _ _ _ _ _ _ rfl ?_
      refine hs 5 _ rfl _ _ _ _ _ _ _ rfl ?_
      refine hs 6 _ rfl _ _ _ _ _ _ _ (fun _ => ?_) (fun zq => absurd (hd_c2t (c := 3) (by omega) (by omega) (by omega) (by omega) (by omega : 0 ≤ ((M_ : Int) - (M_ : Int)))) zq)
      refine hs 22 _ rfl _ _ _ _ _ _ _ rfl ?_
      exact hs 23 _ rfl _ _ _ _ _ (rv _) (Nat.zero_le _) (Nat.zero_le _) (hP (-1) (Or.inr ⟨hn_, rfl⟩))
    | succ n_ ih =>
      intro x_ hx_ hn_
      have b3_ : x_ * x_ % M_ < M_ := Nat.mod_lt _ (by omega)
      have c0_ := sk_n.le (sk_r A_ M_) x_
      by_cases e0_ : x_ * x_ % M_ = A_
      · by_cases e2_ : ((sk_n (sk_r A_ M_) x_ : Nat) : Int) = pl_
        · 
          refine hs 4 _ rfl _ _ _ _ _ _ _ rfl ?_
          refine hs 5 _ rfl _ _ _ _ _ _ _ rfl ?_
          refine hs 6 _ rfl _ _ _ _ _ _ _ (fun zq => absurd (hd_c2z (c := 3) (by omega) (by omega) (by omega) (by omega) zq) (by omega : ¬ (0 ≤ ((x_ : Int) - (M_ : Int))))) (fun _ => ?_)
          refine hs 7 _ rfl _ _ _ _ _ _ _ rfl ?_
          refine hs 8 _ rfl _ _ _ _ _ _ _ rfl ?_
          refine hs 9 _ rfl _ _ _ _ _ _ _ hd_mul ?_
          refine hs 10 _ rfl _ _ _ _ _ _ _ rfl ?_
          refine hs 11 _ rfl _ _ _ _ _ _ _ (zt_rem (by omega) (by omega) (by omega) (by omega)) ?_
          refine hs 12 _ rfl _ _ _ _ _ _ _ rfl ?_
          refine hs 13 _ rfl _ _ _ _ _ _ _ (fun zq => absurd (hd_c2z (c := 1) (by omega) (by omega) (by omega) (by omega) zq) (by omega : ¬ ((((x_ * x_ % M_ : Nat) : Int) - (A_ : Int)) ≠ 0))) (fun _ => ?_)
          refine hs 14 _ rfl _ _ _ _ _ _ _ rfl ?_
          refine hs 15 _ rfl _ _ _ _ _ _ _ rfl ?_
          refine hs 16 _ rfl _ _ _ _ _ _ _ (fun zq => absurd (hd_c2z (c := 1) (by omega) (by omega) (by omega) (by omega) zq) (by omega : ¬ ((((sk_n (sk_r A_ M_) x_ : Nat) : Int) - pl_) ≠ 0))) (fun _ => ?_)
          refine hs 17 _ rfl _ _ _ _ _ _ _ rfl ?_
          exact hs 18 _ rfl _ _ _ _ _ (rv _) (Nat.zero_le _) (Nat.zero_le _) (hP (x_ : Int) (Or.inl ⟨x_, by omega, sk_b e0_, e2_, rfl⟩))
        · have z_ := ih (x_ + 1) (by omega) fun y_ hy_ hp_ => by
            by_cases q_ : y_ = x_
            · rw [q_]
              exact e2_
            · exact hn_ y_ (by omega) hp_
          rw [sk_n.yes (p := (sk_r A_ M_)) (n := x_) (sk_b e0_)] at z_
          refine hs 4 _ rfl _ _ _ _ _ _ _ rfl ?_
          refine hs 5 _ rfl _ _ _ _ _ _ _ rfl ?_
          refine hs 6 _ rfl _ _ _ _ _ _ _ (fun zq => absurd (hd_c2z (c := 3) (by omega) (by omega) (by omega) (by omega) zq) (by omega : ¬ (0 ≤ ((x_ : Int) - (M_ : Int))))) (fun _ => ?_)
          refine hs 7 _ rfl _ _ _ _ _ _ _ rfl ?_
          refine hs 8 _ rfl _ _ _ _ _ _ _ rfl ?_
          refine hs 9 _ rfl _ _ _ _ _ _ _ hd_mul ?_
          refine hs 10 _ rfl _ _ _ _ _ _ _ rfl ?_
          refine hs 11 _ rfl _ _ _ _ _ _ _ (zt_rem (by omega) (by omega) (by omega) (by omega)) ?_
          refine hs 12 _ rfl _ _ _ _ _ _ _ rfl ?_
          refine hs 13 _ rfl _ _ _ _ _ _ _ (fun zq => absurd (hd_c2z (c := 1) (by omega) (by omega) (by omega) (by omega) zq) (by omega : ¬ ((((x_ * x_ % M_ : Nat) : Int) - (A_ : Int)) ≠ 0))) (fun _ => ?_)
          refine hs 14 _ rfl _ _ _ _ _ _ _ rfl ?_
          refine hs 15 _ rfl _ _ _ _ _ _ _ rfl ?_
          refine hs 16 _ rfl _ _ _ _ _ _ _ (fun _ => ?_) (fun zq => absurd (hd_c2t (c := 1) (by omega) (by omega) (by omega) (by omega) (by omega : (((sk_n (sk_r A_ M_) x_ : Nat) : Int) - pl_) ≠ 0)) zq)
          refine hs 19 _ rfl _ _ _ _ _ _ _ (hd_inc rfl) ?_
          refine hs 20 _ rfl _ _ _ _ _ _ _ (hd_inc rfl) ?_
          refine hs 21 _ rfl _ _ _ _ _ ?_
          exact z_
      · have z_ := ih (x_ + 1) (by omega) fun y_ hy_ hp_ => by
          by_cases q_ : y_ = x_
          · rw [q_] at hp_
            exact absurd (ck_beq hp_) e0_
          · exact hn_ y_ (by omega) hp_
        rw [sk_n.no (p := (sk_r A_ M_)) (n := x_) (sk_bn e0_)] at z_
        refine hs 4 _ rfl _ _ _ _ _ _ _ rfl ?_
        refine hs 5 _ rfl _ _ _ _ _ _ _ rfl ?_
        refine hs 6 _ rfl _ _ _ _ _ _ _ (fun zq => absurd (hd_c2z (c := 3) (by omega) (by omega) (by omega) (by omega) zq) (by omega : ¬ (0 ≤ ((x_ : Int) - (M_ : Int))))) (fun _ => ?_)
        refine hs 7 _ rfl _ _ _ _ _ _ _ rfl ?_
        refine hs 8 _ rfl _ _ _ _ _ _ _ rfl ?_
        refine hs 9 _ rfl _ _ _ _ _ _ _ hd_mul ?_
        refine hs 10 _ rfl _ _ _ _ _ _ _ rfl ?_
        refine hs 11 _ rfl _ _ _ _ _ _ _ (zt_rem (by omega) (by omega) (by omega) (by omega)) ?_
        refine hs 12 _ rfl _ _ _ _ _ _ _ rfl ?_
        refine hs 13 _ rfl _ _ _ _ _ _ _ (fun _ => ?_) (fun zq => absurd (hd_c2t (c := 1) (by omega) (by omega) (by omega) (by omega) (by omega : (((x_ * x_ % M_ : Nat) : Int) - (A_ : Int)) ≠ 0)) zq)
        refine hs 20 _ rfl _ _ _ _ _ _ _ (hd_inc rfl) ?_
        refine hs 21 _ rfl _ _ _ _ _ ?_
        exact z_
  refine hs 0 _ rfl _ _ _ _ _ _ _ rfl ?_
  refine hs 1 _ rfl _ _ _ _ _ _ _ rfl ?_
  refine hs 2 _ rfl _ _ _ _ _ _ _ rfl ?_
  refine hs 3 _ rfl _ _ _ _ _ _ _ rfl ?_
  exact loop M_ 0 (by omega) (fun y_ hy_ => absurd hy_ (by omega))
set_option maxHeartbeats 4000000 in
theorem sk_order_M {l : Launch} {G : am_G} {X : ck_XT} (g : gM l G X) {A_ M_ : Nat} (ha : A_ < M_) (hm : M_ ≤ 400) {h : List am_C} {mc ms : Nat} {Post : am_O → List am_C → Prop} (hP : ∀ v : Int, sk_o A_ M_ v → Post (.inl (some (.int (Int32.ofInt v)))) h) :
    am_M l G yX7_orderOf (.code yX7_orderOf prog_9_method_9_code 4 (some .int)) 1 20 mc ms [.int (Int32.ofInt (A_ : Int)), .int (Int32.ofInt (M_ : Int))] h Post := by
  refine gh_yX7_orderOf_X g (Nat.le_of_ble_eq_true rfl) fun S SX hs hr hw hx => ?_
  have rv : ∀ x : Int32, ck_fv 0 (.int x) := fun x => ⟨_, rfl⟩
  have loop : ∀ (n_ k_ W_ : Nat), k_ + n_ = M_ + 1 → 1 ≤ k_ → W_ ≤ 400 → sk_p A_ M_ k_ = W_ * A_ % M_ → (∀ j_ : Nat, 1 ≤ j_ → j_ < k_ → ¬ sk_p A_ M_ j_ = 1 % M_) → S 4 [some (.int (Int32.ofInt (A_ : Int))), some (.int (Int32.ofInt (M_ : Int))), some (.int (Int32.ofInt (W_ : Int))), some (.int (Int32.ofInt (k_ : Int)))] [] h 0 0 := by
    intro n_
    induction n_ with
    | zero =>
      intro k_ W_ hk_ hk1_ hW_ hs_ hn_
      have e_ : k_ = M_ + 1 := by omega
      rw [e_] at hn_ ⊢
      refine hs 4 _ rfl _ _ _ _ _ _ _ rfl ?_
      refine hs 5 _ rfl _ _ _ _ _ _ _ rfl ?_
      refine hs 6 _ rfl _ _ _ _ _ _ _ (fun _ => ?_) (fun zq => absurd (hd_c2t (c := 4) (by omega) (by omega) (by omega) (by omega) (by omega : 0 < (((M_ + 1 : Nat) : Int) - (M_ : Int)))) zq)
      refine hs 22 _ rfl _ _ _ _ _ _ _ rfl ?_
      exact hs 23 _ rfl _ _ _ _ _ (rv _) (Nat.zero_le _) (Nat.zero_le _) (hP 0 (Or.inr ⟨fun j_ hj_ hj2_ => hn_ j_ hj_ (by omega), rfl⟩))
    | succ n_ ih =>
      intro k_ W_ hk_ hk1_ hW_ hs_ hn_
      have b3_ : W_ * A_ % M_ < M_ := Nat.mod_lt _ (by omega)
      have b4_ : 1 % M_ < M_ := Nat.mod_lt _ (by omega)
      by_cases e0_ : W_ * A_ % M_ = 1 % M_
      · 
        refine hs 4 _ rfl _ _ _ _ _ _ _ rfl ?_
        refine hs 5 _ rfl _ _ _ _ _ _ _ rfl ?_
        refine hs 6 _ rfl _ _ _ _ _ _ _ (fun zq => absurd (hd_c2z (c := 4) (by omega) (by omega) (by omega) (by omega) zq) (by omega : ¬ (0 < ((k_ : Int) - (M_ : Int))))) (fun _ => ?_)
        refine hs 7 _ rfl _ _ _ _ _ _ _ rfl ?_
        refine hs 8 _ rfl _ _ _ _ _ _ _ rfl ?_
        refine hs 9 _ rfl _ _ _ _ _ _ _ hd_mul ?_
        refine hs 10 _ rfl _ _ _ _ _ _ _ rfl ?_
        refine hs 11 _ rfl _ _ _ _ _ _ _ (zt_rem (by omega) (by omega) (by omega) (by omega)) ?_
        refine hs 12 _ rfl _ _ _ _ _ _ _ rfl ?_
        refine hs 13 _ rfl _ _ _ _ _ _ _ rfl ?_
        refine hs 14 _ rfl _ _ _ _ _ _ _ rfl ?_
        refine hs 15 _ rfl _ _ _ _ _ _ _ rfl ?_
        refine hs 16 _ rfl _ _ _ _ _ _ _ (zt_rem1 (by omega) (by omega)) ?_
        refine hs 17 _ rfl _ _ _ _ _ _ _ (fun zq => absurd (hd_c2z (c := 1) (by omega) (by omega) (by omega) (by omega) zq) (by omega : ¬ ((((W_ * A_ % M_ : Nat) : Int) - ((1 % M_ : Nat) : Int)) ≠ 0))) (fun _ => ?_)
        refine hs 18 _ rfl _ _ _ _ _ _ _ rfl ?_
        exact hs 19 _ rfl _ _ _ _ _ (rv _) (Nat.zero_le _) (Nat.zero_le _) (hP (k_ : Int) (Or.inl ⟨k_, hk1_, by omega, hs_.trans e0_, hn_, rfl⟩))
      · have z_ := ih (k_ + 1) (W_ * A_ % M_) (by omega) (by omega) (by omega) (by rw [sk_p.s, hs_]) fun j_ hj_ hj2_ => by
          by_cases q_ : j_ = k_
          · rw [q_, hs_]
            exact e0_
          · exact hn_ j_ hj_ (by omega)
        refine hs 4 _ rfl _ _ _ _ _ _ _ rfl ?_
        refine hs 5 _ rfl _ _ _ _ _ _ _ rfl ?_
        refine hs 6 _ rfl _ _ _ _ _ _ _ (fun zq => absurd (hd_c2z (c := 4) (by omega) (by omega) (by omega) (by omega) zq) (by omega : ¬ (0 < ((k_ : Int) - (M_ : Int))))) (fun _ => ?_)
        refine hs 7 _ rfl _ _ _ _ _ _ _ rfl ?_
        refine hs 8 _ rfl _ _ _ _ _ _ _ rfl ?_
        refine hs 9 _ rfl _ _ _ _ _ _ _ hd_mul ?_
        refine hs 10 _ rfl _ _ _ _ _ _ _ rfl ?_
        refine hs 11 _ rfl _ _ _ _ _ _ _ (zt_rem (by omega) (by omega) (by omega) (by omega)) ?_
        refine hs 12 _ rfl _ _ _ _ _ _ _ rfl ?_
        refine hs 13 _ rfl _ _ _ _ _ _ _ rfl ?_
        refine hs 14 _ rfl _ _ _ _ _ _ _ rfl ?_
        refine hs 15 _ rfl _ _ _ _ _ _ _ rfl ?_
        refine hs 16 _ rfl _ _ _ _ _ _ _ (zt_rem1 (by omega) (by omega)) ?_
        refine hs 17 _ rfl _ _ _ _ _ _ _ (fun _ => ?_) (fun zq => absurd (hd_c2t (c := 1) (by omega) (by omega) (by omega) (by omega) (by omega : (((W_ * A_ % M_ : Nat) : Int) - ((1 % M_ : Nat) : Int)) ≠ 0)) zq)
        refine hs 20 _ rfl _ _ _ _ _ _ _ (hd_inc rfl) ?_
        refine hs 21 _ rfl _ _ _ _ _ ?_
        exact z_
  refine hs 0 _ rfl _ _ _ _ _ _ _ rfl ?_
  refine hs 1 _ rfl _ _ _ _ _ _ _ rfl ?_
  refine hs 2 _ rfl _ _ _ _ _ _ _ rfl ?_
  refine hs 3 _ rfl _ _ _ _ _ _ _ rfl ?_
  exact loop M_ 1 1 (by omega) (Nat.le_refl _) (by omega) sk_p.one (fun j_ hj_ hj2_ => absurd hj2_ (by omega))
set_option maxHeartbeats 4000000 in
theorem zk_sol_M {l : Launch} {G : am_G} {X : ck_XT} (g : gM l G X) {o : Nat → Nat} {x tx now qw : Nat} {th j m k : Int} {c : sp_S} {P : List sp_S} {h : List am_C} (hX : zm_x G h o x tx now qw th j m k c P) {A_ B_ M_ : Nat} (hM_ : c.1 = (M_ : Int)) (ha : A_ < M_) (hb : B_ < M_) (hm : M_ ≤ 400) {mc ms : Nat} {Post : am_O → List am_C → Prop} (hP : Post (.inl (some (.int (Int32.ofInt ((sk_n (sk_s A_ B_ M_) M_ : Nat) : Int))))) h) :
    am_M l G yX14_solved (.code yX14_solved prog_14_method_54_code 5 (some .int)) 1 20 mc ms [.ref x, .int (Int32.ofInt (A_ : Int)), .int (Int32.ofInt (B_ : Int))] h Post := by
  refine gh_yX14_solved_X g (Nat.le_of_ble_eq_true rfl) fun S SX hs hr hw hx => ?_
  have rv : ∀ x : Int32, ck_fv 0 (.int x) := fun x => ⟨_, rfl⟩
  obtain ⟨a1_, a2_, a3_, a4_⟩ := id hX
  obtain ⟨t_, qn_, ql_, qb_, s1_, up_⟩ := hX.dialL
  rw [hM_] at s1_
  have loop : ∀ (n_ x_ : Nat), x_ + n_ = M_ → S 5 [some (.ref x), some (.int (Int32.ofInt (A_ : Int))), some (.int (Int32.ofInt (B_ : Int))), some (.int (Int32.ofInt ((sk_n (sk_s A_ B_ M_) x_ : Nat) : Int))), some (.int (Int32.ofInt (x_ : Int)))] [] h 0 0 := by
    intro n_
    induction n_ with
    | zero =>
      intro x_ hx_
      have e_ : x_ = M_ := by omega
      rw [e_]
      refine hs 4 _ rfl _ _ _ _ _ _ _ rfl ?_
      refine hs 5 _ rfl _ _ _ _ _ _ _ rfl ?_
      refine hs 6 _ rfl _ _ _ _ _ _ _ _ _ (a1_) a2_.1 rfl ?_
      refine hs 7 _ rfl _ _ _ _ _ _ _ _ _ (s1_.1) s1_.2 rfl ?_
      refine hs 8 _ rfl _ _ _ _ _ _ _ (fun _ => ?_) (fun zq => absurd (hd_c2t (c := 3) (by omega) (by omega) (by omega) (by omega) (by omega : 0 ≤ ((M_ : Int) - (M_ : Int)))) zq)
      refine hs 21 _ rfl _ _ _ _ _ _ _ rfl ?_
      exact hs 22 _ rfl _ _ _ _ _ (rv _) (Nat.zero_le _) (Nat.zero_le _) hP
    | succ n_ ih =>
      intro x_ hx_
      have b3_ : A_ * x_ % M_ < M_ := Nat.mod_lt _ (by omega)
      have c0_ := sk_n.le (sk_s A_ B_ M_) x_
      have z_ := ih (x_ + 1) (by omega)
      by_cases e0_ : A_ * x_ % M_ = B_
      · rw [sk_n.yes (p := (sk_s A_ B_ M_)) (n := x_) (sk_b e0_)] at z_
        refine hs 4 _ rfl _ _ _ _ _ _ _ rfl ?_
        refine hs 5 _ rfl _ _ _ _ _ _ _ rfl ?_
        refine hs 6 _ rfl _ _ _ _ _ _ _ _ _ (a1_) a2_.1 rfl ?_
        refine hs 7 _ rfl _ _ _ _ _ _ _ _ _ (s1_.1) s1_.2 rfl ?_
        refine hs 8 _ rfl _ _ _ _ _ _ _ (fun zq => absurd (hd_c2z (c := 3) (by omega) (by omega) (by omega) (by omega) zq) (by omega : ¬ (0 ≤ ((x_ : Int) - (M_ : Int))))) (fun _ => ?_)
        refine hs 9 _ rfl _ _ _ _ _ _ _ rfl ?_
        refine hs 10 _ rfl _ _ _ _ _ _ _ rfl ?_
        refine hs 11 _ rfl _ _ _ _ _ _ _ hd_mul ?_
        refine hs 12 _ rfl _ _ _ _ _ _ _ rfl ?_
        refine hs 13 _ rfl _ _ _ _ _ _ _ _ _ (a1_) a2_.1 rfl ?_
        refine hs 14 _ rfl _ _ _ _ _ _ _ _ _ (s1_.1) s1_.2 rfl ?_
        refine hs 15 _ rfl _ _ _ _ _ _ _ (zt_rem (by omega) (by omega) (by omega) (by omega)) ?_
        refine hs 16 _ rfl _ _ _ _ _ _ _ rfl ?_
        refine hs 17 _ rfl _ _ _ _ _ _ _ (fun zq => absurd (hd_c2z (c := 1) (by omega) (by omega) (by omega) (by omega) zq) (by omega : ¬ ((((A_ * x_ % M_ : Nat) : Int) - (B_ : Int)) ≠ 0))) (fun _ => ?_)
        refine hs 18 _ rfl _ _ _ _ _ _ _ (hd_inc rfl) ?_
        refine hs 19 _ rfl _ _ _ _ _ _ _ (hd_inc rfl) ?_
        refine hs 20 _ rfl _ _ _ _ _ ?_
        exact z_
      · rw [sk_n.no (p := (sk_s A_ B_ M_)) (n := x_) (sk_bn e0_)] at z_
        refine hs 4 _ rfl _ _ _ _ _ _ _ rfl ?_
        refine hs 5 _ rfl _ _ _ _ _ _ _ rfl ?_
        refine hs 6 _ rfl _ _ _ _ _ _ _ _ _ (a1_) a2_.1 rfl ?_
        refine hs 7 _ rfl _ _ _ _ _ _ _ _ _ (s1_.1) s1_.2 rfl ?_
        refine hs 8 _ rfl _ _ _ _ _ _ _ (fun zq => absurd (hd_c2z (c := 3) (by omega) (by omega) (by omega) (by omega) zq) (by omega : ¬ (0 ≤ ((x_ : Int) - (M_ : Int))))) (fun _ => ?_)
        refine hs 9 _ rfl _ _ _ _ _ _ _ rfl ?_
        refine hs 10 _ rfl _ _ _ _ _ _ _ rfl ?_
        refine hs 11 _ rfl _ _ _ _ _ _ _ hd_mul ?_
        refine hs 12 _ rfl _ _ _ _ _ _ _ rfl ?_
        refine hs 13 _ rfl _ _ _ _ _ _ _ _ _ (a1_) a2_.1 rfl ?_
        refine hs 14 _ rfl _ _ _ _ _ _ _ _ _ (s1_.1) s1_.2 rfl ?_
        refine hs 15 _ rfl _ _ _ _ _ _ _ (zt_rem (by omega) (by omega) (by omega) (by omega)) ?_
        refine hs 16 _ rfl _ _ _ _ _ _ _ rfl ?_
        refine hs 17 _ rfl _ _ _ _ _ _ _ (fun _ => ?_) (fun zq => absurd (hd_c2t (c := 1) (by omega) (by omega) (by omega) (by omega) (by omega : (((A_ * x_ % M_ : Nat) : Int) - (B_ : Int)) ≠ 0)) zq)
        refine hs 19 _ rfl _ _ _ _ _ _ _ (hd_inc rfl) ?_
        refine hs 20 _ rfl _ _ _ _ _ ?_
        exact z_
  refine hs 0 _ rfl _ _ _ _ _ _ _ rfl ?_
  refine hs 1 _ rfl _ _ _ _ _ _ _ rfl ?_
  refine hs 2 _ rfl _ _ _ _ _ _ _ rfl ?_
  refine hs 3 _ rfl _ _ _ _ _ _ _ rfl ?_
  exact loop M_ 0 (by omega)
set_option maxHeartbeats 4000000 in
theorem zk_roots_M {l : Launch} {G : am_G} {X : ck_XT} (g : gM l G X) {A_ M_ : Nat} (ha : A_ < M_) (hm : M_ ≤ 400) {h : List am_C} {mc ms : Nat} {Post : am_O → List am_C → Prop} (hP : Post (.inl (some (.int (Int32.ofInt ((sk_n (sk_r A_ M_) M_ : Nat) : Int))))) h) :
    am_M l G yX14_rooted (.code yX14_rooted prog_14_method_70_code 4 (some .int)) 1 20 mc ms [.int (Int32.ofInt (A_ : Int)), .int (Int32.ofInt (M_ : Int))] h Post := by
  refine gh_yX14_rooted_X g (Nat.le_of_ble_eq_true rfl) fun S SX hs hr hw hx => ?_
  have rv : ∀ x : Int32, ck_fv 0 (.int x) := fun x => ⟨_, rfl⟩
  have loop : ∀ (n_ x_ : Nat), x_ + n_ = M_ → S 4 [some (.int (Int32.ofInt (A_ : Int))), some (.int (Int32.ofInt (M_ : Int))), some (.int (Int32.ofInt ((sk_n (sk_r A_ M_) x_ : Nat) : Int))), some (.int (Int32.ofInt (x_ : Int)))] [] h 0 0 := by
    intro n_
    induction n_ with
    | zero =>
      intro x_ hx_
      have e_ : x_ = M_ := by omega
      rw [e_]
      refine hs 4 _ rfl _ _ _ _ _ _ _ rfl ?_
      refine hs 5 _ rfl _ _ _ _ _ _ _ rfl ?_
      refine hs 6 _ rfl _ _ _ _ _ _ _ (fun _ => ?_) (fun zq => absurd (hd_c2t (c := 3) (by omega) (by omega) (by omega) (by omega) (by omega : 0 ≤ ((M_ : Int) - (M_ : Int)))) zq)
      refine hs 17 _ rfl _ _ _ _ _ _ _ rfl ?_
      exact hs 18 _ rfl _ _ _ _ _ (rv _) (Nat.zero_le _) (Nat.zero_le _) hP
    | succ n_ ih =>
      intro x_ hx_
      have b3_ : x_ * x_ % M_ < M_ := Nat.mod_lt _ (by omega)
      have c0_ := sk_n.le (sk_r A_ M_) x_
      have z_ := ih (x_ + 1) (by omega)
      by_cases e0_ : x_ * x_ % M_ = A_
      · rw [sk_n.yes (p := (sk_r A_ M_)) (n := x_) (sk_b e0_)] at z_
        refine hs 4 _ rfl _ _ _ _ _ _ _ rfl ?_
        refine hs 5 _ rfl _ _ _ _ _ _ _ rfl ?_
        refine hs 6 _ rfl _ _ _ _ _ _ _ (fun zq => absurd (hd_c2z (c := 3) (by omega) (by omega) (by omega) (by omega) zq) (by omega : ¬ (0 ≤ ((x_ : Int) - (M_ : Int))))) (fun _ => ?_)
        refine hs 7 _ rfl _ _ _ _ _ _ _ rfl ?_
        refine hs 8 _ rfl _ _ _ _ _ _ _ rfl ?_
        refine hs 9 _ rfl _ _ _ _ _ _ _ hd_mul ?_
        refine hs 10 _ rfl _ _ _ _ _ _ _ rfl ?_
        refine hs 11 _ rfl _ _ _ _ _ _ _ (zt_rem (by omega) (by omega) (by omega) (by omega)) ?_
        refine hs 12 _ rfl _ _ _ _ _ _ _ rfl ?_
        refine hs 13 _ rfl _ _ _ _ _ _ _ (fun zq => absurd (hd_c2z (c := 1) (by omega) (by omega) (by omega) (by omega) zq) (by omega : ¬ ((((x_ * x_ % M_ : Nat) : Int) - (A_ : Int)) ≠ 0))) (fun _ => ?_)
        refine hs 14 _ rfl _ _ _ _ _ _ _ (hd_inc rfl) ?_
        refine hs 15 _ rfl _ _ _ _ _ _ _ (hd_inc rfl) ?_
        refine hs 16 _ rfl _ _ _ _ _ ?_
        exact z_
      · rw [sk_n.no (p := (sk_r A_ M_)) (n := x_) (sk_bn e0_)] at z_
        refine hs 4 _ rfl _ _ _ _ _ _ _ rfl ?_
        refine hs 5 _ rfl _ _ _ _ _ _ _ rfl ?_
        refine hs 6 _ rfl _ _ _ _ _ _ _ (fun zq => absurd (hd_c2z (c := 3) (by omega) (by omega) (by omega) (by omega) zq) (by omega : ¬ (0 ≤ ((x_ : Int) - (M_ : Int))))) (fun _ => ?_)
        refine hs 7 _ rfl _ _ _ _ _ _ _ rfl ?_
        refine hs 8 _ rfl _ _ _ _ _ _ _ rfl ?_
        refine hs 9 _ rfl _ _ _ _ _ _ _ hd_mul ?_
        refine hs 10 _ rfl _ _ _ _ _ _ _ rfl ?_
        refine hs 11 _ rfl _ _ _ _ _ _ _ (zt_rem (by omega) (by omega) (by omega) (by omega)) ?_
        refine hs 12 _ rfl _ _ _ _ _ _ _ rfl ?_
        refine hs 13 _ rfl _ _ _ _ _ _ _ (fun _ => ?_) (fun zq => absurd (hd_c2t (c := 1) (by omega) (by omega) (by omega) (by omega) (by omega : (((x_ * x_ % M_ : Nat) : Int) - (A_ : Int)) ≠ 0)) zq)
        refine hs 15 _ rfl _ _ _ _ _ _ _ (hd_inc rfl) ?_
        refine hs 16 _ rfl _ _ _ _ _ ?_
        exact z_
  refine hs 0 _ rfl _ _ _ _ _ _ _ rfl ?_
  refine hs 1 _ rfl _ _ _ _ _ _ _ rfl ?_
  refine hs 2 _ rfl _ _ _ _ _ _ _ rfl ?_
  refine hs 3 _ rfl _ _ _ _ _ _ _ rfl ?_
  exact loop M_ 0 (by omega)
set_option maxHeartbeats 4000000 in
theorem zk_solAt_M {l : Launch} {G : am_G} {X : ck_XT} (g : gM l G X) {o : Nat → Nat} {x tx now qw : Nat} {th j m k : Int} {c : sp_S} {P : List sp_S} {h : List am_C} (hX : zm_x G h o x tx now qw th j m k c P) {A_ B_ M_ : Nat} (hM_ : c.1 = (M_ : Int)) (ha : A_ < M_) (hb : B_ < M_) (hm : M_ ≤ 400) {pl_ : Int} (hpl : 0 ≤ pl_) (hpl2 : pl_ ≤ 2147483647) {mc ms : Nat} {Post : am_O → List am_C → Prop} (hP : ∀ v : Int, sk_at (sk_s A_ B_ M_) M_ pl_ v → Post (.inl (some (.int (Int32.ofInt v)))) h) :
    am_M l G yX14_solutionAt (.code yX14_solutionAt prog_14_method_56_code 6 (some .int)) 1 20 mc ms [.ref x, .int (Int32.ofInt (A_ : Int)), .int (Int32.ofInt (B_ : Int)), .int (Int32.ofInt pl_)] h Post := by
  refine gh_yX14_solutionAt_X g (Nat.le_of_ble_eq_true rfl) fun S SX hs hr hw hx => ?_
  have rv : ∀ x : Int32, ck_fv 0 (.int x) := fun x => ⟨_, rfl⟩
  obtain ⟨a1_, a2_, a3_, a4_⟩ := id hX
  obtain ⟨t_, qn_, ql_, qb_, s1_, up_⟩ := hX.dialL
  rw [hM_] at s1_
  have loop : ∀ (n_ x_ : Nat), x_ + n_ = M_ → (∀ y_ : Nat, y_ < x_ → (sk_s A_ B_ M_) y_ = true → ¬ ((sk_n (sk_s A_ B_ M_) y_ : Nat) : Int) = pl_) → S 6 [some (.ref x), some (.int (Int32.ofInt (A_ : Int))), some (.int (Int32.ofInt (B_ : Int))), some (.int (Int32.ofInt pl_)), some (.int (Int32.ofInt (pl_ - ((sk_n (sk_s A_ B_ M_) x_ : Nat) : Int)))), some (.int (Int32.ofInt (x_ : Int)))] [] h 0 0 := by
    intro n_
    induction n_ with
    | zero =>
      intro x_ hx_ hn_
      have e_ : x_ = M_ := by omega
      rw [e_] at hn_ ⊢
      have c0_ := sk_n.le (sk_s A_ B_ M_) M_
      refine hs 4 _ rfl _ _ _ _ _ _ _ rfl ?_
      refine hs 5 _ rfl _ _ _ _ _ _ _ rfl ?_
      refine hs 6 _ rfl _ _ _ _ _ _ _ _ _ (a1_) a2_.1 rfl ?_
      refine hs 7 _ rfl _ _ _ _ _ _ _ _ _ (s1_.1) s1_.2 rfl ?_
      refine hs 8 _ rfl _ _ _ _ _ _ _ (fun _ => ?_) (fun zq => absurd (hd_c2t (c := 3) (by omega) (by omega) (by omega) (by omega) (by omega : 0 ≤ ((M_ : Int) - (M_ : Int)))) zq)
      refine hs 25 _ rfl _ _ _ _ _ _ _ rfl ?_
      exact hs 26 _ rfl _ _ _ _ _ (rv _) (Nat.zero_le _) (Nat.zero_le _) (hP (-1) (Or.inr ⟨hn_, rfl⟩))
    | succ n_ ih =>
      intro x_ hx_ hn_
      have b3_ : A_ * x_ % M_ < M_ := Nat.mod_lt _ (by omega)
      have c0_ := sk_n.le (sk_s A_ B_ M_) x_
      by_cases e0_ : A_ * x_ % M_ = B_
      · by_cases e2_ : ((sk_n (sk_s A_ B_ M_) x_ : Nat) : Int) = pl_
        · 
          refine hs 4 _ rfl _ _ _ _ _ _ _ rfl ?_
          refine hs 5 _ rfl _ _ _ _ _ _ _ rfl ?_
          refine hs 6 _ rfl _ _ _ _ _ _ _ _ _ (a1_) a2_.1 rfl ?_
          refine hs 7 _ rfl _ _ _ _ _ _ _ _ _ (s1_.1) s1_.2 rfl ?_
          refine hs 8 _ rfl _ _ _ _ _ _ _ (fun zq => absurd (hd_c2z (c := 3) (by omega) (by omega) (by omega) (by omega) zq) (by omega : ¬ (0 ≤ ((x_ : Int) - (M_ : Int))))) (fun _ => ?_)
          refine hs 9 _ rfl _ _ _ _ _ _ _ rfl ?_
          refine hs 10 _ rfl _ _ _ _ _ _ _ rfl ?_
          refine hs 11 _ rfl _ _ _ _ _ _ _ hd_mul ?_
          refine hs 12 _ rfl _ _ _ _ _ _ _ rfl ?_
          refine hs 13 _ rfl _ _ _ _ _ _ _ _ _ (a1_) a2_.1 rfl ?_
          refine hs 14 _ rfl _ _ _ _ _ _ _ _ _ (s1_.1) s1_.2 rfl ?_
          refine hs 15 _ rfl _ _ _ _ _ _ _ (zt_rem (by omega) (by omega) (by omega) (by omega)) ?_
          refine hs 16 _ rfl _ _ _ _ _ _ _ rfl ?_
          refine hs 17 _ rfl _ _ _ _ _ _ _ (fun zq => absurd (hd_c2z (c := 1) (by omega) (by omega) (by omega) (by omega) zq) (by omega : ¬ ((((A_ * x_ % M_ : Nat) : Int) - (B_ : Int)) ≠ 0))) (fun _ => ?_)
          refine hs 18 _ rfl _ _ _ _ _ _ _ rfl ?_
          refine hs 19 _ rfl _ _ _ _ _ _ _ (hd_inc rfl) ?_
          refine hs 20 _ rfl _ _ _ _ _ _ (fun zq => absurd (hd_c1z (c := 1) (by omega) (by omega) zq) (by omega : ¬ ((pl_ - ((sk_n (sk_s A_ B_ M_) x_ : Nat) : Int)) ≠ 0))) (fun _ => ?_)
          refine hs 21 _ rfl _ _ _ _ _ _ _ rfl ?_
          exact hs 22 _ rfl _ _ _ _ _ (rv _) (Nat.zero_le _) (Nat.zero_le _) (hP (x_ : Int) (Or.inl ⟨x_, by omega, sk_b e0_, e2_, rfl⟩))
        · have z_ := ih (x_ + 1) (by omega) fun y_ hy_ hp_ => by
            by_cases q_ : y_ = x_
            · rw [q_]
              exact e2_
            · exact hn_ y_ (by omega) hp_
          rw [sk_n.yes (p := (sk_s A_ B_ M_)) (n := x_) (sk_b e0_), show pl_ - ((sk_n (sk_s A_ B_ M_) x_ + 1 : Nat) : Int) = pl_ - ((sk_n (sk_s A_ B_ M_) x_ : Nat) : Int) + (-1) by omega] at z_
          refine hs 4 _ rfl _ _ _ _ _ _ _ rfl ?_
          refine hs 5 _ rfl _ _ _ _ _ _ _ rfl ?_
          refine hs 6 _ rfl _ _ _ _ _ _ _ _ _ (a1_) a2_.1 rfl ?_
          refine hs 7 _ rfl _ _ _ _ _ _ _ _ _ (s1_.1) s1_.2 rfl ?_
          refine hs 8 _ rfl _ _ _ _ _ _ _ (fun zq => absurd (hd_c2z (c := 3) (by omega) (by omega) (by omega) (by omega) zq) (by omega : ¬ (0 ≤ ((x_ : Int) - (M_ : Int))))) (fun _ => ?_)
          refine hs 9 _ rfl _ _ _ _ _ _ _ rfl ?_
          refine hs 10 _ rfl _ _ _ _ _ _ _ rfl ?_
          refine hs 11 _ rfl _ _ _ _ _ _ _ hd_mul ?_
          refine hs 12 _ rfl _ _ _ _ _ _ _ rfl ?_
          refine hs 13 _ rfl _ _ _ _ _ _ _ _ _ (a1_) a2_.1 rfl ?_
          refine hs 14 _ rfl _ _ _ _ _ _ _ _ _ (s1_.1) s1_.2 rfl ?_
          refine hs 15 _ rfl _ _ _ _ _ _ _ (zt_rem (by omega) (by omega) (by omega) (by omega)) ?_
          refine hs 16 _ rfl _ _ _ _ _ _ _ rfl ?_
          refine hs 17 _ rfl _ _ _ _ _ _ _ (fun zq => absurd (hd_c2z (c := 1) (by omega) (by omega) (by omega) (by omega) zq) (by omega : ¬ ((((A_ * x_ % M_ : Nat) : Int) - (B_ : Int)) ≠ 0))) (fun _ => ?_)
          refine hs 18 _ rfl _ _ _ _ _ _ _ rfl ?_
          refine hs 19 _ rfl _ _ _ _ _ _ _ (hd_inc rfl) ?_
          refine hs 20 _ rfl _ _ _ _ _ _ (fun _ => ?_) (fun zq => absurd (hd_c1t (c := 1) (by omega) (by omega) (by omega : (pl_ - ((sk_n (sk_s A_ B_ M_) x_ : Nat) : Int)) ≠ 0)) zq)
          refine hs 23 _ rfl _ _ _ _ _ _ _ (hd_inc rfl) ?_
          refine hs 24 _ rfl _ _ _ _ _ ?_
          exact z_
      · have z_ := ih (x_ + 1) (by omega) fun y_ hy_ hp_ => by
          by_cases q_ : y_ = x_
          · rw [q_] at hp_
            exact absurd (ck_beq hp_) e0_
          · exact hn_ y_ (by omega) hp_
        rw [sk_n.no (p := (sk_s A_ B_ M_)) (n := x_) (sk_bn e0_)] at z_
        refine hs 4 _ rfl _ _ _ _ _ _ _ rfl ?_
        refine hs 5 _ rfl _ _ _ _ _ _ _ rfl ?_
        refine hs 6 _ rfl _ _ _ _ _ _ _ _ _ (a1_) a2_.1 rfl ?_
        refine hs 7 _ rfl _ _ _ _ _ _ _ _ _ (s1_.1) s1_.2 rfl ?_
        refine hs 8 _ rfl _ _ _ _ _ _ _ (fun zq => absurd (hd_c2z (c := 3) (by omega) (by omega) (by omega) (by omega) zq) (by omega : ¬ (0 ≤ ((x_ : Int) - (M_ : Int))))) (fun _ => ?_)
        refine hs 9 _ rfl _ _ _ _ _ _ _ rfl ?_
        refine hs 10 _ rfl _ _ _ _ _ _ _ rfl ?_
        refine hs 11 _ rfl _ _ _ _ _ _ _ hd_mul ?_
        refine hs 12 _ rfl _ _ _ _ _ _ _ rfl ?_
        refine hs 13 _ rfl _ _ _ _ _ _ _ _ _ (a1_) a2_.1 rfl ?_
        refine hs 14 _ rfl _ _ _ _ _ _ _ _ _ (s1_.1) s1_.2 rfl ?_
        refine hs 15 _ rfl _ _ _ _ _ _ _ (zt_rem (by omega) (by omega) (by omega) (by omega)) ?_
        refine hs 16 _ rfl _ _ _ _ _ _ _ rfl ?_
        refine hs 17 _ rfl _ _ _ _ _ _ _ (fun _ => ?_) (fun zq => absurd (hd_c2t (c := 1) (by omega) (by omega) (by omega) (by omega) (by omega : (((A_ * x_ % M_ : Nat) : Int) - (B_ : Int)) ≠ 0)) zq)
        refine hs 23 _ rfl _ _ _ _ _ _ _ (hd_inc rfl) ?_
        refine hs 24 _ rfl _ _ _ _ _ ?_
        exact z_
  refine hs 0 _ rfl _ _ _ _ _ _ _ rfl ?_
  refine hs 1 _ rfl _ _ _ _ _ _ _ rfl ?_
  refine hs 2 _ rfl _ _ _ _ _ _ _ rfl ?_
  refine hs 3 _ rfl _ _ _ _ _ _ _ rfl ?_
  have z_ := loop M_ 0 (by omega) (fun y_ hy_ => absurd hy_ (by omega))
  rw [show pl_ - ((sk_n (sk_s A_ B_ M_) 0 : Nat) : Int) = pl_ by show pl_ - ((0 : Nat) : Int) = pl_; omega] at z_
  exact z_
set_option maxHeartbeats 4000000 in
theorem zk_rootAt_M {l : Launch} {G : am_G} {X : ck_XT} (g : gM l G X) {o : Nat → Nat} {x tx now qw : Nat} {th j m k : Int} {c : sp_S} {P : List sp_S} {h : List am_C} (hX : zm_x G h o x tx now qw th j m k c P) {A_ M_ : Nat} (hM_ : c.1 = (M_ : Int)) (ha : A_ < M_) (hm : M_ ≤ 400) {pl_ : Int} (hpl : 0 ≤ pl_) (hpl2 : pl_ ≤ 2147483647) {mc ms : Nat} {Post : am_O → List am_C → Prop} (hP : ∀ v : Int, sk_at (sk_r A_ M_) M_ pl_ v → Post (.inl (some (.int (Int32.ofInt v)))) h) :
    am_M l G yX14_rootAt (.code yX14_rootAt prog_14_method_72_code 5 (some .int)) 1 20 mc ms [.ref x, .int (Int32.ofInt (A_ : Int)), .int (Int32.ofInt pl_)] h Post := by
  refine gh_yX14_rootAt_X g (Nat.le_of_ble_eq_true rfl) fun S SX hs hr hw hx => ?_
  have rv : ∀ x : Int32, ck_fv 0 (.int x) := fun x => ⟨_, rfl⟩
  obtain ⟨a1_, a2_, a3_, a4_⟩ := id hX
  obtain ⟨t_, qn_, ql_, qb_, s1_, up_⟩ := hX.dialL
  rw [hM_] at s1_
  have loop : ∀ (n_ x_ : Nat), x_ + n_ = M_ → (∀ y_ : Nat, y_ < x_ → (sk_r A_ M_) y_ = true → ¬ ((sk_n (sk_r A_ M_) y_ : Nat) : Int) = pl_) → S 5 [some (.ref x), some (.int (Int32.ofInt (A_ : Int))), some (.int (Int32.ofInt pl_)), some (.int (Int32.ofInt (pl_ - ((sk_n (sk_r A_ M_) x_ : Nat) : Int)))), some (.int (Int32.ofInt (x_ : Int)))] [] h 0 0 := by
    intro n_
    induction n_ with
    | zero =>
      intro x_ hx_ hn_
      have e_ : x_ = M_ := by omega
      rw [e_] at hn_ ⊢
      have c0_ := sk_n.le (sk_r A_ M_) M_
      refine hs 4 _ rfl _ _ _ _ _ _ _ rfl ?_
      refine hs 5 _ rfl _ _ _ _ _ _ _ rfl ?_
      refine hs 6 _ rfl _ _ _ _ _ _ _ _ _ (a1_) a2_.1 rfl ?_
      refine hs 7 _ rfl _ _ _ _ _ _ _ _ _ (s1_.1) s1_.2 rfl ?_
      refine hs 8 _ rfl _ _ _ _ _ _ _ (fun _ => ?_) (fun zq => absurd (hd_c2t (c := 3) (by omega) (by omega) (by omega) (by omega) (by omega : 0 ≤ ((M_ : Int) - (M_ : Int)))) zq)
      refine hs 25 _ rfl _ _ _ _ _ _ _ rfl ?_
      exact hs 26 _ rfl _ _ _ _ _ (rv _) (Nat.zero_le _) (Nat.zero_le _) (hP (-1) (Or.inr ⟨hn_, rfl⟩))
    | succ n_ ih =>
      intro x_ hx_ hn_
      have b3_ : x_ * x_ % M_ < M_ := Nat.mod_lt _ (by omega)
      have c0_ := sk_n.le (sk_r A_ M_) x_
      by_cases e0_ : x_ * x_ % M_ = A_
      · by_cases e2_ : ((sk_n (sk_r A_ M_) x_ : Nat) : Int) = pl_
        · 
          refine hs 4 _ rfl _ _ _ _ _ _ _ rfl ?_
          refine hs 5 _ rfl _ _ _ _ _ _ _ rfl ?_
          refine hs 6 _ rfl _ _ _ _ _ _ _ _ _ (a1_) a2_.1 rfl ?_
          refine hs 7 _ rfl _ _ _ _ _ _ _ _ _ (s1_.1) s1_.2 rfl ?_
          refine hs 8 _ rfl _ _ _ _ _ _ _ (fun zq => absurd (hd_c2z (c := 3) (by omega) (by omega) (by omega) (by omega) zq) (by omega : ¬ (0 ≤ ((x_ : Int) - (M_ : Int))))) (fun _ => ?_)
          refine hs 9 _ rfl _ _ _ _ _ _ _ rfl ?_
          refine hs 10 _ rfl _ _ _ _ _ _ _ rfl ?_
          refine hs 11 _ rfl _ _ _ _ _ _ _ hd_mul ?_
          refine hs 12 _ rfl _ _ _ _ _ _ _ rfl ?_
          refine hs 13 _ rfl _ _ _ _ _ _ _ _ _ (a1_) a2_.1 rfl ?_
          refine hs 14 _ rfl _ _ _ _ _ _ _ _ _ (s1_.1) s1_.2 rfl ?_
          refine hs 15 _ rfl _ _ _ _ _ _ _ (zt_rem (by omega) (by omega) (by omega) (by omega)) ?_
          refine hs 16 _ rfl _ _ _ _ _ _ _ rfl ?_
          refine hs 17 _ rfl _ _ _ _ _ _ _ (fun zq => absurd (hd_c2z (c := 1) (by omega) (by omega) (by omega) (by omega) zq) (by omega : ¬ ((((x_ * x_ % M_ : Nat) : Int) - (A_ : Int)) ≠ 0))) (fun _ => ?_)
          refine hs 18 _ rfl _ _ _ _ _ _ _ rfl ?_
          refine hs 19 _ rfl _ _ _ _ _ _ _ (hd_inc rfl) ?_
          refine hs 20 _ rfl _ _ _ _ _ _ (fun zq => absurd (hd_c1z (c := 1) (by omega) (by omega) zq) (by omega : ¬ ((pl_ - ((sk_n (sk_r A_ M_) x_ : Nat) : Int)) ≠ 0))) (fun _ => ?_)
          refine hs 21 _ rfl _ _ _ _ _ _ _ rfl ?_
          exact hs 22 _ rfl _ _ _ _ _ (rv _) (Nat.zero_le _) (Nat.zero_le _) (hP (x_ : Int) (Or.inl ⟨x_, by omega, sk_b e0_, e2_, rfl⟩))
        · have z_ := ih (x_ + 1) (by omega) fun y_ hy_ hp_ => by
            by_cases q_ : y_ = x_
            · rw [q_]
              exact e2_
            · exact hn_ y_ (by omega) hp_
          rw [sk_n.yes (p := (sk_r A_ M_)) (n := x_) (sk_b e0_), show pl_ - ((sk_n (sk_r A_ M_) x_ + 1 : Nat) : Int) = pl_ - ((sk_n (sk_r A_ M_) x_ : Nat) : Int) + (-1) by omega] at z_
          refine hs 4 _ rfl _ _ _ _ _ _ _ rfl ?_
          refine hs 5 _ rfl _ _ _ _ _ _ _ rfl ?_
          refine hs 6 _ rfl _ _ _ _ _ _ _ _ _ (a1_) a2_.1 rfl ?_
          refine hs 7 _ rfl _ _ _ _ _ _ _ _ _ (s1_.1) s1_.2 rfl ?_
          refine hs 8 _ rfl _ _ _ _ _ _ _ (fun zq => absurd (hd_c2z (c := 3) (by omega) (by omega) (by omega) (by omega) zq) (by omega : ¬ (0 ≤ ((x_ : Int) - (M_ : Int))))) (fun _ => ?_)
          refine hs 9 _ rfl _ _ _ _ _ _ _ rfl ?_
          refine hs 10 _ rfl _ _ _ _ _ _ _ rfl ?_
          refine hs 11 _ rfl _ _ _ _ _ _ _ hd_mul ?_
          refine hs 12 _ rfl _ _ _ _ _ _ _ rfl ?_
          refine hs 13 _ rfl _ _ _ _ _ _ _ _ _ (a1_) a2_.1 rfl ?_
          refine hs 14 _ rfl _ _ _ _ _ _ _ _ _ (s1_.1) s1_.2 rfl ?_
          refine hs 15 _ rfl _ _ _ _ _ _ _ (zt_rem (by omega) (by omega) (by omega) (by omega)) ?_
          refine hs 16 _ rfl _ _ _ _ _ _ _ rfl ?_
          refine hs 17 _ rfl _ _ _ _ _ _ _ (fun zq => absurd (hd_c2z (c := 1) (by omega) (by omega) (by omega) (by omega) zq) (by omega : ¬ ((((x_ * x_ % M_ : Nat) : Int) - (A_ : Int)) ≠ 0))) (fun _ => ?_)
          refine hs 18 _ rfl _ _ _ _ _ _ _ rfl ?_
          refine hs 19 _ rfl _ _ _ _ _ _ _ (hd_inc rfl) ?_
          refine hs 20 _ rfl _ _ _ _ _ _ (fun _ => ?_) (fun zq => absurd (hd_c1t (c := 1) (by omega) (by omega) (by omega : (pl_ - ((sk_n (sk_r A_ M_) x_ : Nat) : Int)) ≠ 0)) zq)
          refine hs 23 _ rfl _ _ _ _ _ _ _ (hd_inc rfl) ?_
          refine hs 24 _ rfl _ _ _ _ _ ?_
          exact z_
      · have z_ := ih (x_ + 1) (by omega) fun y_ hy_ hp_ => by
          by_cases q_ : y_ = x_
          · rw [q_] at hp_
            exact absurd (ck_beq hp_) e0_
          · exact hn_ y_ (by omega) hp_
        rw [sk_n.no (p := (sk_r A_ M_)) (n := x_) (sk_bn e0_)] at z_
        refine hs 4 _ rfl _ _ _ _ _ _ _ rfl ?_
        refine hs 5 _ rfl _ _ _ _ _ _ _ rfl ?_
        refine hs 6 _ rfl _ _ _ _ _ _ _ _ _ (a1_) a2_.1 rfl ?_
        refine hs 7 _ rfl _ _ _ _ _ _ _ _ _ (s1_.1) s1_.2 rfl ?_
        refine hs 8 _ rfl _ _ _ _ _ _ _ (fun zq => absurd (hd_c2z (c := 3) (by omega) (by omega) (by omega) (by omega) zq) (by omega : ¬ (0 ≤ ((x_ : Int) - (M_ : Int))))) (fun _ => ?_)
        refine hs 9 _ rfl _ _ _ _ _ _ _ rfl ?_
        refine hs 10 _ rfl _ _ _ _ _ _ _ rfl ?_
        refine hs 11 _ rfl _ _ _ _ _ _ _ hd_mul ?_
        refine hs 12 _ rfl _ _ _ _ _ _ _ rfl ?_
        refine hs 13 _ rfl _ _ _ _ _ _ _ _ _ (a1_) a2_.1 rfl ?_
        refine hs 14 _ rfl _ _ _ _ _ _ _ _ _ (s1_.1) s1_.2 rfl ?_
        refine hs 15 _ rfl _ _ _ _ _ _ _ (zt_rem (by omega) (by omega) (by omega) (by omega)) ?_
        refine hs 16 _ rfl _ _ _ _ _ _ _ rfl ?_
        refine hs 17 _ rfl _ _ _ _ _ _ _ (fun _ => ?_) (fun zq => absurd (hd_c2t (c := 1) (by omega) (by omega) (by omega) (by omega) (by omega : (((x_ * x_ % M_ : Nat) : Int) - (A_ : Int)) ≠ 0)) zq)
        refine hs 23 _ rfl _ _ _ _ _ _ _ (hd_inc rfl) ?_
        refine hs 24 _ rfl _ _ _ _ _ ?_
        exact z_
  refine hs 0 _ rfl _ _ _ _ _ _ _ rfl ?_
  refine hs 1 _ rfl _ _ _ _ _ _ _ rfl ?_
  refine hs 2 _ rfl _ _ _ _ _ _ _ rfl ?_
  refine hs 3 _ rfl _ _ _ _ _ _ _ rfl ?_
  have z_ := loop M_ 0 (by omega) (fun y_ hy_ => absurd hy_ (by omega))
  rw [show pl_ - ((sk_n (sk_r A_ M_) 0 : Nat) : Int) = pl_ by show pl_ - ((0 : Nat) : Int) = pl_; omega] at z_
  exact z_
set_option maxHeartbeats 4000000 in
theorem zk_order_M {l : Launch} {G : am_G} {X : ck_XT} (g : gM l G X) {o : Nat → Nat} {x tx now qw : Nat} {th j m k : Int} {c : sp_S} {P : List sp_S} {h : List am_C} (hX : zm_x G h o x tx now qw th j m k c P) {A_ M_ : Nat} (hM_ : c.1 = (M_ : Int)) (ha : A_ < M_) (hm : M_ ≤ 400) {mc ms : Nat} {Post : am_O → List am_C → Prop} (hP : ∀ v : Int, sk_o A_ M_ v → Post (.inl (some (.int (Int32.ofInt v)))) h) :
    am_M l G yX14_orderOf (.code yX14_orderOf prog_14_method_61_code 4 (some .int)) 1 20 mc ms [.ref x, .int (Int32.ofInt (A_ : Int))] h Post := by
  refine gh_yX14_orderOf_X g (Nat.le_of_ble_eq_true rfl) fun S SX hs hr hw hx => ?_
  have rv : ∀ x : Int32, ck_fv 0 (.int x) := fun x => ⟨_, rfl⟩
  obtain ⟨a1_, a2_, a3_, a4_⟩ := id hX
  obtain ⟨t_, qn_, ql_, qb_, s1_, up_⟩ := hX.dialL
  rw [hM_] at s1_
  have loop : ∀ (n_ k_ W_ : Nat), k_ + n_ = M_ + 1 → 1 ≤ k_ → W_ ≤ 400 → sk_p A_ M_ k_ = W_ * A_ % M_ → (∀ j_ : Nat, 1 ≤ j_ → j_ < k_ → ¬ sk_p A_ M_ j_ = 1 % M_) → S 12 [some (.ref x), some (.int (Int32.ofInt (A_ : Int))), some (.int (Int32.ofInt (W_ : Int))), some (.int (Int32.ofInt (k_ : Int)))] [] h 0 0 := by
    intro n_
    induction n_ with
    | zero =>
      intro k_ W_ hk_ hk1_ hW_ hs_ hn_
      have e_ : k_ = M_ + 1 := by omega
      rw [e_] at hn_ ⊢
      refine hs 8 _ rfl _ _ _ _ _ _ _ rfl ?_
      refine hs 9 _ rfl _ _ _ _ _ _ _ rfl ?_
      refine hs 10 _ rfl _ _ _ _ _ _ _ _ _ (a1_) a2_.1 rfl ?_
      refine hs 11 _ rfl _ _ _ _ _ _ _ _ _ (s1_.1) s1_.2 rfl ?_
      refine hs 12 _ rfl _ _ _ _ _ _ _ (fun _ => ?_) (fun zq => absurd (hd_c2t (c := 4) (by omega) (by omega) (by omega) (by omega) (by omega : 0 < (((M_ + 1 : Nat) : Int) - (M_ : Int)))) zq)
      refine hs 32 _ rfl _ _ _ _ _ _ _ rfl ?_
      exact hs 33 _ rfl _ _ _ _ _ (rv _) (Nat.zero_le _) (Nat.zero_le _) (hP 0 (Or.inr ⟨fun j_ hj_ hj2_ => hn_ j_ hj_ (by omega), rfl⟩))
    | succ n_ ih =>
      intro k_ W_ hk_ hk1_ hW_ hs_ hn_
      have b3_ : W_ * A_ % M_ < M_ := Nat.mod_lt _ (by omega)
      have b4_ : 1 % M_ < M_ := Nat.mod_lt _ (by omega)
      by_cases e0_ : W_ * A_ % M_ = 1 % M_
      · 
        refine hs 8 _ rfl _ _ _ _ _ _ _ rfl ?_
        refine hs 9 _ rfl _ _ _ _ _ _ _ rfl ?_
        refine hs 10 _ rfl _ _ _ _ _ _ _ _ _ (a1_) a2_.1 rfl ?_
        refine hs 11 _ rfl _ _ _ _ _ _ _ _ _ (s1_.1) s1_.2 rfl ?_
        refine hs 12 _ rfl _ _ _ _ _ _ _ (fun zq => absurd (hd_c2z (c := 4) (by omega) (by omega) (by omega) (by omega) zq) (by omega : ¬ (0 < ((k_ : Int) - (M_ : Int))))) (fun _ => ?_)
        refine hs 13 _ rfl _ _ _ _ _ _ _ rfl ?_
        refine hs 14 _ rfl _ _ _ _ _ _ _ rfl ?_
        refine hs 15 _ rfl _ _ _ _ _ _ _ hd_mul ?_
        refine hs 16 _ rfl _ _ _ _ _ _ _ rfl ?_
        refine hs 17 _ rfl _ _ _ _ _ _ _ _ _ (a1_) a2_.1 rfl ?_
        refine hs 18 _ rfl _ _ _ _ _ _ _ _ _ (s1_.1) s1_.2 rfl ?_
        refine hs 19 _ rfl _ _ _ _ _ _ _ (zt_rem (by omega) (by omega) (by omega) (by omega)) ?_
        refine hs 20 _ rfl _ _ _ _ _ _ _ rfl ?_
        refine hs 21 _ rfl _ _ _ _ _ _ _ rfl ?_
        refine hs 22 _ rfl _ _ _ _ _ _ _ rfl ?_
        refine hs 23 _ rfl _ _ _ _ _ _ _ rfl ?_
        refine hs 24 _ rfl _ _ _ _ _ _ _ _ _ (a1_) a2_.1 rfl ?_
        refine hs 25 _ rfl _ _ _ _ _ _ _ _ _ (s1_.1) s1_.2 rfl ?_
        refine hs 26 _ rfl _ _ _ _ _ _ _ (zt_rem1 (by omega) (by omega)) ?_
        refine hs 27 _ rfl _ _ _ _ _ _ _ (fun zq => absurd (hd_c2z (c := 1) (by omega) (by omega) (by omega) (by omega) zq) (by omega : ¬ ((((W_ * A_ % M_ : Nat) : Int) - ((1 % M_ : Nat) : Int)) ≠ 0))) (fun _ => ?_)
        refine hs 28 _ rfl _ _ _ _ _ _ _ rfl ?_
        exact hs 29 _ rfl _ _ _ _ _ (rv _) (Nat.zero_le _) (Nat.zero_le _) (hP (k_ : Int) (Or.inl ⟨k_, hk1_, by omega, hs_.trans e0_, hn_, rfl⟩))
      · have z_ := ih (k_ + 1) (W_ * A_ % M_) (by omega) (by omega) (by omega) (by rw [sk_p.s, hs_]) fun j_ hj_ hj2_ => by
          by_cases q_ : j_ = k_
          · rw [q_, hs_]
            exact e0_
          · exact hn_ j_ hj_ (by omega)
        refine hs 8 _ rfl _ _ _ _ _ _ _ rfl ?_
        refine hs 9 _ rfl _ _ _ _ _ _ _ rfl ?_
        refine hs 10 _ rfl _ _ _ _ _ _ _ _ _ (a1_) a2_.1 rfl ?_
        refine hs 11 _ rfl _ _ _ _ _ _ _ _ _ (s1_.1) s1_.2 rfl ?_
        refine hs 12 _ rfl _ _ _ _ _ _ _ (fun zq => absurd (hd_c2z (c := 4) (by omega) (by omega) (by omega) (by omega) zq) (by omega : ¬ (0 < ((k_ : Int) - (M_ : Int))))) (fun _ => ?_)
        refine hs 13 _ rfl _ _ _ _ _ _ _ rfl ?_
        refine hs 14 _ rfl _ _ _ _ _ _ _ rfl ?_
        refine hs 15 _ rfl _ _ _ _ _ _ _ hd_mul ?_
        refine hs 16 _ rfl _ _ _ _ _ _ _ rfl ?_
        refine hs 17 _ rfl _ _ _ _ _ _ _ _ _ (a1_) a2_.1 rfl ?_
        refine hs 18 _ rfl _ _ _ _ _ _ _ _ _ (s1_.1) s1_.2 rfl ?_
        refine hs 19 _ rfl _ _ _ _ _ _ _ (zt_rem (by omega) (by omega) (by omega) (by omega)) ?_
        refine hs 20 _ rfl _ _ _ _ _ _ _ rfl ?_
        refine hs 21 _ rfl _ _ _ _ _ _ _ rfl ?_
        refine hs 22 _ rfl _ _ _ _ _ _ _ rfl ?_
        refine hs 23 _ rfl _ _ _ _ _ _ _ rfl ?_
        refine hs 24 _ rfl _ _ _ _ _ _ _ _ _ (a1_) a2_.1 rfl ?_
        refine hs 25 _ rfl _ _ _ _ _ _ _ _ _ (s1_.1) s1_.2 rfl ?_
        refine hs 26 _ rfl _ _ _ _ _ _ _ (zt_rem1 (by omega) (by omega)) ?_
        refine hs 27 _ rfl _ _ _ _ _ _ _ (fun _ => ?_) (fun zq => absurd (hd_c2t (c := 1) (by omega) (by omega) (by omega) (by omega) (by omega : (((W_ * A_ % M_ : Nat) : Int) - ((1 % M_ : Nat) : Int)) ≠ 0)) zq)
        refine hs 30 _ rfl _ _ _ _ _ _ _ (hd_inc rfl) ?_
        refine hs 31 _ rfl _ _ _ _ _ ?_
        exact z_
  have b5_ : 1 % M_ < M_ := Nat.mod_lt _ (by omega)
  refine hs 0 _ rfl _ _ _ _ _ _ _ rfl ?_
  refine hs 1 _ rfl _ _ _ _ _ _ _ rfl ?_
  refine hs 2 _ rfl _ _ _ _ _ _ _ _ _ (a1_) a2_.1 rfl ?_
  refine hs 3 _ rfl _ _ _ _ _ _ _ _ _ (s1_.1) s1_.2 rfl ?_
  refine hs 4 _ rfl _ _ _ _ _ _ _ (zt_rem1 (by omega) (by omega)) ?_
  refine hs 5 _ rfl _ _ _ _ _ _ _ rfl ?_
  refine hs 6 _ rfl _ _ _ _ _ _ _ rfl ?_
  refine hs 7 _ rfl _ _ _ _ _ _ _ rfl ?_
  exact loop M_ 1 (1 % M_) (by omega) (Nat.le_refl _) (by omega) sk_p.one2 (fun j_ hj_ hj2_ => absurd hj2_ (by omega))
