/-! THE GENERATORS -/
/-- the primes of U; one of them tells the powers of x early; a generator -/
def sk_pd (U y : Nat) : Bool := Nat.blt 1 y && (Nat.beq (U % y) 0 && sk_pr y)
def sk_gq (m U x y : Nat) : Bool := sk_pd U y && Nat.beq (x ^ (U / y) % m) (1 % m)
def sk_gu (m U x : Nat) : Bool := Nat.beq (Nat.gcd x m) 1 && Nat.beq (sk_n (sk_gq m U x) (U + 1)) 0
def sk_g (m : Nat) : Nat → Bool := sk_gu m (sk_n (sk_u m) m)
def sk_e0 (m : Nat) : Nat → Bool
  | 0 => true
  | U + 1 => (List.range m).all fun a => !(Nat.beq (Nat.gcd a m) 1) || Nat.beq (a ^ (U + 1) % m) (1 % m)
theorem sk_p4 : ((List.range 401).all fun U => Nat.ble (sk_n (sk_pd U) (U + 1)) 4) = true := by decide +kernel
theorem sk_lf : ((List.range 401).all fun n => Nat.blt n 2 || (List.range (n + 1)).any (sk_pd n)) = true := by decide +kernel
theorem sk_et : ((List.range 401).all fun m => sk_e0 m (sk_n (sk_u m) m)) = true := by decide +kernel
section SKG
variable {m x U y k f a : Nat} {l : List Int} {q : Nat → Bool}
theorem sk_pd.mk (h1 : 1 < y) (h2 : U % y = 0) (h3 : sk_pr y = true) : sk_pd U y = true := Bool.and_eq_true_iff.mpr ⟨Nat.blt_eq.mpr h1, Bool.and_eq_true_iff.mpr ⟨sk_b h2, h3⟩⟩
theorem sk_pd.of (h : sk_pd U y = true) : 1 < y ∧ U % y = 0 ∧ sk_pr y = true := by
  obtain ⟨a_, b_⟩ := Bool.and_eq_true_iff.mp h
  obtain ⟨c_, d_⟩ := Bool.and_eq_true_iff.mp b_
  exact ⟨Nat.blt_eq.mp a_, ck_beq c_, d_⟩
theorem sk_n.nth : ∀ n j : Nat, j < sk_n q n → ∃ y : Nat, y < n ∧ q y = true ∧ sk_n q y = j := by
  intro n
  induction n with
  | zero =>
    intro j hj
    have hj_ : j < 0 := hj
    exact absurd hj_ (Nat.not_lt_zero _)
  | succ n_ ih =>
    intro j hj
    cases c_ : q n_ with
    | true =>
      rw [sk_n.yes c_] at hj
      by_cases e_ : j = sk_n q n_
      · exact ⟨n_, by omega, c_, e_.symm⟩
      · obtain ⟨y_, a_, b_, d_⟩ := ih j (by omega)
        exact ⟨y_, by omega, b_, d_⟩
    | false =>
      rw [sk_n.no c_] at hj
      obtain ⟨y_, a_, b_, d_⟩ := ih j hj
      exact ⟨y_, by omega, b_, d_⟩
theorem sk_n.uq (h1 : q x = true) (h2 : q y = true) (h : sk_n q x = sk_n q y) : x = y := by
  rcases Nat.lt_trichotomy x y with c_ | c_ | c_
  · have l_ := sk_n.lt h1 c_
    omega
  · exact c_
  · have l_ := sk_n.lt h2 c_
    omega
theorem sk_n.zr (n : Nat) (h : ∀ y : Nat, y < n → q y = false) : sk_n q n = 0 := by
  by_cases c_ : sk_n q n = 0
  · exact c_
  · obtain ⟨x_, a1_, a2_, -⟩ := sk_n.first n c_
    rw [h x_ a1_] at a2_
    exact absurd a2_ (by decide)
theorem sk_pd.le (hU : U ≤ 400) (hy : y ≤ U) (h : sk_pd U y = true) : sk_n (sk_pd U) y < 4 := by
  have e_ : Nat.ble (sk_n (sk_pd U) (U + 1)) 4 = true := List.all_eq_true.mp sk_p4 U (List.mem_range.mpr (by omega))
  have e2_ : sk_n (sk_pd U) (U + 1) ≤ 4 := Nat.le_of_ble_eq_true e_
  have l_ := sk_n.lt h (show y < U + 1 by omega)
  omega
theorem sk_gu.yes (h1 : Nat.gcd x m = 1) (h2 : ∀ y : Nat, y ≤ U → sk_pd U y = true → ¬ x ^ (U / y) % m = 1 % m) : sk_gu m U x = true := by
  have z_ : sk_n (sk_gq m U x) (U + 1) = 0 := sk_n.zr (U + 1) fun y hy => by
    unfold sk_gq
    cases c_ : sk_pd U y with
    | true =>
      rw [sk_bn (h2 y (by omega) c_)]
      rfl
    | false => rfl
  unfold sk_gu
  rw [sk_b h1, sk_b z_]
  rfl
theorem sk_gu.no1 (h : ¬ Nat.gcd x m = 1) : sk_gu m U x = false := by
  unfold sk_gu
  rw [sk_bn h]
  rfl
theorem sk_gu.no2 (hy : y ≤ U) (h1 : sk_pd U y = true) (h2 : x ^ (U / y) % m = 1 % m) : sk_gu m U x = false := by
  have t_ : sk_gq m U x y = true := Bool.and_eq_true_iff.mpr ⟨h1, sk_b h2⟩
  have l_ := sk_n.lt t_ (show y < U + 1 by omega)
  have n_ : ¬ sk_n (sk_gq m U x) (U + 1) = 0 := by omega
  unfold sk_gu
  rw [sk_bn n_, Bool.and_false]
theorem sk_e0.of (h : sk_e0 m U = true) (hU : 0 < U) (hx : x < m) (hg : Nat.gcd x m = 1) : x ^ U % m = 1 % m := by
  obtain ⟨u_, rfl⟩ : ∃ u_ : Nat, U = u_ + 1 := ⟨U - 1, by omega⟩
  have h1_ : ((List.range m).all fun a => !(Nat.beq (Nat.gcd a m) 1) || Nat.beq (a ^ (u_ + 1) % m) (1 % m)) = true := h
  have h2_ : (!(Nat.beq (Nat.gcd x m) 1) || Nat.beq (x ^ (u_ + 1) % m) (1 % m)) = true := List.all_eq_true.mp h1_ x (List.mem_range.mpr hx)
  rw [sk_b hg] at h2_
  exact ck_beq h2_
theorem sk_g.eu (hm : m ≤ 400) (hx : x < m) (hg : Nat.gcd x m = 1) : x ^ sk_n (sk_u m) m % m = 1 % m := by
  have p_ : sk_u m x = true := sk_b hg
  have l_ := sk_n.lt p_ hx
  exact sk_e0.of (List.all_eq_true.mp sk_et m (List.mem_range.mpr (by omega))) (by omega) hx hg
theorem sk_g.pk (h : x ^ k % m = 1 % m) (q : Nat) : x ^ (k * q) % m = 1 % m := by
  rw [Nat.pow_mul, Nat.pow_mod, h, ← Nat.pow_mod, Nat.one_pow]
theorem sk_g.dv (hk : 1 ≤ k) (h : x ^ k % m = 1 % m) (hl : ∀ j : Nat, 1 ≤ j → j < k → ¬ x ^ j % m = 1 % m) (hf : x ^ f % m = 1 % m) : f % k = 0 := by
  by_cases z_ : f % k = 0
  · exact z_
  · have e_ := Nat.div_add_mod f k
    have hf_ : x ^ (k * (f / k) + f % k) % m = 1 % m := by
      rw [e_]
      exact hf
    rw [Nat.pow_add, Nat.mul_mod, sk_g.pk h (f / k), ← Nat.mul_mod, Nat.one_mul] at hf_
    exact absurd hf_ (hl (f % k) (by omega) (Nat.mod_lt _ hk))
theorem sk_g.pf {n : Nat} (h2 : 2 ≤ n) (h4 : n ≤ 400) : ∃ y : Nat, y ≤ n ∧ sk_pd n y = true := by
  have e_ : (Nat.blt n 2 || (List.range (n + 1)).any (sk_pd n)) = true := List.all_eq_true.mp sk_lf n (List.mem_range.mpr (by omega))
  rcases Bool.or_eq_true_iff.mp e_ with y_ | y_
  · have l_ := Nat.blt_eq.mp y_
    omega
  · obtain ⟨y2_, h1_, h2_⟩ := List.any_eq_true.mp y_
    have l_ := List.mem_range.mp h1_
    exact ⟨y2_, by omega, h2_⟩
theorem sk_u.pos (hm : 1 ≤ m) : 1 ≤ sk_n (sk_u m) m := by
  by_cases e_ : m = 1
  · subst e_
    decide
  · have l_ := sk_n.lt (p := sk_u m) (x := 1) (y := m) (sk_b (Nat.gcd_one_left m)) (by omega)
    omega
/-- the order is the count of units just where none of its primes tells the powers early -/
theorem sk_g.ord (hm : m ≤ 400) (hx : x < m) (hg : Nat.gcd x m = 1) {v : Int} (h : sk_o x m v) : (sk_g m x = true ∧ v = ((sk_n (sk_u m) m : Nat) : Int)) ∨ (sk_g m x = false ∧ ¬ v = ((sk_n (sk_u m) m : Nat) : Int)) := by
  have e_ := sk_g.eu hm hx hg
  have p_ : sk_u m x = true := sk_b hg
  have l_ := sk_n.lt p_ hx
  have b_ := sk_n.le (sk_u m) m
  unfold sk_g
  obtain ⟨U, hU⟩ : ∃ U : Nat, sk_n (sk_u m) m = U := ⟨_, rfl⟩
  rw [hU] at e_ l_ b_ ⊢
  rcases h with ⟨k_, k1_, k2_, k3_, k4_, kv_⟩ | ⟨n_, -⟩
  · by_cases c_ : k_ = U
    · refine Or.inl ⟨sk_gu.yes hg fun y hy hp => ?_, by rw [kv_, c_]⟩
      obtain ⟨y1_, y2_, y3_⟩ := sk_pd.of hp
      have d1_ : 1 ≤ U / y := Nat.div_pos hy (by omega)
      have d2_ : U / y < U := Nat.div_lt_self (by omega) y1_
      exact k4_ (U / y) d1_ (by omega)
    · have dv_ : U % k_ = 0 := sk_g.dv k1_ k3_ k4_ e_
      have m1_ : U / k_ * k_ = U := Nat.div_mul_cancel (Nat.dvd_of_mod_eq_zero dv_)
      have q1_ : 2 ≤ U / k_ := by
        have m2_ := m1_
        obtain ⟨z9_, hz9_⟩ : ∃ z9_ : Nat, U / k_ = z9_ := ⟨_, rfl⟩
        rw [hz9_] at m2_ ⊢
        rcases (by omega : z9_ = 0 ∨ z9_ = 1 ∨ 2 ≤ z9_) with z_ | z_ | z_
        · rw [z_, Nat.zero_mul] at m2_
          omega
        · rw [z_, Nat.one_mul] at m2_
          exact absurd m2_ c_
        · exact z_
      have dl_ := Nat.div_le_self U k_
      obtain ⟨y_, y0_, y1_⟩ := sk_g.pf q1_ (Nat.le_trans dl_ (by omega))
      obtain ⟨z1_, z2_, z3_⟩ := sk_pd.of y1_
      have w_ : U / k_ / y_ * y_ = U / k_ := Nat.div_mul_cancel (Nat.dvd_of_mod_eq_zero z2_)
      have u_ : k_ * (U / k_ / y_) * y_ = U := by
        rw [Nat.mul_assoc, w_, Nat.mul_comm]
        exact m1_
      have v1_ : U / y_ = k_ * (U / k_ / y_) := Nat.div_eq_of_eq_mul_left (by omega) u_.symm
      have v2_ : U % y_ = 0 := by
        have t_ := Nat.mul_mod_left (k_ * (U / k_ / y_)) y_
        rw [u_] at t_
        exact t_
      refine Or.inr ⟨sk_gu.no2 (y := y_) (Nat.le_trans y0_ dl_) (sk_pd.mk z1_ v2_ z3_) ?_, fun y2_ => c_ (by omega)⟩
      rw [v1_]
      exact sk_g.pk k3_ _
  · exact absurd e_ (n_ U (by omega) b_)
theorem zt_dvg {L : List (Option Value)} {st : List Value} {v : Int} {M : Nat} (h : a / M = k) (ha : a ≤ 2000000000) (hM : 1 ≤ M) (hM2 : M ≤ 1000) : ck_cf 15 3 v L (.int (Int32.ofInt (M : Int)) :: .int (Int32.ofInt (a : Int)) :: st) = some (L, .int (Int32.ofInt (k : Int)) :: st) := by
  rw [← h, Int.natCast_ediv]
  exact hd_div (by omega) (by omega) (by omega) (by omega)
/-- the row of the primes found below k -/
def sk_qs (U k : Nat) (l : List Int) : Prop := ∀ y : Nat, y < k → sk_pd U y = true → l[sk_n (sk_pd U) y]? = some (y : Int)
theorem sk_qs.no (h : sk_qs U k l) (hn : sk_pd U k = false) : sk_qs U (k + 1) l := fun y hy hp => by
  by_cases e_ : y = k
  · rw [e_, hn] at hp
    exact absurd hp (by decide)
  · exact h y (by omega) hp
theorem sk_qs.yes (h : sk_qs U k l) (hl : sk_n (sk_pd U) k < l.length) (hk : sk_pd U k = true) : sk_qs U (k + 1) (l.set (sk_n (sk_pd U) k) (k : Int)) := fun y hy hp => by
  by_cases e_ : y = k
  · rw [e_]
    exact List.getElem?_set_self hl
  · have ne_ : ¬ sk_n (sk_pd U) k = sk_n (sk_pd U) y := fun y2_ => e_ (sk_n.uq hk hp y2_).symm
    rw [List.getElem?_set_ne ne_]
    exact h y (by omega) hp
end SKG
set_option maxHeartbeats 4000000 in
theorem zc_turn9_M {l : Launch} {G : am_G} {X : ck_XT} (g : gM l G X) {p q : Nat} {k2 m2 u2 : Int32} {qs : List Int} {h : List am_C} (g2 : am_g G h p = some (1010, [.ref q, .int k2, .int m2, .int u2])) (g3 : am_g G h q = some (1750, hd_r qs)) (l3 : qs.length = 4) (n1 : p ≠ q) (b1 : 1000 ≤ p) (b2 : 1000 ≤ q) {M_ U_ : Nat} (hm1 : 1 ≤ M_) (hm : M_ ≤ 400) (hU : sk_n (sk_u M_) M_ = U_) {mc ms : Nat} {Post : am_O → List am_C → Prop}
    (hP : ∀ (h' : List am_C) (l9 : List Int), am_g G h' p = some (1010, [.ref q, .int (Int32.ofInt ((sk_n (sk_pd U_) (U_ + 1) : Nat) : Int)), .int (Int32.ofInt (M_ : Int)), .int (Int32.ofInt (U_ : Int))]) → am_g G h' q = some (1750, hd_r l9) → l9.length = 4 → sk_qs U_ (U_ + 1) l9 → (∀ z : Nat, z ≠ p → z ≠ q → am_g G h' z = am_g G h z) → Post (.inl none) h') :
    am_M l G yX3_turnTo (.code yX3_turnTo prog_5_method_2_code 3 none) 3 67 mc ms [.ref p, .int (Int32.ofInt (M_ : Int))] h Post := by
  refine gh_yX3_turnTo_X g (Nat.le_of_ble_eq_true rfl) fun S SX hs hr hw hx => ?_
  have rv : ∀ x : Int32, ck_fv 0 (.int x) := fun x => ⟨_, rfl⟩
  have ul_ := sk_n.le (sk_u M_) M_
  have up_ := sk_u.pos hm1
  rw [hU] at ul_ up_
  have loop : ∀ (n_ p_ : Nat) (h1_ : List am_C) (l_ : List Int), p_ + n_ = U_ + 1 → 2 ≤ p_ → am_g G h1_ p = some (1010, [.ref q, .int (Int32.ofInt ((sk_n (sk_pd U_) p_ : Nat) : Int)), .int (Int32.ofInt (M_ : Int)), .int (Int32.ofInt (U_ : Int))]) → am_g G h1_ q = some (1750, hd_r l_) → l_.length = 4 → sk_qs U_ p_ l_ → (∀ z : Nat, z ≠ p → z ≠ q → am_g G h1_ z = am_g G h z) → S 20 [some (.ref p), some (.int (Int32.ofInt (M_ : Int))), some (.int (Int32.ofInt (p_ : Int)))] [] h1_ 0 0 := by
    intro n_
    induction n_ with
    | zero =>
      intro p_ h1_ l_ hp_ hq_ p1_ p2_ e1_ iv_ fr_
      have i2_ : p_ = U_ + 1 := by omega
      refine hs 12 _ rfl _ _ _ _ _ _ _ rfl ?_
      refine hs 13 _ rfl _ _ _ _ _ _ _ rfl ?_
      refine hs 14 _ rfl _ _ _ _ _ _ _ _ _ (p1_) rfl rfl ?_
      refine hs 15 _ rfl _ _ _ _ _ _ _ (fun _ => ?_) (fun zq => absurd (hd_c2t (c := 4) (by omega) (by omega) (by omega) (by omega) (by omega : 0 < ((p_ : Int) - (U_ : Int)))) zq)
      exact hs 44 _ rfl _ _ _ _ (Nat.zero_le _) (Nat.zero_le _) (hP h1_ l_ (by rw [← i2_]; exact p1_) p2_ e1_ (by rw [← i2_]; exact iv_) fr_)
    | succ n_ ih =>
      intro p_ h1_ l_ hp_ hq_ p1_ p2_ e1_ iv_ fr_
      obtain ⟨r_, hr_⟩ : ∃ r_ : Nat, U_ % p_ = r_ := ⟨_, rfl⟩
      have r2_ : r_ < p_ := by
        rw [← hr_]
        exact Nat.mod_lt _ (by omega)
      by_cases c2_ : r_ = 0
      rotate_left
      · have n2_ : sk_pd U_ p_ = false := by
          cases d_ : sk_pd U_ p_ with
          | false => rfl
          | true => exact absurd (hr_.symm.trans (sk_pd.of d_).2.1) c2_
        have z_ := ih (p_ + 1) h1_ l_ (by omega) (by omega) (by rw [sk_n.no n2_]; exact p1_) p2_ e1_ (sk_qs.no iv_ n2_) fr_
        refine hs 12 _ rfl _ _ _ _ _ _ _ rfl ?_
        refine hs 13 _ rfl _ _ _ _ _ _ _ rfl ?_
        refine hs 14 _ rfl _ _ _ _ _ _ _ _ _ (p1_) rfl rfl ?_
        refine hs 15 _ rfl _ _ _ _ _ _ _ (fun zq => absurd (hd_c2z (c := 4) (by omega) (by omega) (by omega) (by omega) zq) (by omega : ¬ (0 < ((p_ : Int) - (U_ : Int))))) (fun _ => ?_)
        refine hs 16 _ rfl _ _ _ _ _ _ _ rfl ?_
        refine hs 17 _ rfl _ _ _ _ _ _ _ _ _ (p1_) rfl rfl ?_
        refine hs 18 _ rfl _ _ _ _ _ _ _ rfl ?_
        refine hs 19 _ rfl _ _ _ _ _ _ _ (zt_remq hr_ (by omega) (by omega) (by omega)) ?_
        refine hs 20 _ rfl _ _ _ _ _ _ (fun _ => ?_) (fun zq => absurd (hd_c1t (c := 1) (by omega) (by omega) (by omega : (r_ : Int) ≠ 0)) zq)
        refine hs 42 _ rfl _ _ _ _ _ _ _ (hd_inc rfl) ?_
        refine hs 43 _ rfl _ _ _ _ _ ?_
        exact z_
      · by_cases y_ : sk_pr p_ = true
        rotate_left
        · have n2_ : sk_pd U_ p_ = false := by
            cases d_ : sk_pd U_ p_ with
            | false => rfl
            | true => exact absurd (sk_pd.of d_).2.2 y_
          have z_ := ih (p_ + 1) h1_ l_ (by omega) (by omega) (by rw [sk_n.no n2_]; exact p1_) p2_ e1_ (sk_qs.no iv_ n2_) fr_
          refine hs 12 _ rfl _ _ _ _ _ _ _ rfl ?_
          refine hs 13 _ rfl _ _ _ _ _ _ _ rfl ?_
          refine hs 14 _ rfl _ _ _ _ _ _ _ _ _ (p1_) rfl rfl ?_
          refine hs 15 _ rfl _ _ _ _ _ _ _ (fun zq => absurd (hd_c2z (c := 4) (by omega) (by omega) (by omega) (by omega) zq) (by omega : ¬ (0 < ((p_ : Int) - (U_ : Int))))) (fun _ => ?_)
          refine hs 16 _ rfl _ _ _ _ _ _ _ rfl ?_
          refine hs 17 _ rfl _ _ _ _ _ _ _ _ _ (p1_) rfl rfl ?_
          refine hs 18 _ rfl _ _ _ _ _ _ _ rfl ?_
          refine hs 19 _ rfl _ _ _ _ _ _ _ (zt_remq hr_ (by omega) (by omega) (by omega)) ?_
          refine hs 20 _ rfl _ _ _ _ _ _ (fun zq => absurd (hd_c1z (c := 1) (by omega) (by omega) zq) (by omega : ¬ ((r_ : Int) ≠ 0))) (fun _ => ?_)
          refine hs 21 _ rfl _ _ _ _ _ _ _ rfl ?_
          refine zw_c (hs 22 _ rfl) (a := [.int (Int32.ofInt (p_ : Int))]) (st := []) rfl rfl (Nat.le_of_ble_eq_true rfl) trivial (by omega) (by omega) (sk_prime_M g (m := (p_ : Int)) (by omega) (by omega) (fun w_ => absurd (by have w2_ := w_.2; rw [Int.toNat_natCast] at w2_; exact w2_) y_) (fun _ => ?_))
          show S 41 [some (.ref p), some (.int (Int32.ofInt (M_ : Int))), some (.int (Int32.ofInt (p_ : Int)))] [.int (Int32.ofInt (0 : Int))] _ _ _
          refine hs 23 _ rfl _ _ _ _ _ _ (fun _ => ?_) (fun zq => absurd (hd_c1t (c := 0) (by omega) (by omega) (by omega : (0 : Int) = 0)) zq)
          refine hs 42 _ rfl _ _ _ _ _ _ _ (hd_inc rfl) ?_
          refine hs 43 _ rfl _ _ _ _ _ ?_
          exact z_
        · have n2_ : sk_pd U_ p_ = true := sk_pd.mk (by omega) (hr_.trans c2_) y_
          have b4_ := sk_pd.le (show U_ ≤ 400 by omega) (show p_ ≤ U_ by omega) n2_
          refine hs 12 _ rfl _ _ _ _ _ _ _ rfl ?_
          refine hs 13 _ rfl _ _ _ _ _ _ _ rfl ?_
          refine hs 14 _ rfl _ _ _ _ _ _ _ _ _ (p1_) rfl rfl ?_
          refine hs 15 _ rfl _ _ _ _ _ _ _ (fun zq => absurd (hd_c2z (c := 4) (by omega) (by omega) (by omega) (by omega) zq) (by omega : ¬ (0 < ((p_ : Int) - (U_ : Int))))) (fun _ => ?_)
          refine hs 16 _ rfl _ _ _ _ _ _ _ rfl ?_
          refine hs 17 _ rfl _ _ _ _ _ _ _ _ _ (p1_) rfl rfl ?_
          refine hs 18 _ rfl _ _ _ _ _ _ _ rfl ?_
          refine hs 19 _ rfl _ _ _ _ _ _ _ (zt_remq hr_ (by omega) (by omega) (by omega)) ?_
          refine hs 20 _ rfl _ _ _ _ _ _ (fun zq => absurd (hd_c1z (c := 1) (by omega) (by omega) zq) (by omega : ¬ ((r_ : Int) ≠ 0))) (fun _ => ?_)
          refine hs 21 _ rfl _ _ _ _ _ _ _ rfl ?_
          refine zw_c (hs 22 _ rfl) (a := [.int (Int32.ofInt (p_ : Int))]) (st := []) rfl rfl (Nat.le_of_ble_eq_true rfl) trivial (by omega) (by omega) (sk_prime_M g (m := (p_ : Int)) (by omega) (by omega) (fun _ => ?_) (fun w_ => absurd ⟨by omega, by rw [Int.toNat_natCast]; exact y_⟩ w_))
          show S 41 [some (.ref p), some (.int (Int32.ofInt (M_ : Int))), some (.int (Int32.ofInt (p_ : Int)))] [.int (Int32.ofInt (1 : Int))] _ _ _
          refine hs 23 _ rfl _ _ _ _ _ _ (fun zq => absurd (hd_c1z (c := 0) (by omega) (by omega) zq) (by omega : ¬ ((1 : Int) = 0))) (fun _ => ?_)
          refine hs 24 _ rfl _ _ _ _ _ _ _ rfl ?_
          refine hs 25 _ rfl _ _ _ _ _ _ _ _ _ (p1_) rfl rfl ?_
          refine hs 26 _ rfl _ _ _ _ _ _ _ rfl ?_
          refine hs 27 _ rfl _ _ _ _ _ _ _ _ _ (p1_) rfl rfl ?_
          refine hd_Ln (hs 28 _ rfl) (p2_) rfl ?_
          refine hs 29 _ rfl _ _ _ _ _ _ _ (fun zq => absurd (hd_c2z (c := 3) (by omega) (by omega) (by omega) (by omega) zq) (by omega : ¬ (0 ≤ (((sk_n (sk_pd U_) p_ : Nat) : Int) - (l_.length : Int))))) (fun _ => ?_)
          refine hs 30 _ rfl _ _ _ _ _ _ _ rfl ?_
          refine hs 31 _ rfl _ _ _ _ _ _ _ _ _ (p1_) rfl rfl ?_
          refine hs 32 _ rfl _ _ _ _ _ _ _ rfl ?_
          refine hs 33 _ rfl _ _ _ _ _ _ _ _ _ (p1_) rfl rfl ?_
          refine hs 34 _ rfl _ _ _ _ _ _ _ rfl ?_
          refine zw_B (hs 35 _ rfl) (by decide) (by decide) (by omega) (p2_) rfl (j := (sk_n (sk_pd U_) p_)) (by omega) (by omega) (by omega) fun hz769 wz770 => ?_
          refine hs 36 _ rfl _ _ _ _ _ _ _ rfl ?_
          refine hs 37 _ rfl _ _ _ _ _ _ _ rfl ?_
          refine hs 38 _ rfl _ _ _ _ _ _ _ _ _ ((wz770.ne (by omega)).trans p1_) rfl rfl ?_
          refine hs 39 _ rfl _ _ _ _ _ _ _ rfl ?_
          refine hs 40 _ rfl _ _ _ _ _ _ _ hd_add ?_
          refine zw_U (hs 41 _ rfl) (by omega) ((wz770.ne (by omega)).trans p1_) rfl ⟨_, rfl⟩ fun hz771 wz772 => ?_
          have wz772 : hd_w G hz769 hz771 p (1010, [.ref q, .int (Int32.ofInt (((sk_n (sk_pd U_) p_ : Nat) : Int) + (1 : Int))), .int (Int32.ofInt (M_ : Int)), .int (Int32.ofInt (U_ : Int))]) := wz772
          have lwz772 := wz772.1
          refine hs 42 _ rfl _ _ _ _ _ _ _ (hd_inc rfl) ?_
          refine hs 43 _ rfl _ _ _ _ _ ?_
          exact ih (p_ + 1) _ (l_.set (sk_n (sk_pd U_) p_) (p_ : Int)) (by omega) (by omega) (by rw [sk_n.yes n2_]; exact wz772.at) ((wz772.ne (by omega)).trans wz770.at) (by rw [List.length_set]; exact e1_) (sk_qs.yes iv_ (by omega) n2_) fun z z1 z2 => (wz772.ne z1).trans ((wz770.ne z2).trans (fr_ z z1 z2))
  refine hs 0 _ rfl _ _ _ _ _ _ _ rfl ?_
  refine hs 1 _ rfl _ _ _ _ _ _ _ rfl ?_
  refine zw_U (hs 2 _ rfl) (by omega) (g2) rfl ⟨_, rfl⟩ fun hz773 wz774 => ?_
  have wz774 : hd_w G h hz773 p (1010, [.ref q, .int k2, .int (Int32.ofInt (M_ : Int)), .int u2]) := wz774
  have lwz774 := wz774.1
  refine hs 3 _ rfl _ _ _ _ _ _ _ rfl ?_
  refine hs 4 _ rfl _ _ _ _ _ _ _ rfl ?_
  refine zw_c (hs 5 _ rfl) (a := [.int (Int32.ofInt (M_ : Int))]) (st := [.ref p]) rfl rfl (Nat.le_of_ble_eq_true rfl) trivial (by omega) (by omega) (sk_units_M g (M_ := M_) hm1 hm ?_)
  rw [hU]
  show S 10 [some (.ref p), some (.int (Int32.ofInt (M_ : Int))), none] [.int (Int32.ofInt (U_ : Int)), .ref p] _ _ _
  refine zw_U (hs 6 _ rfl) (by omega) (wz774.at) rfl ⟨_, rfl⟩ fun hz775 wz776 => ?_
  have wz776 : hd_w G hz773 hz775 p (1010, [.ref q, .int k2, .int (Int32.ofInt (M_ : Int)), .int (Int32.ofInt (U_ : Int))]) := wz776
  have lwz776 := wz776.1
  refine hs 7 _ rfl _ _ _ _ _ _ _ rfl ?_
  refine hs 8 _ rfl _ _ _ _ _ _ _ rfl ?_
  refine zw_U (hs 9 _ rfl) (by omega) (wz776.at) rfl ⟨_, rfl⟩ fun hz777 wz778 => ?_
  have wz778 : hd_w G hz775 hz777 p (1010, [.ref q, .int (Int32.ofInt (0 : Int)), .int (Int32.ofInt (M_ : Int)), .int (Int32.ofInt (U_ : Int))]) := wz778
  have lwz778 := wz778.1
  refine hs 10 _ rfl _ _ _ _ _ _ _ rfl ?_
  refine hs 11 _ rfl _ _ _ _ _ _ _ rfl ?_
  have z2_ : sk_n (sk_pd U_) 2 = 0 := sk_n.zr 2 fun y hy => by
    cases d_ : sk_pd U_ y with
    | false => rfl
    | true => exact absurd (sk_pd.of d_).1 (by omega)
  exact loop (U_ - 1) 2 _ qs (by omega) (Nat.le_refl _) (by rw [z2_]; exact wz778.at) ((wz778.ne (by omega)).trans ((wz776.ne (by omega)).trans ((wz774.ne (by omega)).trans g3))) l3 (fun y hy hp => absurd (sk_pd.of hp).1 (by omega)) fun z z1 z2 => (wz778.ne z1).trans ((wz776.ne z1).trans (wz774.ne z1))
set_option maxHeartbeats 4000000 in
theorem zc_holds_M {l : Launch} {G : am_G} {X : ck_XT} (g : gM l G X) {p q : Nat} {qs : List Int} {h : List am_C} {M_ U_ : Nat} (g2 : am_g G h p = some (1010, [.ref q, .int (Int32.ofInt ((sk_n (sk_pd U_) (U_ + 1) : Nat) : Int)), .int (Int32.ofInt (M_ : Int)), .int (Int32.ofInt (U_ : Int))])) (g3 : am_g G h q = some (1750, hd_r qs)) (l3 : qs.length = 4) {A_ : Nat} (ha : A_ < M_) (hm1 : 1 ≤ M_) (hm : M_ ≤ 400) (hU : U_ ≤ 400) (iv : sk_qs U_ (U_ + 1) qs) {mc ms : Nat} {Post : am_O → List am_C → Prop} (hY : sk_gu M_ U_ A_ = true → Post (.inl (some (.int (Int32.ofInt 1)))) h) (hN : sk_gu M_ U_ A_ = false → Post (.inl (some (.int (Int32.ofInt 0)))) h) :
    am_M l G yX3_holds (.code yX3_holds prog_5_method_3_code 4 (some .boolean)) 2 46 mc ms [.ref p, .int (Int32.ofInt (A_ : Int))] h Post := by
  refine gh_yX3_holds_X g (Nat.le_of_ble_eq_true rfl) fun S SX hs hr hw hx => ?_
  have rv : ∀ x : Int32, ck_fv 0 (.int x) := fun x => ⟨_, rfl⟩
  have b3_ : Nat.gcd A_ M_ ≤ M_ := Nat.gcd_le_right A_ (by omega)
  have b5_ : 1 % M_ < M_ := Nat.mod_lt _ (by omega)
  have cl_ := sk_n.le (sk_pd U_) (U_ + 1)
  by_cases c1_ : Nat.gcd A_ M_ = 1
  rotate_left
  · 
    refine hs 0 _ rfl _ _ _ _ _ _ _ rfl ?_
    refine hs 1 _ rfl _ _ _ _ _ _ _ _ _ (g2) rfl rfl ?_
    refine hs 2 _ rfl _ _ _ _ _ _ (fun zq => absurd (hd_c1z (c := 5) (by omega) (by omega) zq) (by omega : ¬ ((M_ : Int) ≤ 0))) (fun _ => ?_)
    refine hs 3 _ rfl _ _ _ _ _ _ _ rfl ?_
    refine hs 4 _ rfl _ _ _ _ _ _ _ rfl ?_
    refine hs 5 _ rfl _ _ _ _ _ _ _ _ _ (g2) rfl rfl ?_
    refine zw_c (hs 6 _ rfl) (a := [.int (Int32.ofInt (A_ : Int)), .int (Int32.ofInt (M_ : Int))]) (st := []) rfl rfl (Nat.le_of_ble_eq_true rfl) trivial (by omega) (by omega) (sm_common_M g (by omega) (by omega) ?_)
    show S 15 [some (.ref p), some (.int (Int32.ofInt (A_ : Int))), none, none] [.int (Int32.ofInt ((Nat.gcd A_ M_ : Nat) : Int))] _ _ _
    refine hs 7 _ rfl _ _ _ _ _ _ _ rfl ?_
    refine hs 8 _ rfl _ _ _ _ _ _ _ (fun zq => absurd (hd_c2z (c := 0) (by omega) (by omega) (by omega) (by omega) zq) (by omega : ¬ ((((Nat.gcd A_ M_ : Nat) : Int) - (1 : Int)) = 0))) (fun _ => ?_)
    refine hs 9 _ rfl _ _ _ _ _ _ _ rfl ?_
    exact hs 10 _ rfl _ _ _ _ _ ⟨_, rfl, by decide, by decide⟩ (Nat.zero_le _) (Nat.zero_le _) (hN (sk_gu.no1 c1_))
  · have loop : ∀ (n_ i_ : Nat) (u_ : Option Value), i_ + n_ = sk_n (sk_pd U_) (U_ + 1) → (∀ y : Nat, y ≤ U_ → sk_pd U_ y = true → sk_n (sk_pd U_) y < i_ → ¬ A_ ^ (U_ / y) % M_ = 1 % M_) → S 23 [some (.ref p), some (.int (Int32.ofInt (A_ : Int))), some (.int (Int32.ofInt (i_ : Int))), u_] [] h 0 0 := by
      intro n_
      induction n_ with
      | zero =>
        intro i_ u_ hi_ hn_
        refine hs 13 _ rfl _ _ _ _ _ _ _ rfl ?_
        refine hs 14 _ rfl _ _ _ _ _ _ _ rfl ?_
        refine hs 15 _ rfl _ _ _ _ _ _ _ _ _ (g2) rfl rfl ?_
        refine hs 16 _ rfl _ _ _ _ _ _ _ (fun _ => ?_) (fun zq => absurd (hd_c2t (c := 3) (by omega) (by omega) (by omega) (by omega) (by omega : 0 ≤ ((i_ : Int) - ((sk_n (sk_pd U_) (U_ + 1) : Nat) : Int)))) zq)
        refine hs 41 _ rfl _ _ _ _ _ _ _ rfl ?_
        exact hs 42 _ rfl _ _ _ _ _ ⟨_, rfl, by decide, by decide⟩ (Nat.zero_le _) (Nat.zero_le _) (hY (sk_gu.yes c1_ fun y hy hp => hn_ y hy hp (by have l9_ := sk_n.lt hp (show y < U_ + 1 by omega); omega)))
      | succ n_ ih =>
        intro i_ u_ hi_ hn_
        obtain ⟨y_, y1_, y2_, y3_⟩ := sk_n.nth (q := sk_pd U_) (U_ + 1) i_ (by omega)
        have v_ := iv y_ y1_ y2_
        rw [y3_] at v_
        obtain ⟨z1_, z2_, z3_⟩ := sk_pd.of y2_
        have b4_ := sk_pd.le hU (show y_ ≤ U_ by omega) y2_
        have dl_ := Nat.div_le_self U_ y_
        obtain ⟨d_, hd_⟩ : ∃ d_ : Nat, U_ / y_ = d_ := ⟨_, rfl⟩
        rw [hd_] at dl_
        obtain ⟨w_, hw_⟩ : ∃ w_ : Nat, A_ ^ d_ % M_ = w_ := ⟨_, rfl⟩
        have b6_ : w_ < M_ := by
          rw [← hw_]
          exact Nat.mod_lt _ (by omega)
        by_cases c2_ : w_ = 1 % M_
        · 
          refine hs 13 _ rfl _ _ _ _ _ _ _ rfl ?_
          refine hs 14 _ rfl _ _ _ _ _ _ _ rfl ?_
          refine hs 15 _ rfl _ _ _ _ _ _ _ _ _ (g2) rfl rfl ?_
          refine hs 16 _ rfl _ _ _ _ _ _ _ (fun zq => absurd (hd_c2z (c := 3) (by omega) (by omega) (by omega) (by omega) zq) (by omega : ¬ (0 ≤ ((i_ : Int) - ((sk_n (sk_pd U_) (U_ + 1) : Nat) : Int))))) (fun _ => ?_)
          refine hs 17 _ rfl _ _ _ _ _ _ _ rfl ?_
          refine hs 18 _ rfl _ _ _ _ _ _ _ _ _ (g2) rfl rfl ?_
          refine hs 19 _ rfl _ _ _ _ _ _ _ rfl ?_
          refine hd_A (hs 20 _ rfl) (by decide) (by decide) (g3) rfl (j := i_) (by omega) (by omega) v_ ?_
          refine hs 21 _ rfl _ _ _ _ _ _ _ rfl ?_
          refine hs 22 _ rfl _ _ _ _ _ _ _ rfl ?_
          refine hs 23 _ rfl _ _ _ _ _ _ (fun zq => absurd (hd_c1z (c := 5) (by omega) (by omega) zq) (by omega : ¬ ((y_ : Int) ≤ 0))) (fun _ => ?_)
          refine hs 24 _ rfl _ _ _ _ _ _ _ rfl ?_
          refine hs 25 _ rfl _ _ _ _ _ _ _ rfl ?_
          refine hs 26 _ rfl _ _ _ _ _ _ _ _ _ (g2) rfl rfl ?_
          refine hs 27 _ rfl _ _ _ _ _ _ _ rfl ?_
          refine hs 28 _ rfl _ _ _ _ _ _ _ (zt_dvg hd_ (by omega) (by omega) (by omega)) ?_
          refine hs 29 _ rfl _ _ _ _ _ _ _ rfl ?_
          refine hs 30 _ rfl _ _ _ _ _ _ _ _ _ (g2) rfl rfl ?_
          refine zw_c (hs 31 _ rfl) (a := [.int (Int32.ofInt (A_ : Int)), .int (Int32.ofInt (d_ : Int)), .int (Int32.ofInt (M_ : Int))]) (st := []) rfl rfl (Nat.le_of_ble_eq_true rfl) trivial (by omega) (by omega) (sm_raise_M g (a := A_) (e := d_) (m := M_) (by omega) (by omega) (by omega) ?_)
          rw [hw_]
          show S 56 [some (.ref p), some (.int (Int32.ofInt (A_ : Int))), some (.int (Int32.ofInt (i_ : Int))), some (.int (Int32.ofInt (y_ : Int)))] [.int (Int32.ofInt (w_ : Int))] _ _ _
          refine hs 32 _ rfl _ _ _ _ _ _ _ rfl ?_
          refine hs 33 _ rfl _ _ _ _ _ _ _ rfl ?_
          refine hs 34 _ rfl _ _ _ _ _ _ _ _ _ (g2) rfl rfl ?_
          refine hs 35 _ rfl _ _ _ _ _ _ _ (zt_rem1 (by omega) (by omega)) ?_
          refine hs 36 _ rfl _ _ _ _ _ _ _ (fun zq => absurd (hd_c2z (c := 1) (by omega) (by omega) (by omega) (by omega) zq) (by omega : ¬ (((w_ : Int) - ((1 % M_ : Nat) : Int)) ≠ 0))) (fun _ => ?_)
          refine hs 37 _ rfl _ _ _ _ _ _ _ rfl ?_
          exact hs 38 _ rfl _ _ _ _ _ ⟨_, rfl, by decide, by decide⟩ (Nat.zero_le _) (Nat.zero_le _) (hN (sk_gu.no2 (y := y_) (by omega) y2_ (by rw [hd_, hw_]; exact c2_)))
        · 
          refine hs 13 _ rfl _ _ _ _ _ _ _ rfl ?_
          refine hs 14 _ rfl _ _ _ _ _ _ _ rfl ?_
          refine hs 15 _ rfl _ _ _ _ _ _ _ _ _ (g2) rfl rfl ?_
          refine hs 16 _ rfl _ _ _ _ _ _ _ (fun zq => absurd (hd_c2z (c := 3) (by omega) (by omega) (by omega) (by omega) zq) (by omega : ¬ (0 ≤ ((i_ : Int) - ((sk_n (sk_pd U_) (U_ + 1) : Nat) : Int))))) (fun _ => ?_)
          refine hs 17 _ rfl _ _ _ _ _ _ _ rfl ?_
          refine hs 18 _ rfl _ _ _ _ _ _ _ _ _ (g2) rfl rfl ?_
          refine hs 19 _ rfl _ _ _ _ _ _ _ rfl ?_
          refine hd_A (hs 20 _ rfl) (by decide) (by decide) (g3) rfl (j := i_) (by omega) (by omega) v_ ?_
          refine hs 21 _ rfl _ _ _ _ _ _ _ rfl ?_
          refine hs 22 _ rfl _ _ _ _ _ _ _ rfl ?_
          refine hs 23 _ rfl _ _ _ _ _ _ (fun zq => absurd (hd_c1z (c := 5) (by omega) (by omega) zq) (by omega : ¬ ((y_ : Int) ≤ 0))) (fun _ => ?_)
          refine hs 24 _ rfl _ _ _ _ _ _ _ rfl ?_
          refine hs 25 _ rfl _ _ _ _ _ _ _ rfl ?_
          refine hs 26 _ rfl _ _ _ _ _ _ _ _ _ (g2) rfl rfl ?_
          refine hs 27 _ rfl _ _ _ _ _ _ _ rfl ?_
          refine hs 28 _ rfl _ _ _ _ _ _ _ (zt_dvg hd_ (by omega) (by omega) (by omega)) ?_
          refine hs 29 _ rfl _ _ _ _ _ _ _ rfl ?_
          refine hs 30 _ rfl _ _ _ _ _ _ _ _ _ (g2) rfl rfl ?_
          refine zw_c (hs 31 _ rfl) (a := [.int (Int32.ofInt (A_ : Int)), .int (Int32.ofInt (d_ : Int)), .int (Int32.ofInt (M_ : Int))]) (st := []) rfl rfl (Nat.le_of_ble_eq_true rfl) trivial (by omega) (by omega) (sm_raise_M g (a := A_) (e := d_) (m := M_) (by omega) (by omega) (by omega) ?_)
          rw [hw_]
          show S 56 [some (.ref p), some (.int (Int32.ofInt (A_ : Int))), some (.int (Int32.ofInt (i_ : Int))), some (.int (Int32.ofInt (y_ : Int)))] [.int (Int32.ofInt (w_ : Int))] _ _ _
          refine hs 32 _ rfl _ _ _ _ _ _ _ rfl ?_
          refine hs 33 _ rfl _ _ _ _ _ _ _ rfl ?_
          refine hs 34 _ rfl _ _ _ _ _ _ _ _ _ (g2) rfl rfl ?_
          refine hs 35 _ rfl _ _ _ _ _ _ _ (zt_rem1 (by omega) (by omega)) ?_
          refine hs 36 _ rfl _ _ _ _ _ _ _ (fun _ => ?_) (fun zq => absurd (hd_c2t (c := 1) (by omega) (by omega) (by omega) (by omega) (by omega : ((w_ : Int) - ((1 % M_ : Nat) : Int)) ≠ 0)) zq)
          refine hs 39 _ rfl _ _ _ _ _ _ _ (hd_inc rfl) ?_
          refine hs 40 _ rfl _ _ _ _ _ ?_
          exact ih (i_ + 1) _ (by omega) fun y hy hp hl => by
            by_cases e_ : sk_n (sk_pd U_) y = i_
            · have q_ := sk_n.uq hp y2_ (e_.trans y3_.symm)
              rw [q_, hd_, hw_]
              exact c2_
            · exact hn_ y hy hp (by omega)
    refine hs 0 _ rfl _ _ _ _ _ _ _ rfl ?_
    refine hs 1 _ rfl _ _ _ _ _ _ _ _ _ (g2) rfl rfl ?_
    refine hs 2 _ rfl _ _ _ _ _ _ (fun zq => absurd (hd_c1z (c := 5) (by omega) (by omega) zq) (by omega : ¬ ((M_ : Int) ≤ 0))) (fun _ => ?_)
    refine hs 3 _ rfl _ _ _ _ _ _ _ rfl ?_
    refine hs 4 _ rfl _ _ _ _ _ _ _ rfl ?_
    refine hs 5 _ rfl _ _ _ _ _ _ _ _ _ (g2) rfl rfl ?_
    refine zw_c (hs 6 _ rfl) (a := [.int (Int32.ofInt (A_ : Int)), .int (Int32.ofInt (M_ : Int))]) (st := []) rfl rfl (Nat.le_of_ble_eq_true rfl) trivial (by omega) (by omega) (sm_common_M g (by omega) (by omega) ?_)
    show S 15 [some (.ref p), some (.int (Int32.ofInt (A_ : Int))), none, none] [.int (Int32.ofInt ((Nat.gcd A_ M_ : Nat) : Int))] _ _ _
    refine hs 7 _ rfl _ _ _ _ _ _ _ rfl ?_
    refine hs 8 _ rfl _ _ _ _ _ _ _ (fun _ => ?_) (fun zq => absurd (hd_c2t (c := 0) (by omega) (by omega) (by omega) (by omega) (by omega : (((Nat.gcd A_ M_ : Nat) : Int) - (1 : Int)) = 0)) zq)
    refine hs 11 _ rfl _ _ _ _ _ _ _ rfl ?_
    refine hs 12 _ rfl _ _ _ _ _ _ _ rfl ?_
    exact loop (sk_n (sk_pd U_) (U_ + 1)) 0 _ (by omega) fun y hy hp hl => absurd hl (Nat.not_lt_zero _)
set_option maxHeartbeats 4000000 in
theorem zc_findAt_M {l : Launch} {G : am_G} {X : ck_XT} (g : gM l G X) {p q : Nat} {qs : List Int} {h : List am_C} {M_ U_ : Nat} (g2 : am_g G h p = some (1010, [.ref q, .int (Int32.ofInt ((sk_n (sk_pd U_) (U_ + 1) : Nat) : Int)), .int (Int32.ofInt (M_ : Int)), .int (Int32.ofInt (U_ : Int))])) (g3 : am_g G h q = some (1750, hd_r qs)) (l3 : qs.length = 4) (hm1 : 1 ≤ M_) (hm : M_ ≤ 400) (hU : U_ ≤ 400) (iv : sk_qs U_ (U_ + 1) qs) {pl_ : Int} (hpl : 0 ≤ pl_) (hpl2 : pl_ ≤ 2147483647) {mc ms : Nat} {Post : am_O → List am_C → Prop} (hP : ∀ v : Int, sk_at (sk_gu M_ U_) M_ pl_ v → Post (.inl (some (.int (Int32.ofInt v)))) h) :
    am_M l G yX3_findAt (.code yX3_findAt prog_5_method_4_code 4 (some .int)) 3 69 mc ms [.ref p, .int (Int32.ofInt pl_)] h Post := by
  refine gh_yX3_findAt_X g (Nat.le_of_ble_eq_true rfl) fun S SX hs hr hw hx => ?_
  have rv : ∀ x : Int32, ck_fv 0 (.int x) := fun x => ⟨_, rfl⟩
  have loop : ∀ (n_ x_ : Nat), x_ + n_ = M_ → (∀ y : Nat, y < x_ → sk_gu M_ U_ y = true → ¬ ((sk_n (sk_gu M_ U_) y : Nat) : Int) = pl_) → S 4 [some (.ref p), some (.int (Int32.ofInt pl_)), some (.int (Int32.ofInt ((sk_n (sk_gu M_ U_) x_ : Nat) : Int))), some (.int (Int32.ofInt (x_ : Int)))] [] h 0 0 := by
    intro n_
    induction n_ with
    | zero =>
      intro x_ hx_ hn_
      have c0_ := sk_n.le (sk_gu M_ U_) x_
      refine hs 4 _ rfl _ _ _ _ _ _ _ rfl ?_
      refine hs 5 _ rfl _ _ _ _ _ _ _ rfl ?_
      refine hs 6 _ rfl _ _ _ _ _ _ _ _ _ (g2) rfl rfl ?_
      refine hs 7 _ rfl _ _ _ _ _ _ _ (fun _ => ?_) (fun zq => absurd (hd_c2t (c := 3) (by omega) (by omega) (by omega) (by omega) (by omega : 0 ≤ ((x_ : Int) - (M_ : Int)))) zq)
      refine hs 20 _ rfl _ _ _ _ _ _ _ rfl ?_
      exact hs 21 _ rfl _ _ _ _ _ (rv _) (Nat.zero_le _) (Nat.zero_le _) (hP (-1) (Or.inr ⟨fun y hy => hn_ y (by omega), rfl⟩))
    | succ n_ ih =>
      intro x_ hx_ hn_
      have c0_ := sk_n.le (sk_gu M_ U_) x_
      cases e0_ : sk_gu M_ U_ x_ with
      | true =>
        by_cases e2_ : ((sk_n (sk_gu M_ U_) x_ : Nat) : Int) = pl_
        · 
          refine hs 4 _ rfl _ _ _ _ _ _ _ rfl ?_
          refine hs 5 _ rfl _ _ _ _ _ _ _ rfl ?_
          refine hs 6 _ rfl _ _ _ _ _ _ _ _ _ (g2) rfl rfl ?_
          refine hs 7 _ rfl _ _ _ _ _ _ _ (fun zq => absurd (hd_c2z (c := 3) (by omega) (by omega) (by omega) (by omega) zq) (by omega : ¬ (0 ≤ ((x_ : Int) - (M_ : Int))))) (fun _ => ?_)
          refine hs 8 _ rfl _ _ _ _ _ _ _ rfl ?_
          refine hs 9 _ rfl _ _ _ _ _ _ _ rfl ?_
          refine zw_c (hs 10 _ rfl) (a := [.ref p, .int (Int32.ofInt (x_ : Int))]) (st := []) rfl rfl (Nat.le_of_ble_eq_true rfl) ⟨_, _, _, rfl, (g2), rfl⟩ (by omega) (by omega) (zc_holds_M g g2 g3 l3 (A_ := x_) (M_ := M_) (U_ := U_) (by omega) hm1 hm hU iv (fun _ => ?_) (fun w_ => absurd (e0_.symm.trans w_) (by decide)))
          show S 17 [some (.ref p), some (.int (Int32.ofInt pl_)), some (.int (Int32.ofInt ((sk_n (sk_gu M_ U_) x_ : Nat) : Int))), some (.int (Int32.ofInt (x_ : Int)))] [.int (Int32.ofInt (1 : Int))] _ _ _
          refine hs 11 _ rfl _ _ _ _ _ _ (fun zq => absurd (hd_c1z (c := 0) (by omega) (by omega) zq) (by omega : ¬ ((1 : Int) = 0))) (fun _ => ?_)
          refine hs 12 _ rfl _ _ _ _ _ _ _ rfl ?_
          refine hs 13 _ rfl _ _ _ _ _ _ _ rfl ?_
          refine hs 14 _ rfl _ _ _ _ _ _ _ (fun zq => absurd (hd_c2z (c := 1) (by omega) (by omega) (by omega) (by omega) zq) (by omega : ¬ ((((sk_n (sk_gu M_ U_) x_ : Nat) : Int) - pl_) ≠ 0))) (fun _ => ?_)
          refine hs 15 _ rfl _ _ _ _ _ _ _ rfl ?_
          exact hs 16 _ rfl _ _ _ _ _ (rv _) (Nat.zero_le _) (Nat.zero_le _) (hP (x_ : Int) (Or.inl ⟨x_, by omega, e0_, e2_, rfl⟩))
        · have z_ := ih (x_ + 1) (by omega) fun y hy hp => by
            by_cases q_ : y = x_
            · rw [q_]
              exact e2_
            · exact hn_ y (by omega) hp
          rw [sk_n.yes (p := sk_gu M_ U_) (n := x_) e0_] at z_
          refine hs 4 _ rfl _ _ _ _ _ _ _ rfl ?_
          refine hs 5 _ rfl _ _ _ _ _ _ _ rfl ?_
          refine hs 6 _ rfl _ _ _ _ _ _ _ _ _ (g2) rfl rfl ?_
          refine hs 7 _ rfl _ _ _ _ _ _ _ (fun zq => absurd (hd_c2z (c := 3) (by omega) (by omega) (by omega) (by omega) zq) (by omega : ¬ (0 ≤ ((x_ : Int) - (M_ : Int))))) (fun _ => ?_)
          refine hs 8 _ rfl _ _ _ _ _ _ _ rfl ?_
          refine hs 9 _ rfl _ _ _ _ _ _ _ rfl ?_
          refine zw_c (hs 10 _ rfl) (a := [.ref p, .int (Int32.ofInt (x_ : Int))]) (st := []) rfl rfl (Nat.le_of_ble_eq_true rfl) ⟨_, _, _, rfl, (g2), rfl⟩ (by omega) (by omega) (zc_holds_M g g2 g3 l3 (A_ := x_) (M_ := M_) (U_ := U_) (by omega) hm1 hm hU iv (fun _ => ?_) (fun w_ => absurd (e0_.symm.trans w_) (by decide)))
          show S 17 [some (.ref p), some (.int (Int32.ofInt pl_)), some (.int (Int32.ofInt ((sk_n (sk_gu M_ U_) x_ : Nat) : Int))), some (.int (Int32.ofInt (x_ : Int)))] [.int (Int32.ofInt (1 : Int))] _ _ _
          refine hs 11 _ rfl _ _ _ _ _ _ (fun zq => absurd (hd_c1z (c := 0) (by omega) (by omega) zq) (by omega : ¬ ((1 : Int) = 0))) (fun _ => ?_)
          refine hs 12 _ rfl _ _ _ _ _ _ _ rfl ?_
          refine hs 13 _ rfl _ _ _ _ _ _ _ rfl ?_
          refine hs 14 _ rfl _ _ _ _ _ _ _ (fun _ => ?_) (fun zq => absurd (hd_c2t (c := 1) (by omega) (by omega) (by omega) (by omega) (by omega : (((sk_n (sk_gu M_ U_) x_ : Nat) : Int) - pl_) ≠ 0)) zq)
          refine hs 17 _ rfl _ _ _ _ _ _ _ (hd_inc rfl) ?_
          refine hs 18 _ rfl _ _ _ _ _ _ _ (hd_inc rfl) ?_
          refine hs 19 _ rfl _ _ _ _ _ ?_
          exact z_
      | false =>
        have z_ := ih (x_ + 1) (by omega) fun y hy hp => by
          by_cases q_ : y = x_
          · rw [q_, e0_] at hp
            exact absurd hp (by decide)
          · exact hn_ y (by omega) hp
        rw [sk_n.no (p := sk_gu M_ U_) (n := x_) e0_] at z_
        refine hs 4 _ rfl _ _ _ _ _ _ _ rfl ?_
        refine hs 5 _ rfl _ _ _ _ _ _ _ rfl ?_
        refine hs 6 _ rfl _ _ _ _ _ _ _ _ _ (g2) rfl rfl ?_
        refine hs 7 _ rfl _ _ _ _ _ _ _ (fun zq => absurd (hd_c2z (c := 3) (by omega) (by omega) (by omega) (by omega) zq) (by omega : ¬ (0 ≤ ((x_ : Int) - (M_ : Int))))) (fun _ => ?_)
        refine hs 8 _ rfl _ _ _ _ _ _ _ rfl ?_
        refine hs 9 _ rfl _ _ _ _ _ _ _ rfl ?_
        refine zw_c (hs 10 _ rfl) (a := [.ref p, .int (Int32.ofInt (x_ : Int))]) (st := []) rfl rfl (Nat.le_of_ble_eq_true rfl) ⟨_, _, _, rfl, (g2), rfl⟩ (by omega) (by omega) (zc_holds_M g g2 g3 l3 (A_ := x_) (M_ := M_) (U_ := U_) (by omega) hm1 hm hU iv (fun w_ => absurd (w_.symm.trans e0_) (by decide)) (fun _ => ?_))
        show S 17 [some (.ref p), some (.int (Int32.ofInt pl_)), some (.int (Int32.ofInt ((sk_n (sk_gu M_ U_) x_ : Nat) : Int))), some (.int (Int32.ofInt (x_ : Int)))] [.int (Int32.ofInt (0 : Int))] _ _ _
        refine hs 11 _ rfl _ _ _ _ _ _ (fun _ => ?_) (fun zq => absurd (hd_c1t (c := 0) (by omega) (by omega) (by omega : (0 : Int) = 0)) zq)
        refine hs 18 _ rfl _ _ _ _ _ _ _ (hd_inc rfl) ?_
        refine hs 19 _ rfl _ _ _ _ _ ?_
        exact z_
  refine hs 0 _ rfl _ _ _ _ _ _ _ rfl ?_
  refine hs 1 _ rfl _ _ _ _ _ _ _ rfl ?_
  refine hs 2 _ rfl _ _ _ _ _ _ _ rfl ?_
  refine hs 3 _ rfl _ _ _ _ _ _ _ rfl ?_
  exact loop M_ 0 (by omega) (fun y hy => absurd hy (Nat.not_lt_zero _))
def sp_r35 (e : Int) (T : sp_T) (a : Int) : Prop := sp_jm T (fun v => sk_at (sk_g T.1.1.toNat) T.1.1.toNat e v) a
def sp_Q35 (e _e2 : Int) (T : sp_T) (a th : Int) : Prop := (0 ≤ e ∧ th = 0 ∧ sp_r35 e T a) ∨ (¬ 0 ≤ e ∧ th = 1)
def sp_q35 (e _e2 : Int) (T : sp_T) (a th : Int) (T' : sp_T) : Prop := sp_q T (0 ≤ e) (sp_r35 e T) a th T'
theorem sp_q35.fn {e e2 a th a2 th2 : Int} {T T' T2 : sp_T} (h1 : sp_q35 e e2 T a th T') (h2 : sp_q35 e e2 T a2 th2 T2) : sp_al a th T' a2 th2 T2 := sp_q.fn (fun v w y_ z_ => sp_jm.fn (fun v w y_ z_ => sk_at.fn y_ z_) y_ z_) h1 h2
theorem sp_r35.bd {e a : Int} {T : sp_T} (hk : sp_ok T.1) (h : sp_r35 e T a) : -9 ≤ a ∧ a ≤ 1000 := sp_jm.bd hk (fun hp hr => by
  have d_ := hk.1
  have l_ := sk_at.bd hr
  omega) h
def sp_G (e : Int) (T : sp_T) : Prop := 0 < T.1.1 ∧ sk_g T.1.1.toNat (sp_md T e).toNat = true
def sp_r36 (e : Int) (T : sp_T) (a : Int) : Prop := (sp_G e T ∧ a = 1) ∨ (¬ sp_G e T ∧ a = 0)
def sp_Q36 (e _e2 : Int) (T : sp_T) (a th : Int) : Prop := (sp_s1 e ∧ th = 0 ∧ sp_r36 e T a) ∨ (¬ sp_s1 e ∧ th = 1)
def sp_q36 (e _e2 : Int) (T : sp_T) (a th : Int) (T' : sp_T) : Prop := sp_q T (sp_s1 e) (sp_r36 e T) a th T'
theorem sp_r36.fn {e v w : Int} {T : sp_T} (h1 : sp_r36 e T v) (h2 : sp_r36 e T w) : v = w := by
  rcases h1 with ⟨a1_, a2_⟩ | ⟨a1_, a2_⟩
  · rcases h2 with ⟨-, b2_⟩ | ⟨b1_, -⟩
    · exact a2_.trans b2_.symm
    · exact absurd a1_ b1_
  · rcases h2 with ⟨b1_, -⟩ | ⟨-, b2_⟩
    · exact absurd b1_ a1_
    · exact a2_.trans b2_.symm
theorem sp_q36.fn {e e2 a th a2 th2 : Int} {T T' T2 : sp_T} (h1 : sp_q36 e e2 T a th T') (h2 : sp_q36 e e2 T a2 th2 T2) : sp_al a th T' a2 th2 T2 := sp_q.fn (fun v w y_ z_ => sp_r36.fn y_ z_) h1 h2
set_option maxHeartbeats 4000000 in
theorem zc_qgenerator_M {l : Launch} {G : am_G} {X : ck_XT} (g : gM l G X) {x : Nat} {r : Nat → Nat} {jj mm kk : Int} {c : sp_S} {R : Nat → sp_S} {old cnt : Nat} {h : List am_C} (hX : zc_x G h x r jj mm kk c R old cnt)(hZ : zv_P G h r)  {e : Int} (he1 : -2147483648 ≤ e) (he2 : e ≤ 2147483647) {mc ms : Nat} {Post : am_O → List am_C → Prop} (hmc : 1 ≤ mc) (hms : 6 ≤ ms)
    (hJ : 0 ≤ e → c.1 ≤ 0 → Post (.inl (some (.int (Int32.ofInt (-9))))) h)
    (hP : 0 ≤ e → 0 < c.1 → ∀ (v : Int) (h' : List am_C), sk_at (sk_g c.1.toNat) c.1.toNat e v → (∀ (z t : Nat) (vs : List Value), am_g G h z = some (t, vs) → t ≠ 1010 → t ≠ 1750 → am_g G h' z = some (t, vs)) → Post (.inl (some (.int (Int32.ofInt v)))) h')
    (hX2 : ¬ 0 ≤ e → Post (.inr "java/lang/IllegalArgumentException") (h ++ [(99, [])])) :
    am_M l G yX10_generator (.code yX10_generator prog_1_method_35_code 2 (some .int)) 7 110 mc ms [.ref x, .int (Int32.ofInt e)] h Post := by
  refine gh_yX10_generator_X g (Nat.le_of_ble_eq_true rfl) fun S SX hs hr hw hx => ?_
  have rv : ∀ x : Int32, ck_fv 0 (.int x) := fun x => ⟨_, rfl⟩
  have hx9_ := hX.2.2.2.2.2.2.2
  have hb_ := hX.2.2.1.1
  by_cases c1_ : 0 ≤ e
  rotate_left
  · 
    refine hs 0 _ rfl _ _ _ _ _ _ _ rfl ?_
    exact zw_cm (hs 1 _ rfl) (a := [.int (Int32.ofInt e)]) (st := []) 1 6 rfl rfl (Nat.le_of_ble_eq_true rfl) trivial (by omega) (by omega) (zc_npX_M g he1 he2 (by omega) (by decide) (by decide) (hx _ _ _ _ _ _ (by omega) (by omega) (hX2 c1_)))
  · by_cases cj_ : c.1 ≤ 0
    · 
      refine hs 0 _ rfl _ _ _ _ _ _ _ rfl ?_
      refine zw_c (hs 1 _ rfl) (a := [.int (Int32.ofInt e)]) (st := []) rfl rfl (Nat.le_of_ble_eq_true rfl) trivial (by omega) (by omega) (zc_np_M g (e := e) he1 he2 c1_ ?_)
      show S 4 [some (.ref x), some (.int (Int32.ofInt e))] [] _ _ _
      refine hs 2 _ rfl _ _ _ _ _ _ _ rfl ?_
      refine zw_c (hs 3 _ rfl) (a := [.ref x]) (st := []) rfl rfl (Nat.le_of_ble_eq_true rfl) ⟨_, _, _, rfl, hX.1, rfl⟩ (by omega) (by omega) (zc_jam_M g hX (fun _ => ?_) (fun y_ => absurd y_ (by omega)))
      show S 8 [some (.ref x), some (.int (Int32.ofInt e))] [.int (Int32.ofInt (1 : Int))] _ _ _
      refine hs 4 _ rfl _ _ _ _ _ _ (fun zq => absurd (hd_c1z (c := 0) (by omega) (by omega) zq) (by omega : ¬ ((1 : Int) = 0))) (fun _ => ?_)
      refine hs 5 _ rfl _ _ _ _ _ _ _ rfl ?_
      exact hs 6 _ rfl _ _ _ _ _ (rv _) (Nat.zero_le _) (Nat.zero_le _) (hJ c1_ cj_)
    · 
      obtain ⟨M_, hM_⟩ : ∃ M_ : Nat, c.1 = (M_ : Int) := ⟨c.1.toNat, by omega⟩
      have d1_ := hX.2.1.d
      rw [hM_] at d1_
      obtain ⟨U_, hU_⟩ : ∃ U_ : Nat, sk_n (sk_u M_) M_ = U_ := ⟨_, rfl⟩
      have ul_ := sk_n.le (sk_u M_) M_
      rw [hU_] at ul_
      obtain ⟨-, q3_, k3_, m3_, u3_, qs_, g2_, g3_, l3_, b1_, b2_⟩ := hZ
      have n1_ : r 3 ≠ q3_ := fun y_ => by
        rw [y_, g3_] at g2_
        cases g2_
      rw [hM_, Int.toNat_natCast] at hP
      refine hs 0 _ rfl _ _ _ _ _ _ _ rfl ?_
      refine zw_c (hs 1 _ rfl) (a := [.int (Int32.ofInt e)]) (st := []) rfl rfl (Nat.le_of_ble_eq_true rfl) trivial (by omega) (by omega) (zc_np_M g (e := e) he1 he2 c1_ ?_)
      show S 4 [some (.ref x), some (.int (Int32.ofInt e))] [] _ _ _
      refine hs 2 _ rfl _ _ _ _ _ _ _ rfl ?_
      refine zw_c (hs 3 _ rfl) (a := [.ref x]) (st := []) rfl rfl (Nat.le_of_ble_eq_true rfl) ⟨_, _, _, rfl, hX.1, rfl⟩ (by omega) (by omega) (zc_jam_M g hX (fun y_ => absurd y_ (by omega)) (fun _ => ?_))
      show S 8 [some (.ref x), some (.int (Int32.ofInt e))] [.int (Int32.ofInt (0 : Int))] _ _ _
      refine hs 4 _ rfl _ _ _ _ _ _ (fun _ => ?_) (fun zq => absurd (hd_c1t (c := 0) (by omega) (by omega) (by omega : (0 : Int) = 0)) zq)
      refine hs 7 _ rfl _ _ _ _ _ _ _ rfl ?_
      refine hs 8 _ rfl _ _ _ _ _ _ _ _ _ (hX.1) rfl rfl ?_
      refine hs 9 _ rfl _ _ _ _ _ _ _ rfl ?_
      refine hs 10 _ rfl _ _ _ _ _ _ _ _ _ (hX.1) rfl rfl ?_
      refine hs 11 _ rfl _ _ _ _ _ _ _ _ _ (d1_) rfl rfl ?_
      refine zw_c (hs 12 _ rfl) (a := [.ref (r 3), .int (Int32.ofInt (M_ : Int))]) (st := []) rfl rfl (Nat.le_of_ble_eq_true rfl) ⟨_, _, _, rfl, g2_, rfl⟩ (by omega) (by omega) (zc_turn9_M g g2_ g3_ l3_ n1_ b1_ b2_ (M_ := M_) (U_ := U_) (by omega) (by omega) hU_ fun h1_ l9_ f1_ f2_ e9_ iv_ fr_ => ?_)
      have kp_ : ∀ (z t : Nat) (vs : List Value), am_g G h z = some (t, vs) → t ≠ 1010 → t ≠ 1750 → am_g G h1_ z = some (t, vs) := fun z t vs hz z1 z2 => (fr_ z (fun y_ => by
        rw [y_, g2_] at hz
        cases hz
        exact z1 rfl) (fun y_ => by
        rw [y_, g3_] at hz
        cases hz
        exact z2 rfl)).trans hz
      have x9_ := kp_ x _ _ hX.1 (by decide) (by decide)
      show S 28 [some (.ref x), some (.int (Int32.ofInt e))] [] _ _ _
      refine hs 13 _ rfl _ _ _ _ _ _ _ rfl ?_
      refine hs 14 _ rfl _ _ _ _ _ _ _ _ _ (x9_) rfl rfl ?_
      refine hs 15 _ rfl _ _ _ _ _ _ _ rfl ?_
      refine zw_c (hs 16 _ rfl) (a := [.ref (r 3), .int (Int32.ofInt e)]) (st := []) rfl rfl (Nat.le_of_ble_eq_true rfl) ⟨_, _, _, rfl, f1_, rfl⟩ (by omega) (by omega) (zc_findAt_M g f1_ f2_ e9_ (M_ := M_) (U_ := U_) (by omega) (by omega) (by omega) iv_ (pl_ := e) c1_ he2 fun v_ hv_ => ?_)
      show S 36 [some (.ref x), some (.int (Int32.ofInt e))] [.int (Int32.ofInt v_)] _ _ _
      exact hs 17 _ rfl _ _ _ _ _ (rv _) (Nat.zero_le _) (Nat.zero_le _) (hP c1_ (by omega) v_ _ (by show sk_at (sk_gu M_ (sk_n (sk_u M_) M_)) M_ e v_; rw [hU_]; exact hv_) kp_)
set_option maxHeartbeats 4000000 in
theorem zc_qisGenerator_M {l : Launch} {G : am_G} {X : ck_XT} (g : gM l G X) {x : Nat} {r : Nat → Nat} {jj mm kk : Int} {c : sp_S} {R : Nat → sp_S} {old cnt : Nat} {h : List am_C} (hX : zc_x G h x r jj mm kk c R old cnt)(hZ : zv_P G h r)  {e : Int} (he1 : -2147483648 ≤ e) (he2 : e ≤ 2147483647) {mc ms : Nat} {Post : am_O → List am_C → Prop} (hmc : 1 ≤ mc) (hms : 6 ≤ ms)
    (hY : (0 ≤ e ∧ e < 6) → ∀ (h' : List am_C), (0 < c.1 ∧ sk_g c.1.toNat (c.2.1.getD e.toNat 0 % c.1).toNat = true) → (∀ (z t : Nat) (vs : List Value), am_g G h z = some (t, vs) → t ≠ 1010 → t ≠ 1750 → am_g G h' z = some (t, vs)) → Post (.inl (some (.int (Int32.ofInt 1)))) h')
    (hN : (0 ≤ e ∧ e < 6) → ∀ (h' : List am_C), ¬ (0 < c.1 ∧ sk_g c.1.toNat (c.2.1.getD e.toNat 0 % c.1).toNat = true) → (∀ (z t : Nat) (vs : List Value), am_g G h z = some (t, vs) → t ≠ 1010 → t ≠ 1750 → am_g G h' z = some (t, vs)) → Post (.inl (some (.int (Int32.ofInt 0)))) h')
    (hX2 : ¬ (0 ≤ e ∧ e < 6) → Post (.inr "java/lang/IndexOutOfBoundsException") (h ++ [(99, [])])) :
    am_M l G yX10_isGenerator (.code yX10_isGenerator prog_1_method_36_code 3 (some .boolean)) 7 111 mc ms [.ref x, .int (Int32.ofInt e)] h Post := by
  refine gh_yX10_isGenerator_X g (Nat.le_of_ble_eq_true rfl) fun S SX hs hr hw hx => ?_
  have rv : ∀ x : Int32, ck_fv 0 (.int x) := fun x => ⟨_, rfl⟩
  have hx9_ := hX.2.2.2.2.2.2.2
  have hb_ := hX.2.2.1.1
  by_cases c1_ : 0 ≤ e ∧ e < 6
  rotate_left
  · 
    refine hs 0 _ rfl _ _ _ _ _ _ _ rfl ?_
    refine hs 1 _ rfl _ _ _ _ _ _ _ rfl ?_
    exact zw_cm (hs 2 _ rfl) (a := [.ref x, .int (Int32.ofInt e)]) (st := []) 1 6 rfl rfl (Nat.le_of_ble_eq_true rfl) ⟨_, _, _, rfl, (hX.1), rfl⟩ (by omega) (by omega) (zc_numAtX_M g hX he1 he2 (by omega) (by decide) (by decide) (hx _ _ _ _ _ _ (by omega) (by omega) (hX2 c1_)))
  · obtain ⟨i, rfl⟩ : ∃ i : Nat, e = (i : Int) := ⟨e.toNat, by omega⟩
    have hi : i < 6 := by omega
    by_cases cj_ : c.1 ≤ 0
    · 
      refine hs 0 _ rfl _ _ _ _ _ _ _ rfl ?_
      refine hs 1 _ rfl _ _ _ _ _ _ _ rfl ?_
      refine zw_c (hs 2 _ rfl) (a := [.ref x, .int (Int32.ofInt (i : Int))]) (st := []) rfl rfl (Nat.le_of_ble_eq_true rfl) ⟨_, _, _, rfl, hX.1, rfl⟩ (by omega) (by omega) (zc_numAt_M g hX (i := i) rfl hi ?_)
      show S 5 [some (.ref x), some (.int (Int32.ofInt (i : Int))), none] [.ref (x + 1 + 5 + 2 * i)] _ _ _
      refine hs 3 _ rfl _ _ _ _ _ _ _ rfl ?_
      refine hs 4 _ rfl _ _ _ _ _ _ _ rfl ?_
      refine zw_c (hs 5 _ rfl) (a := [.ref x]) (st := []) rfl rfl (Nat.le_of_ble_eq_true rfl) ⟨_, _, _, rfl, hX.1, rfl⟩ (by omega) (by omega) (zc_jam_M g hX (fun _ => ?_) (fun y_ => absurd y_ (by omega)))
      show S 10 [some (.ref x), some (.int (Int32.ofInt (i : Int))), some (.ref (x + 1 + 5 + 2 * i))] [.int (Int32.ofInt (1 : Int))] _ _ _
      refine hs 6 _ rfl _ _ _ _ _ _ (fun zq => absurd (hd_c1z (c := 0) (by omega) (by omega) zq) (by omega : ¬ ((1 : Int) = 0))) (fun _ => ?_)
      refine hs 7 _ rfl _ _ _ _ _ _ _ rfl ?_
      exact hs 8 _ rfl _ _ _ _ _ ⟨_, rfl, by decide, by decide⟩ (Nat.zero_le _) (Nat.zero_le _) (hN c1_ _ (fun y_ => by have y2_ := y_.1; omega) fun _ _ _ hz _ _ => hz)
    · 
      obtain ⟨M_, hM_⟩ : ∃ M_ : Nat, c.1 = (M_ : Int) := ⟨c.1.toNat, by omega⟩
      have d1_ := hX.2.1.d
      rw [hM_] at d1_
      obtain ⟨U_, hU_⟩ : ∃ U_ : Nat, sk_n (sk_u M_) M_ = U_ := ⟨_, rfl⟩
      have ul_ := sk_n.le (sk_u M_) M_
      rw [hU_] at ul_
      obtain ⟨-, q3_, k3_, m3_, u3_, qs_, g2_, g3_, l3_, b1_, b2_⟩ := hZ
      have n1_ : r 3 ≠ q3_ := fun y_ => by
        rw [y_, g3_] at g2_
        cases g2_
      have r1_ := Int.emod_nonneg (c.2.1.getD i 0) (b := (M_ : Int)) (by omega)
      have r2_ := Int.emod_lt_of_pos (c.2.1.getD i 0) (b := (M_ : Int)) (by omega)
      obtain ⟨A_, hA_⟩ : ∃ A_ : Nat, c.2.1.getD i 0 % (M_ : Int) = (A_ : Int) := ⟨(c.2.1.getD i 0 % (M_ : Int)).toNat, by omega⟩
      rw [Int.toNat_natCast, hM_, hA_, Int.toNat_natCast, Int.toNat_natCast] at hY hN
      obtain ⟨ny_, sy_, ly_, y1_, y2_, y3_⟩ := hX.2.1.n hi
      refine hs 0 _ rfl _ _ _ _ _ _ _ rfl ?_
      refine hs 1 _ rfl _ _ _ _ _ _ _ rfl ?_
      refine zw_c (hs 2 _ rfl) (a := [.ref x, .int (Int32.ofInt (i : Int))]) (st := []) rfl rfl (Nat.le_of_ble_eq_true rfl) ⟨_, _, _, rfl, hX.1, rfl⟩ (by omega) (by omega) (zc_numAt_M g hX (i := i) rfl hi ?_)
      show S 5 [some (.ref x), some (.int (Int32.ofInt (i : Int))), none] [.ref (x + 1 + 5 + 2 * i)] _ _ _
      refine hs 3 _ rfl _ _ _ _ _ _ _ rfl ?_
      refine hs 4 _ rfl _ _ _ _ _ _ _ rfl ?_
      refine zw_c (hs 5 _ rfl) (a := [.ref x]) (st := []) rfl rfl (Nat.le_of_ble_eq_true rfl) ⟨_, _, _, rfl, hX.1, rfl⟩ (by omega) (by omega) (zc_jam_M g hX (fun y_ => absurd y_ (by omega)) (fun _ => ?_))
      show S 10 [some (.ref x), some (.int (Int32.ofInt (i : Int))), some (.ref (x + 1 + 5 + 2 * i))] [.int (Int32.ofInt (0 : Int))] _ _ _
      refine hs 6 _ rfl _ _ _ _ _ _ (fun _ => ?_) (fun zq => absurd (hd_c1t (c := 0) (by omega) (by omega) (by omega : (0 : Int) = 0)) zq)
      refine hs 9 _ rfl _ _ _ _ _ _ _ rfl ?_
      refine hs 10 _ rfl _ _ _ _ _ _ _ _ _ (hX.1) rfl rfl ?_
      refine hs 11 _ rfl _ _ _ _ _ _ _ rfl ?_
      refine hs 12 _ rfl _ _ _ _ _ _ _ _ _ (hX.1) rfl rfl ?_
      refine hs 13 _ rfl _ _ _ _ _ _ _ _ _ (d1_) rfl rfl ?_
      refine zw_c (hs 14 _ rfl) (a := [.ref (r 3), .int (Int32.ofInt (M_ : Int))]) (st := []) rfl rfl (Nat.le_of_ble_eq_true rfl) ⟨_, _, _, rfl, g2_, rfl⟩ (by omega) (by omega) (zc_turn9_M g g2_ g3_ l3_ n1_ b1_ b2_ (M_ := M_) (U_ := U_) (by omega) (by omega) hU_ fun h1_ l9_ f1_ f2_ e9_ iv_ fr_ => ?_)
      have kp_ : ∀ (z t : Nat) (vs : List Value), am_g G h z = some (t, vs) → t ≠ 1010 → t ≠ 1750 → am_g G h1_ z = some (t, vs) := fun z t vs hz z1 z2 => (fr_ z (fun y_ => by
        rw [y_, g2_] at hz
        cases hz
        exact z1 rfl) (fun y_ => by
        rw [y_, g3_] at hz
        cases hz
        exact z2 rfl)).trans hz
      have x9_ := kp_ x _ _ hX.1 (by decide) (by decide)
      have d9_ := kp_ _ _ _ d1_ (by decide) (by decide)
      have y1b_ := kp_ _ _ _ y1_ (by decide) (by decide)
      have y2b_ := kp_ _ _ _ y2_ (by decide) (by decide)
      show S 29 [some (.ref x), some (.int (Int32.ofInt (i : Int))), some (.ref (x + 1 + 5 + 2 * i))] [] _ _ _
      cases e0_ : sk_gu M_ U_ A_ with
      | true =>
        refine hs 15 _ rfl _ _ _ _ _ _ _ rfl ?_
        refine hs 16 _ rfl _ _ _ _ _ _ _ _ _ (x9_) rfl rfl ?_
        refine hs 17 _ rfl _ _ _ _ _ _ _ rfl ?_
        refine hs 18 _ rfl _ _ _ _ _ _ _ rfl ?_
        refine hs 19 _ rfl _ _ _ _ _ _ _ _ _ (x9_) rfl rfl ?_
        refine hs 20 _ rfl _ _ _ _ _ _ _ _ _ (d9_) rfl rfl ?_
        refine zw_c (hs 21 _ rfl) (a := [.ref (x + 1 + 5 + 2 * i), .int (Int32.ofInt (M_ : Int))]) (st := [.ref (r 3)]) rfl rfl (Nat.le_of_ble_eq_true rfl) ⟨_, _, _, rfl, y1b_, rfl⟩ (by omega) (by omega) (sb_restE_M g y1b_ rfl y2b_ rfl y3_ (by omega) (by omega) ?_)
        rw [hA_]
        show S 44 [some (.ref x), some (.int (Int32.ofInt (i : Int))), some (.ref (x + 1 + 5 + 2 * i))] [.int (Int32.ofInt (A_ : Int)), .ref (r 3)] _ _ _
        refine zw_c (hs 22 _ rfl) (a := [.ref (r 3), .int (Int32.ofInt (A_ : Int))]) (st := []) rfl rfl (Nat.le_of_ble_eq_true rfl) ⟨_, _, _, rfl, f1_, rfl⟩ (by omega) (by omega) (zc_holds_M g f1_ f2_ e9_ (A_ := A_) (M_ := M_) (U_ := U_) (by omega) (by omega) (by omega) (by omega) iv_ (fun _ => ?_) (fun w_ => absurd (e0_.symm.trans w_) (by decide)))
        show S 47 [some (.ref x), some (.int (Int32.ofInt (i : Int))), some (.ref (x + 1 + 5 + 2 * i))] [.int (Int32.ofInt (1 : Int))] _ _ _
        exact hs 23 _ rfl _ _ _ _ _ ⟨_, rfl, by decide, by decide⟩ (Nat.zero_le _) (Nat.zero_le _) (hY c1_ _ ⟨by omega, (by show sk_gu M_ (sk_n (sk_u M_) M_) A_ = true; rw [hU_]; exact e0_)⟩ kp_)
      | false =>
        refine hs 15 _ rfl _ _ _ _ _ _ _ rfl ?_
        refine hs 16 _ rfl _ _ _ _ _ _ _ _ _ (x9_) rfl rfl ?_
        refine hs 17 _ rfl _ _ _ _ _ _ _ rfl ?_
        refine hs 18 _ rfl _ _ _ _ _ _ _ rfl ?_
        refine hs 19 _ rfl _ _ _ _ _ _ _ _ _ (x9_) rfl rfl ?_
        refine hs 20 _ rfl _ _ _ _ _ _ _ _ _ (d9_) rfl rfl ?_
        refine zw_c (hs 21 _ rfl) (a := [.ref (x + 1 + 5 + 2 * i), .int (Int32.ofInt (M_ : Int))]) (st := [.ref (r 3)]) rfl rfl (Nat.le_of_ble_eq_true rfl) ⟨_, _, _, rfl, y1b_, rfl⟩ (by omega) (by omega) (sb_restE_M g y1b_ rfl y2b_ rfl y3_ (by omega) (by omega) ?_)
        rw [hA_]
        show S 44 [some (.ref x), some (.int (Int32.ofInt (i : Int))), some (.ref (x + 1 + 5 + 2 * i))] [.int (Int32.ofInt (A_ : Int)), .ref (r 3)] _ _ _
        refine zw_c (hs 22 _ rfl) (a := [.ref (r 3), .int (Int32.ofInt (A_ : Int))]) (st := []) rfl rfl (Nat.le_of_ble_eq_true rfl) ⟨_, _, _, rfl, f1_, rfl⟩ (by omega) (by omega) (zc_holds_M g f1_ f2_ e9_ (A_ := A_) (M_ := M_) (U_ := U_) (by omega) (by omega) (by omega) (by omega) iv_ (fun w_ => absurd (w_.symm.trans e0_) (by decide)) (fun _ => ?_))
        show S 47 [some (.ref x), some (.int (Int32.ofInt (i : Int))), some (.ref (x + 1 + 5 + 2 * i))] [.int (Int32.ofInt (0 : Int))] _ _ _
        exact hs 23 _ rfl _ _ _ _ _ ⟨_, rfl, by decide, by decide⟩ (Nat.zero_le _) (Nat.zero_le _) (hN c1_ _ (fun y_ => by have y2_ : sk_gu M_ (sk_n (sk_u M_) M_) A_ = true := y_.2; rw [hU_, e0_] at y2_; exact absurd y2_ (by decide)) kp_)
set_option maxHeartbeats 4000000 in
theorem zk_genAt_M {l : Launch} {G : am_G} {X : ck_XT} (g : gM l G X) {o : Nat → Nat} {x tx now qw : Nat} {th j m k : Int} {c : sp_S} {P : List sp_S} {h : List am_C} (hX : zm_x G h o x tx now qw th j m k c P) (hok : sp_ok c) {M_ U_ : Nat} (hM_ : c.1 = (M_ : Int)) (hm1 : 1 ≤ M_) (hm : M_ ≤ 400) (hU_ : sk_n (sk_u M_) M_ = U_) {pl_ : Int} (hpl : 0 ≤ pl_) (hpl2 : pl_ ≤ 2147483647) {mc ms : Nat} {Post : am_O → List am_C → Prop} (hP : ∀ v : Int, sk_at (sk_gu M_ U_) M_ pl_ v → Post (.inl (some (.int (Int32.ofInt v)))) h) :
    am_M l G yX14_generatorAt (.code yX14_generatorAt prog_14_method_63_code 5 (some .int)) 3 65 mc ms [.ref x, .int (Int32.ofInt pl_)] h Post := by
  refine gh_yX14_generatorAt_X g (Nat.le_of_ble_eq_true rfl) fun S SX hs hr hw hx => ?_
  have rv : ∀ x : Int32, ck_fv 0 (.int x) := fun x => ⟨_, rfl⟩
  obtain ⟨a1_, a2_, a3_, a4_⟩ := id hX
  obtain ⟨t_, qn_, ql_, qb_, s1_, up_⟩ := hX.dialL
  rw [hM_] at s1_
  have ul_ := sk_n.le (sk_u M_) M_
  rw [hU_] at ul_
  have loop : ∀ (n_ x_ : Nat), x_ + n_ = M_ → (∀ y : Nat, y < x_ → sk_gu M_ U_ y = true → ¬ ((sk_n (sk_gu M_ U_) y : Nat) : Int) = pl_) → S 10 [some (.ref x), some (.int (Int32.ofInt pl_)), some (.int (Int32.ofInt (U_ : Int))), some (.int (Int32.ofInt (pl_ - ((sk_n (sk_gu M_ U_) x_ : Nat) : Int)))), some (.int (Int32.ofInt (x_ : Int)))] [] h 0 0 := by
    intro n_
    induction n_ with
    | zero =>
      intro x_ hx_ hn_
      have c0_ := sk_n.le (sk_gu M_ U_) x_
      refine hs 7 _ rfl _ _ _ _ _ _ _ rfl ?_
      refine hs 8 _ rfl _ _ _ _ _ _ _ rfl ?_
      refine hs 9 _ rfl _ _ _ _ _ _ _ _ _ (a1_) a2_.1 rfl ?_
      refine hs 10 _ rfl _ _ _ _ _ _ _ _ _ (s1_.1) s1_.2 rfl ?_
      refine hs 11 _ rfl _ _ _ _ _ _ _ (fun _ => ?_) (fun zq => absurd (hd_c2t (c := 3) (by omega) (by omega) (by omega) (by omega) (by omega : 0 ≤ ((x_ : Int) - (M_ : Int)))) zq)
      refine hs 31 _ rfl _ _ _ _ _ _ _ rfl ?_
      exact hs 32 _ rfl _ _ _ _ _ (rv _) (Nat.zero_le _) (Nat.zero_le _) (hP (-1) (Or.inr ⟨fun y hy => hn_ y (by omega), rfl⟩))
    | succ n_ ih =>
      intro x_ hx_ hn_
      have c0_ := sk_n.le (sk_gu M_ U_) x_
      cases e0_ : sk_gu M_ U_ x_ with
      | true =>
        have e1_ : Nat.gcd x_ M_ = 1 := by
          by_cases q_ : Nat.gcd x_ M_ = 1
          · exact q_
          · rw [sk_gu.no1 q_] at e0_
            exact absurd e0_ (by decide)
        have b3_ : Nat.gcd x_ M_ ≤ M_ := Nat.gcd_le_right x_ (by omega)
        by_cases e2_ : ((sk_n (sk_gu M_ U_) x_ : Nat) : Int) = pl_
        · 
          refine hs 7 _ rfl _ _ _ _ _ _ _ rfl ?_
          refine hs 8 _ rfl _ _ _ _ _ _ _ rfl ?_
          refine hs 9 _ rfl _ _ _ _ _ _ _ _ _ (a1_) a2_.1 rfl ?_
          refine hs 10 _ rfl _ _ _ _ _ _ _ _ _ (s1_.1) s1_.2 rfl ?_
          refine hs 11 _ rfl _ _ _ _ _ _ _ (fun zq => absurd (hd_c2z (c := 3) (by omega) (by omega) (by omega) (by omega) zq) (by omega : ¬ (0 ≤ ((x_ : Int) - (M_ : Int))))) (fun _ => ?_)
          refine hs 12 _ rfl _ _ _ _ _ _ _ rfl ?_
          refine hs 13 _ rfl _ _ _ _ _ _ _ rfl ?_
          refine hs 14 _ rfl _ _ _ _ _ _ _ _ _ (a1_) a2_.1 rfl ?_
          refine hs 15 _ rfl _ _ _ _ _ _ _ _ _ (s1_.1) s1_.2 rfl ?_
          refine zw_c (hs 16 _ rfl) (a := [.int (Int32.ofInt (x_ : Int)), .int (Int32.ofInt (M_ : Int))]) (st := []) rfl rfl (Nat.le_of_ble_eq_true rfl) trivial (by omega) (by omega) (nu_gcd_M g.1 (by omega) (by omega) ?_)
          show S 34 [some (.ref x), some (.int (Int32.ofInt pl_)), some (.int (Int32.ofInt (U_ : Int))), some (.int (Int32.ofInt (pl_ - ((sk_n (sk_gu M_ U_) x_ : Nat) : Int)))), some (.int (Int32.ofInt (x_ : Int)))] [.int (Int32.ofInt ((Nat.gcd x_ M_ : Nat) : Int))] _ _ _
          refine hs 17 _ rfl _ _ _ _ _ _ _ rfl ?_
          refine hs 18 _ rfl _ _ _ _ _ _ _ (fun zq => absurd (hd_c2z (c := 1) (by omega) (by omega) (by omega) (by omega) zq) (by omega : ¬ ((((Nat.gcd x_ M_ : Nat) : Int) - (1 : Int)) ≠ 0))) (fun _ => ?_)
          refine hs 19 _ rfl _ _ _ _ _ _ _ rfl ?_
          refine hs 20 _ rfl _ _ _ _ _ _ _ rfl ?_
          refine zw_c (hs 21 _ rfl) (a := [.ref x, .int (Int32.ofInt (x_ : Int))]) (st := []) rfl rfl (Nat.le_of_ble_eq_true rfl) ⟨_, _, _, rfl, a1_, a2_.1⟩ (by omega) (by omega) (zk_order_M g hX (A_ := x_) hM_ (by omega) hm fun v_ hv_ => ?_)
          have ov_ := sk_g.ord hm (show x_ < M_ by omega) e1_ hv_
          unfold sk_g at ov_
          rw [hU_, e0_] at ov_
          have o9_ : v_ = (U_ : Int) := by
            rcases ov_ with ⟨-, y_⟩ | ⟨y_, -⟩
            · exact y_
            · exact absurd y_ (by decide)
          show S 44 [some (.ref x), some (.int (Int32.ofInt pl_)), some (.int (Int32.ofInt (U_ : Int))), some (.int (Int32.ofInt (pl_ - ((sk_n (sk_gu M_ U_) x_ : Nat) : Int)))), some (.int (Int32.ofInt (x_ : Int)))] [.int (Int32.ofInt v_)] _ _ _
          refine hs 22 _ rfl _ _ _ _ _ _ _ rfl ?_
          refine hs 23 _ rfl _ _ _ _ _ _ _ (fun zq => absurd (hd_c2z (c := 1) (by omega) (by omega) (by omega) (by omega) zq) (by omega : ¬ ((v_ - (U_ : Int)) ≠ 0))) (fun _ => ?_)
          refine hs 24 _ rfl _ _ _ _ _ _ _ rfl ?_
          refine hs 25 _ rfl _ _ _ _ _ _ _ (hd_inc rfl) ?_
          refine hs 26 _ rfl _ _ _ _ _ _ (fun zq => absurd (hd_c1z (c := 1) (by omega) (by omega) zq) (by omega : ¬ ((pl_ - ((sk_n (sk_gu M_ U_) x_ : Nat) : Int)) ≠ 0))) (fun _ => ?_)
          refine hs 27 _ rfl _ _ _ _ _ _ _ rfl ?_
          exact hs 28 _ rfl _ _ _ _ _ (rv _) (Nat.zero_le _) (Nat.zero_le _) (hP (x_ : Int) (Or.inl ⟨x_, by omega, e0_, e2_, rfl⟩))
        · have z_ := ih (x_ + 1) (by omega) fun y hy hp => by
            by_cases q_ : y = x_
            · rw [q_]
              exact e2_
            · exact hn_ y (by omega) hp
          rw [sk_n.yes (p := sk_gu M_ U_) (n := x_) e0_, show pl_ - ((sk_n (sk_gu M_ U_) x_ + 1 : Nat) : Int) = pl_ - ((sk_n (sk_gu M_ U_) x_ : Nat) : Int) + (-1) by omega] at z_
          refine hs 7 _ rfl _ _ _ _ _ _ _ rfl ?_
          refine hs 8 _ rfl _ _ _ _ _ _ _ rfl ?_
          refine hs 9 _ rfl _ _ _ _ _ _ _ _ _ (a1_) a2_.1 rfl ?_
          refine hs 10 _ rfl _ _ _ _ _ _ _ _ _ (s1_.1) s1_.2 rfl ?_
          refine hs 11 _ rfl _ _ _ _ _ _ _ (fun zq => absurd (hd_c2z (c := 3) (by omega) (by omega) (by omega) (by omega) zq) (by omega : ¬ (0 ≤ ((x_ : Int) - (M_ : Int))))) (fun _ => ?_)
          refine hs 12 _ rfl _ _ _ _ _ _ _ rfl ?_
          refine hs 13 _ rfl _ _ _ _ _ _ _ rfl ?_
          refine hs 14 _ rfl _ _ _ _ _ _ _ _ _ (a1_) a2_.1 rfl ?_
          refine hs 15 _ rfl _ _ _ _ _ _ _ _ _ (s1_.1) s1_.2 rfl ?_
          refine zw_c (hs 16 _ rfl) (a := [.int (Int32.ofInt (x_ : Int)), .int (Int32.ofInt (M_ : Int))]) (st := []) rfl rfl (Nat.le_of_ble_eq_true rfl) trivial (by omega) (by omega) (nu_gcd_M g.1 (by omega) (by omega) ?_)
          show S 34 [some (.ref x), some (.int (Int32.ofInt pl_)), some (.int (Int32.ofInt (U_ : Int))), some (.int (Int32.ofInt (pl_ - ((sk_n (sk_gu M_ U_) x_ : Nat) : Int)))), some (.int (Int32.ofInt (x_ : Int)))] [.int (Int32.ofInt ((Nat.gcd x_ M_ : Nat) : Int))] _ _ _
          refine hs 17 _ rfl _ _ _ _ _ _ _ rfl ?_
          refine hs 18 _ rfl _ _ _ _ _ _ _ (fun zq => absurd (hd_c2z (c := 1) (by omega) (by omega) (by omega) (by omega) zq) (by omega : ¬ ((((Nat.gcd x_ M_ : Nat) : Int) - (1 : Int)) ≠ 0))) (fun _ => ?_)
          refine hs 19 _ rfl _ _ _ _ _ _ _ rfl ?_
          refine hs 20 _ rfl _ _ _ _ _ _ _ rfl ?_
          refine zw_c (hs 21 _ rfl) (a := [.ref x, .int (Int32.ofInt (x_ : Int))]) (st := []) rfl rfl (Nat.le_of_ble_eq_true rfl) ⟨_, _, _, rfl, a1_, a2_.1⟩ (by omega) (by omega) (zk_order_M g hX (A_ := x_) hM_ (by omega) hm fun v_ hv_ => ?_)
          have ov_ := sk_g.ord hm (show x_ < M_ by omega) e1_ hv_
          unfold sk_g at ov_
          rw [hU_, e0_] at ov_
          have o9_ : v_ = (U_ : Int) := by
            rcases ov_ with ⟨-, y_⟩ | ⟨y_, -⟩
            · exact y_
            · exact absurd y_ (by decide)
          show S 44 [some (.ref x), some (.int (Int32.ofInt pl_)), some (.int (Int32.ofInt (U_ : Int))), some (.int (Int32.ofInt (pl_ - ((sk_n (sk_gu M_ U_) x_ : Nat) : Int)))), some (.int (Int32.ofInt (x_ : Int)))] [.int (Int32.ofInt v_)] _ _ _
          refine hs 22 _ rfl _ _ _ _ _ _ _ rfl ?_
          refine hs 23 _ rfl _ _ _ _ _ _ _ (fun zq => absurd (hd_c2z (c := 1) (by omega) (by omega) (by omega) (by omega) zq) (by omega : ¬ ((v_ - (U_ : Int)) ≠ 0))) (fun _ => ?_)
          refine hs 24 _ rfl _ _ _ _ _ _ _ rfl ?_
          refine hs 25 _ rfl _ _ _ _ _ _ _ (hd_inc rfl) ?_
          refine hs 26 _ rfl _ _ _ _ _ _ (fun _ => ?_) (fun zq => absurd (hd_c1t (c := 1) (by omega) (by omega) (by omega : (pl_ - ((sk_n (sk_gu M_ U_) x_ : Nat) : Int)) ≠ 0)) zq)
          refine hs 29 _ rfl _ _ _ _ _ _ _ (hd_inc rfl) ?_
          refine hs 30 _ rfl _ _ _ _ _ ?_
          exact z_
      | false =>
        have z_ := ih (x_ + 1) (by omega) fun y hy hp => by
          by_cases q_ : y = x_
          · rw [q_, e0_] at hp
            exact absurd hp (by decide)
          · exact hn_ y (by omega) hp
        rw [sk_n.no (p := sk_gu M_ U_) (n := x_) e0_] at z_
        have b3_ : Nat.gcd x_ M_ ≤ M_ := Nat.gcd_le_right x_ (by omega)
        by_cases e1_ : Nat.gcd x_ M_ = 1
        · 
          refine hs 7 _ rfl _ _ _ _ _ _ _ rfl ?_
          refine hs 8 _ rfl _ _ _ _ _ _ _ rfl ?_
          refine hs 9 _ rfl _ _ _ _ _ _ _ _ _ (a1_) a2_.1 rfl ?_
          refine hs 10 _ rfl _ _ _ _ _ _ _ _ _ (s1_.1) s1_.2 rfl ?_
          refine hs 11 _ rfl _ _ _ _ _ _ _ (fun zq => absurd (hd_c2z (c := 3) (by omega) (by omega) (by omega) (by omega) zq) (by omega : ¬ (0 ≤ ((x_ : Int) - (M_ : Int))))) (fun _ => ?_)
          refine hs 12 _ rfl _ _ _ _ _ _ _ rfl ?_
          refine hs 13 _ rfl _ _ _ _ _ _ _ rfl ?_
          refine hs 14 _ rfl _ _ _ _ _ _ _ _ _ (a1_) a2_.1 rfl ?_
          refine hs 15 _ rfl _ _ _ _ _ _ _ _ _ (s1_.1) s1_.2 rfl ?_
          refine zw_c (hs 16 _ rfl) (a := [.int (Int32.ofInt (x_ : Int)), .int (Int32.ofInt (M_ : Int))]) (st := []) rfl rfl (Nat.le_of_ble_eq_true rfl) trivial (by omega) (by omega) (nu_gcd_M g.1 (by omega) (by omega) ?_)
          show S 34 [some (.ref x), some (.int (Int32.ofInt pl_)), some (.int (Int32.ofInt (U_ : Int))), some (.int (Int32.ofInt (pl_ - ((sk_n (sk_gu M_ U_) x_ : Nat) : Int)))), some (.int (Int32.ofInt (x_ : Int)))] [.int (Int32.ofInt ((Nat.gcd x_ M_ : Nat) : Int))] _ _ _
          refine hs 17 _ rfl _ _ _ _ _ _ _ rfl ?_
          refine hs 18 _ rfl _ _ _ _ _ _ _ (fun zq => absurd (hd_c2z (c := 1) (by omega) (by omega) (by omega) (by omega) zq) (by omega : ¬ ((((Nat.gcd x_ M_ : Nat) : Int) - (1 : Int)) ≠ 0))) (fun _ => ?_)
          refine hs 19 _ rfl _ _ _ _ _ _ _ rfl ?_
          refine hs 20 _ rfl _ _ _ _ _ _ _ rfl ?_
          refine zw_c (hs 21 _ rfl) (a := [.ref x, .int (Int32.ofInt (x_ : Int))]) (st := []) rfl rfl (Nat.le_of_ble_eq_true rfl) ⟨_, _, _, rfl, a1_, a2_.1⟩ (by omega) (by omega) (zk_order_M g hX (A_ := x_) hM_ (by omega) hm fun v_ hv_ => ?_)
          have ov_ := sk_g.ord hm (show x_ < M_ by omega) e1_ hv_
          have ob_ := sk_o.bd hv_
          unfold sk_g at ov_
          rw [hU_, e0_] at ov_
          have o9_ : ¬ v_ = (U_ : Int) := by
            rcases ov_ with ⟨y_, -⟩ | ⟨-, y_⟩
            · exact absurd y_ (by decide)
            · exact y_
          show S 44 [some (.ref x), some (.int (Int32.ofInt pl_)), some (.int (Int32.ofInt (U_ : Int))), some (.int (Int32.ofInt (pl_ - ((sk_n (sk_gu M_ U_) x_ : Nat) : Int)))), some (.int (Int32.ofInt (x_ : Int)))] [.int (Int32.ofInt v_)] _ _ _
          refine hs 22 _ rfl _ _ _ _ _ _ _ rfl ?_
          refine hs 23 _ rfl _ _ _ _ _ _ _ (fun _ => ?_) (fun zq => absurd (hd_c2t (c := 1) (by omega) (by omega) (by omega) (by omega) (by omega : (v_ - (U_ : Int)) ≠ 0)) zq)
          refine hs 29 _ rfl _ _ _ _ _ _ _ (hd_inc rfl) ?_
          refine hs 30 _ rfl _ _ _ _ _ ?_
          exact z_
        · 
          refine hs 7 _ rfl _ _ _ _ _ _ _ rfl ?_
          refine hs 8 _ rfl _ _ _ _ _ _ _ rfl ?_
          refine hs 9 _ rfl _ _ _ _ _ _ _ _ _ (a1_) a2_.1 rfl ?_
          refine hs 10 _ rfl _ _ _ _ _ _ _ _ _ (s1_.1) s1_.2 rfl ?_
          refine hs 11 _ rfl _ _ _ _ _ _ _ (fun zq => absurd (hd_c2z (c := 3) (by omega) (by omega) (by omega) (by omega) zq) (by omega : ¬ (0 ≤ ((x_ : Int) - (M_ : Int))))) (fun _ => ?_)
          refine hs 12 _ rfl _ _ _ _ _ _ _ rfl ?_
          refine hs 13 _ rfl _ _ _ _ _ _ _ rfl ?_
          refine hs 14 _ rfl _ _ _ _ _ _ _ _ _ (a1_) a2_.1 rfl ?_
          refine hs 15 _ rfl _ _ _ _ _ _ _ _ _ (s1_.1) s1_.2 rfl ?_
          refine zw_c (hs 16 _ rfl) (a := [.int (Int32.ofInt (x_ : Int)), .int (Int32.ofInt (M_ : Int))]) (st := []) rfl rfl (Nat.le_of_ble_eq_true rfl) trivial (by omega) (by omega) (nu_gcd_M g.1 (by omega) (by omega) ?_)
          show S 34 [some (.ref x), some (.int (Int32.ofInt pl_)), some (.int (Int32.ofInt (U_ : Int))), some (.int (Int32.ofInt (pl_ - ((sk_n (sk_gu M_ U_) x_ : Nat) : Int)))), some (.int (Int32.ofInt (x_ : Int)))] [.int (Int32.ofInt ((Nat.gcd x_ M_ : Nat) : Int))] _ _ _
          refine hs 17 _ rfl _ _ _ _ _ _ _ rfl ?_
          refine hs 18 _ rfl _ _ _ _ _ _ _ (fun _ => ?_) (fun zq => absurd (hd_c2t (c := 1) (by omega) (by omega) (by omega) (by omega) (by omega : (((Nat.gcd x_ M_ : Nat) : Int) - (1 : Int)) ≠ 0)) zq)
          refine hs 29 _ rfl _ _ _ _ _ _ _ (hd_inc rfl) ?_
          refine hs 30 _ rfl _ _ _ _ _ ?_
          exact z_
  have z_ := loop M_ 0 (by omega) (fun y hy => absurd hy (Nat.not_lt_zero _))
  rw [show pl_ - ((sk_n (sk_gu M_ U_) 0 : Nat) : Int) = pl_ by show pl_ - ((0 : Nat) : Int) = pl_; omega] at z_
  refine hs 0 _ rfl _ _ _ _ _ _ _ rfl ?_
  refine zw_c (hs 1 _ rfl) (a := [.ref x]) (st := []) rfl rfl (Nat.le_of_ble_eq_true rfl) ⟨_, _, _, rfl, a1_, a2_.1⟩ (by omega) (by omega) (zm_units8_M g hX hok ?_)
  rw [if_neg (show ¬ c.1 ≤ 0 by omega), show c.1.toNat = M_ by omega, hU_]
  show S 4 [some (.ref x), some (.int (Int32.ofInt pl_)), none, none, none] [.int (Int32.ofInt (U_ : Int))] _ _ _
  refine hs 2 _ rfl _ _ _ _ _ _ _ rfl ?_
  refine hs 3 _ rfl _ _ _ _ _ _ _ rfl ?_
  refine hs 4 _ rfl _ _ _ _ _ _ _ rfl ?_
  refine hs 5 _ rfl _ _ _ _ _ _ _ rfl ?_
  refine hs 6 _ rfl _ _ _ _ _ _ _ rfl ?_
  exact z_
set_option maxHeartbeats 4000000 in
theorem zm_qgenerator_M {l : Launch} {G : am_G} {X : ck_XT} (g : gM l G X) {o : Nat → Nat} {x tx now qw : Nat} {th j m k : Int} {c : sp_S} {P : List sp_S} {h : List am_C} (hX : zm_x G h o x tx now qw th j m k c P) (hok : sp_ok c) {e e2 : Int} (he1 : -2147483648 ≤ e) (he2 : e ≤ 2147483647) {mc ms : Nat} {Post : am_O → List am_C → Prop}
    (hP : ∀ (a th : Int) (T' : sp_T) (h' : List am_C), sp_q35 e e2 (c, P, j, m, k) a th T' → zm_fr G h h' → zm_Y G h' x th T' → Post (.inl (some (.int (Int32.ofInt a)))) h') :
    am_M l G yX14_generator (.code yX14_generator prog_14_method_64_code 2 (some .int)) 4 89 mc ms [.ref x, .int (Int32.ofInt e)] h Post := by
  refine gh_yX14_generator_X g (Nat.le_of_ble_eq_true rfl) fun S SX hs hr hw hx => ?_
  have rv : ∀ x : Int32, ck_fv 0 (.int x) := fun x => ⟨_, rfl⟩
  obtain ⟨a1_, a2_, a3_, a4_⟩ := id hX
  by_cases c1_ : 0 ≤ e
  rotate_left
  · 
    refine hs 0 _ rfl _ _ _ _ _ _ _ rfl ?_
    refine hs 1 _ rfl _ _ _ _ _ _ _ rfl ?_
    refine hs 2 _ rfl _ _ _ _ _ _ (fun zq => absurd (hd_c1z (c := 3) (by omega) (by omega) zq) (by omega : ¬ (0 ≤ e))) (fun _ => ?_)
    refine hs 3 _ rfl _ _ _ _ _ _ _ rfl ?_
    refine hs 4 _ rfl _ _ _ _ _ ?_
    refine hs 6 _ rfl _ _ _ _ _ _ _ rfl ?_
    refine zw_c (hs 7 _ rfl) (a := [.ref x, .int (Int32.ofInt (1 : Int)), .int (Int32.ofInt (1 : Int))]) (st := []) rfl rfl (Nat.le_of_ble_eq_true rfl) ⟨_, _, _, rfl, a1_, a2_.1⟩ (by omega) (by omega) (zm_start_M g hX (i_ := 1) (w_ := 1) (Or.inr rfl) (by decide) (fun y_ h2_ f2_ x2_ => ?_) (fun y_ => absurd y_ (by decide)))
    show S 14 [some (.ref x), some (.int (Int32.ofInt e))] [.int (Int32.ofInt (1 : Int))] _ _ _
    refine hs 8 _ rfl _ _ _ _ _ _ (fun zq => absurd (hd_c1z (c := 0) (by omega) (by omega) zq) (by omega : ¬ ((1 : Int) = 0))) (fun _ => ?_)
    refine hs 9 _ rfl _ _ _ _ _ _ _ rfl ?_
    exact hs 10 _ rfl _ _ _ _ _ (rv _) (by omega) (by omega) (hP 0 _ _ _ ⟨rfl, Or.inr ⟨c1_, rfl⟩⟩ (f2_) ⟨_, _, _, _, x2_⟩)
  · have okd_ := hok.1
    by_cases cj_ : c.1 ≤ 0
    · 
      refine hs 0 _ rfl _ _ _ _ _ _ _ rfl ?_
      refine hs 1 _ rfl _ _ _ _ _ _ _ rfl ?_
      refine hs 2 _ rfl _ _ _ _ _ _ (fun _ => ?_) (fun zq => absurd (hd_c1t (c := 3) (by omega) (by omega) (by omega : 0 ≤ e)) zq)
      refine hs 5 _ rfl _ _ _ _ _ _ _ rfl ?_
      refine hs 6 _ rfl _ _ _ _ _ _ _ rfl ?_
      refine zw_c (hs 7 _ rfl) (a := [.ref x, .int (Int32.ofInt (0 : Int)), .int (Int32.ofInt (1 : Int))]) (st := []) rfl rfl (Nat.le_of_ble_eq_true rfl) ⟨_, _, _, rfl, a1_, a2_.1⟩ (by omega) (by omega) (zm_start_M g hX (i_ := 0) (w_ := 1) (Or.inl rfl) (by decide) (fun y_ => absurd y_ (by decide)) (fun y_ h2_ f2_ x2_ => ?_))
      show S 14 [some (.ref x), some (.int (Int32.ofInt e))] [.int (Int32.ofInt (0 : Int))] _ _ _
      refine hs 8 _ rfl _ _ _ _ _ _ (fun _ => ?_) (fun zq => absurd (hd_c1t (c := 0) (by omega) (by omega) (by omega : (0 : Int) = 0)) zq)
      refine hs 11 _ rfl _ _ _ _ _ _ _ rfl ?_
      refine zw_c (hs 12 _ rfl) (a := [.ref x]) (st := []) rfl rfl (Nat.le_of_ble_eq_true rfl) (zm_rc x2_) (by omega) (by omega) (zm_jam_M g x2_ hok (fun y_ => ?_) (fun y_ => absurd y_ (by omega)))
      show S 23 [some (.ref x), some (.int (Int32.ofInt e))] [.int (Int32.ofInt (1 : Int))] _ _ _
      refine hs 13 _ rfl _ _ _ _ _ _ (fun zq => absurd (hd_c1z (c := 0) (by omega) (by omega) zq) (by omega : ¬ ((1 : Int) = 0))) (fun _ => ?_)
      refine hs 14 _ rfl _ _ _ _ _ _ _ rfl ?_
      refine hs 15 _ rfl _ _ _ _ _ ?_
      exact hs 19 _ rfl _ _ _ _ _ (rv _) (by omega) (by omega) (hP (-9) _ _ _ ⟨rfl, Or.inl ⟨c1_, rfl, Or.inl ⟨cj_, rfl⟩⟩⟩ (f2_) ⟨_, _, _, _, x2_⟩)
    · have cp_ : 0 < c.1 := by omega
      obtain ⟨M_, hM_⟩ : ∃ M_ : Nat, c.1 = (M_ : Int) := ⟨c.1.toNat, by omega⟩
      obtain ⟨U_, hU_⟩ : ∃ U_ : Nat, sk_n (sk_u M_) M_ = U_ := ⟨_, rfl⟩
      refine hs 0 _ rfl _ _ _ _ _ _ _ rfl ?_
      refine hs 1 _ rfl _ _ _ _ _ _ _ rfl ?_
      refine hs 2 _ rfl _ _ _ _ _ _ (fun _ => ?_) (fun zq => absurd (hd_c1t (c := 3) (by omega) (by omega) (by omega : 0 ≤ e)) zq)
      refine hs 5 _ rfl _ _ _ _ _ _ _ rfl ?_
      refine hs 6 _ rfl _ _ _ _ _ _ _ rfl ?_
      refine zw_c (hs 7 _ rfl) (a := [.ref x, .int (Int32.ofInt (0 : Int)), .int (Int32.ofInt (1 : Int))]) (st := []) rfl rfl (Nat.le_of_ble_eq_true rfl) ⟨_, _, _, rfl, a1_, a2_.1⟩ (by omega) (by omega) (zm_start_M g hX (i_ := 0) (w_ := 1) (Or.inl rfl) (by decide) (fun y_ => absurd y_ (by decide)) (fun y_ h2_ f2_ x2_ => ?_))
      show S 14 [some (.ref x), some (.int (Int32.ofInt e))] [.int (Int32.ofInt (0 : Int))] _ _ _
      refine hs 8 _ rfl _ _ _ _ _ _ (fun _ => ?_) (fun zq => absurd (hd_c1t (c := 0) (by omega) (by omega) (by omega : (0 : Int) = 0)) zq)
      refine hs 11 _ rfl _ _ _ _ _ _ _ rfl ?_
      refine zw_c (hs 12 _ rfl) (a := [.ref x]) (st := []) rfl rfl (Nat.le_of_ble_eq_true rfl) (zm_rc x2_) (by omega) (by omega) (zm_jam_M g x2_ hok (fun y_ => absurd y_ (by omega)) (fun y_ => ?_))
      show S 23 [some (.ref x), some (.int (Int32.ofInt e))] [.int (Int32.ofInt (0 : Int))] _ _ _
      refine hs 13 _ rfl _ _ _ _ _ _ (fun _ => ?_) (fun zq => absurd (hd_c1t (c := 0) (by omega) (by omega) (by omega : (0 : Int) = 0)) zq)
      refine hs 16 _ rfl _ _ _ _ _ _ _ rfl ?_
      refine hs 17 _ rfl _ _ _ _ _ _ _ rfl ?_
      refine zw_c (hs 18 _ rfl) (a := [.ref x, .int (Int32.ofInt e)]) (st := []) rfl rfl (Nat.le_of_ble_eq_true rfl) (zm_rc x2_) (by omega) (by omega) (zk_genAt_M g x2_ hok (U_ := U_) hM_ (by omega) (by omega) hU_ (pl_ := e) c1_ he2 (fun v_ hv_ => ?_))
      show S 36 [some (.ref x), some (.int (Int32.ofInt e))] [.int (Int32.ofInt v_)] _ _ _
      exact hs 19 _ rfl _ _ _ _ _ (rv _) (by omega) (by omega) (hP _ _ _ _ ⟨rfl, Or.inl ⟨c1_, rfl, Or.inr ⟨cp_, (by show sk_at (sk_g c.1.toNat) c.1.toNat e v_; rw [show c.1.toNat = M_ by omega]; show sk_at (sk_gu M_ (sk_n (sk_u M_) M_)) M_ e v_; rw [hU_]; exact hv_)⟩⟩⟩ (f2_) ⟨_, _, _, _, x2_⟩)
set_option maxHeartbeats 4000000 in
theorem zm_qisGenerator_M {l : Launch} {G : am_G} {X : ck_XT} (g : gM l G X) {o : Nat → Nat} {x tx now qw : Nat} {th j m k : Int} {c : sp_S} {P : List sp_S} {h : List am_C} (hX : zm_x G h o x tx now qw th j m k c P) (hok : sp_ok c) {e e2 : Int} (he1 : -2147483648 ≤ e) (he2 : e ≤ 2147483647) {mc ms : Nat} {Post : am_O → List am_C → Prop}
    (hP : ∀ (a th : Int) (T' : sp_T) (h' : List am_C), sp_q36 e e2 (c, P, j, m, k) a th T' → zm_fr G h h' → zm_Y G h' x th T' → Post (.inl (some (.int (Int32.ofInt a)))) h') :
    am_M l G yX14_isGenerator (.code yX14_isGenerator prog_14_method_65_code 3 (some .boolean)) 3 65 mc ms [.ref x, .int (Int32.ofInt e)] h Post := by
  refine gh_yX14_isGenerator_X g (Nat.le_of_ble_eq_true rfl) fun S SX hs hr hw hx => ?_
  have rv : ∀ x : Int32, ck_fv 0 (.int x) := fun x => ⟨_, rfl⟩
  obtain ⟨a1_, a2_, a3_, a4_⟩ := id hX
  by_cases c1_ : sp_s1 e
  rotate_left
  · have c1b_ : ¬ (0 ≤ e ∧ e < 6) := c1_
    refine hs 0 _ rfl _ _ _ _ _ _ _ rfl ?_
    refine hs 1 _ rfl _ _ _ _ _ _ _ rfl ?_
    refine zw_c (hs 2 _ rfl) (a := [.int (Int32.ofInt e)]) (st := [.ref x]) rfl rfl (Nat.le_of_ble_eq_true rfl) trivial (by omega) (by omega) (zm_noSlot_M g (e := e) (by omega) (by omega) (fun y_ => ?_) (fun y_ => absurd y_ (by omega)))
    show S 5 [some (.ref x), some (.int (Int32.ofInt e)), none] [.int (Int32.ofInt (1 : Int)), .ref x] _ _ _
    refine hs 3 _ rfl _ _ _ _ _ _ _ rfl ?_
    refine zw_c (hs 4 _ rfl) (a := [.ref x, .int (Int32.ofInt (1 : Int)), .int (Int32.ofInt (1 : Int))]) (st := []) rfl rfl (Nat.le_of_ble_eq_true rfl) ⟨_, _, _, rfl, a1_, a2_.1⟩ (by omega) (by omega) (zm_start_M g hX (i_ := 1) (w_ := 1) (Or.inr rfl) (by decide) (fun y_ h2_ f2_ x2_ => ?_) (fun y_ => absurd y_ (by decide)))
    show S 9 [some (.ref x), some (.int (Int32.ofInt e)), none] [.int (Int32.ofInt (1 : Int))] _ _ _
    refine hs 5 _ rfl _ _ _ _ _ _ (fun _ => ?_) (fun zq => absurd (hd_c1t (c := 1) (by omega) (by omega) (by omega : (1 : Int) ≠ 0)) zq)
    refine hs 9 _ rfl _ _ _ _ _ _ _ rfl ?_
    exact hs 10 _ rfl _ _ _ _ _ ⟨_, rfl, by decide, by decide⟩ (by omega) (by omega) (hP 0 _ _ _ ⟨rfl, Or.inr ⟨c1_, rfl⟩⟩ (f2_) ⟨_, _, _, _, x2_⟩)
  · 
    obtain ⟨i, rfl⟩ : ∃ i : Nat, e = (i : Int) := ⟨e.toNat, by have := c1_.1; omega⟩
    have hi : i < 6 := by have := c1_.2; omega
    have c1b_ := c1_.1
    have c1c_ := c1_.2
    have okd_ := hok.1
    by_cases cj_ : c.1 ≤ 0
    · 
      refine hs 0 _ rfl _ _ _ _ _ _ _ rfl ?_
      refine hs 1 _ rfl _ _ _ _ _ _ _ rfl ?_
      refine zw_c (hs 2 _ rfl) (a := [.int (Int32.ofInt (i : Int))]) (st := [.ref x]) rfl rfl (Nat.le_of_ble_eq_true rfl) trivial (by omega) (by omega) (zm_noSlot_M g (e := (i : Int)) (by omega) (by omega) (fun y_ => absurd (by omega) y_) (fun y_ => ?_))
      show S 5 [some (.ref x), some (.int (Int32.ofInt (i : Int))), none] [.int (Int32.ofInt (0 : Int)), .ref x] _ _ _
      refine hs 3 _ rfl _ _ _ _ _ _ _ rfl ?_
      refine zw_c (hs 4 _ rfl) (a := [.ref x, .int (Int32.ofInt (0 : Int)), .int (Int32.ofInt (1 : Int))]) (st := []) rfl rfl (Nat.le_of_ble_eq_true rfl) ⟨_, _, _, rfl, a1_, a2_.1⟩ (by omega) (by omega) (zm_start_M g hX (i_ := 0) (w_ := 1) (Or.inl rfl) (by decide) (fun y_ => absurd y_ (by decide)) (fun y_ h2_ f2_ x2_ => ?_))
      show S 9 [some (.ref x), some (.int (Int32.ofInt (i : Int))), none] [.int (Int32.ofInt (0 : Int))] _ _ _
      refine hs 5 _ rfl _ _ _ _ _ _ (fun zq => absurd (hd_c1z (c := 1) (by omega) (by omega) zq) (by omega : ¬ ((0 : Int) ≠ 0))) (fun _ => ?_)
      refine hs 6 _ rfl _ _ _ _ _ _ _ rfl ?_
      refine zw_c (hs 7 _ rfl) (a := [.ref x]) (st := []) rfl rfl (Nat.le_of_ble_eq_true rfl) (zm_rc x2_) (by omega) (by omega) (zm_jam_M g x2_ hok (fun y_ => ?_) (fun y_ => absurd y_ (by omega)))
      show S 16 [some (.ref x), some (.int (Int32.ofInt (i : Int))), none] [.int (Int32.ofInt (1 : Int))] _ _ _
      refine hs 8 _ rfl _ _ _ _ _ _ (fun zq => absurd (hd_c1z (c := 0) (by omega) (by omega) zq) (by omega : ¬ ((1 : Int) = 0))) (fun _ => ?_)
      refine hs 9 _ rfl _ _ _ _ _ _ _ rfl ?_
      exact hs 10 _ rfl _ _ _ _ _ ⟨_, rfl, by decide, by decide⟩ (by omega) (by omega) (hP 0 _ _ _ ⟨rfl, Or.inl ⟨c1_, rfl, Or.inr ⟨fun y_ => by have y2_ : 0 < c.1 := y_.1; omega, rfl⟩⟩⟩ (f2_) ⟨_, _, _, _, x2_⟩)
    · have cp_ : 0 < c.1 := by omega
      obtain ⟨M_, hM_⟩ : ∃ M_ : Nat, c.1 = (M_ : Int) := ⟨c.1.toNat, by omega⟩
      obtain ⟨U_, hU_⟩ : ∃ U_ : Nat, sk_n (sk_u M_) M_ = U_ := ⟨_, rfl⟩
      have ul_ := sk_n.le (sk_u M_) M_
      rw [hU_] at ul_
      have r1_ := Int.emod_nonneg (c.2.1.getD i 0) (b := c.1) (by omega)
      have r2_ := Int.emod_lt_of_pos (c.2.1.getD i 0) (b := c.1) (by omega)
      obtain ⟨A_, hA_⟩ : ∃ A_ : Nat, c.2.1.getD i 0 % c.1 = (A_ : Int) := ⟨(c.2.1.getD i 0 % c.1).toNat, by omega⟩
      have b3_ : Nat.gcd A_ M_ ≤ M_ := Nat.gcd_le_right A_ (by omega)
      by_cases e1_ : Nat.gcd A_ M_ = 1
      rotate_left
      · have e0_ : sk_g M_ A_ = false := sk_gu.no1 e1_
        refine hs 0 _ rfl _ _ _ _ _ _ _ rfl ?_
        refine hs 1 _ rfl _ _ _ _ _ _ _ rfl ?_
        refine zw_c (hs 2 _ rfl) (a := [.int (Int32.ofInt (i : Int))]) (st := [.ref x]) rfl rfl (Nat.le_of_ble_eq_true rfl) trivial (by omega) (by omega) (zm_noSlot_M g (e := (i : Int)) (by omega) (by omega) (fun y_ => absurd (by omega) y_) (fun y_ => ?_))
        show S 5 [some (.ref x), some (.int (Int32.ofInt (i : Int))), none] [.int (Int32.ofInt (0 : Int)), .ref x] _ _ _
        refine hs 3 _ rfl _ _ _ _ _ _ _ rfl ?_
        refine zw_c (hs 4 _ rfl) (a := [.ref x, .int (Int32.ofInt (0 : Int)), .int (Int32.ofInt (1 : Int))]) (st := []) rfl rfl (Nat.le_of_ble_eq_true rfl) ⟨_, _, _, rfl, a1_, a2_.1⟩ (by omega) (by omega) (zm_start_M g hX (i_ := 0) (w_ := 1) (Or.inl rfl) (by decide) (fun y_ => absurd y_ (by decide)) (fun y_ h2_ f2_ x2_ => ?_))
        obtain ⟨t_, qn_, ql_, qb_, s1_, up_⟩ := x2_.dialL
        rw [hM_] at s1_
        show S 9 [some (.ref x), some (.int (Int32.ofInt (i : Int))), none] [.int (Int32.ofInt (0 : Int))] _ _ _
        refine hs 5 _ rfl _ _ _ _ _ _ (fun zq => absurd (hd_c1z (c := 1) (by omega) (by omega) zq) (by omega : ¬ ((0 : Int) ≠ 0))) (fun _ => ?_)
        refine hs 6 _ rfl _ _ _ _ _ _ _ rfl ?_
        refine zw_c (hs 7 _ rfl) (a := [.ref x]) (st := []) rfl rfl (Nat.le_of_ble_eq_true rfl) (zm_rc x2_) (by omega) (by omega) (zm_jam_M g x2_ hok (fun y_ => absurd y_ (by omega)) (fun y_ => ?_))
        show S 16 [some (.ref x), some (.int (Int32.ofInt (i : Int))), none] [.int (Int32.ofInt (0 : Int))] _ _ _
        refine hs 8 _ rfl _ _ _ _ _ _ (fun _ => ?_) (fun zq => absurd (hd_c1t (c := 0) (by omega) (by omega) (by omega : (0 : Int) = 0)) zq)
        refine hs 11 _ rfl _ _ _ _ _ _ _ rfl ?_
        refine hs 12 _ rfl _ _ _ _ _ _ _ rfl ?_
        refine zw_c (hs 13 _ rfl) (a := [.ref x, .int (Int32.ofInt (i : Int))]) (st := []) rfl rfl (Nat.le_of_ble_eq_true rfl) (zm_rc x2_) (by omega) (by omega) (zm_modAt_M g x2_ hok rfl hi (fun y_ => absurd y_ (by omega)) (fun y_ => ?_))
        rw [hA_]
        show S 26 [some (.ref x), some (.int (Int32.ofInt (i : Int))), none] [.int (Int32.ofInt (A_ : Int))] _ _ _
        refine hs 14 _ rfl _ _ _ _ _ _ _ rfl ?_
        refine hs 15 _ rfl _ _ _ _ _ _ _ rfl ?_
        refine hs 16 _ rfl _ _ _ _ _ _ _ rfl ?_
        refine hs 17 _ rfl _ _ _ _ _ _ _ _ _ (x2_.1) a2_.1 rfl ?_
        refine hs 18 _ rfl _ _ _ _ _ _ _ _ _ (s1_.1) s1_.2 rfl ?_
        refine zw_c (hs 19 _ rfl) (a := [.int (Int32.ofInt (A_ : Int)), .int (Int32.ofInt (M_ : Int))]) (st := []) rfl rfl (Nat.le_of_ble_eq_true rfl) trivial (by omega) (by omega) (nu_gcd_M g.1 (by omega) (by omega) ?_)
        show S 38 [some (.ref x), some (.int (Int32.ofInt (i : Int))), some (.int (Int32.ofInt (A_ : Int)))] [.int (Int32.ofInt ((Nat.gcd A_ M_ : Nat) : Int))] _ _ _
        refine hs 20 _ rfl _ _ _ _ _ _ _ rfl ?_
        refine hs 21 _ rfl _ _ _ _ _ _ _ (fun _ => ?_) (fun zq => absurd (hd_c2t (c := 1) (by omega) (by omega) (by omega) (by omega) (by omega : (((Nat.gcd A_ M_ : Nat) : Int) - (1 : Int)) ≠ 0)) zq)
        refine hs 30 _ rfl _ _ _ _ _ _ _ rfl ?_
        exact hs 31 _ rfl _ _ _ _ _ ⟨_, rfl, by decide, by decide⟩ (by omega) (by omega) (hP 0 _ _ _ ⟨rfl, Or.inl ⟨c1_, rfl, Or.inr ⟨(fun y_ => by have y2_ : sk_g c.1.toNat (c.2.1.getD i 0 % c.1).toNat = true := y_.2; rw [hA_, Int.toNat_natCast, show c.1.toNat = M_ by omega, e0_] at y2_; exact absurd y2_ (by decide)), rfl⟩⟩⟩ (f2_) ⟨_, _, _, _, x2_⟩)
      · cases e0_ : sk_g M_ A_ with
        | true =>
          refine hs 0 _ rfl _ _ _ _ _ _ _ rfl ?_
          refine hs 1 _ rfl _ _ _ _ _ _ _ rfl ?_
          refine zw_c (hs 2 _ rfl) (a := [.int (Int32.ofInt (i : Int))]) (st := [.ref x]) rfl rfl (Nat.le_of_ble_eq_true rfl) trivial (by omega) (by omega) (zm_noSlot_M g (e := (i : Int)) (by omega) (by omega) (fun y_ => absurd (by omega) y_) (fun y_ => ?_))
          show S 5 [some (.ref x), some (.int (Int32.ofInt (i : Int))), none] [.int (Int32.ofInt (0 : Int)), .ref x] _ _ _
          refine hs 3 _ rfl _ _ _ _ _ _ _ rfl ?_
          refine zw_c (hs 4 _ rfl) (a := [.ref x, .int (Int32.ofInt (0 : Int)), .int (Int32.ofInt (1 : Int))]) (st := []) rfl rfl (Nat.le_of_ble_eq_true rfl) ⟨_, _, _, rfl, a1_, a2_.1⟩ (by omega) (by omega) (zm_start_M g hX (i_ := 0) (w_ := 1) (Or.inl rfl) (by decide) (fun y_ => absurd y_ (by decide)) (fun y_ h2_ f2_ x2_ => ?_))
          obtain ⟨t_, qn_, ql_, qb_, s1_, up_⟩ := x2_.dialL
          rw [hM_] at s1_
          show S 9 [some (.ref x), some (.int (Int32.ofInt (i : Int))), none] [.int (Int32.ofInt (0 : Int))] _ _ _
          refine hs 5 _ rfl _ _ _ _ _ _ (fun zq => absurd (hd_c1z (c := 1) (by omega) (by omega) zq) (by omega : ¬ ((0 : Int) ≠ 0))) (fun _ => ?_)
          refine hs 6 _ rfl _ _ _ _ _ _ _ rfl ?_
          refine zw_c (hs 7 _ rfl) (a := [.ref x]) (st := []) rfl rfl (Nat.le_of_ble_eq_true rfl) (zm_rc x2_) (by omega) (by omega) (zm_jam_M g x2_ hok (fun y_ => absurd y_ (by omega)) (fun y_ => ?_))
          show S 16 [some (.ref x), some (.int (Int32.ofInt (i : Int))), none] [.int (Int32.ofInt (0 : Int))] _ _ _
          refine hs 8 _ rfl _ _ _ _ _ _ (fun _ => ?_) (fun zq => absurd (hd_c1t (c := 0) (by omega) (by omega) (by omega : (0 : Int) = 0)) zq)
          refine hs 11 _ rfl _ _ _ _ _ _ _ rfl ?_
          refine hs 12 _ rfl _ _ _ _ _ _ _ rfl ?_
          refine zw_c (hs 13 _ rfl) (a := [.ref x, .int (Int32.ofInt (i : Int))]) (st := []) rfl rfl (Nat.le_of_ble_eq_true rfl) (zm_rc x2_) (by omega) (by omega) (zm_modAt_M g x2_ hok rfl hi (fun y_ => absurd y_ (by omega)) (fun y_ => ?_))
          rw [hA_]
          show S 26 [some (.ref x), some (.int (Int32.ofInt (i : Int))), none] [.int (Int32.ofInt (A_ : Int))] _ _ _
          refine hs 14 _ rfl _ _ _ _ _ _ _ rfl ?_
          refine hs 15 _ rfl _ _ _ _ _ _ _ rfl ?_
          refine hs 16 _ rfl _ _ _ _ _ _ _ rfl ?_
          refine hs 17 _ rfl _ _ _ _ _ _ _ _ _ (x2_.1) a2_.1 rfl ?_
          refine hs 18 _ rfl _ _ _ _ _ _ _ _ _ (s1_.1) s1_.2 rfl ?_
          refine zw_c (hs 19 _ rfl) (a := [.int (Int32.ofInt (A_ : Int)), .int (Int32.ofInt (M_ : Int))]) (st := []) rfl rfl (Nat.le_of_ble_eq_true rfl) trivial (by omega) (by omega) (nu_gcd_M g.1 (by omega) (by omega) ?_)
          show S 38 [some (.ref x), some (.int (Int32.ofInt (i : Int))), some (.int (Int32.ofInt (A_ : Int)))] [.int (Int32.ofInt ((Nat.gcd A_ M_ : Nat) : Int))] _ _ _
          refine hs 20 _ rfl _ _ _ _ _ _ _ rfl ?_
          refine hs 21 _ rfl _ _ _ _ _ _ _ (fun zq => absurd (hd_c2z (c := 1) (by omega) (by omega) (by omega) (by omega) zq) (by omega : ¬ ((((Nat.gcd A_ M_ : Nat) : Int) - (1 : Int)) ≠ 0))) (fun _ => ?_)
          refine hs 22 _ rfl _ _ _ _ _ _ _ rfl ?_
          refine hs 23 _ rfl _ _ _ _ _ _ _ rfl ?_
          refine zw_c (hs 24 _ rfl) (a := [.ref x, .int (Int32.ofInt (A_ : Int))]) (st := []) rfl rfl (Nat.le_of_ble_eq_true rfl) (zm_rc x2_) (by omega) (by omega) (zk_order_M g x2_ (A_ := A_) hM_ (by omega) (by omega) fun v_ hv_ => ?_)
          have ov_ := sk_g.ord (show M_ ≤ 400 by omega) (show A_ < M_ by omega) e1_ hv_
          have ob_ := sk_o.bd hv_
          rw [hU_, e0_] at ov_
          have o9_ : v_ = (U_ : Int) := by
            rcases ov_ with ⟨-, y_⟩ | ⟨y_, -⟩
            · exact y_
            · exact absurd y_ (by decide)
          show S 47 [some (.ref x), some (.int (Int32.ofInt (i : Int))), some (.int (Int32.ofInt (A_ : Int)))] [.int (Int32.ofInt v_)] _ _ _
          refine hs 25 _ rfl _ _ _ _ _ _ _ rfl ?_
          refine zw_c (hs 26 _ rfl) (a := [.ref x]) (st := [.int (Int32.ofInt v_)]) rfl rfl (Nat.le_of_ble_eq_true rfl) (zm_rc x2_) (by omega) (by omega) (zm_units8_M g x2_ hok ?_)
          rw [if_neg (show ¬ c.1 ≤ 0 by omega), show c.1.toNat = M_ by omega, hU_]
          show S 51 [some (.ref x), some (.int (Int32.ofInt (i : Int))), some (.int (Int32.ofInt (A_ : Int)))] [.int (Int32.ofInt (U_ : Int)), .int (Int32.ofInt v_)] _ _ _
          refine hs 27 _ rfl _ _ _ _ _ _ _ (fun zq => absurd (hd_c2z (c := 1) (by omega) (by omega) (by omega) (by omega) zq) (by omega : ¬ ((v_ - (U_ : Int)) ≠ 0))) (fun _ => ?_)
          refine hs 28 _ rfl _ _ _ _ _ _ _ rfl ?_
          refine hs 29 _ rfl _ _ _ _ _ ?_
          exact hs 31 _ rfl _ _ _ _ _ ⟨_, rfl, by decide, by decide⟩ (by omega) (by omega) (hP 1 _ _ _ ⟨rfl, Or.inl ⟨c1_, rfl, Or.inl ⟨⟨cp_, (by show sk_g c.1.toNat (c.2.1.getD i 0 % c.1).toNat = true; rw [hA_, Int.toNat_natCast, show c.1.toNat = M_ by omega]; exact e0_)⟩, rfl⟩⟩⟩ (f2_) ⟨_, _, _, _, x2_⟩)
        | false =>
          refine hs 0 _ rfl _ _ _ _ _ _ _ rfl ?_
          refine hs 1 _ rfl _ _ _ _ _ _ _ rfl ?_
          refine zw_c (hs 2 _ rfl) (a := [.int (Int32.ofInt (i : Int))]) (st := [.ref x]) rfl rfl (Nat.le_of_ble_eq_true rfl) trivial (by omega) (by omega) (zm_noSlot_M g (e := (i : Int)) (by omega) (by omega) (fun y_ => absurd (by omega) y_) (fun y_ => ?_))
          show S 5 [some (.ref x), some (.int (Int32.ofInt (i : Int))), none] [.int (Int32.ofInt (0 : Int)), .ref x] _ _ _
          refine hs 3 _ rfl _ _ _ _ _ _ _ rfl ?_
          refine zw_c (hs 4 _ rfl) (a := [.ref x, .int (Int32.ofInt (0 : Int)), .int (Int32.ofInt (1 : Int))]) (st := []) rfl rfl (Nat.le_of_ble_eq_true rfl) ⟨_, _, _, rfl, a1_, a2_.1⟩ (by omega) (by omega) (zm_start_M g hX (i_ := 0) (w_ := 1) (Or.inl rfl) (by decide) (fun y_ => absurd y_ (by decide)) (fun y_ h2_ f2_ x2_ => ?_))
          obtain ⟨t_, qn_, ql_, qb_, s1_, up_⟩ := x2_.dialL
          rw [hM_] at s1_
          show S 9 [some (.ref x), some (.int (Int32.ofInt (i : Int))), none] [.int (Int32.ofInt (0 : Int))] _ _ _
          refine hs 5 _ rfl _ _ _ _ _ _ (fun zq => absurd (hd_c1z (c := 1) (by omega) (by omega) zq) (by omega : ¬ ((0 : Int) ≠ 0))) (fun _ => ?_)
          refine hs 6 _ rfl _ _ _ _ _ _ _ rfl ?_
          refine zw_c (hs 7 _ rfl) (a := [.ref x]) (st := []) rfl rfl (Nat.le_of_ble_eq_true rfl) (zm_rc x2_) (by omega) (by omega) (zm_jam_M g x2_ hok (fun y_ => absurd y_ (by omega)) (fun y_ => ?_))
          show S 16 [some (.ref x), some (.int (Int32.ofInt (i : Int))), none] [.int (Int32.ofInt (0 : Int))] _ _ _
          refine hs 8 _ rfl _ _ _ _ _ _ (fun _ => ?_) (fun zq => absurd (hd_c1t (c := 0) (by omega) (by omega) (by omega : (0 : Int) = 0)) zq)
          refine hs 11 _ rfl _ _ _ _ _ _ _ rfl ?_
          refine hs 12 _ rfl _ _ _ _ _ _ _ rfl ?_
          refine zw_c (hs 13 _ rfl) (a := [.ref x, .int (Int32.ofInt (i : Int))]) (st := []) rfl rfl (Nat.le_of_ble_eq_true rfl) (zm_rc x2_) (by omega) (by omega) (zm_modAt_M g x2_ hok rfl hi (fun y_ => absurd y_ (by omega)) (fun y_ => ?_))
          rw [hA_]
          show S 26 [some (.ref x), some (.int (Int32.ofInt (i : Int))), none] [.int (Int32.ofInt (A_ : Int))] _ _ _
          refine hs 14 _ rfl _ _ _ _ _ _ _ rfl ?_
          refine hs 15 _ rfl _ _ _ _ _ _ _ rfl ?_
          refine hs 16 _ rfl _ _ _ _ _ _ _ rfl ?_
          refine hs 17 _ rfl _ _ _ _ _ _ _ _ _ (x2_.1) a2_.1 rfl ?_
          refine hs 18 _ rfl _ _ _ _ _ _ _ _ _ (s1_.1) s1_.2 rfl ?_
          refine zw_c (hs 19 _ rfl) (a := [.int (Int32.ofInt (A_ : Int)), .int (Int32.ofInt (M_ : Int))]) (st := []) rfl rfl (Nat.le_of_ble_eq_true rfl) trivial (by omega) (by omega) (nu_gcd_M g.1 (by omega) (by omega) ?_)
          show S 38 [some (.ref x), some (.int (Int32.ofInt (i : Int))), some (.int (Int32.ofInt (A_ : Int)))] [.int (Int32.ofInt ((Nat.gcd A_ M_ : Nat) : Int))] _ _ _
          refine hs 20 _ rfl _ _ _ _ _ _ _ rfl ?_
          refine hs 21 _ rfl _ _ _ _ _ _ _ (fun zq => absurd (hd_c2z (c := 1) (by omega) (by omega) (by omega) (by omega) zq) (by omega : ¬ ((((Nat.gcd A_ M_ : Nat) : Int) - (1 : Int)) ≠ 0))) (fun _ => ?_)
          refine hs 22 _ rfl _ _ _ _ _ _ _ rfl ?_
          refine hs 23 _ rfl _ _ _ _ _ _ _ rfl ?_
          refine zw_c (hs 24 _ rfl) (a := [.ref x, .int (Int32.ofInt (A_ : Int))]) (st := []) rfl rfl (Nat.le_of_ble_eq_true rfl) (zm_rc x2_) (by omega) (by omega) (zk_order_M g x2_ (A_ := A_) hM_ (by omega) (by omega) fun v_ hv_ => ?_)
          have ov_ := sk_g.ord (show M_ ≤ 400 by omega) (show A_ < M_ by omega) e1_ hv_
          have ob_ := sk_o.bd hv_
          rw [hU_, e0_] at ov_
          have o9_ : ¬ v_ = (U_ : Int) := by
            rcases ov_ with ⟨y_, -⟩ | ⟨-, y_⟩
            · exact absurd y_ (by decide)
            · exact y_
          show S 47 [some (.ref x), some (.int (Int32.ofInt (i : Int))), some (.int (Int32.ofInt (A_ : Int)))] [.int (Int32.ofInt v_)] _ _ _
          refine hs 25 _ rfl _ _ _ _ _ _ _ rfl ?_
          refine zw_c (hs 26 _ rfl) (a := [.ref x]) (st := [.int (Int32.ofInt v_)]) rfl rfl (Nat.le_of_ble_eq_true rfl) (zm_rc x2_) (by omega) (by omega) (zm_units8_M g x2_ hok ?_)
          rw [if_neg (show ¬ c.1 ≤ 0 by omega), show c.1.toNat = M_ by omega, hU_]
          show S 51 [some (.ref x), some (.int (Int32.ofInt (i : Int))), some (.int (Int32.ofInt (A_ : Int)))] [.int (Int32.ofInt (U_ : Int)), .int (Int32.ofInt v_)] _ _ _
          refine hs 27 _ rfl _ _ _ _ _ _ _ (fun _ => ?_) (fun zq => absurd (hd_c2t (c := 1) (by omega) (by omega) (by omega) (by omega) (by omega : (v_ - (U_ : Int)) ≠ 0)) zq)
          refine hs 30 _ rfl _ _ _ _ _ _ _ rfl ?_
          exact hs 31 _ rfl _ _ _ _ _ ⟨_, rfl, by decide, by decide⟩ (by omega) (by omega) (hP 0 _ _ _ ⟨rfl, Or.inl ⟨c1_, rfl, Or.inr ⟨(fun y_ => by have y2_ : sk_g c.1.toNat (c.2.1.getD i 0 % c.1).toNat = true := y_.2; rw [hA_, Int.toNat_natCast, show c.1.toNat = M_ by omega, e0_] at y2_; exact absurd y2_ (by decide)), rfl⟩⟩⟩ (f2_) ⟨_, _, _, _, x2_⟩)
set_option maxHeartbeats 4000000 in
theorem zc_wqgenerator_M {l : Launch} {G : am_G} {X : ck_XT} (g : gM l G X) {x : Nat} {r : Nat → Nat} {jj mm kk : Int} {c : sp_S} {R : Nat → sp_S} {old cnt : Nat} {h : List am_C} (hX : zc_x G h x r jj mm kk c R old cnt){o : Nat} {n0 : Int64} {s0 : Value} (hO : am_g G h o = some (1016, [.long n0, s0])) (ho1 : o < x ∨ x + 228 ≤ o) (ho2 : o ≠ r 4) (ho3 : 1000 ≤ o) (hZ : zv_P G h r) {e e2 : Int} (he1 : -2147483648 ≤ e) (he2 : e ≤ 2147483647) {mc ms : Nat} {Post : am_O → List am_C → Prop} (hmc : 1 ≤ mc) (hms : 6 ≤ ms)
    (hP : ∀ (a th : Int) (h' : List am_C), sp_Q35 e e2 (c, zc_l R old cnt, jj, mm, kk) a th → (th = 0 → ∃ s1 : Value, am_g G h' o = some (1016, [.long (Int64.ofInt a), s1])) → Post (.inl (some (.int (Int32.ofInt th)))) h') :
    am_M l G yL_generator (.codeWith yL_generator method_32_code 4 (some .int) [(0, 10, 13, 19)]) 8 131 mc ms [.ref x, .int (Int32.ofInt e), .ref o] h Post := by
  refine gh_yL_generator_X g (Nat.le_of_ble_eq_true rfl) fun S SX hs hr hw hx => ?_
  have rv : ∀ x : Int32, ck_fv 0 (.int x) := fun x => ⟨_, rfl⟩
  have ok_ := hX.2.2.1
  have okd_ := ok_.1
  have okn_ := ok_.2.1.1
  have okr_ := ok_.2.2.1.1
  have okb_ := ok_.2.2.2.1
  have px_ := hX.2.2.2.2.2.2.2
  refine hs 0 _ rfl _ _ _ _ _ _ _ rfl ?_
  refine hs 1 _ rfl _ _ _ _ _ _ _ rfl ?_
  refine hs 2 _ rfl _ _ _ _ _ _ _ rfl ?_
  refine zw_cm (hs 3 _ rfl) (a := [.ref x, .int (Int32.ofInt e)]) (st := [.ref o]) 1 6 rfl rfl (Nat.le_of_ble_eq_true rfl) ⟨_, _, _, rfl, hX.1, rfl⟩ (by omega) (by omega) (zc_qgenerator_M g hX hZ he1 he2 (by omega) (by omega) (fun y_ cj_ => ?_) (fun y_ cp_ a_ h9_ r_ kp_ => ?_) (fun hn_ => ?_))
  · show S 6 [some (.ref x), some (.int (Int32.ofInt e)), some (.ref o), none] [.int (Int32.ofInt (-9 : Int)), .ref o] _ _ _
    refine hs 4 _ rfl _ _ _ _ _ _ _ (hd_i2l (by omega) (by omega)) ?_
    refine zw_U (hs 5 _ rfl) (by omega) (hO) rfl ⟨_, rfl⟩ fun hz779 wz780 => ?_
    have wz780 : hd_w G _ hz779 o (1016, [.long (Int64.ofInt (-9 : Int)), s0]) := wz780
    have lwz780 := wz780.1
    refine hs 6 _ rfl _ _ _ _ _ ?_
    refine hs 10 _ rfl _ _ _ _ _ _ _ rfl ?_
    exact hs 11 _ rfl _ _ _ _ _ (rv _) (by omega) (by omega) (hP (-9 : Int) 0 _ (Or.inl ⟨y_, rfl, Or.inl ⟨cj_, rfl⟩⟩) fun _ => ⟨s0, wz780.at⟩)
  · show S 6 [some (.ref x), some (.int (Int32.ofInt e)), some (.ref o), none] [.int (Int32.ofInt a_), .ref o] _ _ _
    have bd_ : -9 ≤ a_ ∧ a_ ≤ 1000 := sp_r35.bd (T := (c, zc_l R old cnt, jj, mm, kk)) ok_ (Or.inr ⟨cp_, r_⟩ : sp_r35 e (c, zc_l R old cnt, jj, mm, kk) a_)
    refine hs 4 _ rfl _ _ _ _ _ _ _ (hd_i2l (by omega) (by omega)) ?_
    refine zw_U (hs 5 _ rfl) (by omega) ((kp_ _ _ _ hO (by decide) (by decide))) rfl ⟨_, rfl⟩ fun hz781 wz782 => ?_
    have wz782 : hd_w G _ hz781 o (1016, [.long (Int64.ofInt a_), s0]) := wz782
    have lwz782 := wz782.1
    refine hs 6 _ rfl _ _ _ _ _ ?_
    refine hs 10 _ rfl _ _ _ _ _ _ _ rfl ?_
    exact hs 11 _ rfl _ _ _ _ _ (rv _) (by omega) (by omega) (hP a_ 0 _ (Or.inl ⟨y_, rfl, Or.inr ⟨cp_, r_⟩⟩) fun _ => ⟨s0, wz782.at⟩)
  · refine hx (_, _) (List.mem_cons.mpr (Or.inl rfl)) _ _ _ _ rfl ?_
    show S 14 _ [] _ _ _
    refine hs 8 _ rfl _ _ _ _ _ _ _ rfl ?_
    exact hs 9 _ rfl _ _ _ _ _ (rv _) (by omega) (by omega) (hP 0 1 _ (Or.inr ⟨hn_, rfl⟩) fun z_ => absurd z_ (by decide))
set_option maxHeartbeats 4000000 in
theorem zc_wqisGenerator_M {l : Launch} {G : am_G} {X : ck_XT} (g : gM l G X) {x : Nat} {r : Nat → Nat} {jj mm kk : Int} {c : sp_S} {R : Nat → sp_S} {old cnt : Nat} {h : List am_C} (hX : zc_x G h x r jj mm kk c R old cnt){o : Nat} {n0 : Int64} {s0 : Value} (hO : am_g G h o = some (1016, [.long n0, s0])) (ho1 : o < x ∨ x + 228 ≤ o) (ho2 : o ≠ r 4) (ho3 : 1000 ≤ o) (hZ : zv_P G h r) {e e2 : Int} (he1 : -2147483648 ≤ e) (he2 : e ≤ 2147483647) {mc ms : Nat} {Post : am_O → List am_C → Prop} (hmc : 1 ≤ mc) (hms : 6 ≤ ms)
    (hP : ∀ (a th : Int) (h' : List am_C), sp_Q36 e e2 (c, zc_l R old cnt, jj, mm, kk) a th → (th = 0 → ∃ s1 : Value, am_g G h' o = some (1016, [.long (Int64.ofInt a), s1])) → Post (.inl (some (.int (Int32.ofInt th)))) h') :
    am_M l G yL_isGenerator (.codeWith yL_isGenerator method_33_code 4 (some .int) [(0, 17, 20, 25)]) 8 133 mc ms [.ref x, .int (Int32.ofInt e), .ref o] h Post := by
  refine gh_yL_isGenerator_X g (Nat.le_of_ble_eq_true rfl) fun S SX hs hr hw hx => ?_
  have rv : ∀ x : Int32, ck_fv 0 (.int x) := fun x => ⟨_, rfl⟩
  have ok_ := hX.2.2.1
  have okd_ := ok_.1
  have okn_ := ok_.2.1.1
  have okr_ := ok_.2.2.1.1
  have okb_ := ok_.2.2.2.1
  have px_ := hX.2.2.2.2.2.2.2
  refine hs 0 _ rfl _ _ _ _ _ _ _ rfl ?_
  refine hs 1 _ rfl _ _ _ _ _ _ _ rfl ?_
  refine hs 2 _ rfl _ _ _ _ _ _ _ rfl ?_
  refine zw_cm (hs 3 _ rfl) (a := [.ref x, .int (Int32.ofInt e)]) (st := [.ref o]) 1 6 rfl rfl (Nat.le_of_ble_eq_true rfl) ⟨_, _, _, rfl, hX.1, rfl⟩ (by omega) (by omega) (zc_qisGenerator_M g hX hZ he1 he2 (by omega) (by omega) (fun y_ h9_ g_ kp_ => ?_) (fun y_ h9_ g_ kp_ => ?_) (fun hn_ => ?_))
  · show S 6 [some (.ref x), some (.int (Int32.ofInt e)), some (.ref o), none] [.int (Int32.ofInt (1 : Int)), .ref o] _ _ _
    refine hs 4 _ rfl _ _ _ _ _ _ (fun zq => absurd (hd_c1z (c := 0) (by omega) (by omega) zq) (by omega : ¬ ((1 : Int) = 0))) (fun _ => ?_)
    refine hs 5 _ rfl _ _ _ _ _ _ _ rfl ?_
    refine hs 6 _ rfl _ _ _ _ _ ?_
    refine zw_U (hs 8 _ rfl) (by omega) ((kp_ _ _ _ hO (by decide) (by decide))) rfl ⟨_, rfl⟩ fun hz783 wz784 => ?_
    have wz784 : hd_w G _ hz783 o (1016, [.long (Int64.ofInt (1 : Int)), s0]) := wz784
    have lwz784 := wz784.1
    refine hs 9 _ rfl _ _ _ _ _ ?_
    refine hs 13 _ rfl _ _ _ _ _ _ _ rfl ?_
    exact hs 14 _ rfl _ _ _ _ _ (rv _) (by omega) (by omega) (hP (1 : Int) 0 _ (Or.inl ⟨y_, rfl, Or.inl ⟨g_, rfl⟩⟩) fun _ => ⟨s0, wz784.at⟩)
  · show S 6 [some (.ref x), some (.int (Int32.ofInt e)), some (.ref o), none] [.int (Int32.ofInt (0 : Int)), .ref o] _ _ _
    refine hs 4 _ rfl _ _ _ _ _ _ (fun _ => ?_) (fun zq => absurd (hd_c1t (c := 0) (by omega) (by omega) (by omega : (0 : Int) = 0)) zq)
    refine hs 7 _ rfl _ _ _ _ _ _ _ rfl ?_
    refine zw_U (hs 8 _ rfl) (by omega) ((kp_ _ _ _ hO (by decide) (by decide))) rfl ⟨_, rfl⟩ fun hz785 wz786 => ?_
    have wz786 : hd_w G _ hz785 o (1016, [.long (Int64.ofInt (0 : Int)), s0]) := wz786
    have lwz786 := wz786.1
    refine hs 9 _ rfl _ _ _ _ _ ?_
    refine hs 13 _ rfl _ _ _ _ _ _ _ rfl ?_
    exact hs 14 _ rfl _ _ _ _ _ (rv _) (by omega) (by omega) (hP (0 : Int) 0 _ (Or.inl ⟨y_, rfl, Or.inr ⟨g_, rfl⟩⟩) fun _ => ⟨s0, wz786.at⟩)
  · refine hx (_, _) (List.mem_cons.mpr (Or.inl rfl)) _ _ _ _ rfl ?_
    show S 21 _ [] _ _ _
    refine hs 11 _ rfl _ _ _ _ _ _ _ rfl ?_
    exact hs 12 _ rfl _ _ _ _ _ (rv _) (by omega) (by omega) (hP 0 1 _ (Or.inr ⟨hn_, rfl⟩) fun z_ => absurd z_ (by decide))
