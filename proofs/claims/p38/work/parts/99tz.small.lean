/-! THE REFERENCE: modOf, common, tried -/
theorem zy_mod {x m : Int} : (x.tmod m + m) % m = x % m := by
  have e_ := Int.tdiv_mul_add_tmod x m
  have f_ : x.tmod m + m = x + m * (1 - x.tdiv m) := by
    rw [Int.mul_sub, Int.mul_one, Int.mul_comm m (x.tdiv m)]
    omega
  rw [f_, Int.add_mul_emod_self_left]
theorem zy_sg (x y : Int) : ∃ c : Int, (if y < x then 1 else if x < y then -1 else 0 : Int) = c ∧ (-1 ≤ c ∧ c ≤ 1) ∧ (c = 0 ↔ x = y) := by
  rcases Int.lt_trichotomy x y with h_ | h_ | h_
  · exact ⟨-1, by rw [if_neg (by omega), if_pos h_], by omega, by omega⟩
  · exact ⟨0, by rw [if_neg (by omega), if_neg (by omega)], by omega, by omega⟩
  · exact ⟨1, by rw [if_pos h_], by omega, by omega⟩
set_option maxHeartbeats 4000000 in
theorem zy_modOf_M {l : Launch} {G : am_G} {X : ck_XT} (g : gM l G X) {x : Int} {m : Nat} {h : List am_C} (hx : -2147483648 ≤ x) (hx2 : x ≤ 2147483647) (hm : 1 ≤ m) (hm2 : m ≤ 999) {mc ms : Nat} {Post : am_O → List am_C → Prop} (hP : Post (.inl (some (.int (Int32.ofInt (x % (m : Int)))))) h) :
    am_M l G yX14_modOf (.code yX14_modOf prog_14_method_7_code 2 (some .int)) 1 20 mc ms [.int (Int32.ofInt x), .int (Int32.ofInt (m : Int))] h Post := by
  refine gh_yX14_modOf_X g (Nat.le_of_ble_eq_true rfl) fun S SX hs hr hw hx => ?_
  have rv : ∀ x : Int32, ck_fv 0 (.int x) := fun x => ⟨_, rfl⟩
  have tb_ : -(m : Int) < x.tmod (m : Int) ∧ x.tmod (m : Int) < (m : Int) := by
    have hl_ := Int.emod_lt_of_pos x (b := (m : Int)) (by omega)
    have hl0_ := Int.emod_nonneg x (b := (m : Int)) (by omega)
    rcases sm_td (x := x) (y := (m : Int)) (by omega) with ⟨z1, z2, z3⟩ | ⟨z1, z2, z3, z4⟩ | ⟨z1, z2, z3, z4, z5⟩ <;> omega
  refine hs 0 _ rfl _ _ _ _ _ _ _ rfl ?_
  refine hs 1 _ rfl _ _ _ _ _ _ _ rfl ?_
  refine hs 2 _ rfl _ _ _ _ _ _ _ (sm_trem (by omega) (by omega) (by omega) (by omega)) ?_
  refine hs 3 _ rfl _ _ _ _ _ _ _ rfl ?_
  refine hs 4 _ rfl _ _ _ _ _ _ _ hd_add ?_
  refine hs 5 _ rfl _ _ _ _ _ _ _ rfl ?_
  refine hs 6 _ rfl _ _ _ _ _ _ _ (hd_rem (by omega) (by omega) (by omega) (by omega)) ?_
  exact hs 7 _ rfl _ _ _ _ _ (rv _) (Nat.zero_le _) (Nat.zero_le _) (by rw [zy_mod]; exact hP)
theorem zy_gcd_M {l : Launch} {G : am_G} {X : ck_XT} (g : gM l G X) {w m : Nat} {h : List am_C} (hs : 1 ≤ m) (hs2 : m ≤ 999) {mc ms : Nat} {Post : am_O → List am_C → Prop} (hP : Post (.inl (some (.int (Int32.ofInt ((Nat.gcd w m : Nat) : Int))))) h) :
    am_M l G yX14_gcdOf (.code yX14_gcdOf prog_14_method_8_code 4 (some .int)) 1 20 mc ms [.int (Int32.ofInt ((w : Int) % (m : Int))), .int (Int32.ofInt (m : Int))] h Post := by
  rw [show (w : Int) % (m : Int) = ((w % m : Nat) : Int) from (Int.natCast_emod w m).symm]
  have l_ := Nat.mod_lt w (y := m) (by omega)
  refine nu_gcd_M g.1 (by omega) (by omega) ?_
  rw [nu_gcd_mod]
  exact hP
set_option maxHeartbeats 4000000 in
theorem zy_common_M {l : Launch} {G : am_G} {X : ck_XT} (g : gM l G X) {w m : Nat} {h : List am_C} (hw1 : 1 ≤ w) (hw2 : w ≤ 1000000000000000000) (hm : 1 ≤ m) (hm2 : m ≤ 999) {mc ms : Nat} {Post : am_O → List am_C → Prop}
    (hP : ∀ t : Nat, m = Nat.gcd w m * t → Post (.inl (some (.long (Int64.ofInt ((w : Int) * (t : Int)))))) h) :
    am_M l G yX14_common (.code yX14_common prog_14_method_30_code 3 (some .long)) 2 43 mc ms [.long (Int64.ofInt (w : Int)), .int (Int32.ofInt (m : Int))] h Post := by
  refine gh_yX14_common_X g (Nat.le_of_ble_eq_true rfl) fun S SX hs hr hw hx => ?_
  have rv : ∀ x : Int32, ck_fv 0 (.int x) := fun x => ⟨_, rfl⟩
  obtain ⟨w_, t_, hw_, ht_, hc_, h0_, g0_⟩ := zj_parts w m (by omega)
  have gl_ : Nat.gcd w m ≤ m := Nat.gcd_le_right w (by omega)
  have rm0_ := Int.emod_nonneg (w : Int) (b := (m : Int)) (by omega)
  have rm1_ := Int.emod_lt_of_pos (w : Int) (b := (m : Int)) (by omega)
  have e1_ : (w : Int) / ((Nat.gcd w m : Nat) : Int) = (w_ : Int) := Int.ediv_eq_of_eq_mul_right (by omega) (by rw [← Int.natCast_mul, ← hw_])
  have wt_ : (w_ : Int) * (m : Int) = (w : Int) * (t_ : Int) := by
    have a_ : w_ * m = w * t_ := by
      have a1_ : w * t_ = Nat.gcd w m * w_ * t_ := congrArg (· * t_) hw_
      have a2_ : w_ * m = w_ * (Nat.gcd w m * t_) := congrArg (w_ * ·) ht_
      rw [a1_, a2_, Nat.mul_assoc, Nat.mul_left_comm]
    rw [← Int.natCast_mul, ← Int.natCast_mul, a_]
  refine hs 0 _ rfl _ _ _ _ _ _ _ rfl ?_
  refine hs 1 _ rfl _ _ _ _ _ _ _ rfl ?_
  refine hs 2 _ rfl _ _ _ _ _ _ _ rfl ?_
  refine hs 3 _ rfl _ _ _ _ _ _ _ (hd_i2l (by omega) (by omega)) ?_
  refine hs 4 _ rfl _ _ _ _ _ _ _ (hd_lrem (by omega) (by omega) (by omega) (by omega)) ?_
  refine hs 5 _ rfl _ _ _ _ _ _ _ (hd_l2i (by omega) (by omega)) ?_
  refine hs 6 _ rfl _ _ _ _ _ _ _ rfl ?_
  refine zw_c (hs 7 _ rfl) (a := [.int (Int32.ofInt ((w : Int) % (m : Int))), .int (Int32.ofInt (m : Int))]) (st := [.long (Int64.ofInt (w : Int))]) rfl rfl (Nat.le_of_ble_eq_true rfl) trivial (Nat.zero_le _) (Nat.zero_le _) (zy_gcd_M g (by omega) (by omega) ?_)
  show S 10 [some (.long (Int64.ofInt (w : Int))), none, some (.int (Int32.ofInt (m : Int)))] [.int (Int32.ofInt ((Nat.gcd w m : Nat) : Int)), .long (Int64.ofInt (w : Int))] _ _ _
  refine hs 8 _ rfl _ _ _ _ _ _ _ (hd_i2l (by omega) (by omega)) ?_
  refine hs 9 _ rfl _ _ _ _ _ _ _ (zj_ldivE (by omega) (by omega) (by omega) (by omega) e1_) ?_
  refine hs 10 _ rfl _ _ _ _ _ _ _ rfl ?_
  refine hs 11 _ rfl _ _ _ _ _ _ _ (hd_i2l (by omega) (by omega)) ?_
  refine hs 12 _ rfl _ _ _ _ _ _ _ hd_lmul ?_
  exact hs 13 _ rfl _ _ _ _ _ ⟨_, rfl⟩ (Nat.zero_le _) (Nat.zero_le _) (by rw [wt_]; exact hP t_ ht_)
set_option maxHeartbeats 4000000 in
theorem zy_tried_M {l : Launch} {G : am_G} {X : ck_XT} (g : gM l G X) {n r_ : Int} {w m q t : Nat} {h : List am_C} (hn0 : 0 ≤ n) (hn1 : n ≤ 1000000000000000000) (hw2 : w ≤ 1000000000000000000) (hm : 1 ≤ m) (hm2 : m ≤ 999) (hr0 : 0 ≤ r_) (hr1 : r_ < (m : Int)) (ht : t % 100 = 50) (hg : am_g G h q = some (t, hd_r [r_, (m : Int)])) {mc ms : Nat} {Post : am_O → List am_C → Prop}
    (hP1 : ∀ k : Nat, k < m → (n % (m : Int) + (k : Int) * ((w : Int) % (m : Int))) % (m : Int) = r_ → (∀ j : Nat, j < k → ¬ (n % (m : Int) + (j : Int) * ((w : Int) % (m : Int))) % (m : Int) = r_) → Post (.inl (some (.int (Int32.ofInt (k : Int))))) h)
    (hP0 : (∀ j : Nat, j < m → ¬ (n % (m : Int) + (j : Int) * ((w : Int) % (m : Int))) % (m : Int) = r_) → Post (.inl (some (.int (Int32.ofInt (-1))))) h) :
    am_M l G yX14_tried (.code yX14_tried prog_14_method_29_code 6 (some .int)) 1 20 mc ms [.long (Int64.ofInt n), .long (Int64.ofInt (w : Int)), .ref q] h Post := by
  refine gh_yX14_tried_X g (Nat.le_of_ble_eq_true rfl) fun S SX hs hr hw hx => ?_
  have rv : ∀ x : Int32, ck_fv 0 (.int x) := fun x => ⟨_, rfl⟩
  have n0_ := Int.emod_nonneg n (b := (m : Int)) (by omega)
  have n1_ := Int.emod_lt_of_pos n (b := (m : Int)) (by omega)
  have s0_ := Int.emod_nonneg (w : Int) (b := (m : Int)) (by omega)
  have s1_ := Int.emod_lt_of_pos (w : Int) (b := (m : Int)) (by omega)
  have loop_ : ∀ (m_ k_ : Nat), k_ + m_ = m → (∀ j : Nat, j < k_ → ¬ (n % (m : Int) + (j : Int) * ((w : Int) % (m : Int))) % (m : Int) = r_) → S 3 [some (.long (Int64.ofInt n)), none, some (.long (Int64.ofInt (w : Int))), none, some (.ref q), some (.int (Int32.ofInt (k_ : Int)))] [] h 0 0 := by
    intro m_
    induction m_ with
    | zero =>
      intro k_ hk_ hn_
      refine hs 2 _ rfl _ _ _ _ _ _ _ rfl ?_
      refine hs 3 _ rfl _ _ _ _ _ _ _ rfl ?_
      refine hs 4 _ rfl _ _ _ _ _ _ _ rfl ?_
      refine hd_A (hs 5 _ rfl) (by decide) (by decide) (hg) ht (j := 1) (by omega) (by omega) rfl ?_
      refine hs 6 _ rfl _ _ _ _ _ _ _ (fun _ => ?_) (fun zq => absurd (hd_c2t (c := 3) (by omega) (by omega) (by omega) (by omega) (by omega : 0 ≤ ((k_ : Int) - (m : Int)))) zq)
      refine hs 38 _ rfl _ _ _ _ _ _ _ rfl ?_
      exact hs 39 _ rfl _ _ _ _ _ (rv _) (Nat.zero_le _) (Nat.zero_le _) (hP0 fun j hj => hn_ j (by omega))
    | succ m_ ih_ =>
      intro k_ hk_ hn_
      have p0_ := Int.mul_nonneg (show (0 : Int) ≤ (k_ : Int) by omega) s0_
      have p1_ : (k_ : Int) * ((w : Int) % (m : Int)) ≤ 1000 * 1000 := Int.mul_le_mul (by omega) (by omega) s0_ (by decide)
      have u0_ := Int.emod_nonneg (n % (m : Int) + (k_ : Int) * ((w : Int) % (m : Int))) (b := (m : Int)) (by omega)
      have u1_ := Int.emod_lt_of_pos (n % (m : Int) + (k_ : Int) * ((w : Int) % (m : Int))) (b := (m : Int)) (by omega)
      obtain ⟨c_, q1_, q2_, q3_⟩ := zy_sg ((n % (m : Int) + (k_ : Int) * ((w : Int) % (m : Int))) % (m : Int)) r_
      by_cases c0_ : c_ = 0
      · 
        refine hs 2 _ rfl _ _ _ _ _ _ _ rfl ?_
        refine hs 3 _ rfl _ _ _ _ _ _ _ rfl ?_
        refine hs 4 _ rfl _ _ _ _ _ _ _ rfl ?_
        refine hd_A (hs 5 _ rfl) (by decide) (by decide) (hg) ht (j := 1) (by omega) (by omega) rfl ?_
        refine hs 6 _ rfl _ _ _ _ _ _ _ (fun zq => absurd (hd_c2z (c := 3) (by omega) (by omega) (by omega) (by omega) zq) (by omega : ¬ (0 ≤ ((k_ : Int) - (m : Int))))) (fun _ => ?_)
        refine hs 7 _ rfl _ _ _ _ _ _ _ rfl ?_
        refine hs 8 _ rfl _ _ _ _ _ _ _ rfl ?_
        refine hs 9 _ rfl _ _ _ _ _ _ _ rfl ?_
        refine hd_A (hs 10 _ rfl) (by decide) (by decide) (hg) ht (j := 1) (by omega) (by omega) rfl ?_
        refine hs 11 _ rfl _ _ _ _ _ _ _ (hd_i2l (by omega) (by omega)) ?_
        refine hs 12 _ rfl _ _ _ _ _ _ _ (hd_lrem (by omega) (by omega) (by omega) (by omega)) ?_
        refine hs 13 _ rfl _ _ _ _ _ _ _ rfl ?_
        refine hs 14 _ rfl _ _ _ _ _ _ _ (hd_i2l (by omega) (by omega)) ?_
        refine hs 15 _ rfl _ _ _ _ _ _ _ rfl ?_
        refine hs 16 _ rfl _ _ _ _ _ _ _ rfl ?_
        refine hs 17 _ rfl _ _ _ _ _ _ _ rfl ?_
        refine hd_A (hs 18 _ rfl) (by decide) (by decide) (hg) ht (j := 1) (by omega) (by omega) rfl ?_
        refine hs 19 _ rfl _ _ _ _ _ _ _ (hd_i2l (by omega) (by omega)) ?_
        refine hs 20 _ rfl _ _ _ _ _ _ _ (hd_lrem (by omega) (by omega) (by omega) (by omega)) ?_
        refine hs 21 _ rfl _ _ _ _ _ _ _ hd_lmul ?_
        refine hs 22 _ rfl _ _ _ _ _ _ _ hd_ladd ?_
        refine hs 23 _ rfl _ _ _ _ _ _ _ rfl ?_
        refine hs 24 _ rfl _ _ _ _ _ _ _ rfl ?_
        refine hd_A (hs 25 _ rfl) (by decide) (by decide) (hg) ht (j := 1) (by omega) (by omega) rfl ?_
        refine hs 26 _ rfl _ _ _ _ _ _ _ (hd_i2l (by omega) (by omega)) ?_
        refine hs 27 _ rfl _ _ _ _ _ _ _ (hd_lrem (by omega) (by omega) (by omega) (by omega)) ?_
        refine hs 28 _ rfl _ _ _ _ _ _ _ rfl ?_
        refine hs 29 _ rfl _ _ _ _ _ _ _ rfl ?_
        refine hd_A (hs 30 _ rfl) (by decide) (by decide) (hg) ht (j := 0) (by omega) (by omega) rfl ?_
        refine hs 31 _ rfl _ _ _ _ _ _ _ (hd_i2l (by omega) (by omega)) ?_
        refine hs 32 _ rfl _ _ _ _ _ _ _ (zw_lcmpE (by omega) (by omega) (by omega) (by omega) q1_) ?_
        refine hs 33 _ rfl _ _ _ _ _ _ (fun zq => absurd (hd_c1z (c := 1) (by omega) (by omega) zq) (by omega : ¬ (c_ ≠ 0))) (fun _ => ?_)
        refine hs 34 _ rfl _ _ _ _ _ _ _ rfl ?_
        exact hs 35 _ rfl _ _ _ _ _ (rv _) (Nat.zero_le _) (Nat.zero_le _) (hP1 k_ (by omega) (q3_.mp c0_) hn_)
      · 
        refine hs 2 _ rfl _ _ _ _ _ _ _ rfl ?_
        refine hs 3 _ rfl _ _ _ _ _ _ _ rfl ?_
        refine hs 4 _ rfl _ _ _ _ _ _ _ rfl ?_
        refine hd_A (hs 5 _ rfl) (by decide) (by decide) (hg) ht (j := 1) (by omega) (by omega) rfl ?_
        refine hs 6 _ rfl _ _ _ _ _ _ _ (fun zq => absurd (hd_c2z (c := 3) (by omega) (by omega) (by omega) (by omega) zq) (by omega : ¬ (0 ≤ ((k_ : Int) - (m : Int))))) (fun _ => ?_)
        refine hs 7 _ rfl _ _ _ _ _ _ _ rfl ?_
        refine hs 8 _ rfl _ _ _ _ _ _ _ rfl ?_
        refine hs 9 _ rfl _ _ _ _ _ _ _ rfl ?_
        refine hd_A (hs 10 _ rfl) (by decide) (by decide) (hg) ht (j := 1) (by omega) (by omega) rfl ?_
        refine hs 11 _ rfl _ _ _ _ _ _ _ (hd_i2l (by omega) (by omega)) ?_
        refine hs 12 _ rfl _ _ _ _ _ _ _ (hd_lrem (by omega) (by omega) (by omega) (by omega)) ?_
        refine hs 13 _ rfl _ _ _ _ _ _ _ rfl ?_
        refine hs 14 _ rfl _ _ _ _ _ _ _ (hd_i2l (by omega) (by omega)) ?_
        refine hs 15 _ rfl _ _ _ _ _ _ _ rfl ?_
        refine hs 16 _ rfl _ _ _ _ _ _ _ rfl ?_
        refine hs 17 _ rfl _ _ _ _ _ _ _ rfl ?_
        refine hd_A (hs 18 _ rfl) (by decide) (by decide) (hg) ht (j := 1) (by omega) (by omega) rfl ?_
        refine hs 19 _ rfl _ _ _ _ _ _ _ (hd_i2l (by omega) (by omega)) ?_
        refine hs 20 _ rfl _ _ _ _ _ _ _ (hd_lrem (by omega) (by omega) (by omega) (by omega)) ?_
        refine hs 21 _ rfl _ _ _ _ _ _ _ hd_lmul ?_
        refine hs 22 _ rfl _ _ _ _ _ _ _ hd_ladd ?_
        refine hs 23 _ rfl _ _ _ _ _ _ _ rfl ?_
        refine hs 24 _ rfl _ _ _ _ _ _ _ rfl ?_
        refine hd_A (hs 25 _ rfl) (by decide) (by decide) (hg) ht (j := 1) (by omega) (by omega) rfl ?_
        refine hs 26 _ rfl _ _ _ _ _ _ _ (hd_i2l (by omega) (by omega)) ?_
        refine hs 27 _ rfl _ _ _ _ _ _ _ (hd_lrem (by omega) (by omega) (by omega) (by omega)) ?_
        refine hs 28 _ rfl _ _ _ _ _ _ _ rfl ?_
        refine hs 29 _ rfl _ _ _ _ _ _ _ rfl ?_
        refine hd_A (hs 30 _ rfl) (by decide) (by decide) (hg) ht (j := 0) (by omega) (by omega) rfl ?_
        refine hs 31 _ rfl _ _ _ _ _ _ _ (hd_i2l (by omega) (by omega)) ?_
        refine hs 32 _ rfl _ _ _ _ _ _ _ (zw_lcmpE (by omega) (by omega) (by omega) (by omega) q1_) ?_
        refine hs 33 _ rfl _ _ _ _ _ _ (fun _ => ?_) (fun zq => absurd (hd_c1t (c := 1) (by omega) (by omega) (by omega : c_ ≠ 0)) zq)
        refine hs 36 _ rfl _ _ _ _ _ _ _ (hd_inc rfl) ?_
        refine hs 37 _ rfl _ _ _ _ _ ?_
        rw [show ((k_ : Int) + (1 : Int)) = ((k_ + 1 : Nat) : Int) by omega]
        refine ih_ (k_ + 1) (by omega) fun j hj => ?_
        by_cases jk_ : j = k_
        · rw [jk_]
          exact fun y_ => c0_ (q3_.mpr y_)
        · exact hn_ j (by omega)
  refine hs 0 _ rfl _ _ _ _ _ _ _ rfl ?_
  refine hs 1 _ rfl _ _ _ _ _ _ _ rfl ?_
  exact loop_ m 0 (by omega) fun j hj => absurd hj (Nat.not_lt_zero _)
