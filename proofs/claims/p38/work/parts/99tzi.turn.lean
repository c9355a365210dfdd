/-! INVERSES AND POWERS OF THE REFERENCE -/
theorem zt_one {a m : Nat} {x : Int} (h : (a : Int) * x % (m : Int) = 1 % (m : Int)) : Nat.gcd a m = 1 := by
  have gm_ : ((Nat.gcd a m : Nat) : Int) ∣ (m : Int) := Int.natCast_dvd_natCast.mpr (Nat.gcd_dvd_right a m)
  have ga_ : ((Nat.gcd a m : Nat) : Int) ∣ (a : Int) := Int.natCast_dvd_natCast.mpr (Nat.gcd_dvd_left a m)
  have d1_ := Int.dvd_trans gm_ (zj_emd h)
  have d2_ := Int.dvd_sub (Int.dvd_mul_of_dvd_left (c := x) ga_) d1_
  rw [show (a : Int) * x - ((a : Int) * x - 1) = 1 by omega] at d2_
  have e_ := Int.eq_one_of_dvd_one (by omega) d2_
  omega
theorem zt_rem {L : List (Option Value)} {st : List Value} {v : Int} {a b M : Nat} (ha : a ≤ 400) (hb : b ≤ 400) (hM : 1 ≤ M) (hM2 : M ≤ 400) : ck_cf 15 4 v L (.int (Int32.ofInt (M : Int)) :: .int (Int32.ofInt ((a : Int) * (b : Int))) :: st) = some (L, .int (Int32.ofInt ((a * b % M : Nat) : Int)) :: st) := by
  have p_ : a * b ≤ 400 * 400 := Nat.mul_le_mul ha hb
  have e_ : (a : Int) * (b : Int) = ((a * b : Nat) : Int) := (Int.natCast_mul a b).symm
  rw [e_, Int.natCast_emod]
  exact hd_rem (by omega) (by omega) (by omega) (by omega)
theorem zt_rem1 {L : List (Option Value)} {st : List Value} {v : Int} {M : Nat} (hM : 1 ≤ M) (hM2 : M ≤ 400) : ck_cf 15 4 v L (.int (Int32.ofInt (M : Int)) :: .int (Int32.ofInt 1) :: st) = some (L, .int (Int32.ofInt ((1 % M : Nat) : Int)) :: st) := by
  rw [Int.natCast_emod]
  exact hd_rem (by omega) (by omega) (by omega) (by omega)
theorem zt_p10 {f v d M : Nat} : (f ^ v % M) ^ 10 % M * f ^ d % M = f ^ (10 * v + d) % M := by
  rw [← Nat.pow_mod, ← Nat.pow_mul, Nat.mul_comm v 10, Nat.pow_add, Nat.mod_mul_mod]
theorem zt_b1 {c f j M : Nat} : c * f ^ j % M * f % M = c * f ^ (j + 1) % M := by rw [Nat.mod_mul_mod, Nat.pow_succ, Nat.mul_assoc]
theorem zt_a1 {w j M : Nat} : w ^ j % M * w % M = w ^ (j + 1) % M := by rw [Nat.mod_mul_mod, Nat.pow_succ]
set_option maxHeartbeats 4000000 in
theorem zm_inv_M {l : Launch} {G : am_G} {X : ck_XT} (g : gM l G X) {o : Nat → Nat} {x tx now qw : Nat} {th j m k : Int} {c : sp_S} {P : List sp_S} {h : List am_C} (hX : zm_x G h o x tx now qw th j m k c P) (hok : sp_ok c) {i : Nat} {e : Int} (he : e = (i : Int)) (hi : i < 6) {mc ms : Nat} {Post : am_O → List am_C → Prop} (hJ : c.1 ≤ 0 → Post (.inl (some (.int (Int32.ofInt (-9))))) h) (hP : 0 < c.1 → ∀ v : Int, sm_inv (c.2.1.getD i 0 % c.1).toNat c.1.toNat v → Post (.inl (some (.int (Int32.ofInt v)))) h) :
    am_M l G yX14_inverseAt (.code yX14_inverseAt prog_14_method_23_code 4 (some .int)) 3 64 mc ms [.ref x, .int (Int32.ofInt e)] h Post := by
  refine gh_yX14_inverseAt_X g (Nat.le_of_ble_eq_true rfl) fun S SX hs hr hw hx => ?_
  have rv : ∀ x : Int32, ck_fv 0 (.int x) := fun x => ⟨_, rfl⟩
  obtain ⟨a1_, a2_, a3_, a4_⟩ := id hX
  obtain ⟨t_, qn_, ql_, qb_, s1_, up_⟩ := hX.dialL
  rw [he]
  show S 0 [some (.ref x), some (.int (Int32.ofInt (i : Int))), none, none] [] _ _ _
  have ok_ := hok.1
  by_cases c1_ : c.1 ≤ 0
  · 
    refine hs 0 _ rfl _ _ _ _ _ _ _ rfl ?_
    refine zw_c (hs 1 _ rfl) (a := [.ref x]) (st := []) rfl rfl (Nat.le_of_ble_eq_true rfl) ⟨_, _, _, rfl, a1_, a2_.1⟩ (by omega) (by omega) (zm_jam_M g hX hok (fun y_ => ?_) (fun y_ => absurd y_ (by omega)))
    show S 4 [some (.ref x), some (.int (Int32.ofInt (i : Int))), none, none] [.int (Int32.ofInt (1 : Int))] _ _ _
    refine hs 2 _ rfl _ _ _ _ _ _ (fun zq => absurd (hd_c1z (c := 0) (by omega) (by omega) zq) (by omega : ¬ ((1 : Int) = 0))) (fun _ => ?_)
    refine hs 3 _ rfl _ _ _ _ _ _ _ rfl ?_
    exact hs 4 _ rfl _ _ _ _ _ (rv _) (Nat.zero_le _) (Nat.zero_le _) (hJ c1_)
  · obtain ⟨M_, hM_⟩ : ∃ M_ : Nat, c.1 = (M_ : Int) := ⟨c.1.toNat, by omega⟩
    have hm9_ : (M_ : Int) ≠ 0 := by omega
    have q1_ := Int.emod_nonneg (c.2.1.getD i 0) hm9_
    have q2_ := Int.emod_lt_of_pos (c.2.1.getD i 0) (show 0 < (M_ : Int) by omega)
    obtain ⟨A_, hA_⟩ : ∃ A_ : Nat, c.2.1.getD i 0 % (M_ : Int) = (A_ : Int) := ⟨(c.2.1.getD i 0 % (M_ : Int)).toNat, by omega⟩
    have s1_ := s1_
    rw [hM_] at s1_
    have hP2_ : ∀ v : Int, sm_inv A_ M_ v → Post (.inl (some (.int (Int32.ofInt v)))) h := fun v hv => hP (by omega) v (by rw [hM_, hA_, Int.toNat_natCast, Int.toNat_natCast]; exact hv)
    have loop : ∀ (n_ x_ : Nat), x_ + n_ = M_ → (∀ y_ : Nat, y_ < x_ → ¬ (A_ : Int) * (y_ : Int) % (M_ : Int) = 1 % (M_ : Int)) → S 18 [some (.ref x), some (.int (Int32.ofInt (i : Int))), some (.int (Int32.ofInt (A_ : Int))), some (.int (Int32.ofInt (x_ : Int)))] [] h 0 0 := by
      intro n_
      induction n_ with
      | zero =>
        intro x_ hx_ hn_
        refine hs 11 _ rfl _ _ _ _ _ _ _ rfl ?_
        refine hs 12 _ rfl _ _ _ _ _ _ _ rfl ?_
        refine hs 13 _ rfl _ _ _ _ _ _ _ _ _ (a1_) a2_.1 rfl ?_
        refine hs 14 _ rfl _ _ _ _ _ _ _ _ _ (s1_.1) s1_.2 rfl ?_
        refine hs 15 _ rfl _ _ _ _ _ _ _ (fun _ => ?_) (fun zq => absurd (hd_c2t (c := 3) (by omega) (by omega) (by omega) (by omega) (by omega : 0 ≤ ((x_ : Int) - (M_ : Int)))) zq)
        refine hs 33 _ rfl _ _ _ _ _ _ _ rfl ?_
        refine hs 34 _ rfl _ _ _ _ _ (rv _) (by omega) (by omega) (hP2_ (-8) (Or.inl ⟨fun y_ => ?_, rfl⟩))
        obtain ⟨k_, hk_, hk2_⟩ := nu_reach (show 0 < M_ by omega) y_ 1
        exact hn_ k_ (by omega) hk2_
      | succ n_ ih =>
        intro x_ hx_ hn_
        have b3_ : A_ * x_ % M_ < M_ := Nat.mod_lt _ (by omega)
        have b4_ : 1 % M_ < M_ := Nat.mod_lt _ (by omega)
        by_cases e0_ : A_ * x_ % M_ = 1 % M_
        · have e1_ : (A_ : Int) * (x_ : Int) % (M_ : Int) = 1 % (M_ : Int) := by
            have z_ : ((A_ * x_ % M_ : Nat) : Int) = ((1 % M_ : Nat) : Int) := by rw [e0_]
            rw [Int.natCast_emod, Int.natCast_mul, Int.natCast_emod] at z_
            exact z_
          refine hs 11 _ rfl _ _ _ _ _ _ _ rfl ?_
          refine hs 12 _ rfl _ _ _ _ _ _ _ rfl ?_
          refine hs 13 _ rfl _ _ _ _ _ _ _ _ _ (a1_) a2_.1 rfl ?_
          refine hs 14 _ rfl _ _ _ _ _ _ _ _ _ (s1_.1) s1_.2 rfl ?_
          refine hs 15 _ rfl _ _ _ _ _ _ _ (fun zq => absurd (hd_c2z (c := 3) (by omega) (by omega) (by omega) (by omega) zq) (by omega : ¬ (0 ≤ ((x_ : Int) - (M_ : Int))))) (fun _ => ?_)
          refine hs 16 _ rfl _ _ _ _ _ _ _ rfl ?_
          refine hs 17 _ rfl _ _ _ _ _ _ _ rfl ?_
          refine hs 18 _ rfl _ _ _ _ _ _ _ hd_mul ?_
          refine hs 19 _ rfl _ _ _ _ _ _ _ rfl ?_
          refine hs 20 _ rfl _ _ _ _ _ _ _ _ _ (a1_) a2_.1 rfl ?_
          refine hs 21 _ rfl _ _ _ _ _ _ _ _ _ (s1_.1) s1_.2 rfl ?_
          refine hs 22 _ rfl _ _ _ _ _ _ _ (zt_rem (by omega) (by omega) (by omega) (by omega)) ?_
          refine hs 23 _ rfl _ _ _ _ _ _ _ rfl ?_
          refine hs 24 _ rfl _ _ _ _ _ _ _ rfl ?_
          refine hs 25 _ rfl _ _ _ _ _ _ _ _ _ (a1_) a2_.1 rfl ?_
          refine hs 26 _ rfl _ _ _ _ _ _ _ _ _ (s1_.1) s1_.2 rfl ?_
          refine hs 27 _ rfl _ _ _ _ _ _ _ (zt_rem1 (by omega) (by omega)) ?_
          refine hs 28 _ rfl _ _ _ _ _ _ _ (fun zq => absurd (hd_c2z (c := 1) (by omega) (by omega) (by omega) (by omega) zq) (by omega : ¬ ((((A_ * x_ % M_ : Nat) : Int) - ((1 % M_ : Nat) : Int)) ≠ 0))) (fun _ => ?_)
          refine hs 29 _ rfl _ _ _ _ _ _ _ rfl ?_
          exact hs 30 _ rfl _ _ _ _ _ (rv _) (Nat.zero_le _) (Nat.zero_le _) (hP2_ (x_ : Int) (Or.inr ⟨zt_one e1_, by omega, by omega, e1_⟩))
        · 
          refine hs 11 _ rfl _ _ _ _ _ _ _ rfl ?_
          refine hs 12 _ rfl _ _ _ _ _ _ _ rfl ?_
          refine hs 13 _ rfl _ _ _ _ _ _ _ _ _ (a1_) a2_.1 rfl ?_
          refine hs 14 _ rfl _ _ _ _ _ _ _ _ _ (s1_.1) s1_.2 rfl ?_
          refine hs 15 _ rfl _ _ _ _ _ _ _ (fun zq => absurd (hd_c2z (c := 3) (by omega) (by omega) (by omega) (by omega) zq) (by omega : ¬ (0 ≤ ((x_ : Int) - (M_ : Int))))) (fun _ => ?_)
          refine hs 16 _ rfl _ _ _ _ _ _ _ rfl ?_
          refine hs 17 _ rfl _ _ _ _ _ _ _ rfl ?_
          refine hs 18 _ rfl _ _ _ _ _ _ _ hd_mul ?_
          refine hs 19 _ rfl _ _ _ _ _ _ _ rfl ?_
          refine hs 20 _ rfl _ _ _ _ _ _ _ _ _ (a1_) a2_.1 rfl ?_
          refine hs 21 _ rfl _ _ _ _ _ _ _ _ _ (s1_.1) s1_.2 rfl ?_
          refine hs 22 _ rfl _ _ _ _ _ _ _ (zt_rem (by omega) (by omega) (by omega) (by omega)) ?_
          refine hs 23 _ rfl _ _ _ _ _ _ _ rfl ?_
          refine hs 24 _ rfl _ _ _ _ _ _ _ rfl ?_
          refine hs 25 _ rfl _ _ _ _ _ _ _ _ _ (a1_) a2_.1 rfl ?_
          refine hs 26 _ rfl _ _ _ _ _ _ _ _ _ (s1_.1) s1_.2 rfl ?_
          refine hs 27 _ rfl _ _ _ _ _ _ _ (zt_rem1 (by omega) (by omega)) ?_
          refine hs 28 _ rfl _ _ _ _ _ _ _ (fun _ => ?_) (fun zq => absurd (hd_c2t (c := 1) (by omega) (by omega) (by omega) (by omega) (by omega : (((A_ * x_ % M_ : Nat) : Int) - ((1 % M_ : Nat) : Int)) ≠ 0)) zq)
          refine hs 31 _ rfl _ _ _ _ _ _ _ (hd_inc rfl) ?_
          refine hs 32 _ rfl _ _ _ _ _ ?_
          show S 18 [some (.ref x), some (.int (Int32.ofInt (i : Int))), some (.int (Int32.ofInt (A_ : Int))), some (.int (Int32.ofInt ((x_ : Int) + (1 : Int))))] [] _ _ _
          refine ih (x_ + 1) (by omega) fun y_ hy_ => ?_
          by_cases e2_ : y_ = x_
          · rw [e2_, ← Int.natCast_mul]
            intro z_
            apply e0_
            have z2_ : ((A_ * x_ % M_ : Nat) : Int) = ((1 % M_ : Nat) : Int) := by
              rw [Int.natCast_emod, Int.natCast_emod]
              exact z_
            omega
          · exact hn_ y_ (by omega)
    refine hs 0 _ rfl _ _ _ _ _ _ _ rfl ?_
    refine zw_c (hs 1 _ rfl) (a := [.ref x]) (st := []) rfl rfl (Nat.le_of_ble_eq_true rfl) ⟨_, _, _, rfl, a1_, a2_.1⟩ (by omega) (by omega) (zm_jam_M g hX hok (fun y_ => absurd y_ (by omega)) (fun y_ => ?_))
    show S 4 [some (.ref x), some (.int (Int32.ofInt (i : Int))), none, none] [.int (Int32.ofInt (0 : Int))] _ _ _
    refine hs 2 _ rfl _ _ _ _ _ _ (fun _ => ?_) (fun zq => absurd (hd_c1t (c := 0) (by omega) (by omega) (by omega : (0 : Int) = 0)) zq)
    refine hs 5 _ rfl _ _ _ _ _ _ _ rfl ?_
    refine hs 6 _ rfl _ _ _ _ _ _ _ rfl ?_
    refine zw_c (hs 7 _ rfl) (a := [.ref x, .int (Int32.ofInt (i : Int))]) (st := []) rfl rfl (Nat.le_of_ble_eq_true rfl) ⟨_, _, _, rfl, a1_, a2_.1⟩ (by omega) (by omega) (zm_modAt_M g hX hok rfl hi (fun y_ => absurd y_ (by omega)) (fun y_ => ?_))
    rw [hM_, hA_]
    show S 15 [some (.ref x), some (.int (Int32.ofInt (i : Int))), none, none] [.int (Int32.ofInt (A_ : Int))] _ _ _
    refine hs 8 _ rfl _ _ _ _ _ _ _ rfl ?_
    refine hs 9 _ rfl _ _ _ _ _ _ _ rfl ?_
    refine hs 10 _ rfl _ _ _ _ _ _ _ rfl ?_
    exact loop M_ 0 (by omega) fun y_ hy_ => absurd hy_ (by omega)
set_option maxHeartbeats 4000000 in
theorem zm_pow_M {l : Launch} {G : am_G} {X : ck_XT} (g : gM l G X) {o : Nat → Nat} {x tx now qw : Nat} {th j m k : Int} {c : sp_S} {P : List sp_S} {h : List am_C} (hX : zm_x G h o x tx now qw th j m k c P) (hok : sp_ok c) {i : Nat} {e : Int} (he : e = (i : Int)) (hi : i < 6) {q : Nat} {z : Int} (hz : zn_N G h q z) (hz2 : sp_in z) {mc ms : Nat} {Post : am_O → List am_C → Prop} (hJ : c.1 ≤ 0 → Post (.inl (some (.int (Int32.ofInt (-9))))) h) (hP : 0 < c.1 → ∀ v : Int, zc_pw (c.2.1.getD i 0 % c.1).toNat c.1.toNat z v → Post (.inl (some (.int (Int32.ofInt v)))) h) :
    am_M l G yX14_powerAt (.code yX14_powerAt prog_14_method_24_code 8 (some .int)) 4 87 mc ms [.ref x, .int (Int32.ofInt e), .ref q] h Post := by
  refine gh_yX14_powerAt_X g (Nat.le_of_ble_eq_true rfl) fun S SX hs hr hw hx => ?_
  have rv : ∀ x : Int32, ck_fv 0 (.int x) := fun x => ⟨_, rfl⟩
  obtain ⟨a1_, a2_, a3_, a4_⟩ := id hX
  obtain ⟨t_, qn_, ql_, qb_, s1_, up_⟩ := hX.dialL
  obtain ⟨nt_, nd_, ntd_, nb_, nds_, n1_, n2_, n3_, n4_, n5_⟩ := hz
  have nl_ : nds_.length ≤ 36 := zm_len n5_ hz2
  have sg_ := n5_.sgn
  have ab_ := n5_.abs
  have b01_ := n5_.2.2.1
  have vn_ := hd_v_nn n5_.1
  rw [he]
  show S 0 [some (.ref x), some (.int (Int32.ofInt (i : Int))), some (.ref q), none, none, none, none, none] [] _ _ _
  have ok_ := hok.1
  by_cases c1_ : c.1 ≤ 0
  · 
    refine hs 0 _ rfl _ _ _ _ _ _ _ rfl ?_
    refine zw_c (hs 1 _ rfl) (a := [.ref x]) (st := []) rfl rfl (Nat.le_of_ble_eq_true rfl) ⟨_, _, _, rfl, a1_, a2_.1⟩ (by omega) (by omega) (zm_jam_M g hX hok (fun y_ => ?_) (fun y_ => absurd y_ (by omega)))
    show S 4 [some (.ref x), some (.int (Int32.ofInt (i : Int))), some (.ref q), none, none, none, none, none] [.int (Int32.ofInt (1 : Int))] _ _ _
    refine hs 2 _ rfl _ _ _ _ _ _ (fun zq => absurd (hd_c1z (c := 0) (by omega) (by omega) zq) (by omega : ¬ ((1 : Int) = 0))) (fun _ => ?_)
    refine hs 3 _ rfl _ _ _ _ _ _ _ rfl ?_
    exact hs 4 _ rfl _ _ _ _ _ (rv _) (Nat.zero_le _) (Nat.zero_le _) (hJ c1_)
  · obtain ⟨M_, hM_⟩ : ∃ M_ : Nat, c.1 = (M_ : Int) := ⟨c.1.toNat, by omega⟩
    have hm9_ : (M_ : Int) ≠ 0 := by omega
    have q1_ := Int.emod_nonneg (c.2.1.getD i 0) hm9_
    have q2_ := Int.emod_lt_of_pos (c.2.1.getD i 0) (show 0 < (M_ : Int) by omega)
    obtain ⟨A_, hA_⟩ : ∃ A_ : Nat, c.2.1.getD i 0 % (M_ : Int) = (A_ : Int) := ⟨(c.2.1.getD i 0 % (M_ : Int)).toNat, by omega⟩
    have s1_ := s1_
    rw [hM_] at s1_
    have hP2_ : ∀ v : Int, zc_pw A_ M_ z v → Post (.inl (some (.int (Int32.ofInt v)))) h := fun v hv => hP (by omega) v (by rw [hM_, hA_, Int.toNat_natCast, Int.toNat_natCast]; exact hv)
    have m1_ : 1 % M_ < M_ := Nat.mod_lt _ (by omega)
    have loopA : ∀ (F_ W_ : Nat) (k_ : Int), W_ < M_ → S 100 [some (.ref x), some (.int (Int32.ofInt (i : Int))), some (.ref q), some (.int (Int32.ofInt (F_ : Int))), some (.int (Int32.ofInt ((W_ ^ 10 % M_ : Nat) : Int))), some (.int (Int32.ofInt k_)), some (.int (Int32.ofInt (W_ : Int))), some (.int (Int32.ofInt (9 : Int)))] [] h 0 0 → ∀ (n_ j_ : Nat), j_ + n_ = 9 → S 72 [some (.ref x), some (.int (Int32.ofInt (i : Int))), some (.ref q), some (.int (Int32.ofInt (F_ : Int))), some (.int (Int32.ofInt ((W_ ^ (j_ + 1) % M_ : Nat) : Int))), some (.int (Int32.ofInt k_)), some (.int (Int32.ofInt (W_ : Int))), some (.int (Int32.ofInt (j_ : Int)))] [] h 0 0 := by
      intro F_ W_ k_ hW_ hK_ n_
      induction n_ with
      | zero =>
        intro j_ hj_
        obtain rfl : j_ = 9 := by omega
        have p1_ : W_ ^ (9 + 1) % M_ < M_ := Nat.mod_lt _ (by omega)
        refine hs 39 _ rfl _ _ _ _ _ _ _ rfl ?_
        refine hs 40 _ rfl _ _ _ _ _ _ _ rfl ?_
        refine hs 41 _ rfl _ _ _ _ _ _ _ (fun _ => ?_) (fun zq => absurd (hd_c2t (c := 3) (by omega) (by omega) (by omega) (by omega) (by omega : 0 ≤ ((9 : Int) - (9 : Int)))) zq)
        exact hK_
      | succ n_ ih =>
        intro j_ hj_
        have p1_ : W_ ^ (j_ + 1) % M_ < M_ := Nat.mod_lt _ (by omega)
        refine hs 39 _ rfl _ _ _ _ _ _ _ rfl ?_
        refine hs 40 _ rfl _ _ _ _ _ _ _ rfl ?_
        refine hs 41 _ rfl _ _ _ _ _ _ _ (fun zq => absurd (hd_c2z (c := 3) (by omega) (by omega) (by omega) (by omega) zq) (by omega : ¬ (0 ≤ ((j_ : Int) - (9 : Int))))) (fun _ => ?_)
        refine hs 42 _ rfl _ _ _ _ _ _ _ rfl ?_
        refine hs 43 _ rfl _ _ _ _ _ _ _ rfl ?_
        refine hs 44 _ rfl _ _ _ _ _ _ _ hd_mul ?_
        refine hs 45 _ rfl _ _ _ _ _ _ _ rfl ?_
        refine hs 46 _ rfl _ _ _ _ _ _ _ _ _ (a1_) a2_.1 rfl ?_
        refine hs 47 _ rfl _ _ _ _ _ _ _ _ _ (s1_.1) s1_.2 rfl ?_
        refine hs 48 _ rfl _ _ _ _ _ _ _ (zt_rem (by omega) (by omega) (by omega) (by omega)) ?_
        refine hs 49 _ rfl _ _ _ _ _ _ _ rfl ?_
        refine hs 50 _ rfl _ _ _ _ _ _ _ (hd_inc rfl) ?_
        refine hs 51 _ rfl _ _ _ _ _ ?_
        show S 72 [some (.ref x), some (.int (Int32.ofInt (i : Int))), some (.ref q), some (.int (Int32.ofInt (F_ : Int))), some (.int (Int32.ofInt (((W_ ^ (j_ + 1) % M_) * W_ % M_ : Nat) : Int))), some (.int (Int32.ofInt k_)), some (.int (Int32.ofInt (W_ : Int))), some (.int (Int32.ofInt ((j_ : Int) + (1 : Int))))] [] _ _ _
        rw [zt_a1]
        exact ih (j_ + 1) (by omega)
    have loopD : ∀ (F_ W_ C_ r_ d_ : Nat), F_ < M_ → d_ ≤ 9 → nds_[r_]? = some (d_ : Int) → S 135 [some (.ref x), some (.int (Int32.ofInt (i : Int))), some (.ref q), some (.int (Int32.ofInt (F_ : Int))), some (.int (Int32.ofInt ((C_ * F_ ^ d_ % M_ : Nat) : Int))), some (.int (Int32.ofInt (r_ : Int))), some (.int (Int32.ofInt (W_ : Int))), some (.int (Int32.ofInt (d_ : Int)))] [] h 0 0 → ∀ (n_ j_ : Nat), j_ + n_ = d_ → S 103 [some (.ref x), some (.int (Int32.ofInt (i : Int))), some (.ref q), some (.int (Int32.ofInt (F_ : Int))), some (.int (Int32.ofInt ((C_ * F_ ^ j_ % M_ : Nat) : Int))), some (.int (Int32.ofInt (r_ : Int))), some (.int (Int32.ofInt (W_ : Int))), some (.int (Int32.ofInt (j_ : Int)))] [] h 0 0 := by
      intro F_ W_ C_ r_ d_ hF_ hd_ hd9_ hK_ n_
      have lr_ := (List.getElem?_eq_some_iff.mp hd9_).1
      induction n_ with
      | zero =>
        intro j_ hj_
        have ej_ : j_ = d_ := by omega
        rw [ej_]
        have p1_ : C_ * F_ ^ d_ % M_ < M_ := Nat.mod_lt _ (by omega)
        refine hs 54 _ rfl _ _ _ _ _ _ _ rfl ?_
        refine hs 55 _ rfl _ _ _ _ _ _ _ rfl ?_
        refine hs 56 _ rfl _ _ _ _ _ _ _ _ _ (n1_) n2_ rfl ?_
        refine hs 57 _ rfl _ _ _ _ _ _ _ rfl ?_
        refine hd_A (hs 58 _ rfl) (by decide) (by decide) (n3_) n4_ (j := r_) (by omega) (by omega) hd9_ ?_
        refine hs 59 _ rfl _ _ _ _ _ _ _ (fun _ => ?_) (fun zq => absurd (hd_c2t (c := 3) (by omega) (by omega) (by omega) (by omega) (by omega : 0 ≤ ((d_ : Int) - (d_ : Int)))) zq)
        exact hK_
      | succ n_ ih =>
        intro j_ hj_
        have p1_ : C_ * F_ ^ j_ % M_ < M_ := Nat.mod_lt _ (by omega)
        refine hs 54 _ rfl _ _ _ _ _ _ _ rfl ?_
        refine hs 55 _ rfl _ _ _ _ _ _ _ rfl ?_
        refine hs 56 _ rfl _ _ _ _ _ _ _ _ _ (n1_) n2_ rfl ?_
        refine hs 57 _ rfl _ _ _ _ _ _ _ rfl ?_
        refine hd_A (hs 58 _ rfl) (by decide) (by decide) (n3_) n4_ (j := r_) (by omega) (by omega) hd9_ ?_
        refine hs 59 _ rfl _ _ _ _ _ _ _ (fun zq => absurd (hd_c2z (c := 3) (by omega) (by omega) (by omega) (by omega) zq) (by omega : ¬ (0 ≤ ((j_ : Int) - (d_ : Int))))) (fun _ => ?_)
        refine hs 60 _ rfl _ _ _ _ _ _ _ rfl ?_
        refine hs 61 _ rfl _ _ _ _ _ _ _ rfl ?_
        refine hs 62 _ rfl _ _ _ _ _ _ _ hd_mul ?_
        refine hs 63 _ rfl _ _ _ _ _ _ _ rfl ?_
        refine hs 64 _ rfl _ _ _ _ _ _ _ _ _ (a1_) a2_.1 rfl ?_
        refine hs 65 _ rfl _ _ _ _ _ _ _ _ _ (s1_.1) s1_.2 rfl ?_
        refine hs 66 _ rfl _ _ _ _ _ _ _ (zt_rem (by omega) (by omega) (by omega) (by omega)) ?_
        refine hs 67 _ rfl _ _ _ _ _ _ _ rfl ?_
        refine hs 68 _ rfl _ _ _ _ _ _ _ (hd_inc rfl) ?_
        refine hs 69 _ rfl _ _ _ _ _ ?_
        show S 103 [some (.ref x), some (.int (Int32.ofInt (i : Int))), some (.ref q), some (.int (Int32.ofInt (F_ : Int))), some (.int (Int32.ofInt (((C_ * F_ ^ j_ % M_) * F_ % M_ : Nat) : Int))), some (.int (Int32.ofInt (r_ : Int))), some (.int (Int32.ofInt (W_ : Int))), some (.int (Int32.ofInt ((j_ : Int) + (1 : Int))))] [] _ _ _
        rw [zt_b1]
        exact ih (j_ + 1) (by omega)
    have loop : ∀ (F_ : Nat), F_ < M_ → (z < 0 → Nat.gcd A_ M_ = 1 ∧ (A_ : Int) * (F_ : Int) % (M_ : Int) = 1 % (M_ : Int)) → (¬ z < 0 → F_ = A_) → ∀ (r_ : Nat) (u6_ u7_ : Option Value), r_ ≤ nds_.length → S 60 [some (.ref x), some (.int (Int32.ofInt (i : Int))), some (.ref q), some (.int (Int32.ofInt (F_ : Int))), some (.int (Int32.ofInt ((F_ ^ (hd_v (nds_.drop r_)).toNat % M_ : Nat) : Int))), some (.int (Int32.ofInt ((r_ : Int) - (1 : Int)))), u6_, u7_] [] h 0 0 := by
      intro F_ hF_ hz1_ hz3_ r_
      induction r_ with
      | zero =>
        intro u6_ u7_ hr_
        rw [List.drop_zero]
        have p1_ : F_ ^ (hd_v nds_).toNat % M_ < M_ := Nat.mod_lt _ (by omega)
        refine hs 33 _ rfl _ _ _ _ _ _ _ rfl ?_
        refine hs 34 _ rfl _ _ _ _ _ _ (fun _ => ?_) (fun zq => absurd (hd_c1t (c := 2) (by omega) (by omega) (by omega : (((0 : Nat) : Int) - (1 : Int)) < 0)) zq)
        refine hs 72 _ rfl _ _ _ _ _ _ _ rfl ?_
        refine hs 73 _ rfl _ _ _ _ _ (rv _) (by omega) (by omega) (hP2_ _ (Or.inr ⟨fun y_ => (hz1_ y_).1, F_, hF_, fun y_ => (hz1_ y_).2, hz3_, ?_⟩))
        rw [← ab_, Int.toNat_natCast]
      | succ r_ ih =>
        intro u6_ u7_ hr_
        obtain ⟨d9_, hd9_⟩ : ∃ d9_, nds_[r_]? = some d9_ := ⟨_, List.getElem?_eq_getElem (by omega)⟩
        have dd_ := n5_.1 d9_ (List.mem_of_getElem? hd9_)
        obtain ⟨d_, hdd_⟩ : ∃ d_ : Nat, d9_ = (d_ : Int) := ⟨d9_.toNat, by omega⟩
        rw [hdd_] at hd9_
        have dr_ : nds_.drop r_ = (d_ : Int) :: nds_.drop (r_ + 1) := by
          rw [List.drop_eq_getElem_cons (by omega)]
          rw [List.getElem?_eq_getElem (by omega)] at hd9_
          rw [Option.some.inj hd9_]
        have dn_ : 0 ≤ hd_v (nds_.drop (r_ + 1)) := hd_v_nn fun y_ hy_ => n5_.1 y_ (List.mem_of_mem_drop hy_)
        have ev_ : (hd_v (nds_.drop r_)).toNat = 10 * (hd_v (nds_.drop (r_ + 1))).toNat + d_ := by
          rw [dr_]
          show ((d_ : Int) + 10 * hd_v (nds_.drop (r_ + 1))).toNat = _
          omega
        obtain ⟨W_, hW_⟩ : ∃ W_ : Nat, W_ = F_ ^ (hd_v (nds_.drop (r_ + 1))).toNat % M_ := ⟨_, rfl⟩
        have w1_ : W_ < M_ := by rw [hW_]; exact Nat.mod_lt _ (by omega)
        rw [← hW_]
        refine hs 33 _ rfl _ _ _ _ _ _ _ rfl ?_
        refine hs 34 _ rfl _ _ _ _ _ _ (fun zq => absurd (hd_c1z (c := 2) (by omega) (by omega) zq) (by omega : ¬ ((((r_ + 1 : Nat) : Int) - (1 : Int)) < 0))) (fun _ => ?_)
        refine hs 35 _ rfl _ _ _ _ _ _ _ rfl ?_
        refine hs 36 _ rfl _ _ _ _ _ _ _ rfl ?_
        refine hs 37 _ rfl _ _ _ _ _ _ _ rfl ?_
        refine hs 38 _ rfl _ _ _ _ _ _ _ rfl ?_
        show S 72 [some (.ref x), some (.int (Int32.ofInt (i : Int))), some (.ref q), some (.int (Int32.ofInt (F_ : Int))), some (.int (Int32.ofInt (W_ : Int))), some (.int (Int32.ofInt (((r_ + 1 : Nat) : Int) - (1 : Int)))), some (.int (Int32.ofInt (W_ : Int))), some (.int (Int32.ofInt (0 : Int)))] [] _ _ _
        have er_ : ((r_ + 1 : Nat) : Int) - (1 : Int) = (r_ : Int) := by omega
        have w2_ : W_ ^ (0 + 1) % M_ = W_ := by rw [Nat.zero_add, Nat.pow_one, Nat.mod_eq_of_lt w1_]
        rw [er_]
        have l9_ := loopA F_ W_ (r_ : Int) w1_ ?_ 9 0 (by omega)
        · rw [w2_] at l9_
          exact l9_
        · obtain ⟨C_, hC_⟩ : ∃ C_ : Nat, C_ = W_ ^ 10 % M_ := ⟨_, rfl⟩
          have c9_ : C_ < M_ := by rw [hC_]; exact Nat.mod_lt _ (by omega)
          rw [← hC_]
          refine hs 52 _ rfl _ _ _ _ _ _ _ rfl ?_
          refine hs 53 _ rfl _ _ _ _ _ _ _ rfl ?_
          show S 103 [some (.ref x), some (.int (Int32.ofInt (i : Int))), some (.ref q), some (.int (Int32.ofInt (F_ : Int))), some (.int (Int32.ofInt (C_ : Int))), some (.int (Int32.ofInt (r_ : Int))), some (.int (Int32.ofInt (W_ : Int))), some (.int (Int32.ofInt (0 : Int)))] [] _ _ _
          have l8_ := loopD F_ W_ C_ r_ d_ hF_ (by omega) hd9_ ?_ d_ 0 (by omega)
          · rw [Nat.pow_zero, Nat.mul_one, Nat.mod_eq_of_lt c9_] at l8_
            exact l8_
          · have e8_ : C_ * F_ ^ d_ % M_ = F_ ^ (hd_v (nds_.drop r_)).toNat % M_ := by rw [hC_, hW_, ev_, zt_p10]
            rw [e8_]
            refine hs 70 _ rfl _ _ _ _ _ _ _ (hd_inc rfl) ?_
            refine hs 71 _ rfl _ _ _ _ _ ?_
            exact ih _ _ (by omega)
    have start : ∀ (F_ : Nat), F_ < M_ → (z < 0 → Nat.gcd A_ M_ = 1 ∧ (A_ : Int) * (F_ : Int) % (M_ : Int) = 1 % (M_ : Int)) → (¬ z < 0 → F_ = A_) → S 31 [some (.ref x), some (.int (Int32.ofInt (i : Int))), some (.ref q), some (.int (Int32.ofInt (F_ : Int))), none, none, none, none] [] h 0 0 := by
      intro F_ hF_ hz1_ hz3_
      refine hs 16 _ rfl _ _ _ _ _ _ _ rfl ?_
      refine hs 17 _ rfl _ _ _ _ _ _ _ rfl ?_
      refine hs 18 _ rfl _ _ _ _ _ _ _ (fun _ => ?_) (fun zq => absurd (hd_c2t (c := 1) (by omega) (by omega) (by omega) (by omega) (by omega : ((F_ : Int) - (-8 : Int)) ≠ 0)) zq)
      refine hs 21 _ rfl _ _ _ _ _ _ _ rfl ?_
      refine hs 22 _ rfl _ _ _ _ _ _ _ rfl ?_
      refine hs 23 _ rfl _ _ _ _ _ _ _ _ _ (a1_) a2_.1 rfl ?_
      refine hs 24 _ rfl _ _ _ _ _ _ _ _ _ (s1_.1) s1_.2 rfl ?_
      refine hs 25 _ rfl _ _ _ _ _ _ _ (zt_rem1 (by omega) (by omega)) ?_
      refine hs 26 _ rfl _ _ _ _ _ _ _ rfl ?_
      refine hs 27 _ rfl _ _ _ _ _ _ _ rfl ?_
      refine hs 28 _ rfl _ _ _ _ _ _ _ _ _ (n1_) n2_ rfl ?_
      refine hd_Ln (hs 29 _ rfl) (n3_) n4_ ?_
      refine hs 30 _ rfl _ _ _ _ _ _ _ rfl ?_
      refine hs 31 _ rfl _ _ _ _ _ _ _ hd_sub ?_
      refine hs 32 _ rfl _ _ _ _ _ _ _ rfl ?_
      show S 60 [some (.ref x), some (.int (Int32.ofInt (i : Int))), some (.ref q), some (.int (Int32.ofInt (F_ : Int))), some (.int (Int32.ofInt ((1 % M_ : Nat) : Int))), some (.int (Int32.ofInt ((nds_.length : Int) - (1 : Int)))), none, none] [] _ _ _
      have l7_ := loop F_ hF_ hz1_ hz3_ nds_.length none none (Nat.le_refl _)
      rw [List.drop_length, show hd_v [] = 0 from rfl, show (0 : Int).toNat = 0 from rfl, Nat.pow_zero] at l7_
      exact l7_
    by_cases zb_ : z < 0
    · have nb1_ : nb_ = 1 := sg_.mpr zb_
      refine hs 0 _ rfl _ _ _ _ _ _ _ rfl ?_
      refine zw_c (hs 1 _ rfl) (a := [.ref x]) (st := []) rfl rfl (Nat.le_of_ble_eq_true rfl) ⟨_, _, _, rfl, a1_, a2_.1⟩ (by omega) (by omega) (zm_jam_M g hX hok (fun y_ => absurd y_ (by omega)) (fun y_ => ?_))
      show S 4 [some (.ref x), some (.int (Int32.ofInt (i : Int))), some (.ref q), none, none, none, none, none] [.int (Int32.ofInt (0 : Int))] _ _ _
      refine hs 2 _ rfl _ _ _ _ _ _ (fun _ => ?_) (fun zq => absurd (hd_c1t (c := 0) (by omega) (by omega) (by omega : (0 : Int) = 0)) zq)
      refine hs 5 _ rfl _ _ _ _ _ _ _ rfl ?_
      refine hs 6 _ rfl _ _ _ _ _ _ _ _ _ (n1_) n2_ rfl ?_
      refine hs 7 _ rfl _ _ _ _ _ _ (fun zq => absurd (hd_c1z (c := 0) (by omega) (by omega) zq) (by omega : ¬ (nb_ = 0))) (fun _ => ?_)
      refine hs 8 _ rfl _ _ _ _ _ _ _ rfl ?_
      refine hs 9 _ rfl _ _ _ _ _ _ _ rfl ?_
      refine zw_c (hs 10 _ rfl) (a := [.ref x, .int (Int32.ofInt (i : Int))]) (st := []) rfl rfl (Nat.le_of_ble_eq_true rfl) ⟨_, _, _, rfl, a1_, a2_.1⟩ (by omega) (by omega) (zm_inv_M g hX hok rfl hi (fun y_ => absurd y_ (by omega)) (fun y_ v_ hv_ => ?_))
      rw [hM_, hA_, Int.toNat_natCast, Int.toNat_natCast] at hv_
      show S 22 [some (.ref x), some (.int (Int32.ofInt (i : Int))), some (.ref q), none, none, none, none, none] [.int (Int32.ofInt v_)] _ _ _
      refine hs 11 _ rfl _ _ _ _ _ ?_
      refine hs 15 _ rfl _ _ _ _ _ _ _ rfl ?_
      show S 31 [some (.ref x), some (.int (Int32.ofInt (i : Int))), some (.ref q), some (.int (Int32.ofInt v_)), none, none, none, none] [] _ _ _
      rcases hv_ with ⟨g_, v8_⟩ | ⟨g_, v1_, v2_, v3_⟩
      · rw [v8_]
        refine hs 16 _ rfl _ _ _ _ _ _ _ rfl ?_
        refine hs 17 _ rfl _ _ _ _ _ _ _ rfl ?_
        refine hs 18 _ rfl _ _ _ _ _ _ _ (fun zq => absurd (hd_c2z (c := 1) (by omega) (by omega) (by omega) (by omega) zq) (by omega : ¬ (((-8) - (-8 : Int)) ≠ 0))) (fun _ => ?_)
        refine hs 19 _ rfl _ _ _ _ _ _ _ rfl ?_
        exact hs 20 _ rfl _ _ _ _ _ (rv _) (Nat.zero_le _) (Nat.zero_le _) (hP2_ (-8) (Or.inl ⟨by omega, g_, rfl⟩))
      · obtain ⟨F_, hF_⟩ : ∃ F_ : Nat, v_ = (F_ : Int) := ⟨v_.toNat, by omega⟩
        rw [hF_] at v2_ v3_ ⊢
        exact start F_ (by omega) (fun _ => ⟨g_, v3_⟩) (fun y_ => absurd zb_ y_)
    · have nb0_ : nb_ = 0 := by
        rcases b01_ with y_ | y_
        · exact y_
        · exact absurd (sg_.mp y_) zb_
      refine hs 0 _ rfl _ _ _ _ _ _ _ rfl ?_
      refine zw_c (hs 1 _ rfl) (a := [.ref x]) (st := []) rfl rfl (Nat.le_of_ble_eq_true rfl) ⟨_, _, _, rfl, a1_, a2_.1⟩ (by omega) (by omega) (zm_jam_M g hX hok (fun y_ => absurd y_ (by omega)) (fun y_ => ?_))
      show S 4 [some (.ref x), some (.int (Int32.ofInt (i : Int))), some (.ref q), none, none, none, none, none] [.int (Int32.ofInt (0 : Int))] _ _ _
      refine hs 2 _ rfl _ _ _ _ _ _ (fun _ => ?_) (fun zq => absurd (hd_c1t (c := 0) (by omega) (by omega) (by omega : (0 : Int) = 0)) zq)
      refine hs 5 _ rfl _ _ _ _ _ _ _ rfl ?_
      refine hs 6 _ rfl _ _ _ _ _ _ _ _ _ (n1_) n2_ rfl ?_
      refine hs 7 _ rfl _ _ _ _ _ _ (fun _ => ?_) (fun zq => absurd (hd_c1t (c := 0) (by omega) (by omega) (by omega : nb_ = 0)) zq)
      refine hs 12 _ rfl _ _ _ _ _ _ _ rfl ?_
      refine hs 13 _ rfl _ _ _ _ _ _ _ rfl ?_
      refine zw_c (hs 14 _ rfl) (a := [.ref x, .int (Int32.ofInt (i : Int))]) (st := []) rfl rfl (Nat.le_of_ble_eq_true rfl) ⟨_, _, _, rfl, a1_, a2_.1⟩ (by omega) (by omega) (zm_modAt_M g hX hok rfl hi (fun y_ => absurd y_ (by omega)) (fun y_ => ?_))
      rw [hM_, hA_]
      show S 30 [some (.ref x), some (.int (Int32.ofInt (i : Int))), some (.ref q), none, none, none, none, none] [.int (Int32.ofInt (A_ : Int))] _ _ _
      refine hs 15 _ rfl _ _ _ _ _ _ _ rfl ?_
      show S 31 [some (.ref x), some (.int (Int32.ofInt (i : Int))), some (.ref q), some (.int (Int32.ofInt (A_ : Int))), none, none, none, none] [] _ _ _
      exact start A_ (by omega) (fun y_ => absurd y_ zb_) (fun _ => rfl)
