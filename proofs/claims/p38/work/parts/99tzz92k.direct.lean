/-! ASKED WITHOUT AN OUT -/
def sk_u (m x : Nat) : Bool := Nat.beq (Nat.gcd x m) 1
set_option maxHeartbeats 4000000 in
theorem zc_rows9_M {l : Launch} {G : am_G} {X : ck_XT} (g : gM l G X) {x : Nat} {r : Nat → Nat} {jj mm kk : Int} {c : sp_S} {R : Nat → sp_S} {old cnt : Nat} {h : List am_C} (hX : zc_x G h x r jj mm kk c R old cnt){mc ms : Nat} {Post : am_O → List am_C → Prop}
    (hP : Post (.inl (some (.int (Int32.ofInt (c.2.2.1.length : Int))))) h) :
    am_M l G yX10_rows (.code yX10_rows prog_1_method_44_code 1 (some .int)) 1 20 mc ms [.ref x] h Post := by
  refine gh_yX10_rows_X g (Nat.le_of_ble_eq_true rfl) fun S SX hs hr hw hx => ?_
  have rv : ∀ x : Int32, ck_fv 0 (.int x) := fun x => ⟨_, rfl⟩
  refine hs 0 _ rfl _ _ _ _ _ _ _ rfl ?_
  refine hs 1 _ rfl _ _ _ _ _ _ _ _ _ (hX.1) rfl rfl ?_
  refine hs 2 _ rfl _ _ _ _ _ _ _ _ _ (hX.2.1.d) rfl rfl ?_
  exact hs 3 _ rfl _ _ _ _ _ (rv _) (Nat.zero_le _) (Nat.zero_le _) hP
set_option maxHeartbeats 4000000 in
theorem zm_rows9_M {l : Launch} {G : am_G} {X : ck_XT} (g : gM l G X) {o : Nat → Nat} {x tx now qw : Nat} {th j m k : Int} {c : sp_S} {P : List sp_S} {h : List am_C} (hX : zm_x G h o x tx now qw th j m k c P) {mc ms : Nat} {Post : am_O → List am_C → Prop}
    (hP : ∀ h', zm_fr G h h' → zm_Y G h' x 0 (c, P, j, m, k) → Post (.inl (some (.int (Int32.ofInt (c.2.2.1.length : Int))))) h') :
    am_M l G yX14_rows (.code yX14_rows prog_14_method_82_code 1 (some .int)) 2 40 mc ms [.ref x] h Post := by
  refine gh_yX14_rows_X g (Nat.le_of_ble_eq_true rfl) fun S SX hs hr hw hx => ?_
  have rv : ∀ x : Int32, ck_fv 0 (.int x) := fun x => ⟨_, rfl⟩
  obtain ⟨a1_, a2_, a3_, a4_⟩ := id hX
  refine hs 0 _ rfl _ _ _ _ _ _ _ rfl ?_
  refine hs 1 _ rfl _ _ _ _ _ _ _ rfl ?_
  refine zw_U (hs 2 _ rfl) (by omega) (a1_) a2_.1 ⟨_, rfl⟩ fun hz695 wz696 => ?_
  have wz696 : hd_w G h hz695 x (tx, [.int (Int32.ofInt (0 : Int)), .ref now, .ref qw, .int (Int32.ofInt j), .int (Int32.ofInt m), .int (Int32.ofInt k)]) := wz696
  have lwz696 := wz696.1
  have x2_ := hX.own wz696
  obtain ⟨t_, qn_, ql_, qb_, vl_, s1_, l1_, ⟨e1_, e2_⟩, up_⟩ := x2_.rowL
  show S 5 [some (.ref x)] [] _ _ _
  refine hs 3 _ rfl _ _ _ _ _ _ _ rfl ?_
  refine hs 4 _ rfl _ _ _ _ _ _ _ _ _ (x2_.1) a2_.1 rfl ?_
  refine hs 5 _ rfl _ _ _ _ _ _ _ _ _ (s1_.1) s1_.2 rfl ?_
  refine zw_c (hs 6 _ rfl) (a := [.ref ql_]) (st := []) rfl rfl (Nat.le_of_ble_eq_true rfl) (zm_l.rc l1_) (by omega) (by omega) (zm_size_M g l1_ ?_)
  show S 15 [some (.ref x)] [.int (Int32.ofInt (vl_.length : Int))] _ _ _
  rw [e1_]
  exact hs 7 _ rfl _ _ _ _ _ (rv _) (Nat.zero_le _) (Nat.zero_le _) (hP _ (zm_fr.w wz696 a1_ (Or.inl a2_.1)) ⟨_, _, _, _, x2_⟩)
set_option maxHeartbeats 4000000 in
theorem zc_bases9_M {l : Launch} {G : am_G} {X : ck_XT} (g : gM l G X) {x : Nat} {r : Nat → Nat} {jj mm kk : Int} {c : sp_S} {R : Nat → sp_S} {old cnt : Nat} {h : List am_C} (hX : zc_x G h x r jj mm kk c R old cnt){mc ms : Nat} {Post : am_O → List am_C → Prop}
    (hP : Post (.inl (some (.int (Int32.ofInt (c.2.2.2.length : Int))))) h) :
    am_M l G yX10_bases (.code yX10_bases prog_1_method_53_code 1 (some .int)) 1 20 mc ms [.ref x] h Post := by
  refine gh_yX10_bases_X g (Nat.le_of_ble_eq_true rfl) fun S SX hs hr hw hx => ?_
  have rv : ∀ x : Int32, ck_fv 0 (.int x) := fun x => ⟨_, rfl⟩
  refine hs 0 _ rfl _ _ _ _ _ _ _ rfl ?_
  refine hs 1 _ rfl _ _ _ _ _ _ _ _ _ (hX.1) rfl rfl ?_
  refine hs 2 _ rfl _ _ _ _ _ _ _ _ _ (hX.2.1.d) rfl rfl ?_
  exact hs 3 _ rfl _ _ _ _ _ (rv _) (Nat.zero_le _) (Nat.zero_le _) hP
set_option maxHeartbeats 4000000 in
theorem zm_bases9_M {l : Launch} {G : am_G} {X : ck_XT} (g : gM l G X) {o : Nat → Nat} {x tx now qw : Nat} {th j m k : Int} {c : sp_S} {P : List sp_S} {h : List am_C} (hX : zm_x G h o x tx now qw th j m k c P) {mc ms : Nat} {Post : am_O → List am_C → Prop}
    (hP : ∀ h', zm_fr G h h' → zm_Y G h' x 0 (c, P, j, m, k) → Post (.inl (some (.int (Int32.ofInt (c.2.2.2.length : Int))))) h') :
    am_M l G yX14_bases (.code yX14_bases prog_14_method_96_code 1 (some .int)) 2 40 mc ms [.ref x] h Post := by
  refine gh_yX14_bases_X g (Nat.le_of_ble_eq_true rfl) fun S SX hs hr hw hx => ?_
  have rv : ∀ x : Int32, ck_fv 0 (.int x) := fun x => ⟨_, rfl⟩
  obtain ⟨a1_, a2_, a3_, a4_⟩ := id hX
  refine hs 0 _ rfl _ _ _ _ _ _ _ rfl ?_
  refine hs 1 _ rfl _ _ _ _ _ _ _ rfl ?_
  refine zw_U (hs 2 _ rfl) (by omega) (a1_) a2_.1 ⟨_, rfl⟩ fun hz697 wz698 => ?_
  have wz698 : hd_w G h hz697 x (tx, [.int (Int32.ofInt (0 : Int)), .ref now, .ref qw, .int (Int32.ofInt j), .int (Int32.ofInt m), .int (Int32.ofInt k)]) := wz698
  have lwz698 := wz698.1
  have x2_ := hX.own wz698
  obtain ⟨t_, qn_, ql_, qb_, vl_, s1_, l1_, ⟨e1_, e2_⟩, up_⟩ := x2_.baseL
  show S 5 [some (.ref x)] [] _ _ _
  refine hs 3 _ rfl _ _ _ _ _ _ _ rfl ?_
  refine hs 4 _ rfl _ _ _ _ _ _ _ _ _ (x2_.1) a2_.1 rfl ?_
  refine hs 5 _ rfl _ _ _ _ _ _ _ _ _ (s1_.1) s1_.2 rfl ?_
  refine zw_c (hs 6 _ rfl) (a := [.ref qb_]) (st := []) rfl rfl (Nat.le_of_ble_eq_true rfl) (zm_l.rc l1_) (by omega) (by omega) (zm_size_M g l1_ ?_)
  show S 15 [some (.ref x)] [.int (Int32.ofInt (vl_.length : Int))] _ _ _
  rw [e1_]
  exact hs 7 _ rfl _ _ _ _ _ (rv _) (Nat.zero_le _) (Nat.zero_le _) (hP _ (zm_fr.w wz698 a1_ (Or.inl a2_.1)) ⟨_, _, _, _, x2_⟩)
set_option maxHeartbeats 4000000 in
theorem sk_units_M {l : Launch} {G : am_G} {X : ck_XT} (g : gM l G X) {M_ : Nat} (hm1 : 1 ≤ M_) (hm : M_ ≤ 400) {h : List am_C} {mc ms : Nat} {Post : am_O → List am_C → Prop} (hP : Post (.inl (some (.int (Int32.ofInt ((sk_n (sk_u M_) M_ : Nat) : Int))))) h) :
    am_M l G yX7_countUnits (.code yX7_countUnits prog_9_method_8_code 3 (some .int)) 2 45 mc ms [.int (Int32.ofInt (M_ : Int))] h Post := by
  refine gh_yX7_countUnits_X g (Nat.le_of_ble_eq_true rfl) fun S SX hs hr hw hx => ?_
  have rv : ∀ x : Int32, ck_fv 0 (.int x) := fun x => ⟨_, rfl⟩
  have loop : ∀ (n_ x_ : Nat), x_ + n_ = M_ → S 4 [some (.int (Int32.ofInt (M_ : Int))), some (.int (Int32.ofInt ((sk_n (sk_u M_) x_ : Nat) : Int))), some (.int (Int32.ofInt (x_ : Int)))] [] h 0 0 := by
    intro n_
    induction n_ with
    | zero =>
      intro x_ hx_
      have e_ : x_ = M_ := by omega
      rw [e_]
      refine hs 4 _ rfl _ _ _ _ _ _ _ rfl ?_
      refine hs 5 _ rfl _ _ _ _ _ _ _ rfl ?_
      refine hs 6 _ rfl _ _ _ _ _ _ _ (fun _ => ?_) (fun zq => absurd (hd_c2t (c := 3) (by omega) (by omega) (by omega) (by omega) (by omega : 0 ≤ ((M_ : Int) - (M_ : Int)))) zq)
      refine hs 15 _ rfl _ _ _ _ _ _ _ rfl ?_
      exact hs 16 _ rfl _ _ _ _ _ (rv _) (Nat.zero_le _) (Nat.zero_le _) hP
    | succ n_ ih =>
      intro x_ hx_
      have b3_ : Nat.gcd x_ M_ ≤ M_ := Nat.gcd_le_right x_ (by omega)
      have c0_ := sk_n.le (sk_u M_) x_
      have z_ := ih (x_ + 1) (by omega)
      by_cases e0_ : Nat.gcd x_ M_ = 1
      · rw [sk_n.yes (p := (sk_u M_)) (n := x_) (sk_b e0_)] at z_
        refine hs 4 _ rfl _ _ _ _ _ _ _ rfl ?_
        refine hs 5 _ rfl _ _ _ _ _ _ _ rfl ?_
        refine hs 6 _ rfl _ _ _ _ _ _ _ (fun zq => absurd (hd_c2z (c := 3) (by omega) (by omega) (by omega) (by omega) zq) (by omega : ¬ (0 ≤ ((x_ : Int) - (M_ : Int))))) (fun _ => ?_)
        refine hs 7 _ rfl _ _ _ _ _ _ _ rfl ?_
        refine hs 8 _ rfl _ _ _ _ _ _ _ rfl ?_
        refine zw_c (hs 9 _ rfl) (a := [.int (Int32.ofInt (x_ : Int)), .int (Int32.ofInt (M_ : Int))]) (st := []) rfl rfl (Nat.le_of_ble_eq_true rfl) trivial (by omega) (by omega) (sm_common_M g (by omega) (by omega) ?_)
        show S 14 [some (.int (Int32.ofInt (M_ : Int))), some (.int (Int32.ofInt ((sk_n (sk_u M_) x_ : Nat) : Int))), some (.int (Int32.ofInt (x_ : Int)))] [.int (Int32.ofInt ((Nat.gcd x_ M_ : Nat) : Int))] _ _ _
        refine hs 10 _ rfl _ _ _ _ _ _ _ rfl ?_
        refine hs 11 _ rfl _ _ _ _ _ _ _ (fun zq => absurd (hd_c2z (c := 1) (by omega) (by omega) (by omega) (by omega) zq) (by omega : ¬ ((((Nat.gcd x_ M_ : Nat) : Int) - (1 : Int)) ≠ 0))) (fun _ => ?_)
        refine hs 12 _ rfl _ _ _ _ _ _ _ (hd_inc rfl) ?_
        refine hs 13 _ rfl _ _ _ _ _ _ _ (hd_inc rfl) ?_
        refine hs 14 _ rfl _ _ _ _ _ ?_
        exact z_
      · rw [sk_n.no (p := (sk_u M_)) (n := x_) (sk_bn e0_)] at z_
        refine hs 4 _ rfl _ _ _ _ _ _ _ rfl ?_
        refine hs 5 _ rfl _ _ _ _ _ _ _ rfl ?_
        refine hs 6 _ rfl _ _ _ _ _ _ _ (fun zq => absurd (hd_c2z (c := 3) (by omega) (by omega) (by omega) (by omega) zq) (by omega : ¬ (0 ≤ ((x_ : Int) - (M_ : Int))))) (fun _ => ?_)
        refine hs 7 _ rfl _ _ _ _ _ _ _ rfl ?_
        refine hs 8 _ rfl _ _ _ _ _ _ _ rfl ?_
        refine zw_c (hs 9 _ rfl) (a := [.int (Int32.ofInt (x_ : Int)), .int (Int32.ofInt (M_ : Int))]) (st := []) rfl rfl (Nat.le_of_ble_eq_true rfl) trivial (by omega) (by omega) (sm_common_M g (by omega) (by omega) ?_)
        show S 14 [some (.int (Int32.ofInt (M_ : Int))), some (.int (Int32.ofInt ((sk_n (sk_u M_) x_ : Nat) : Int))), some (.int (Int32.ofInt (x_ : Int)))] [.int (Int32.ofInt ((Nat.gcd x_ M_ : Nat) : Int))] _ _ _
        refine hs 10 _ rfl _ _ _ _ _ _ _ rfl ?_
        refine hs 11 _ rfl _ _ _ _ _ _ _ (fun _ => ?_) (fun zq => absurd (hd_c2t (c := 1) (by omega) (by omega) (by omega) (by omega) (by omega : (((Nat.gcd x_ M_ : Nat) : Int) - (1 : Int)) ≠ 0)) zq)
        refine hs 13 _ rfl _ _ _ _ _ _ _ (hd_inc rfl) ?_
        refine hs 14 _ rfl _ _ _ _ _ ?_
        exact z_
  refine hs 0 _ rfl _ _ _ _ _ _ _ rfl ?_
  refine hs 1 _ rfl _ _ _ _ _ _ _ rfl ?_
  refine hs 2 _ rfl _ _ _ _ _ _ _ rfl ?_
  refine hs 3 _ rfl _ _ _ _ _ _ _ rfl ?_
  exact loop M_ 0 (by omega)
set_option maxHeartbeats 4000000 in
theorem zc_units9_M {l : Launch} {G : am_G} {X : ck_XT} (g : gM l G X) {x : Nat} {r : Nat → Nat} {jj mm kk : Int} {c : sp_S} {R : Nat → sp_S} {old cnt : Nat} {h : List am_C} (hX : zc_x G h x r jj mm kk c R old cnt){mc ms : Nat} {Post : am_O → List am_C → Prop}
    (hP : Post (.inl (some (.int (Int32.ofInt (if c.1 ≤ 0 then -9 else ((sk_n (sk_u c.1.toNat) c.1.toNat : Nat) : Int)))))) h) :
    am_M l G yX10_units (.code yX10_units prog_1_method_33_code 1 (some .int)) 3 67 mc ms [.ref x] h Post := by
  refine gh_yX10_units_X g (Nat.le_of_ble_eq_true rfl) fun S SX hs hr hw hx => ?_
  have rv : ∀ x : Int32, ck_fv 0 (.int x) := fun x => ⟨_, rfl⟩
  have hb_ := hX.2.2.1.1
  by_cases cj_ : c.1 ≤ 0
  · rw [if_pos cj_] at hP
    refine hs 0 _ rfl _ _ _ _ _ _ _ rfl ?_
    refine zw_c (hs 1 _ rfl) (a := [.ref x]) (st := []) rfl rfl (Nat.le_of_ble_eq_true rfl) ⟨_, _, _, rfl, hX.1, rfl⟩ (by omega) (by omega) (zc_jam_M g hX (fun _ => ?_) (fun y_ => absurd y_ (by omega)))
    show S 4 [some (.ref x)] [.int (Int32.ofInt (1 : Int))] _ _ _
    refine hs 2 _ rfl _ _ _ _ _ _ (fun zq => absurd (hd_c1z (c := 0) (by omega) (by omega) zq) (by omega : ¬ ((1 : Int) = 0))) (fun _ => ?_)
    refine hs 3 _ rfl _ _ _ _ _ _ _ rfl ?_
    refine hs 4 _ rfl _ _ _ _ _ ?_
    exact hs 9 _ rfl _ _ _ _ _ (rv _) (Nat.zero_le _) (Nat.zero_le _) hP
  · rw [if_neg cj_] at hP
    obtain ⟨M_, hM_⟩ : ∃ M_ : Nat, c.1 = (M_ : Int) := ⟨c.1.toNat, by omega⟩
    have d1_ := hX.2.1.d
    rw [hM_] at d1_
    rw [show c.1.toNat = M_ by omega] at hP
    refine hs 0 _ rfl _ _ _ _ _ _ _ rfl ?_
    refine zw_c (hs 1 _ rfl) (a := [.ref x]) (st := []) rfl rfl (Nat.le_of_ble_eq_true rfl) ⟨_, _, _, rfl, hX.1, rfl⟩ (by omega) (by omega) (zc_jam_M g hX (fun y_ => absurd y_ (by omega)) (fun _ => ?_))
    show S 4 [some (.ref x)] [.int (Int32.ofInt (0 : Int))] _ _ _
    refine hs 2 _ rfl _ _ _ _ _ _ (fun _ => ?_) (fun zq => absurd (hd_c1t (c := 0) (by omega) (by omega) (by omega : (0 : Int) = 0)) zq)
    refine hs 5 _ rfl _ _ _ _ _ _ _ rfl ?_
    refine hs 6 _ rfl _ _ _ _ _ _ _ _ _ (hX.1) rfl rfl ?_
    refine hs 7 _ rfl _ _ _ _ _ _ _ _ _ (d1_) rfl rfl ?_
    refine zw_c (hs 8 _ rfl) (a := [.int (Int32.ofInt (M_ : Int))]) (st := []) rfl rfl (Nat.le_of_ble_eq_true rfl) trivial (by omega) (by omega) (sk_units_M g (M_ := M_) (by omega) (by omega) ?_)
    show S 22 [some (.ref x)] [.int (Int32.ofInt ((sk_n (sk_u M_) M_ : Nat) : Int))] _ _ _
    exact hs 9 _ rfl _ _ _ _ _ (rv _) (Nat.zero_le _) (Nat.zero_le _) hP
set_option maxHeartbeats 4000000 in
theorem zm_units8_M {l : Launch} {G : am_G} {X : ck_XT} (g : gM l G X) {o : Nat → Nat} {x tx now qw : Nat} {th j m k : Int} {c : sp_S} {P : List sp_S} {h : List am_C} (hX : zm_x G h o x tx now qw th j m k c P) (hok : sp_ok c) {mc ms : Nat} {Post : am_O → List am_C → Prop}
    (hP : Post (.inl (some (.int (Int32.ofInt (if c.1 ≤ 0 then -9 else ((sk_n (sk_u c.1.toNat) c.1.toNat : Nat) : Int)))))) h) :
    am_M l G yX14_unitsTold (.code yX14_unitsTold prog_14_method_59_code 3 (some .int)) 2 43 mc ms [.ref x] h Post := by
  refine gh_yX14_unitsTold_X g (Nat.le_of_ble_eq_true rfl) fun S SX hs hr hw hx => ?_
  have rv : ∀ x : Int32, ck_fv 0 (.int x) := fun x => ⟨_, rfl⟩
  obtain ⟨a1_, a2_, a3_, a4_⟩ := id hX
  obtain ⟨t_, qn_, ql_, qb_, s1_, up_⟩ := hX.dialL
  have okd_ := hok.1
  by_cases cj_ : c.1 ≤ 0
  · rw [if_pos cj_] at hP
    refine hs 0 _ rfl _ _ _ _ _ _ _ rfl ?_
    refine zw_c (hs 1 _ rfl) (a := [.ref x]) (st := []) rfl rfl (Nat.le_of_ble_eq_true rfl) ⟨_, _, _, rfl, a1_, a2_.1⟩ (by omega) (by omega) (zm_jam_M g hX hok (fun y_ => ?_) (fun y_ => absurd y_ (by omega)))
    show S 4 [some (.ref x), none, none] [.int (Int32.ofInt (1 : Int))] _ _ _
    refine hs 2 _ rfl _ _ _ _ _ _ (fun zq => absurd (hd_c1z (c := 0) (by omega) (by omega) zq) (by omega : ¬ ((1 : Int) = 0))) (fun _ => ?_)
    refine hs 3 _ rfl _ _ _ _ _ _ _ rfl ?_
    exact hs 4 _ rfl _ _ _ _ _ (rv _) (Nat.zero_le _) (Nat.zero_le _) hP
  · rw [if_neg cj_] at hP
    obtain ⟨M_, hM_⟩ : ∃ M_ : Nat, c.1 = (M_ : Int) := ⟨c.1.toNat, by omega⟩
    rw [show c.1.toNat = M_ by omega] at hP
    have s1_ := s1_
    rw [hM_] at s1_
    have loop : ∀ (n_ x_ : Nat), x_ + n_ = M_ → S 14 [some (.ref x), some (.int (Int32.ofInt ((sk_n (sk_u M_) x_ : Nat) : Int))), some (.int (Int32.ofInt (x_ : Int)))] [] h 0 0 := by
      intro n_
      induction n_ with
      | zero =>
        intro x_ hx_
        have e_ : x_ = M_ := by omega
        rw [e_]
        refine hs 9 _ rfl _ _ _ _ _ _ _ rfl ?_
        refine hs 10 _ rfl _ _ _ _ _ _ _ rfl ?_
        refine hs 11 _ rfl _ _ _ _ _ _ _ _ _ (a1_) a2_.1 rfl ?_
        refine hs 12 _ rfl _ _ _ _ _ _ _ _ _ (s1_.1) s1_.2 rfl ?_
        refine hs 13 _ rfl _ _ _ _ _ _ _ (fun _ => ?_) (fun zq => absurd (hd_c2t (c := 3) (by omega) (by omega) (by omega) (by omega) (by omega : 0 ≤ ((M_ : Int) - (M_ : Int)))) zq)
        refine hs 24 _ rfl _ _ _ _ _ _ _ rfl ?_
        exact hs 25 _ rfl _ _ _ _ _ (rv _) (Nat.zero_le _) (Nat.zero_le _) hP
      | succ n_ ih =>
        intro x_ hx_
        have b3_ : Nat.gcd x_ M_ ≤ M_ := Nat.gcd_le_right x_ (by omega)
        have c0_ := sk_n.le (sk_u M_) x_
        have z_ := ih (x_ + 1) (by omega)
        by_cases e0_ : Nat.gcd x_ M_ = 1
        · rw [sk_n.yes (p := (sk_u M_)) (n := x_) (sk_b e0_)] at z_
          refine hs 9 _ rfl _ _ _ _ _ _ _ rfl ?_
          refine hs 10 _ rfl _ _ _ _ _ _ _ rfl ?_
          refine hs 11 _ rfl _ _ _ _ _ _ _ _ _ (a1_) a2_.1 rfl ?_
          refine hs 12 _ rfl _ _ _ _ _ _ _ _ _ (s1_.1) s1_.2 rfl ?_
          refine hs 13 _ rfl _ _ _ _ _ _ _ (fun zq => absurd (hd_c2z (c := 3) (by omega) (by omega) (by omega) (by omega) zq) (by omega : ¬ (0 ≤ ((x_ : Int) - (M_ : Int))))) (fun _ => ?_)
          refine hs 14 _ rfl _ _ _ _ _ _ _ rfl ?_
          refine hs 15 _ rfl _ _ _ _ _ _ _ rfl ?_
          refine hs 16 _ rfl _ _ _ _ _ _ _ _ _ (a1_) a2_.1 rfl ?_
          refine hs 17 _ rfl _ _ _ _ _ _ _ _ _ (s1_.1) s1_.2 rfl ?_
          refine zw_c (hs 18 _ rfl) (a := [.int (Int32.ofInt (x_ : Int)), .int (Int32.ofInt (M_ : Int))]) (st := []) rfl rfl (Nat.le_of_ble_eq_true rfl) trivial (by omega) (by omega) (nu_gcd_M g.1 (by omega) (by omega) ?_)
          show S 36 [some (.ref x), some (.int (Int32.ofInt ((sk_n (sk_u M_) x_ : Nat) : Int))), some (.int (Int32.ofInt (x_ : Int)))] [.int (Int32.ofInt ((Nat.gcd x_ M_ : Nat) : Int))] _ _ _
          refine hs 19 _ rfl _ _ _ _ _ _ _ rfl ?_
          refine hs 20 _ rfl _ _ _ _ _ _ _ (fun zq => absurd (hd_c2z (c := 1) (by omega) (by omega) (by omega) (by omega) zq) (by omega : ¬ ((((Nat.gcd x_ M_ : Nat) : Int) - (1 : Int)) ≠ 0))) (fun _ => ?_)
          refine hs 21 _ rfl _ _ _ _ _ _ _ (hd_inc rfl) ?_
          refine hs 22 _ rfl _ _ _ _ _ _ _ (hd_inc rfl) ?_
          refine hs 23 _ rfl _ _ _ _ _ ?_
          exact z_
        · rw [sk_n.no (p := (sk_u M_)) (n := x_) (sk_bn e0_)] at z_
          refine hs 9 _ rfl _ _ _ _ _ _ _ rfl ?_
          refine hs 10 _ rfl _ _ _ _ _ _ _ rfl ?_
          refine hs 11 _ rfl _ _ _ _ _ _ _ _ _ (a1_) a2_.1 rfl ?_
          refine hs 12 _ rfl _ _ _ _ _ _ _ _ _ (s1_.1) s1_.2 rfl ?_
          refine hs 13 _ rfl _ _ _ _ _ _ _ (fun zq => absurd (hd_c2z (c := 3) (by omega) (by omega) (by omega) (by omega) zq) (by omega : ¬ (0 ≤ ((x_ : Int) - (M_ : Int))))) (fun _ => ?_)
          refine hs 14 _ rfl _ _ _ _ _ _ _ rfl ?_
          refine hs 15 _ rfl _ _ _ _ _ _ _ rfl ?_
          refine hs 16 _ rfl _ _ _ _ _ _ _ _ _ (a1_) a2_.1 rfl ?_
          refine hs 17 _ rfl _ _ _ _ _ _ _ _ _ (s1_.1) s1_.2 rfl ?_
          refine zw_c (hs 18 _ rfl) (a := [.int (Int32.ofInt (x_ : Int)), .int (Int32.ofInt (M_ : Int))]) (st := []) rfl rfl (Nat.le_of_ble_eq_true rfl) trivial (by omega) (by omega) (nu_gcd_M g.1 (by omega) (by omega) ?_)
          show S 36 [some (.ref x), some (.int (Int32.ofInt ((sk_n (sk_u M_) x_ : Nat) : Int))), some (.int (Int32.ofInt (x_ : Int)))] [.int (Int32.ofInt ((Nat.gcd x_ M_ : Nat) : Int))] _ _ _
          refine hs 19 _ rfl _ _ _ _ _ _ _ rfl ?_
          refine hs 20 _ rfl _ _ _ _ _ _ _ (fun _ => ?_) (fun zq => absurd (hd_c2t (c := 1) (by omega) (by omega) (by omega) (by omega) (by omega : (((Nat.gcd x_ M_ : Nat) : Int) - (1 : Int)) ≠ 0)) zq)
          refine hs 22 _ rfl _ _ _ _ _ _ _ (hd_inc rfl) ?_
          refine hs 23 _ rfl _ _ _ _ _ ?_
          exact z_
    refine hs 0 _ rfl _ _ _ _ _ _ _ rfl ?_
    refine zw_c (hs 1 _ rfl) (a := [.ref x]) (st := []) rfl rfl (Nat.le_of_ble_eq_true rfl) ⟨_, _, _, rfl, a1_, a2_.1⟩ (by omega) (by omega) (zm_jam_M g hX hok (fun y_ => absurd y_ (by omega)) (fun y_ => ?_))
    show S 4 [some (.ref x), none, none] [.int (Int32.ofInt (0 : Int))] _ _ _
    refine hs 2 _ rfl _ _ _ _ _ _ (fun _ => ?_) (fun zq => absurd (hd_c1t (c := 0) (by omega) (by omega) (by omega : (0 : Int) = 0)) zq)
    refine hs 5 _ rfl _ _ _ _ _ _ _ rfl ?_
    refine hs 6 _ rfl _ _ _ _ _ _ _ rfl ?_
    refine hs 7 _ rfl _ _ _ _ _ _ _ rfl ?_
    refine hs 8 _ rfl _ _ _ _ _ _ _ rfl ?_
    exact loop M_ 0 (by omega)
set_option maxHeartbeats 4000000 in
theorem zm_units9_M {l : Launch} {G : am_G} {X : ck_XT} (g : gM l G X) {o : Nat → Nat} {x tx now qw : Nat} {th j m k : Int} {c : sp_S} {P : List sp_S} {h : List am_C} (hX : zm_x G h o x tx now qw th j m k c P) (hok : sp_ok c) {mc ms : Nat} {Post : am_O → List am_C → Prop}
    (hP : ∀ h', zm_fr G h h' → zm_Y G h' x 0 (c, P, j, m, k) → Post (.inl (some (.int (Int32.ofInt (if c.1 ≤ 0 then -9 else ((sk_n (sk_u c.1.toNat) c.1.toNat : Nat) : Int)))))) h') :
    am_M l G yX14_units (.code yX14_units prog_14_method_60_code 1 (some .int)) 3 65 mc ms [.ref x] h Post := by
  refine gh_yX14_units_X g (Nat.le_of_ble_eq_true rfl) fun S SX hs hr hw hx => ?_
  have rv : ∀ x : Int32, ck_fv 0 (.int x) := fun x => ⟨_, rfl⟩
  obtain ⟨a1_, a2_, a3_, a4_⟩ := id hX
  refine hs 0 _ rfl _ _ _ _ _ _ _ rfl ?_
  refine hs 1 _ rfl _ _ _ _ _ _ _ rfl ?_
  refine zw_U (hs 2 _ rfl) (by omega) (a1_) a2_.1 ⟨_, rfl⟩ fun hz699 wz700 => ?_
  have wz700 : hd_w G h hz699 x (tx, [.int (Int32.ofInt (0 : Int)), .ref now, .ref qw, .int (Int32.ofInt j), .int (Int32.ofInt m), .int (Int32.ofInt k)]) := wz700
  have lwz700 := wz700.1
  have x2_ := hX.own wz700
  show S 5 [some (.ref x)] [] _ _ _
  refine hs 3 _ rfl _ _ _ _ _ _ _ rfl ?_
  refine zw_c (hs 4 _ rfl) (a := [.ref x]) (st := []) rfl rfl (Nat.le_of_ble_eq_true rfl) (zm_rc x2_) (by omega) (by omega) (zm_units8_M g x2_ hok ?_)
  show S 9 [some (.ref x)] [.int (Int32.ofInt (if c.1 ≤ 0 then -9 else ((sk_n (sk_u c.1.toNat) c.1.toNat : Nat) : Int)))] _ _ _
  exact hs 5 _ rfl _ _ _ _ _ (rv _) (Nat.zero_le _) (Nat.zero_le _) (hP _ (zm_fr.w wz700 a1_ (Or.inl a2_.1)) ⟨_, _, _, _, x2_⟩)
