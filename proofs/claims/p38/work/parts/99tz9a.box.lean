/-! BOXES -/
set_option maxHeartbeats 4000000 in
theorem zi_init0_M {l : Launch} {G : am_G} {X : ck_XT} (g : gM l G X) {q t : Nat} {x0 : Value} {h : List am_C} (hg : am_g G h q = some (t, [x0])) (ht : t % 100 = 2) {mc ms : Nat} {Post : am_O → List am_C → Prop} (hP : Post (.inl none) h) :
    am_M l G yJxd2413_init_da8c8 (.code yJxd2413_init_da8c8 prog_33_method_1_code 1 none) 1 20 mc ms [.ref q] h Post := by
  refine gh_yJxd2413_init_da8c8_X g (Nat.le_of_ble_eq_true rfl) fun S SX hs hr hw hx => ?_
  have rv : ∀ x : Int32, ck_fv 0 (.int x) := fun x => ⟨_, rfl⟩
  refine hs 0 _ rfl _ _ _ _ _ _ _ rfl ?_
  refine hs 1 _ rfl _ _ _ _ _ _ rfl (Nat.le_of_ble_eq_true rfl) ?_
  exact hs 2 _ rfl _ _ _ _ (Nat.zero_le _) (Nat.zero_le _) hP
set_option maxHeartbeats 4000000 in
theorem zi_init_M {l : Launch} {G : am_G} {X : ck_XT} (g : gM l G X) {q t : Nat} {x0 : Value} {b : Int} {h : List am_C} (hg : am_g G h q = some (t, [x0])) (ht : t % 100 = 2) (hq : 1000 ≤ q) {mc ms : Nat} {Post : am_O → List am_C → Prop} (hP : ∀ h', hd_w G h h' q (t, [.int (Int32.ofInt b)]) → Post (.inl none) h') :
    am_M l G yJ6_init_d00df (.code yJ6_init_d00df prog_28_method_23_code 2 none) 2 40 mc ms [.ref q, .int (Int32.ofInt b)] h Post := by
  refine gh_yJ6_init_d00df_X g (Nat.le_of_ble_eq_true rfl) fun S SX hs hr hw hx => ?_
  have rv : ∀ x : Int32, ck_fv 0 (.int x) := fun x => ⟨_, rfl⟩
  refine hs 0 _ rfl _ _ _ _ _ _ _ rfl ?_
  refine zw_cn (hs 1 _ rfl) (a := [.ref q]) (st := []) rfl rfl (Nat.le_of_ble_eq_true rfl) ⟨_, _, _, rfl, (hg), ht⟩ (by omega) (by omega) (⟨zi_init0_M g hg ht ?_, fun _ _ h9 => h9⟩)
  show S 4 [some (.ref q), some (.int (Int32.ofInt b))] [] _ _ _
  refine hs 2 _ rfl _ _ _ _ _ _ _ rfl ?_
  refine hs 3 _ rfl _ _ _ _ _ _ _ rfl ?_
  refine zw_U (hs 4 _ rfl) (by omega) (hg) ht ⟨_, rfl⟩ fun hz245 wz246 => ?_
  have wz246 : hd_w G h hz245 q (t, [.int (Int32.ofInt b)]) := wz246
  exact hs 5 _ rfl _ _ _ _ (Nat.zero_le _) (Nat.zero_le _) (hP _ wz246)
set_option maxHeartbeats 4000000 in
theorem zi_int_M {l : Launch} {G : am_G} {X : ck_XT} (g : gM l G X) {q t : Nat} {b : Int} {h : List am_C} (hg : am_g G h q = some (t, [.int (Int32.ofInt b)])) (ht : t % 100 = 2) {mc ms : Nat} {Post : am_O → List am_C → Prop} (hP : Post (.inl (some (.int (Int32.ofInt b)))) h) :
    am_M l G yJ6_intValue_8abf5 (.code yJ6_intValue_8abf5 prog_28_method_27_code 1 (some .int)) 1 20 mc ms [.ref q] h Post := by
  refine gh_yJ6_intValue_8abf5_X g (Nat.le_of_ble_eq_true rfl) fun S SX hs hr hw hx => ?_
  have rv : ∀ x : Int32, ck_fv 0 (.int x) := fun x => ⟨_, rfl⟩
  refine hs 0 _ rfl _ _ _ _ _ _ _ rfl ?_
  refine hs 1 _ rfl _ _ _ _ _ _ _ _ _ (hg) ht rfl ?_
  exact hs 2 _ rfl _ _ _ _ _ (rv _) (Nat.zero_le _) (Nat.zero_le _) hP
set_option maxHeartbeats 4000000 in
theorem zi_val_M {l : Launch} {G : am_G} {X : ck_XT} (g : gM l G X) {b : Int} {h : List am_C} (hb1 : -128 ≤ b) (hb2 : b ≤ 2147483647) {mc ms : Nat} {Post : am_O → List am_C → Prop} (hmc : 1 ≤ mc) (hms : 1 ≤ ms)
    (hP : ∀ (h' : List am_C) (v t : Nat), zg G h h' → am_g G h' v = some (t, [.int (Int32.ofInt b)]) → t % 100 = 2 → Post (.inl (some (.ref v))) h') :
    am_M l G yJ6_valueOf_2dffe (.code yJ6_valueOf_2dffe prog_28_method_22_code 1 (some (.object "java/lang/Integer"))) 3 61 mc ms [.int (Int32.ofInt b)] h Post := by
  refine gh_yJ6_valueOf_2dffe_X g (Nat.le_of_ble_eq_true rfl) fun S SX hs hr hw hx => ?_
  have rv : ∀ x : Int32, ck_fv 0 (.int x) := fun x => ⟨_, rfl⟩
  by_cases hx_ : b ≤ 127
  · obtain ⟨-, -, vs_, hG_, hc_⟩ := id g
    have hG_ : am_g G h 1 = some (43058, vs_) := hG_
    obtain ⟨c_, c1_, c2_, c3_⟩ := hc_ (b + 128).toNat (by omega)
    have hcx_ : am_g G h c_ = some (41002, [.int (Int32.ofInt b)]) := by
      unfold am_g
      rw [if_pos c2_, c3_, show (((b + 128).toNat : Nat) : Int) - 128 = b by omega]
    refine hs 0 _ rfl _ _ _ _ _ _ _ rfl ?_
    refine hs 1 _ rfl _ _ _ _ _ _ _ rfl ?_
    refine hs 2 _ rfl _ _ _ _ _ _ _ (fun zq => absurd (hd_c2z (c := 2) (by omega) (by omega) (by omega) (by omega) zq) (by omega : ¬ ((b - (-128 : Int)) < 0))) (fun _ => ?_)
    refine hs 3 _ rfl _ _ _ _ _ _ _ rfl ?_
    refine hs 4 _ rfl _ _ _ _ _ _ _ rfl ?_
    refine hs 5 _ rfl _ _ _ _ _ _ _ (fun zq => absurd (hd_c2z (c := 4) (by omega) (by omega) (by omega) (by omega) zq) (by omega : ¬ (0 < (b - (127 : Int))))) (fun _ => ?_)
    refine hs 6 _ rfl _ _ _ _ _ _ _ rfl ?_
    refine hs 7 _ rfl _ _ _ _ _ _ _ rfl ?_
    refine hs 8 _ rfl _ _ _ _ _ _ _ rfl ?_
    refine hs 9 _ rfl _ _ _ _ _ _ _ hd_add ?_
    refine zw_Ar (hs 10 _ rfl) (hG_) (by first | rfl | (rw [(rfl : 43058 % 100 = 58)]; rfl)) (j := (b + 128).toNat) (by omega) (by omega) c1_ ?_
    exact hs 11 _ rfl _ _ _ _ _ (Or.inl ⟨_, rfl⟩) (by omega) (by omega) (hP _ _ 41002 zg.rf hcx_ rfl)
  · 
    refine hs 0 _ rfl _ _ _ _ _ _ _ rfl ?_
    refine hs 1 _ rfl _ _ _ _ _ _ _ rfl ?_
    refine hs 2 _ rfl _ _ _ _ _ _ _ (fun zq => absurd (hd_c2z (c := 2) (by omega) (by omega) (by omega) (by omega) zq) (by omega : ¬ ((b - (-128 : Int)) < 0))) (fun _ => ?_)
    refine hs 3 _ rfl _ _ _ _ _ _ _ rfl ?_
    refine hs 4 _ rfl _ _ _ _ _ _ _ rfl ?_
    refine hs 5 _ rfl _ _ _ _ _ _ _ (fun _ => ?_) (fun zq => absurd (hd_c2t (c := 4) (by omega) (by omega) (by omega) (by omega) (by omega : 0 < (b - (127 : Int)))) zq)
    refine zw_W (G := G) (hs 12 _ rfl) (t := 2) (vs := [.int 0]) (m := 1) rfl rfl rfl (by omega) (by omega) fun hz247 az248 ez249 lz250 gz251 cz252 => ?_
    refine hs 13 _ rfl _ _ _ _ _ _ _ rfl ?_
    refine hs 14 _ rfl _ _ _ _ _ _ _ rfl ?_
    refine zw_cn (hs 15 _ rfl) (a := [.ref az248, .int (Int32.ofInt b)]) (st := [.ref az248]) rfl rfl (Nat.le_of_ble_eq_true rfl) ⟨_, _, _, rfl, (cz252), rfl⟩ (by omega) (by omega) (⟨zi_init_M g (cz252) rfl (by omega) fun hy_ wy_ => ?_, fun _ _ h9 => h9⟩)
    show S 31 [some (.int (Int32.ofInt b))] [.ref az248] _ _ _
    exact hs 16 _ rfl _ _ _ _ _ (Or.inl ⟨_, rfl⟩) (by omega) (by omega) (hP _ _ 2 (gz251.w wy_ (by omega)) wy_.at rfl)
