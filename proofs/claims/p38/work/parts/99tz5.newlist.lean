/-! A NEW LIST -/
set_option maxHeartbeats 4000000 in
theorem zl_init0_M {l : Launch} {G : am_G} {X : ck_XT} (g : gM l G X) {q t : Nat} {x0 x1 x2 : Value} {h : List am_C} (hg : am_g G h q = some (t, [x0, x1, x2])) (ht : t % 100 = 6) (hq : 1000 ≤ q) {mc ms : Nat} {Post : am_O → List am_C → Prop} (hP : Post (.inl none) h) :
    am_M l G yJxa1e45_init_da8c8 (.code yJxa1e45_init_da8c8 prog_44_method_1_code 1 none) 1 20 mc ms [.ref q] h Post := by
  refine gh_yJxa1e45_init_da8c8_X g (Nat.le_of_ble_eq_true rfl) fun S SX hs hr hw hx => ?_
  have rv : ∀ x : Int32, ck_fv 0 (.int x) := fun x => ⟨_, rfl⟩
  refine hs 0 _ rfl _ _ _ _ _ _ _ rfl ?_
  refine hs 1 _ rfl _ _ _ _ _ _ rfl (Nat.le_of_ble_eq_true rfl) ?_
  exact hs 2 _ rfl _ _ _ _ (Nat.zero_le _) (Nat.zero_le _) hP
set_option maxHeartbeats 4000000 in
theorem zl_init1_M {l : Launch} {G : am_G} {X : ck_XT} (g : gM l G X) {q t : Nat} {x0 x1 x2 : Value} {h : List am_C} (hg : am_g G h q = some (t, [x0, x1, x2])) (ht : t % 100 = 6) (hq : 1000 ≤ q) {mc ms : Nat} {Post : am_O → List am_C → Prop} (hP : ∀ h', hd_w G h h' q (t, [.int (Int32.ofInt 0), x1, x2]) → Post (.inl none) h') :
    am_M l G yJxc12de_init_da8c8 (.code yJxc12de_init_da8c8 prog_45_method_1_code 1 none) 2 40 mc ms [.ref q] h Post := by
  refine gh_yJxc12de_init_da8c8_X g (Nat.le_of_ble_eq_true rfl) fun S SX hs hr hw hx => ?_
  have rv : ∀ x : Int32, ck_fv 0 (.int x) := fun x => ⟨_, rfl⟩
  refine hs 0 _ rfl _ _ _ _ _ _ _ rfl ?_
  refine zw_cn (hs 1 _ rfl) (a := [.ref q]) (st := []) rfl rfl (Nat.le_of_ble_eq_true rfl) ⟨_, _, _, rfl, (hg), ht⟩ (Nat.zero_le _) (Nat.zero_le _) (⟨zl_init0_M g hg ht hq ?_, fun _ _ h9 => h9⟩)
  show S 4 [some (.ref q)] [] _ _ _
  refine hs 2 _ rfl _ _ _ _ _ _ _ rfl ?_
  refine hs 3 _ rfl _ _ _ _ _ _ _ rfl ?_
  refine zw_U (hs 4 _ rfl) (by omega) (hg) ht ⟨_, rfl⟩ fun hz203 wz204 => ?_
  have wz204 : hd_w G h hz203 q (t, [.int (Int32.ofInt (0 : Int)), x1, x2]) := wz204
  exact hs 5 _ rfl _ _ _ _ (Nat.zero_le _) (Nat.zero_le _) (hP _ wz204)
set_option maxHeartbeats 4000000 in
theorem zl_init_M {l : Launch} {G : am_G} {X : ck_XT} (g : gM l G X) {q t : Nat} {x0 x1 x2 : Value} {h : List am_C} (hg : am_g G h q = some (t, [x0, x1, x2])) (ht : t % 100 = 6) (hq : 1000 ≤ q) {mc ms : Nat} {Post : am_O → List am_C → Prop} (hP : ∀ h', hd_w G h h' q (t, [.int (Int32.ofInt 0), .ref 4, x2]) → Post (.inl none) h') :
    am_M l G yJx4a65c_init_da8c8 (.code yJx4a65c_init_da8c8 prog_46_method_2_code 1 none) 3 60 mc ms [.ref q] h Post := by
  refine gh_yJx4a65c_init_da8c8_X g (Nat.le_of_ble_eq_true rfl) fun S SX hs hr hw hx => ?_
  have rv : ∀ x : Int32, ck_fv 0 (.int x) := fun x => ⟨_, rfl⟩
  refine hs 0 _ rfl _ _ _ _ _ _ _ rfl ?_
  refine zw_cn (hs 1 _ rfl) (a := [.ref q]) (st := []) rfl rfl (Nat.le_of_ble_eq_true rfl) ⟨_, _, _, rfl, (hg), ht⟩ (Nat.zero_le _) (Nat.zero_le _) (⟨zl_init1_M g hg ht hq fun h1_ w1_ => ?_, fun _ _ h9 => h9⟩)
  show S 4 [some (.ref q)] [] _ _ _
  refine hs 2 _ rfl _ _ _ _ _ _ _ rfl ?_
  refine hs 3 _ rfl _ _ _ _ _ _ _ rfl ?_
  refine zw_U (hs 4 _ rfl) (by omega) (w1_.at) ht (Or.inl ⟨_, rfl⟩) fun hz205 wz206 => ?_
  have wz206 : hd_w G h1_ hz205 q (t, [.int (Int32.ofInt (0 : Int)), .ref 4, x2]) := wz206
  exact hs 5 _ rfl _ _ _ _ (Nat.zero_le _) (Nat.zero_le _) (hP _ (hd_w.tr w1_ wz206))
