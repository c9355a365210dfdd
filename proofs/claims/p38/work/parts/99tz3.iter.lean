/-! LISTS, EXACTLY: iterators -/
set_option maxHeartbeats 4000000 in
theorem zl_itr_M {l : Launch} {G : am_G} {X : ck_XT} (g : gM l G X) {q p N : Nat} {mo : Int} {vs : List Nat} {h : List am_C} (hl : zl_L G h q p N mo vs) {e te : Nat} (hie : am_g G h e = some (te, [.int 0, .int 0, .int 0, .null])) (hte : te % 100 = 5) (he : 1000 ≤ e) (hq : q ≠ e) (hp : p ≠ e) {mc ms : Nat} {Post : am_O → List am_C → Prop}
    (hP : ∀ h', hd_w G h h' e (te, [.int (Int32.ofInt 0), .int (Int32.ofInt (-1)), .int (Int32.ofInt mo), .ref q]) → Post (.inl none) h') :
    am_M l G yJx35411_init_45d68 (.code yJx35411_init_45d68 prog_47_method_1_code 2 none) 1 20 mc ms [.ref e, .ref q] h Post := by
  refine gh_yJx35411_init_45d68_X g (Nat.le_of_ble_eq_true rfl) fun S SX hs hr hw hx => ?_
  have rv : ∀ x : Int32, ck_fv 0 (.int x) := fun x => ⟨_, rfl⟩
  obtain ⟨t_, tr_, ws_, a1_, a2_, a3_, a4_, a5_, a6_, a7_, a8_⟩ := hl
  have al_ : ck_al 53 58 (tr_ % 100) = true := by rw [a4_]; rfl
  refine hs 0 _ rfl _ _ _ _ _ _ _ rfl ?_
  refine hs 1 _ rfl _ _ _ _ _ _ _ rfl ?_
  refine zw_U (hs 2 _ rfl) (by omega) (hie) hte (Or.inl ⟨_, rfl⟩) fun hz191 wz192 => ?_
  have wz192 : hd_w G h hz191 e (te, [.int 0, .int 0, .int 0, .ref q]) := wz192
  refine hs 3 _ rfl _ _ _ _ _ _ _ rfl ?_
  refine hs 4 _ rfl _ _ _ _ _ _ rfl (Nat.le_of_ble_eq_true rfl) ?_
  refine hs 5 _ rfl _ _ _ _ _ _ _ rfl ?_
  refine hs 6 _ rfl _ _ _ _ _ _ _ rfl ?_
  refine zw_U (hs 7 _ rfl) (by omega) (wz192.at) hte ⟨_, rfl⟩ fun hz193 wz194 => ?_
  have wz194 : hd_w G hz191 hz193 e (te, [.int 0, .int (Int32.ofInt (-1 : Int)), .int 0, .ref q]) := wz194
  refine hs 8 _ rfl _ _ _ _ _ _ _ rfl ?_
  refine hs 9 _ rfl _ _ _ _ _ _ _ rfl ?_
  refine hs 10 _ rfl _ _ _ _ _ _ _ _ _ (wz194.at) hte rfl ?_
  refine hs 11 _ rfl _ _ _ _ _ _ _ _ _ ((wz194.ne (by omega)).trans ((wz192.ne (by omega)).trans a1_)) a2_ rfl ?_
  refine zw_U (hs 12 _ rfl) (by omega) (wz194.at) hte ⟨_, rfl⟩ fun hz195 wz196 => ?_
  have wz196 : hd_w G hz193 hz195 e (te, [.int 0, .int (Int32.ofInt (-1 : Int)), .int (Int32.ofInt mo), .ref q]) := wz196
  exact hs 13 _ rfl _ _ _ _ (Nat.zero_le _) (Nat.zero_le _) (hP _ (hd_w.tr (hd_w.tr wz192 wz194) wz196))
set_option maxHeartbeats 4000000 in
theorem zl_iter_M {l : Launch} {G : am_G} {X : ck_XT} (g : gM l G X) {q p N : Nat} {mo : Int} {vs : List Nat} {h : List am_C} (hl : zl_L G h q p N mo vs) {mc ms : Nat} {Post : am_O → List am_C → Prop}
    (hmc : 1 ≤ mc) (hms : 4 ≤ ms)
    (hP : ∀ (h' : List am_C) (e : Nat), zg G h h' → 1000 + h.length ≤ e → am_g G h' e = some (5, [.int (Int32.ofInt 0), .int (Int32.ofInt (-1)), .int (Int32.ofInt mo), .ref q]) → Post (.inl (some (.ref e))) h') :
    am_M l G yJx4a65c_iterator_32c93 (.code yJx4a65c_iterator_32c93 prog_46_method_55_code 1 (some (.object "java/util/Iterator"))) 2 41 mc ms [.ref q] h Post := by
  refine gh_yJx4a65c_iterator_32c93_X g (Nat.le_of_ble_eq_true rfl) fun S SX hs hr hw hx => ?_
  have rv : ∀ x : Int32, ck_fv 0 (.int x) := fun x => ⟨_, rfl⟩
  have hl0_ := hl
  obtain ⟨t_, tr_, ws_, a1_, a2_, a3_, a4_, a5_, a6_, a7_, a8_⟩ := hl0_
  have lq_ := zg_lt a1_
  have lp_ := zg_lt a3_
  refine zw_W (G := G) (hs 0 _ rfl) (t := 5) (vs := [.int 0, .int 0, .int 0, .null]) (m := 4) rfl rfl rfl (by omega) (by omega) fun hz197 az198 ez199 lz200 gz201 cz202 => ?_
  refine hs 1 _ rfl _ _ _ _ _ _ _ rfl ?_
  refine hs 2 _ rfl _ _ _ _ _ _ _ rfl ?_
  refine zw_cn (hs 3 _ rfl) (a := [.ref az198, .ref q]) (st := [.ref az198]) rfl rfl (Nat.le_of_ble_eq_true rfl) ⟨_, _, _, rfl, (cz202), rfl⟩ (by omega) (by omega) (⟨zl_itr_M g (zl_L.keep hl fun x c _ hg => gz201.2 _ _ hg) (cz202) rfl (by omega) (by omega) (by omega) fun hi_ wi_ => ?_, fun _ _ h9 => h9⟩)
  show S 8 [some (.ref q)] [.ref az198] _ _ _
  exact hs 4 _ rfl _ _ _ _ _ (Or.inl ⟨_, rfl⟩) (by omega) (by omega) (hP _ _ (gz201.w wi_ (by omega)) (by omega) wi_.at)
