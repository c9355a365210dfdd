/-! THE CALLS OF THE CLASS -/
theorem zc_s.dial {G : am_G} {h h' : List am_C} {s : Nat} {c : sp_S} {e : Int} (a : zc_s G h s c) (w : hd_w G h h' s (zc_sc s e (c.2.2.1.length : Int) (c.2.2.2.length : Int))) : zc_s G h' s (e, c.2) := by
  obtain ⟨rs_, zs_, bs_, a1_, a2_, a3_, a4_, a5_, a6_, a7_⟩ := a
  exact ⟨rs_, zs_, bs_, w.at, (w.ne (by omega)).trans a2_, (w.ne (by omega)).trans a3_, (w.ne (by omega)).trans a4_, (w.ne (by omega)).trans a5_, a6_, fun i hi => (a7_ i hi).keep (w.ne (by omega)) (w.ne (by omega))⟩
set_option maxHeartbeats 4000000 in
theorem zc_dial_M {l : Launch} {G : am_G} {X : ck_XT} (g : gM l G X) {x : Nat} {r : Nat → Nat} {jj mm kk : Int} {c : sp_S} {R : Nat → sp_S} {old cnt : Nat} {h : List am_C} (hX : zc_x G h x r jj mm kk c R old cnt) {e : Int} (he1 : -2147483648 ≤ e) (he2 : e ≤ 2147483647) {mc ms : Nat} {Post : am_O → List am_C → Prop} (hmc : 1 ≤ mc) (hms : 6 ≤ ms)
    (hP : (-9 ≤ e ∧ e ≤ 400) → ∀ h', zc_fr G h h' x r → zc_X G h' x r jj mm kk (e, c.2) (sp_keep (zc_l R old cnt) c) → Post (.inl (some (.int (Int32.ofInt c.1)))) h')
    (hX2 : ¬ (-9 ≤ e ∧ e ≤ 400) → Post (.inr "java/lang/IllegalArgumentException") (h ++ [(99, [])])) :
    am_M l G yX10_dial (.code yX10_dial prog_1_method_2_code 3 (some .int)) 6 123 mc ms [.ref x, .int (Int32.ofInt e)] h Post := by
  refine gh_yX10_dial_X g (Nat.le_of_ble_eq_true rfl) fun S SX hs hr hw hx => ?_
  have rv : ∀ x : Int32, ck_fv 0 (.int x) := fun x => ⟨_, rfl⟩
  have hx9_ := hX.2.2.2.2.2.2.2
  by_cases c1_ : e < -9
  · 
    refine hs 0 _ rfl _ _ _ _ _ _ _ rfl ?_
    refine hs 1 _ rfl _ _ _ _ _ _ _ rfl ?_
    refine hs 2 _ rfl _ _ _ _ _ _ _ (fun _ => ?_) (fun zq => absurd (hd_c2t (c := 2) (by omega) (by omega) (by omega) (by omega) (by omega : (e - (-9 : Int)) < 0)) zq)
    exact hs 6 _ rfl _ _ _ _ _ rfl (Nat.le_of_ble_eq_true rfl) (by omega) (by omega) (hX2 (by omega))
  · by_cases c2_ : 400 < e
    · 
      refine hs 0 _ rfl _ _ _ _ _ _ _ rfl ?_
      refine hs 1 _ rfl _ _ _ _ _ _ _ rfl ?_
      refine hs 2 _ rfl _ _ _ _ _ _ _ (fun zq => absurd (hd_c2z (c := 2) (by omega) (by omega) (by omega) (by omega) zq) (by omega : ¬ ((e - (-9 : Int)) < 0))) (fun _ => ?_)
      refine hs 3 _ rfl _ _ _ _ _ _ _ rfl ?_
      refine hs 4 _ rfl _ _ _ _ _ _ _ rfl ?_
      refine hs 5 _ rfl _ _ _ _ _ _ _ (fun zq => absurd (hd_c2z (c := 5) (by omega) (by omega) (by omega) (by omega) zq) (by omega : ¬ ((e - (400 : Int)) ≤ 0))) (fun _ => ?_)
      exact hs 6 _ rfl _ _ _ _ _ rfl (Nat.le_of_ble_eq_true rfl) (by omega) (by omega) (hX2 (by omega))
    · 
      refine hs 0 _ rfl _ _ _ _ _ _ _ rfl ?_
      refine hs 1 _ rfl _ _ _ _ _ _ _ rfl ?_
      refine hs 2 _ rfl _ _ _ _ _ _ _ (fun zq => absurd (hd_c2z (c := 2) (by omega) (by omega) (by omega) (by omega) zq) (by omega : ¬ ((e - (-9 : Int)) < 0))) (fun _ => ?_)
      refine hs 3 _ rfl _ _ _ _ _ _ _ rfl ?_
      refine hs 4 _ rfl _ _ _ _ _ _ _ rfl ?_
      refine hs 5 _ rfl _ _ _ _ _ _ _ (fun _ => ?_) (fun zq => absurd (hd_c2t (c := 5) (by omega) (by omega) (by omega) (by omega) (by omega : (e - (400 : Int)) ≤ 0)) zq)
      refine hs 7 _ rfl _ _ _ _ _ _ _ rfl ?_
      refine hs 8 _ rfl _ _ _ _ _ _ _ _ _ (hX.1) rfl rfl ?_
      refine hs 9 _ rfl _ _ _ _ _ _ _ rfl ?_
      refine hs 10 _ rfl _ _ _ _ _ _ _ _ _ (hX.1) rfl rfl ?_
      refine zw_c (hs 11 _ rfl) (a := [.ref (x + 18), .ref (x + 1)]) (st := []) rfl rfl (Nat.le_of_ble_eq_true rfl) ⟨_, _, _, rfl, hX.2.2.2.1.1, rfl⟩ (Nat.zero_le _) (Nat.zero_le _) (zc_keep_M g (p := x + 18) (s := x + 1) (by omega) (by omega) hX.2.2.2.1 hX.2.1 hX.2.2.1 fun hk4_ ok4_ ck4_ fk4_ pk4_ e14_ e24_ => ?_)
      have xk4_ := hX.past fk4_ pk4_
      have lk4_ := zc_l_keep (R := R) (c := c) hX.2.2.2.1.2.2.2.1 hX.2.2.2.1.2.2.2.2 e14_ e24_
      show S 34 [some (.ref x), some (.int (Int32.ofInt e)), none] [] _ _ _
      refine hs 12 _ rfl _ _ _ _ _ _ _ rfl ?_
      refine hs 13 _ rfl _ _ _ _ _ _ _ _ _ (xk4_.1) rfl rfl ?_
      refine hs 14 _ rfl _ _ _ _ _ _ _ _ _ (xk4_.2.1.d) rfl rfl ?_
      refine hs 15 _ rfl _ _ _ _ _ _ _ rfl ?_
      refine hs 16 _ rfl _ _ _ _ _ _ _ rfl ?_
      refine hs 17 _ rfl _ _ _ _ _ _ _ _ _ (xk4_.1) rfl rfl ?_
      refine hs 18 _ rfl _ _ _ _ _ _ _ rfl ?_
      refine zw_U (hs 19 _ rfl) (by omega) (xk4_.2.1.d) rfl ⟨_, rfl⟩ fun hz75 wz76 => ?_
      have wz76 : hd_w G hk4_ hz75 (x + 1) (1014, [.int (Int32.ofInt e), .ref (x + 1 + 1), .int (Int32.ofInt (c.2.2.1.length : Int)), .ref (x + 1 + 2), .ref (x + 1 + 3), .int (Int32.ofInt (c.2.2.2.length : Int)), .ref (x + 1 + 4)]) := wz76
      refine hs 20 _ rfl _ _ _ _ _ _ _ rfl ?_
      have xd_ := xk4_.st (zw_f.w (lo := x + 1) (n := 17) wz76 (by omega) (by omega)) (xk4_.2.1.dial wz76) (c2 := (e, c.2)) ⟨⟨by show -9 ≤ e; omega, by show e ≤ 400; omega⟩, xk4_.2.2.1.2⟩
      exact hs 21 _ rfl _ _ _ _ _ (rv _) (Nat.zero_le _) (Nat.zero_le _) (hP (by omega) _ ((zc_fr.of fk4_ (by omega) (by omega)).tr (zc_fr.of (zw_f.w (lo := x + 1) (n := 17) wz76 (by omega) (by omega)) (by omega) (by omega))) (zc_X.mk xd_ lk4_))
set_option maxHeartbeats 4000000 in
theorem zc_set_M {l : Launch} {G : am_G} {X : ck_XT} (g : gM l G X) {x : Nat} {r : Nat → Nat} {jj mm kk : Int} {c : sp_S} {R : Nat → sp_S} {old cnt : Nat} {h : List am_C} (hX : zc_x G h x r jj mm kk c R old cnt) {e : Int} (he1 : -2147483648 ≤ e) (he2 : e ≤ 2147483647) {e2 : Int} (hf1 : -2147483648 ≤ e2) (hf2 : e2 ≤ 2147483647) {mc ms : Nat} {Post : am_O → List am_C → Prop} (hmc : 1 ≤ mc) (hms : 6 ≤ ms)
    (hP : (0 ≤ e ∧ e < 6) → ∀ (h' : List am_C) (d : Nat), zc_fr G h h' x r → zc_X G h' x r jj mm kk (c.1, c.2.1.set e.toNat e2, c.2.2) (sp_keep (zc_l R old cnt) c) → zc_dg (e2.natAbs : Int) d → Post (.inl (some (.int (Int32.ofInt (d : Int))))) h')
    (hX2 : ¬ (0 ≤ e ∧ e < 6) → Post (.inr "java/lang/IndexOutOfBoundsException") (h ++ [(99, [])])) :
    am_M l G yX10_set (.code yX10_set prog_1_method_3_code 4 (some .int)) 7 123 mc ms [.ref x, .int (Int32.ofInt e), .int (Int32.ofInt e2)] h Post := by
  refine gh_yX10_set_X g (Nat.le_of_ble_eq_true rfl) fun S SX hs hr hw hx => ?_
  have rv : ∀ x : Int32, ck_fv 0 (.int x) := fun x => ⟨_, rfl⟩
  have hx9_ := hX.2.2.2.2.2.2.2
  by_cases c1_ : 0 ≤ e ∧ e < 6
  rotate_left
  · 
    refine hs 0 _ rfl _ _ _ _ _ _ _ rfl ?_
    refine hs 1 _ rfl _ _ _ _ _ _ _ rfl ?_
    exact zw_cm (hs 2 _ rfl) (a := [.ref x, .int (Int32.ofInt e)]) (st := []) 1 6 rfl rfl (Nat.le_of_ble_eq_true rfl) ⟨_, _, _, rfl, (hX.1), rfl⟩ (by omega) (by omega) (zc_numAtX_M g hX he1 he2 (by omega) (by decide) (by decide) (hx _ _ _ _ _ _ (by omega) (by omega) (hX2 c1_)))
  · have hP := hP c1_
    obtain ⟨i, rfl⟩ : ∃ i : Nat, e = (i : Int) := ⟨e.toNat, by omega⟩
    have hi : i < 6 := by omega
    refine hs 0 _ rfl _ _ _ _ _ _ _ rfl ?_
    refine hs 1 _ rfl _ _ _ _ _ _ _ rfl ?_
    refine zw_c (hs 2 _ rfl) (a := [.ref x, .int (Int32.ofInt (i : Int))]) (st := []) rfl rfl (Nat.le_of_ble_eq_true rfl) ⟨_, _, _, rfl, hX.1, rfl⟩ (Nat.zero_le _) (Nat.zero_le _) (zc_numAt_M g hX (i := i) rfl hi ?_)
    show S 5 [some (.ref x), some (.int (Int32.ofInt (i : Int))), some (.int (Int32.ofInt e2)), none] [.ref (x + 1 + 5 + 2 * i)] _ _ _
    refine hs 3 _ rfl _ _ _ _ _ _ _ rfl ?_
    refine hs 4 _ rfl _ _ _ _ _ _ _ rfl ?_
    refine hs 5 _ rfl _ _ _ _ _ _ _ _ _ (hX.1) rfl rfl ?_
    refine hs 6 _ rfl _ _ _ _ _ _ _ rfl ?_
    refine hs 7 _ rfl _ _ _ _ _ _ _ _ _ (hX.1) rfl rfl ?_
    refine zw_c (hs 8 _ rfl) (a := [.ref (x + 18), .ref (x + 1)]) (st := []) rfl rfl (Nat.le_of_ble_eq_true rfl) ⟨_, _, _, rfl, hX.2.2.2.1.1, rfl⟩ (Nat.zero_le _) (Nat.zero_le _) (zc_keep_M g (p := x + 18) (s := x + 1) (by omega) (by omega) hX.2.2.2.1 hX.2.1 hX.2.2.1 fun hk5_ ok5_ ck5_ fk5_ pk5_ e15_ e25_ => ?_)
    have xk5_ := hX.past fk5_ pk5_
    have lk5_ := zc_l_keep (R := R) (c := c) hX.2.2.2.1.2.2.2.1 hX.2.2.2.1.2.2.2.2 e15_ e25_
    show S 17 [some (.ref x), some (.int (Int32.ofInt (i : Int))), some (.int (Int32.ofInt e2)), some (.ref (x + 1 + 5 + 2 * i))] [] _ _ _
    obtain ⟨ny_, sy_, ly_, y1_, y2_, y3_⟩ := xk5_.2.1.n hi
    refine hs 9 _ rfl _ _ _ _ _ _ _ rfl ?_
    refine hs 10 _ rfl _ _ _ _ _ _ _ rfl ?_
    refine hs 11 _ rfl _ _ _ _ _ _ _ (hd_i2l (by omega) (by omega)) ?_
    refine zw_c (hs 12 _ rfl) (a := [.ref (x + 1 + 5 + 2 * i), .long (Int64.ofInt e2)]) (st := []) rfl rfl (Nat.le_of_ble_eq_true rfl) ⟨_, _, _, rfl, y1_, rfl⟩ (Nat.zero_le _) (Nat.zero_le _) (sb_blong_M g (by omega) (by omega) (by omega) y1_ rfl y2_ rfl y3_.1.1 (by omega) (by omega) fun hb_ nb_ sb1_ lb_ wb_ ib_ => ?_)
    show S 23 [some (.ref x), some (.int (Int32.ofInt (i : Int))), some (.int (Int32.ofInt e2)), some (.ref (x + 1 + 5 + 2 * i))] [] _ _ _
    refine hs 13 _ rfl _ _ _ _ _ _ _ rfl ?_
    refine zw_c (hs 14 _ rfl) (a := [.ref (x + 1 + 5 + 2 * i)]) (st := []) rfl rfl (Nat.le_of_ble_eq_true rfl) ⟨_, _, _, rfl, wb_.q, rfl⟩ (Nat.zero_le _) (Nat.zero_le _) (sb_dig_M g (by omega) (by omega) (by omega) wb_.q rfl (wb_.p (by omega)) rfl ib_.1 ib_.2.1 fun d_ hd_ => ?_)
    show S 27 [some (.ref x), some (.int (Int32.ofInt (i : Int))), some (.int (Int32.ofInt e2)), some (.ref (x + 1 + 5 + 2 * i))] [.int (Int32.ofInt (d_ : Int))] _ _ _
    obtain ⟨xb_, fb_⟩ := xk5_.num hi wb_ ib_ (by omega) (by omega)
    rw [← ib_.abs] at hd_
    exact hs 15 _ rfl _ _ _ _ _ (rv _) (Nat.zero_le _) (Nat.zero_le _) (hP _ d_ ((zc_fr.of fk5_ (by omega) (by omega)).tr (zc_fr.of fb_ (by omega) (by omega))) (zc_X.mk xb_ lk5_) hd_)
set_option maxHeartbeats 4000000 in
theorem zc_plus_M {l : Launch} {G : am_G} {X : ck_XT} (g : gM l G X) {x : Nat} {r : Nat → Nat} {jj mm kk : Int} {c : sp_S} {R : Nat → sp_S} {old cnt : Nat} {h : List am_C} (hX : zc_x G h x r jj mm kk c R old cnt) {e : Int} (he1 : -2147483648 ≤ e) (he2 : e ≤ 2147483647) {e2 : Int} (hf1 : -2147483648 ≤ e2) (hf2 : e2 ≤ 2147483647) {mc ms : Nat} {Post : am_O → List am_C → Prop} (hmc : 1 ≤ mc) (hms : 6 ≤ ms)
    (hP : (0 ≤ e ∧ e < 6 ∧ 0 ≤ e2 ∧ e2 < 6) → (-1000000000000000000000000000000000000 < c.2.1.getD e.toNat 0 + c.2.1.getD e2.toNat 0 ∧ c.2.1.getD e.toNat 0 + c.2.1.getD e2.toNat 0 < 1000000000000000000000000000000000000) → ∀ (h' : List am_C) (d : Nat), zc_fr G h h' x r → zc_X G h' x r jj mm kk (c.1, c.2.1.set e.toNat (c.2.1.getD e.toNat 0 + c.2.1.getD e2.toNat 0), c.2.2) (sp_keep (zc_l R old cnt) c) → zc_dg ((c.2.1.getD e.toNat 0 + c.2.1.getD e2.toNat 0).natAbs : Int) d → Post (.inl (some (.int (Int32.ofInt (d : Int))))) h')
    (hX3 : (0 ≤ e ∧ e < 6 ∧ 0 ≤ e2 ∧ e2 < 6) → ¬ (-1000000000000000000000000000000000000 < c.2.1.getD e.toNat 0 + c.2.1.getD e2.toNat 0 ∧ c.2.1.getD e.toNat 0 + c.2.1.getD e2.toNat 0 < 1000000000000000000000000000000000000) → ∀ h', zc_fr G h h' x r → zc_x G h' x r jj mm kk c R old cnt → Post (.inr "java/lang/IllegalStateException") (h' ++ [(99, [])]))
    (hX2 : ¬ (0 ≤ e ∧ e < 6 ∧ 0 ≤ e2 ∧ e2 < 6) → Post (.inr "java/lang/IndexOutOfBoundsException") (h ++ [(99, [])])) :
    am_M l G yX10_plus (.code yX10_plus prog_1_method_5_code 5 (some .int)) 7 145 mc ms [.ref x, .int (Int32.ofInt e), .int (Int32.ofInt e2)] h Post := by
  refine gh_yX10_plus_X g (Nat.le_of_ble_eq_true rfl) fun S SX hs hr hw hx => ?_
  have rv : ∀ x : Int32, ck_fv 0 (.int x) := fun x => ⟨_, rfl⟩
  have hx9_ := hX.2.2.2.2.2.2.2
  by_cases c1_ : 0 ≤ e ∧ e < 6
  rotate_left
  · 
    refine hs 0 _ rfl _ _ _ _ _ _ _ rfl ?_
    refine hs 1 _ rfl _ _ _ _ _ _ _ rfl ?_
    exact zw_cm (hs 2 _ rfl) (a := [.ref x, .int (Int32.ofInt e)]) (st := []) 1 6 rfl rfl (Nat.le_of_ble_eq_true rfl) ⟨_, _, _, rfl, (hX.1), rfl⟩ (by omega) (by omega) (zc_numAtX_M g hX he1 he2 (by omega) (by decide) (by decide) (hx _ _ _ _ _ _ (by omega) (by omega) (hX2 (fun y_ => c1_ ⟨y_.1, y_.2.1⟩))))
  · by_cases c2_ : 0 ≤ e2 ∧ e2 < 6
    rotate_left
    · obtain ⟨i, rfl⟩ : ∃ i : Nat, e = (i : Int) := ⟨e.toNat, by omega⟩
      have hi : i < 6 := by omega
      refine hs 0 _ rfl _ _ _ _ _ _ _ rfl ?_
      refine hs 1 _ rfl _ _ _ _ _ _ _ rfl ?_
      refine zw_c (hs 2 _ rfl) (a := [.ref x, .int (Int32.ofInt (i : Int))]) (st := []) rfl rfl (Nat.le_of_ble_eq_true rfl) ⟨_, _, _, rfl, hX.1, rfl⟩ (Nat.zero_le _) (Nat.zero_le _) (zc_numAt_M g hX (i := i) rfl hi ?_)
      show S 5 [some (.ref x), some (.int (Int32.ofInt (i : Int))), some (.int (Int32.ofInt e2)), none, none] [.ref (x + 1 + 5 + 2 * i)] _ _ _
      refine hs 3 _ rfl _ _ _ _ _ _ _ rfl ?_
      refine hs 4 _ rfl _ _ _ _ _ _ _ rfl ?_
      refine hs 5 _ rfl _ _ _ _ _ _ _ rfl ?_
      exact zw_cm (hs 6 _ rfl) (a := [.ref x, .int (Int32.ofInt e2)]) (st := []) 1 6 rfl rfl (Nat.le_of_ble_eq_true rfl) ⟨_, _, _, rfl, (hX.1), rfl⟩ (by omega) (by omega) (zc_numAtX_M g hX hf1 hf2 (by omega) (by decide) (by decide) (hx _ _ _ _ _ _ (by omega) (by omega) (hX2 (fun y_ => c2_ y_.2.2))))
    · have hP := hP ⟨c1_.1, c1_.2, c2_⟩
      have hX3 := hX3 ⟨c1_.1, c1_.2, c2_⟩
      obtain ⟨i, rfl⟩ : ∃ i : Nat, e = (i : Int) := ⟨e.toNat, by omega⟩
      have hi : i < 6 := by omega
      obtain ⟨i2, rfl⟩ : ∃ i2 : Nat, e2 = (i2 : Int) := ⟨e2.toNat, by omega⟩
      have hi2 : i2 < 6 := by omega
      obtain ⟨ny_, sy_, ly_, y1_, y2_, y3_⟩ := hX.2.1.n hi
      obtain ⟨nv_, sv_, lv_, v1_, v2_, v3_⟩ := hX.2.1.n hi2
      obtain ⟨nk_, sk_, lk_, k1_, k2_, k3_, k4_⟩ := hX.2.2.2.2.1.1
      have by_ := hX.2.2.1.get hi
      have bv_ := hX.2.2.1.get hi2
      have fy_ := y3_.four by_.1 by_.2
      have fv_ := v3_.four bv_.1 bv_.2
      have hv_ : sb_v ly_ + sb_v lv_ < 1000000000 ^ 10 := by
        rw [← y3_.abs, ← v3_.abs, sb_p10]
        omega
      refine hs 0 _ rfl _ _ _ _ _ _ _ rfl ?_
      refine hs 1 _ rfl _ _ _ _ _ _ _ rfl ?_
      refine zw_c (hs 2 _ rfl) (a := [.ref x, .int (Int32.ofInt (i : Int))]) (st := []) rfl rfl (Nat.le_of_ble_eq_true rfl) ⟨_, _, _, rfl, hX.1, rfl⟩ (Nat.zero_le _) (Nat.zero_le _) (zc_numAt_M g hX (i := i) rfl hi ?_)
      show S 5 [some (.ref x), some (.int (Int32.ofInt (i : Int))), some (.int (Int32.ofInt (i2 : Int))), none, none] [.ref (x + 1 + 5 + 2 * i)] _ _ _
      refine hs 3 _ rfl _ _ _ _ _ _ _ rfl ?_
      refine hs 4 _ rfl _ _ _ _ _ _ _ rfl ?_
      refine hs 5 _ rfl _ _ _ _ _ _ _ rfl ?_
      refine zw_c (hs 6 _ rfl) (a := [.ref x, .int (Int32.ofInt (i2 : Int))]) (st := []) rfl rfl (Nat.le_of_ble_eq_true rfl) ⟨_, _, _, rfl, hX.1, rfl⟩ (Nat.zero_le _) (Nat.zero_le _) (zc_numAt_M g hX (i := i2) rfl hi2 ?_)
      show S 11 [some (.ref x), some (.int (Int32.ofInt (i : Int))), some (.int (Int32.ofInt (i2 : Int))), some (.ref (x + 1 + 5 + 2 * i)), none] [.ref (x + 1 + 5 + 2 * i2)] _ _ _
      refine hs 7 _ rfl _ _ _ _ _ _ _ rfl ?_
      refine hs 8 _ rfl _ _ _ _ _ _ _ rfl ?_
      refine hs 9 _ rfl _ _ _ _ _ _ _ _ _ (hX.1) rfl rfl ?_
      refine hs 10 _ rfl _ _ _ _ _ _ _ rfl ?_
      refine hs 11 _ rfl _ _ _ _ _ _ _ rfl ?_
      refine zw_c (hs 12 _ rfl) (a := [.ref (x + 224), .ref (x + 1 + 5 + 2 * i), .ref (x + 1 + 5 + 2 * i2)]) (st := []) rfl rfl (Nat.le_of_ble_eq_true rfl) ⟨_, _, _, rfl, k1_, rfl⟩ (Nat.zero_le _) (Nat.zero_le _) (sb_sum_M g (q := x + 224) (p := x + 225) (by omega) (by omega) (by omega) k1_ rfl k2_ rfl k3_.1 y1_ rfl y2_ rfl y3_ (fun z_ => absurd z_ (by omega)) (by omega) v1_ rfl v2_ rfl v3_ (fun z_ => absurd z_ (by omega)) (by omega) hv_ fun hb_ nb_ sb1_ lb_ wb_ ib_ => ?_)
      show S 23 [some (.ref x), some (.int (Int32.ofInt (i : Int))), some (.int (Int32.ofInt (i2 : Int))), some (.ref (x + 1 + 5 + 2 * i)), some (.ref (x + 1 + 5 + 2 * i2))] [] _ _ _
      have fw_ : zw_f G h hb_ (x + 224) 4 := zw_f.w2 wb_ (by omega) (by omega) (by omega) (by omega)
      have xw_ := hX.work fw_ ⟨_, _, _, wb_.q, wb_.p (by omega), ib_.1, zc_nb ib_⟩ (hX.2.2.2.2.1.2.fr (zw_f.w2 (lo := x + 224) (n := 2) wb_ (by omega) (by omega) (by omega) (by omega)) (by omega))
      refine hs 13 _ rfl _ _ _ _ _ _ _ rfl ?_
      refine hs 14 _ rfl _ _ _ _ _ _ _ rfl ?_
      refine hs 15 _ rfl _ _ _ _ _ _ _ rfl ?_
      refine hs 16 _ rfl _ _ _ _ _ _ _ _ _ (xw_.1) rfl rfl ?_
      refine zw_cm (hs 17 _ rfl) (a := [.ref x, .ref (x + 1 + 5 + 2 * i), .ref (x + 224)]) (st := []) 1 6 rfl rfl (Nat.le_of_ble_eq_true rfl) ⟨_, _, _, rfl, xw_.1, rfl⟩ (by omega) (by omega) (zc_putNum_M g xw_ wb_.q (wb_.p (by omega)) ib_ hi (by decide) (by decide) (fun y_ h9_ d_ f1_ f2_ f3_ => ?_) (fun y_ => ?_))
      · show S 32 _ [.int (Int32.ofInt (d_ : Int))] _ _ _
        exact hs 18 _ rfl _ _ _ _ _ (rv _) (by omega) (by omega) (hP y_ _ d_ ((zc_fr.of fw_ (by omega) (by omega)).tr f1_) f2_ f3_)
      · exact hx _ _ _ _ _ _ (by omega) (by omega) (hX3 y_ _ (zc_fr.of fw_ (by omega) (by omega)) xw_)
set_option maxHeartbeats 4000000 in
theorem zc_times_M {l : Launch} {G : am_G} {X : ck_XT} (g : gM l G X) {x : Nat} {r : Nat → Nat} {jj mm kk : Int} {c : sp_S} {R : Nat → sp_S} {old cnt : Nat} {h : List am_C} (hX : zc_x G h x r jj mm kk c R old cnt) {e : Int} (he1 : -2147483648 ≤ e) (he2 : e ≤ 2147483647) {e2 : Int} (hf1 : -2147483648 ≤ e2) (hf2 : e2 ≤ 2147483647) {mc ms : Nat} {Post : am_O → List am_C → Prop} (hmc : 1 ≤ mc) (hms : 6 ≤ ms)
    (hP : (0 ≤ e ∧ e < 6 ∧ 0 ≤ e2 ∧ e2 < 6) → (-1000000000000000000000000000000000000 < c.2.1.getD e.toNat 0 * c.2.1.getD e2.toNat 0 ∧ c.2.1.getD e.toNat 0 * c.2.1.getD e2.toNat 0 < 1000000000000000000000000000000000000) → ∀ (h' : List am_C) (d : Nat), zc_fr G h h' x r → zc_X G h' x r jj mm kk (c.1, c.2.1.set e.toNat (c.2.1.getD e.toNat 0 * c.2.1.getD e2.toNat 0), c.2.2) (sp_keep (zc_l R old cnt) c) → zc_dg ((c.2.1.getD e.toNat 0 * c.2.1.getD e2.toNat 0).natAbs : Int) d → Post (.inl (some (.int (Int32.ofInt (d : Int))))) h')
    (hX3 : (0 ≤ e ∧ e < 6 ∧ 0 ≤ e2 ∧ e2 < 6) → ¬ (-1000000000000000000000000000000000000 < c.2.1.getD e.toNat 0 * c.2.1.getD e2.toNat 0 ∧ c.2.1.getD e.toNat 0 * c.2.1.getD e2.toNat 0 < 1000000000000000000000000000000000000) → ∀ h', zc_fr G h h' x r → zc_x G h' x r jj mm kk c R old cnt → Post (.inr "java/lang/IllegalStateException") (h' ++ [(99, [])]))
    (hX2 : ¬ (0 ≤ e ∧ e < 6 ∧ 0 ≤ e2 ∧ e2 < 6) → Post (.inr "java/lang/IndexOutOfBoundsException") (h ++ [(99, [])])) :
    am_M l G yX10_times (.code yX10_times prog_1_method_6_code 5 (some .int)) 7 145 mc ms [.ref x, .int (Int32.ofInt e), .int (Int32.ofInt e2)] h Post := by
  refine gh_yX10_times_X g (Nat.le_of_ble_eq_true rfl) fun S SX hs hr hw hx => ?_
  have rv : ∀ x : Int32, ck_fv 0 (.int x) := fun x => ⟨_, rfl⟩
  have hx9_ := hX.2.2.2.2.2.2.2
  by_cases c1_ : 0 ≤ e ∧ e < 6
  rotate_left
  · 
    refine hs 0 _ rfl _ _ _ _ _ _ _ rfl ?_
    refine hs 1 _ rfl _ _ _ _ _ _ _ rfl ?_
    exact zw_cm (hs 2 _ rfl) (a := [.ref x, .int (Int32.ofInt e)]) (st := []) 1 6 rfl rfl (Nat.le_of_ble_eq_true rfl) ⟨_, _, _, rfl, (hX.1), rfl⟩ (by omega) (by omega) (zc_numAtX_M g hX he1 he2 (by omega) (by decide) (by decide) (hx _ _ _ _ _ _ (by omega) (by omega) (hX2 (fun y_ => c1_ ⟨y_.1, y_.2.1⟩))))
  · by_cases c2_ : 0 ≤ e2 ∧ e2 < 6
    rotate_left
    · obtain ⟨i, rfl⟩ : ∃ i : Nat, e = (i : Int) := ⟨e.toNat, by omega⟩
      have hi : i < 6 := by omega
      refine hs 0 _ rfl _ _ _ _ _ _ _ rfl ?_
      refine hs 1 _ rfl _ _ _ _ _ _ _ rfl ?_
      refine zw_c (hs 2 _ rfl) (a := [.ref x, .int (Int32.ofInt (i : Int))]) (st := []) rfl rfl (Nat.le_of_ble_eq_true rfl) ⟨_, _, _, rfl, hX.1, rfl⟩ (Nat.zero_le _) (Nat.zero_le _) (zc_numAt_M g hX (i := i) rfl hi ?_)
      show S 5 [some (.ref x), some (.int (Int32.ofInt (i : Int))), some (.int (Int32.ofInt e2)), none, none] [.ref (x + 1 + 5 + 2 * i)] _ _ _
      refine hs 3 _ rfl _ _ _ _ _ _ _ rfl ?_
      refine hs 4 _ rfl _ _ _ _ _ _ _ rfl ?_
      refine hs 5 _ rfl _ _ _ _ _ _ _ rfl ?_
      exact zw_cm (hs 6 _ rfl) (a := [.ref x, .int (Int32.ofInt e2)]) (st := []) 1 6 rfl rfl (Nat.le_of_ble_eq_true rfl) ⟨_, _, _, rfl, (hX.1), rfl⟩ (by omega) (by omega) (zc_numAtX_M g hX hf1 hf2 (by omega) (by decide) (by decide) (hx _ _ _ _ _ _ (by omega) (by omega) (hX2 (fun y_ => c2_ y_.2.2))))
    · have hP := hP ⟨c1_.1, c1_.2, c2_⟩
      have hX3 := hX3 ⟨c1_.1, c1_.2, c2_⟩
      obtain ⟨i, rfl⟩ : ∃ i : Nat, e = (i : Int) := ⟨e.toNat, by omega⟩
      have hi : i < 6 := by omega
      obtain ⟨i2, rfl⟩ : ∃ i2 : Nat, e2 = (i2 : Int) := ⟨e2.toNat, by omega⟩
      have hi2 : i2 < 6 := by omega
      obtain ⟨ny_, sy_, ly_, y1_, y2_, y3_⟩ := hX.2.1.n hi
      obtain ⟨nv_, sv_, lv_, v1_, v2_, v3_⟩ := hX.2.1.n hi2
      obtain ⟨nk_, sk_, lk_, k1_, k2_, k3_, k4_⟩ := hX.2.2.2.2.1.1
      have by_ := hX.2.2.1.get hi
      have bv_ := hX.2.2.1.get hi2
      have fy_ := y3_.four by_.1 by_.2
      have fv_ := v3_.four bv_.1 bv_.2
      refine hs 0 _ rfl _ _ _ _ _ _ _ rfl ?_
      refine hs 1 _ rfl _ _ _ _ _ _ _ rfl ?_
      refine zw_c (hs 2 _ rfl) (a := [.ref x, .int (Int32.ofInt (i : Int))]) (st := []) rfl rfl (Nat.le_of_ble_eq_true rfl) ⟨_, _, _, rfl, hX.1, rfl⟩ (Nat.zero_le _) (Nat.zero_le _) (zc_numAt_M g hX (i := i) rfl hi ?_)
      show S 5 [some (.ref x), some (.int (Int32.ofInt (i : Int))), some (.int (Int32.ofInt (i2 : Int))), none, none] [.ref (x + 1 + 5 + 2 * i)] _ _ _
      refine hs 3 _ rfl _ _ _ _ _ _ _ rfl ?_
      refine hs 4 _ rfl _ _ _ _ _ _ _ rfl ?_
      refine hs 5 _ rfl _ _ _ _ _ _ _ rfl ?_
      refine zw_c (hs 6 _ rfl) (a := [.ref x, .int (Int32.ofInt (i2 : Int))]) (st := []) rfl rfl (Nat.le_of_ble_eq_true rfl) ⟨_, _, _, rfl, hX.1, rfl⟩ (Nat.zero_le _) (Nat.zero_le _) (zc_numAt_M g hX (i := i2) rfl hi2 ?_)
      show S 11 [some (.ref x), some (.int (Int32.ofInt (i : Int))), some (.int (Int32.ofInt (i2 : Int))), some (.ref (x + 1 + 5 + 2 * i)), none] [.ref (x + 1 + 5 + 2 * i2)] _ _ _
      refine hs 7 _ rfl _ _ _ _ _ _ _ rfl ?_
      refine hs 8 _ rfl _ _ _ _ _ _ _ rfl ?_
      refine hs 9 _ rfl _ _ _ _ _ _ _ _ _ (hX.1) rfl rfl ?_
      refine hs 10 _ rfl _ _ _ _ _ _ _ rfl ?_
      refine hs 11 _ rfl _ _ _ _ _ _ _ rfl ?_
      refine zw_c (hs 12 _ rfl) (a := [.ref (x + 224), .ref (x + 1 + 5 + 2 * i), .ref (x + 1 + 5 + 2 * i2)]) (st := []) rfl rfl (Nat.le_of_ble_eq_true rfl) ⟨_, _, _, rfl, k1_, rfl⟩ (Nat.zero_le _) (Nat.zero_le _) (sb_prod_M g (q := x + 224) (p := x + 225) (by omega) (by omega) (by omega) k1_ rfl k2_ rfl k3_.1 y1_ rfl y2_ rfl y3_ ⟨by omega, by omega, by omega, by omega⟩ v1_ rfl v2_ rfl v3_ ⟨by omega, by omega, by omega, by omega⟩ (by omega) fun hb_ nb_ sb1_ lb_ wb_ ib_ => ?_)
      show S 23 [some (.ref x), some (.int (Int32.ofInt (i : Int))), some (.int (Int32.ofInt (i2 : Int))), some (.ref (x + 1 + 5 + 2 * i)), some (.ref (x + 1 + 5 + 2 * i2))] [] _ _ _
      have fw_ : zw_f G h hb_ (x + 224) 4 := zw_f.w2 wb_ (by omega) (by omega) (by omega) (by omega)
      have xw_ := hX.work fw_ ⟨_, _, _, wb_.q, wb_.p (by omega), ib_.1, zc_nb ib_⟩ (hX.2.2.2.2.1.2.fr (zw_f.w2 (lo := x + 224) (n := 2) wb_ (by omega) (by omega) (by omega) (by omega)) (by omega))
      refine hs 13 _ rfl _ _ _ _ _ _ _ rfl ?_
      refine hs 14 _ rfl _ _ _ _ _ _ _ rfl ?_
      refine hs 15 _ rfl _ _ _ _ _ _ _ rfl ?_
      refine hs 16 _ rfl _ _ _ _ _ _ _ _ _ (xw_.1) rfl rfl ?_
      refine zw_cm (hs 17 _ rfl) (a := [.ref x, .ref (x + 1 + 5 + 2 * i), .ref (x + 224)]) (st := []) 1 6 rfl rfl (Nat.le_of_ble_eq_true rfl) ⟨_, _, _, rfl, xw_.1, rfl⟩ (by omega) (by omega) (zc_putNum_M g xw_ wb_.q (wb_.p (by omega)) ib_ hi (by decide) (by decide) (fun y_ h9_ d_ f1_ f2_ f3_ => ?_) (fun y_ => ?_))
      · show S 32 _ [.int (Int32.ofInt (d_ : Int))] _ _ _
        exact hs 18 _ rfl _ _ _ _ _ (rv _) (by omega) (by omega) (hP y_ _ d_ ((zc_fr.of fw_ (by omega) (by omega)).tr f1_) f2_ f3_)
      · exact hx _ _ _ _ _ _ (by omega) (by omega) (hX3 y_ _ (zc_fr.of fw_ (by omega) (by omega)) xw_)
