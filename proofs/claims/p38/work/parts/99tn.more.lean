/-! MORE CALLS OF THE CLASS -/
set_option maxHeartbeats 4000000 in
theorem zc_lengthen_M {l : Launch} {G : am_G} {X : ck_XT} (g : gM l G X) {x : Nat} {r : Nat → Nat} {jj mm kk : Int} {c : sp_S} {R : Nat → sp_S} {old cnt : Nat} {h : List am_C} (hX : zc_x G h x r jj mm kk c R old cnt) {e : Int} (he1 : -2147483648 ≤ e) (he2 : e ≤ 2147483647) {e2 : Int} (hf1 : -2147483648 ≤ e2) (hf2 : e2 ≤ 2147483647) {mc ms : Nat} {Post : am_O → List am_C → Prop} (hmc : 1 ≤ mc) (hms : 6 ≤ ms)
    (hP : (0 ≤ e ∧ e < 6) → (0 ≤ e2 ∧ e2 < 1000000000) → (-1000000000000000000000000000000000000 < c.2.1.getD e.toNat 0 * 1000000000 + e2 ∧ c.2.1.getD e.toNat 0 * 1000000000 + e2 < 1000000000000000000000000000000000000) → ∀ (h' : List am_C) (d : Nat), zc_fr G h h' x r → zc_X G h' x r jj mm kk (c.1, c.2.1.set e.toNat (c.2.1.getD e.toNat 0 * 1000000000 + e2), c.2.2) (sp_keep (zc_l R old cnt) c) → zc_dg ((c.2.1.getD e.toNat 0 * 1000000000 + e2).natAbs : Int) d → Post (.inl (some (.int (Int32.ofInt (d : Int))))) h')
    (hX3 : (0 ≤ e ∧ e < 6) → (0 ≤ e2 ∧ e2 < 1000000000) → ¬ (-1000000000000000000000000000000000000 < c.2.1.getD e.toNat 0 * 1000000000 + e2 ∧ c.2.1.getD e.toNat 0 * 1000000000 + e2 < 1000000000000000000000000000000000000) → ∀ h', zc_fr G h h' x r → zc_x G h' x r jj mm kk c R old cnt → Post (.inr "java/lang/IllegalStateException") (h' ++ [(99, [])]))
    (hX4 : (0 ≤ e ∧ e < 6) → ¬ (0 ≤ e2 ∧ e2 < 1000000000) → Post (.inr "java/lang/IllegalArgumentException") (h ++ [(99, [])]))
    (hX2 : ¬ (0 ≤ e ∧ e < 6) → Post (.inr "java/lang/IndexOutOfBoundsException") (h ++ [(99, [])])) :
    am_M l G yX10_lengthen (.code yX10_lengthen prog_1_method_4_code 4 (some .int)) 7 145 mc ms [.ref x, .int (Int32.ofInt e), .int (Int32.ofInt e2)] h Post := by
  refine gh_yX10_lengthen_X g (Nat.le_of_ble_eq_true rfl) fun S SX hs hr hw hx => ?_
  have rv : ∀ x : Int32, ck_fv 0 (.int x) := fun x => ⟨_, rfl⟩
  have hx9_ := hX.2.2.2.2.2.2.2
  by_cases c1_ : 0 ≤ e ∧ e < 6
  rotate_left
  · 
    refine hs 0 _ rfl _ _ _ _ _ _ _ rfl ?_
    refine hs 1 _ rfl _ _ _ _ _ _ _ rfl ?_
    exact zw_cm (hs 2 _ rfl) (a := [.ref x, .int (Int32.ofInt e)]) (st := []) 1 6 rfl rfl (Nat.le_of_ble_eq_true rfl) ⟨_, _, _, rfl, (hX.1), rfl⟩ (by omega) (by omega) (zc_numAtX_M g hX he1 he2 (by omega) (by decide) (by decide) (hx _ _ _ _ _ _ (by omega) (by omega) (hX2 c1_)))
  · by_cases c2_ : 0 ≤ e2 ∧ e2 < 1000000000
    rotate_left
    · 
      obtain ⟨i, rfl⟩ : ∃ i : Nat, e = (i : Int) := ⟨e.toNat, by omega⟩
      have hi : i < 6 := by omega
      by_cases c3_ : e2 < 0
      · 
        refine hs 0 _ rfl _ _ _ _ _ _ _ rfl ?_
        refine hs 1 _ rfl _ _ _ _ _ _ _ rfl ?_
        refine zw_c (hs 2 _ rfl) (a := [.ref x, .int (Int32.ofInt (i : Int))]) (st := []) rfl rfl (Nat.le_of_ble_eq_true rfl) ⟨_, _, _, rfl, hX.1, rfl⟩ (Nat.zero_le _) (Nat.zero_le _) (zc_numAt_M g hX (i := i) rfl hi ?_)
        show S 5 [some (.ref x), some (.int (Int32.ofInt (i : Int))), some (.int (Int32.ofInt e2)), none] [.ref (x + 1 + 5 + 2 * i)] _ _ _
        refine hs 3 _ rfl _ _ _ _ _ _ _ rfl ?_
        refine hs 4 _ rfl _ _ _ _ _ _ _ rfl ?_
        refine hs 5 _ rfl _ _ _ _ _ _ (fun _ => ?_) (fun zq => absurd (hd_c1t (c := 2) (by omega) (by omega) (by omega : e2 < 0)) zq)
        exact hs 9 _ rfl _ _ _ _ _ rfl (Nat.le_of_ble_eq_true rfl) (by omega) (by omega) (hX4 ⟨by omega, by omega⟩ c2_)
      · 
        refine hs 0 _ rfl _ _ _ _ _ _ _ rfl ?_
        refine hs 1 _ rfl _ _ _ _ _ _ _ rfl ?_
        refine zw_c (hs 2 _ rfl) (a := [.ref x, .int (Int32.ofInt (i : Int))]) (st := []) rfl rfl (Nat.le_of_ble_eq_true rfl) ⟨_, _, _, rfl, hX.1, rfl⟩ (Nat.zero_le _) (Nat.zero_le _) (zc_numAt_M g hX (i := i) rfl hi ?_)
        show S 5 [some (.ref x), some (.int (Int32.ofInt (i : Int))), some (.int (Int32.ofInt e2)), none] [.ref (x + 1 + 5 + 2 * i)] _ _ _
        refine hs 3 _ rfl _ _ _ _ _ _ _ rfl ?_
        refine hs 4 _ rfl _ _ _ _ _ _ _ rfl ?_
        refine hs 5 _ rfl _ _ _ _ _ _ (fun zq => absurd (hd_c1z (c := 2) (by omega) (by omega) zq) (by omega : ¬ (e2 < 0))) (fun _ => ?_)
        refine hs 6 _ rfl _ _ _ _ _ _ _ rfl ?_
        refine hs 7 _ rfl _ _ _ _ _ _ _ rfl ?_
        refine hs 8 _ rfl _ _ _ _ _ _ _ (fun zq => absurd (hd_c2z (c := 2) (by omega) (by omega) (by omega) (by omega) zq) (by omega : ¬ ((e2 - (1000000000 : Int)) < 0))) (fun _ => ?_)
        exact hs 9 _ rfl _ _ _ _ _ rfl (Nat.le_of_ble_eq_true rfl) (by omega) (by omega) (hX4 ⟨by omega, by omega⟩ c2_)
    · have hP := hP c1_ c2_
      have hX3 := hX3 c1_ c2_
      obtain ⟨i, rfl⟩ : ∃ i : Nat, e = (i : Int) := ⟨e.toNat, by omega⟩
      have hi : i < 6 := by omega
      obtain ⟨ny_, sy_, ly_, y1_, y2_, y3_⟩ := hX.2.1.n hi
      obtain ⟨nk_, sk_, lk_, k1_, k2_, k3_, k4_⟩ := hX.2.2.2.2.1.1
      obtain ⟨nm_, sm_, lm_, m1_, m2_, m3_, m4_⟩ := hX.2.2.2.2.1.2
      have by_ := hX.2.2.1.get hi
      have fy_ := y3_.four by_.1 by_.2
      refine hs 0 _ rfl _ _ _ _ _ _ _ rfl ?_
      refine hs 1 _ rfl _ _ _ _ _ _ _ rfl ?_
      refine zw_c (hs 2 _ rfl) (a := [.ref x, .int (Int32.ofInt (i : Int))]) (st := []) rfl rfl (Nat.le_of_ble_eq_true rfl) ⟨_, _, _, rfl, hX.1, rfl⟩ (Nat.zero_le _) (Nat.zero_le _) (zc_numAt_M g hX (i := i) rfl hi ?_)
      show S 5 [some (.ref x), some (.int (Int32.ofInt (i : Int))), some (.int (Int32.ofInt e2)), none] [.ref (x + 1 + 5 + 2 * i)] _ _ _
      refine hs 3 _ rfl _ _ _ _ _ _ _ rfl ?_
      refine hs 4 _ rfl _ _ _ _ _ _ _ rfl ?_
      refine hs 5 _ rfl _ _ _ _ _ _ (fun zq => absurd (hd_c1z (c := 2) (by omega) (by omega) zq) (by omega : ¬ (e2 < 0))) (fun _ => ?_)
      refine hs 6 _ rfl _ _ _ _ _ _ _ rfl ?_
      refine hs 7 _ rfl _ _ _ _ _ _ _ rfl ?_
      refine hs 8 _ rfl _ _ _ _ _ _ _ (fun _ => ?_) (fun zq => absurd (hd_c2t (c := 2) (by omega) (by omega) (by omega) (by omega) (by omega : (e2 - (1000000000 : Int)) < 0)) zq)
      refine hs 10 _ rfl _ _ _ _ _ _ _ rfl ?_
      refine hs 11 _ rfl _ _ _ _ _ _ _ _ _ (hX.1) rfl rfl ?_
      refine hs 12 _ rfl _ _ _ _ _ _ _ rfl ?_
      refine zw_c (hs 13 _ rfl) (a := [.ref (x + 226), .long (Int64.ofInt (1000000000 : Int))]) (st := []) rfl rfl (Nat.le_of_ble_eq_true rfl) ⟨_, _, _, rfl, m1_, rfl⟩ (Nat.zero_le _) (Nat.zero_le _) (sb_blong_M g (q := x + 226) (p := x + 227) (by omega) (by omega) (by omega) m1_ rfl m2_ rfl m3_.1 (by omega) (by omega) fun hb1_ nb1_ sb1_ lb1_ wb1_ ib1_ => ?_)
      show S 36 [some (.ref x), some (.int (Int32.ofInt (i : Int))), some (.int (Int32.ofInt e2)), some (.ref (x + 1 + 5 + 2 * i))] [] _ _ _
      have a1_ := (wb1_.ne (x := (x + 1 + 5 + 2 * i)) (by omega) (by omega)).trans y1_
      have a2_ := (wb1_.ne (x := x + 1 + 5 + 2 * i + 1) (by omega) (by omega)).trans y2_
      have p1_ := (wb1_.ne (x := x + 224) (by omega) (by omega)).trans k1_
      have p2_ := (wb1_.ne (x := x + 224 + 1) (by omega) (by omega)).trans k2_
      have fb1_ : nb1_ ≤ 2 := ib1_.le (by decide)
      refine hs 14 _ rfl _ _ _ _ _ _ _ rfl ?_
      refine hs 15 _ rfl _ _ _ _ _ _ _ _ _ (((wb1_.ne (by omega) (by omega))).trans hX.1) rfl rfl ?_
      refine hs 16 _ rfl _ _ _ _ _ _ _ rfl ?_
      refine hs 17 _ rfl _ _ _ _ _ _ _ rfl ?_
      refine hs 18 _ rfl _ _ _ _ _ _ _ _ _ (((wb1_.ne (by omega) (by omega))).trans hX.1) rfl rfl ?_
      refine zw_c (hs 19 _ rfl) (a := [.ref (x + 224), .ref (x + 1 + 5 + 2 * i), .ref (x + 226)]) (st := []) rfl rfl (Nat.le_of_ble_eq_true rfl) ⟨_, _, _, rfl, p1_, rfl⟩ (Nat.zero_le _) (Nat.zero_le _) (sb_prod_M g (q := x + 224) (p := x + 225) (by omega) (by omega) (by omega) p1_ rfl p2_ rfl k3_.1 a1_ rfl a2_ rfl y3_ ⟨by omega, by omega, by omega, by omega⟩ wb1_.q rfl (wb1_.p (by omega)) rfl ib1_ ⟨by omega, by omega, by omega, by omega⟩ (by omega) fun hb2_ nb2_ sb2_ lb2_ wb2_ ib2_ => ?_)
      show S 48 [some (.ref x), some (.int (Int32.ofInt (i : Int))), some (.int (Int32.ofInt e2)), some (.ref (x + 1 + 5 + 2 * i))] [] _ _ _
      have q1_ := (wb2_.ne (x := x + 226) (by omega) (by omega)).trans wb1_.q
      have q2_ := (wb2_.ne (x := x + 227) (by omega) (by omega)).trans (wb1_.p (by omega))
      refine hs 20 _ rfl _ _ _ _ _ _ _ rfl ?_
      refine hs 21 _ rfl _ _ _ _ _ _ _ _ _ (((wb2_.ne (by omega) (by omega))).trans (((wb1_.ne (by omega) (by omega))).trans hX.1)) rfl rfl ?_
      refine hs 22 _ rfl _ _ _ _ _ _ _ rfl ?_
      refine hs 23 _ rfl _ _ _ _ _ _ _ (hd_i2l (by omega) (by omega)) ?_
      refine zw_c (hs 24 _ rfl) (a := [.ref (x + 226), .long (Int64.ofInt e2)]) (st := []) rfl rfl (Nat.le_of_ble_eq_true rfl) ⟨_, _, _, rfl, q1_, rfl⟩ (Nat.zero_le _) (Nat.zero_le _) (sb_blong_M g (q := x + 226) (p := x + 227) (by omega) (by omega) (by omega) q1_ rfl q2_ rfl ib1_.1.1 (by omega) (by omega) fun hb3_ nb3_ sb3_ lb3_ wb3_ ib3_ => ?_)
      show S 57 [some (.ref x), some (.int (Int32.ofInt (i : Int))), some (.int (Int32.ofInt e2)), some (.ref (x + 1 + 5 + 2 * i))] [] _ _ _
      have r1_ := (wb3_.ne (x := x + 224) (by omega) (by omega)).trans wb2_.q
      have r2_ := (wb3_.ne (x := x + 225) (by omega) (by omega)).trans (wb2_.p (by omega))
      have hv_ : sb_v lb2_ + sb_v lb3_ < 1000000000 ^ 10 := by rw [← ib2_.abs, ← ib3_.abs, sb_p10]; omega
      refine hs 25 _ rfl _ _ _ _ _ _ _ rfl ?_
      refine hs 26 _ rfl _ _ _ _ _ _ _ _ _ (((wb3_.ne (by omega) (by omega))).trans (((wb2_.ne (by omega) (by omega))).trans (((wb1_.ne (by omega) (by omega))).trans hX.1))) rfl rfl ?_
      refine hs 27 _ rfl _ _ _ _ _ _ _ rfl ?_
      refine hs 28 _ rfl _ _ _ _ _ _ _ _ _ (((wb3_.ne (by omega) (by omega))).trans (((wb2_.ne (by omega) (by omega))).trans (((wb1_.ne (by omega) (by omega))).trans hX.1))) rfl rfl ?_
      refine hs 29 _ rfl _ _ _ _ _ _ _ rfl ?_
      refine hs 30 _ rfl _ _ _ _ _ _ _ _ _ (((wb3_.ne (by omega) (by omega))).trans (((wb2_.ne (by omega) (by omega))).trans (((wb1_.ne (by omega) (by omega))).trans hX.1))) rfl rfl ?_
      refine zw_c (hs 31 _ rfl) (a := [.ref (x + 224), .ref (x + 224), .ref (x + 226)]) (st := []) rfl rfl (Nat.le_of_ble_eq_true rfl) ⟨_, _, _, rfl, r1_, rfl⟩ (Nat.zero_le _) (Nat.zero_le _) (sb_sum_M g (q := x + 224) (p := x + 225) (by omega) (by omega) (by omega) r1_ rfl r2_ rfl ib2_.1.1 r1_ rfl r2_ rfl ib2_ (fun _ => rfl) (by omega) wb3_.q rfl (wb3_.p (by omega)) rfl ib3_ (fun z_ => absurd z_ (by omega)) (by omega) hv_ fun hb4_ nb4_ sb4_ lb4_ wb4_ ib4_ => ?_)
      show S 72 [some (.ref x), some (.int (Int32.ofInt (i : Int))), some (.int (Int32.ofInt e2)), some (.ref (x + 1 + 5 + 2 * i))] [] _ _ _
      have fw_ : zw_f G h hb4_ (x + 224) 4 := (((zw_f.w2 wb1_ (by omega) (by omega) (by omega) (by omega)).tr (zw_f.w2 wb2_ (by omega) (by omega) (by omega) (by omega))).tr (zw_f.w2 wb3_ (by omega) (by omega) (by omega) (by omega))).tr (zw_f.w2 wb4_ (by omega) (by omega) (by omega) (by omega))
      have xw_ := hX.work fw_ ⟨_, _, _, wb4_.q, wb4_.p (by omega), ib4_.1, zc_nb ib4_⟩ ⟨_, _, _, (wb4_.ne (x := x + 226) (by omega) (by omega)).trans wb3_.q, (wb4_.ne (x := x + 226 + 1) (by omega) (by omega)).trans (wb3_.p (by omega)), ib3_.1, zc_nb ib3_⟩
      refine hs 32 _ rfl _ _ _ _ _ _ _ rfl ?_
      refine hs 33 _ rfl _ _ _ _ _ _ _ rfl ?_
      refine hs 34 _ rfl _ _ _ _ _ _ _ rfl ?_
      refine hs 35 _ rfl _ _ _ _ _ _ _ _ _ (xw_.1) rfl rfl ?_
      refine zw_cm (hs 36 _ rfl) (a := [.ref x, .ref (x + 1 + 5 + 2 * i), .ref (x + 224)]) (st := []) 1 6 rfl rfl (Nat.le_of_ble_eq_true rfl) ⟨_, _, _, rfl, xw_.1, rfl⟩ (by omega) (by omega) (zc_putNum_M g xw_ wb4_.q (wb4_.p (by omega)) ib4_ hi (by decide) (by decide) (fun y_ h9_ d_ f1_ f2_ f3_ => ?_) (fun y_ => ?_))
      · show S 81 _ [.int (Int32.ofInt (d_ : Int))] _ _ _
        exact hs 37 _ rfl _ _ _ _ _ (rv _) (by omega) (by omega) (hP y_ _ d_ ((zc_fr.of fw_ (by omega) (by omega)).tr f1_) f2_ f3_)
      · exact hx _ _ _ _ _ _ (by omega) (by omega) (hX3 y_ _ (zc_fr.of fw_ (by omega) (by omega)) xw_)
theorem sb_is.sg {n : Nat} {sg z : Int} {ls : List Int} (h : sb_is n sg ls z) : sg = z.sign := by
  obtain ⟨hd_, -, rfl, hs_, h0_⟩ := h
  have hn_ := sb_a.nn hd_.2
  rcases hs_ with c_ | c_ | c_
  · have : 0 < sb_v ls := by
      by_cases y_ : sb_v ls = 0
      · have := h0_.mpr y_; omega
      · omega
    rw [c_, Int.sign_eq_neg_one_of_neg (by omega)]
  · rw [c_, Int.zero_mul]; rfl
  · have : 0 < sb_v ls := by
      by_cases y_ : sb_v ls = 0
      · have := h0_.mpr y_; omega
      · omega
    rw [c_, Int.one_mul, Int.sign_eq_one_of_pos this]
theorem sb_is.neg {n : Nat} {sg z : Int} {ls : List Int} (h : sb_is n sg ls z) : sb_is n (-sg) ls (-z) := by
  obtain ⟨hd_, hn_, rfl, hs_, h0_⟩ := h
  exact ⟨hd_, hn_, by rw [Int.neg_mul], by omega, by rw [← h0_]; omega⟩
set_option maxHeartbeats 4000000 in
theorem zc_negate_M {l : Launch} {G : am_G} {X : ck_XT} (g : gM l G X) {x : Nat} {r : Nat → Nat} {jj mm kk : Int} {c : sp_S} {R : Nat → sp_S} {old cnt : Nat} {h : List am_C} (hX : zc_x G h x r jj mm kk c R old cnt) {e : Int} (he1 : -2147483648 ≤ e) (he2 : e ≤ 2147483647) {mc ms : Nat} {Post : am_O → List am_C → Prop} (hmc : 1 ≤ mc) (hms : 6 ≤ ms)
    (hP : (0 ≤ e ∧ e < 6) → ∀ (h' : List am_C), zc_fr G h h' x r → zc_X G h' x r jj mm kk (c.1, c.2.1.set e.toNat (-(c.2.1.getD e.toNat 0)), c.2.2) (sp_keep (zc_l R old cnt) c) → Post (.inl (some (.int (Int32.ofInt (-(c.2.1.getD e.toNat 0).sign))))) h')
    (hX2 : ¬ (0 ≤ e ∧ e < 6) → Post (.inr "java/lang/IndexOutOfBoundsException") (h ++ [(99, [])])) :
    am_M l G yX10_negate (.code yX10_negate prog_1_method_7_code 3 (some .int)) 7 123 mc ms [.ref x, .int (Int32.ofInt e)] h Post := by
  refine gh_yX10_negate_X g (Nat.le_of_ble_eq_true rfl) fun S SX hs hr hw hx => ?_
  have rv : ∀ x : Int32, ck_fv 0 (.int x) := fun x => ⟨_, rfl⟩
  have hx9_ := hX.2.2.2.2.2.2.2
  by_cases c1_ : 0 ≤ e ∧ e < 6
  rotate_left
  · 
    refine hs 0 _ rfl _ _ _ _ _ _ _ rfl ?_
    refine hs 1 _ rfl _ _ _ _ _ _ _ rfl ?_
    exact zw_cm (hs 2 _ rfl) (a := [.ref x, .int (Int32.ofInt e)]) (st := []) 1 6 rfl rfl (Nat.le_of_ble_eq_true rfl) ⟨_, _, _, rfl, (hX.1), rfl⟩ (by omega) (by omega) (zc_numAtX_M g hX he1 he2 (by omega) (by decide) (by decide) (hx _ _ _ _ _ _ (by omega) (by omega) (hX2 c1_)))
  · have hP := hP c1_
    obtain ⟨i, rfl⟩ : ∃ i : Nat, e = (i : Int) := ⟨e.toNat, by omega⟩
    have hi : i < 6 := by omega
    refine hs 0 _ rfl _ _ _ _ _ _ _ rfl ?_
    refine hs 1 _ rfl _ _ _ _ _ _ _ rfl ?_
    refine zw_c (hs 2 _ rfl) (a := [.ref x, .int (Int32.ofInt (i : Int))]) (st := []) rfl rfl (Nat.le_of_ble_eq_true rfl) ⟨_, _, _, rfl, hX.1, rfl⟩ (Nat.zero_le _) (Nat.zero_le _) (zc_numAt_M g hX (i := i) rfl hi ?_)
    show S 5 [some (.ref x), some (.int (Int32.ofInt (i : Int))), none] [.ref (x + 1 + 5 + 2 * i)] _ _ _
    refine hs 3 _ rfl _ _ _ _ _ _ _ rfl ?_
    refine hs 4 _ rfl _ _ _ _ _ _ _ rfl ?_
    refine hs 5 _ rfl _ _ _ _ _ _ _ _ _ (hX.1) rfl rfl ?_
    refine hs 6 _ rfl _ _ _ _ _ _ _ rfl ?_
    refine hs 7 _ rfl _ _ _ _ _ _ _ _ _ (hX.1) rfl rfl ?_
    refine zw_c (hs 8 _ rfl) (a := [.ref (x + 18), .ref (x + 1)]) (st := []) rfl rfl (Nat.le_of_ble_eq_true rfl) ⟨_, _, _, rfl, hX.2.2.2.1.1, rfl⟩ (Nat.zero_le _) (Nat.zero_le _) (zc_keep_M g (p := x + 18) (s := x + 1) (by omega) (by omega) hX.2.2.2.1 hX.2.1 hX.2.2.1 fun hk6_ ok6_ ck6_ fk6_ pk6_ e16_ e26_ => ?_)
    have xk6_ := hX.past fk6_ pk6_
    have lk6_ := zc_l_keep (R := R) (c := c) hX.2.2.2.1.2.2.2.1 hX.2.2.2.1.2.2.2.2 e16_ e26_
    show S 17 [some (.ref x), some (.int (Int32.ofInt (i : Int))), some (.ref (x + 1 + 5 + 2 * i))] [] _ _ _
    obtain ⟨ny_, sy_, ly_, y1_, y2_, y3_⟩ := xk6_.2.1.n hi
    refine hs 9 _ rfl _ _ _ _ _ _ _ rfl ?_
    refine hs 10 _ rfl _ _ _ _ _ _ _ rfl ?_
    refine hs 11 _ rfl _ _ _ _ _ _ _ _ _ (y1_) rfl rfl ?_
    refine hs 12 _ rfl _ _ _ _ _ _ _ zw_neg ?_
    refine zw_U (hs 13 _ rfl) (by omega) (y1_) rfl ⟨_, rfl⟩ fun hz77 wz78 => ?_
    have wz78 : hd_w G hk6_ hz77 (x + 1 + 5 + 2 * i) (1407, [.ref (x + 1 + 5 + 2 * i + 1), .int (Int32.ofInt (ny_ : Int)), .int (Int32.ofInt (-sy_))]) := wz78
    refine hs 14 _ rfl _ _ _ _ _ _ _ rfl ?_
    refine hs 15 _ rfl _ _ _ _ _ _ _ _ _ (wz78.at) rfl rfl ?_
    have by_ := hX.2.2.1.get hi
    have ws_ : sb_w G hk6_ hz77 (x + 1 + 5 + 2 * i) (sb_c 1407 (x + 1 + 5 + 2 * i + 1) (ny_ : Int) (-sy_)) (x + 1 + 5 + 2 * i + 1) (1450, hd_r ly_) := sb_w.of (hd_w.rf y2_) wz78
    obtain ⟨xb_, fb_⟩ := xk6_.num hi ws_ y3_.neg (by omega) (by omega)
    refine hs 16 _ rfl _ _ _ _ _ (rv _) (Nat.zero_le _) (Nat.zero_le _) ?_
    have hq_ := hP _ ((zc_fr.of fk6_ (by omega) (by omega)).tr (zc_fr.of fb_ (by omega) (by omega))) (zc_X.mk xb_ lk6_)
    rw [y3_.sg]
    exact hq_
set_option maxHeartbeats 4000000 in
theorem zc_reduce_M {l : Launch} {G : am_G} {X : ck_XT} (g : gM l G X) {x : Nat} {r : Nat → Nat} {jj mm kk : Int} {c : sp_S} {R : Nat → sp_S} {old cnt : Nat} {h : List am_C} (hX : zc_x G h x r jj mm kk c R old cnt) {e : Int} (he1 : -2147483648 ≤ e) (he2 : e ≤ 2147483647) {mc ms : Nat} {Post : am_O → List am_C → Prop} (hmc : 1 ≤ mc) (hms : 6 ≤ ms)
    (hJ : (0 ≤ e ∧ e < 6) → c.1 ≤ 0 → ∀ h', zc_fr G h h' x r → zc_x G h' x r (jj + 1) mm kk c R old cnt → Post (.inl (some (.int (Int32.ofInt (-9))))) h')
    (hP : (0 ≤ e ∧ e < 6) → 0 < c.1 → ∀ h', zc_fr G h h' x r → zc_X G h' x r jj mm kk (c.1, c.2.1.set e.toNat (c.2.1.getD e.toNat 0 % c.1), c.2.2) (sp_keep (zc_l R old cnt) c) → Post (.inl (some (.int (Int32.ofInt (c.2.1.getD e.toNat 0 % c.1))))) h')
    (hX2 : ¬ (0 ≤ e ∧ e < 6) → Post (.inr "java/lang/IndexOutOfBoundsException") (h ++ [(99, [])])) :
    am_M l G yX10_reduce (.code yX10_reduce prog_1_method_8_code 2 (some .int)) 8 145 mc ms [.ref x, .int (Int32.ofInt e)] h Post := by
  refine gh_yX10_reduce_X g (Nat.le_of_ble_eq_true rfl) fun S SX hs hr hw hx => ?_
  have rv : ∀ x : Int32, ck_fv 0 (.int x) := fun x => ⟨_, rfl⟩
  have hx9_ := hX.2.2.2.2.2.2.2
  have hb_ := hX.2.2.1.1
  by_cases c1_ : 0 ≤ e ∧ e < 6
  rotate_left
  · 
    refine hs 0 _ rfl _ _ _ _ _ _ _ rfl ?_
    refine hs 1 _ rfl _ _ _ _ _ _ _ rfl ?_
    refine hs 2 _ rfl _ _ _ _ _ _ _ rfl ?_
    exact zw_cm (hs 3 _ rfl) (a := [.ref x, .int (Int32.ofInt e)]) (st := [.ref x]) 1 6 rfl rfl (Nat.le_of_ble_eq_true rfl) ⟨_, _, _, rfl, (hX.1), rfl⟩ (by omega) (by omega) (zc_numAtX_M g hX he1 he2 (by omega) (by decide) (by decide) (hx _ _ _ _ _ _ (by omega) (by omega) (hX2 c1_)))
  · have hP := hP c1_
    have hJ_ := hJ c1_
    by_cases c2_ : c.1 ≤ 0
    · 
      obtain ⟨i, rfl⟩ : ∃ i : Nat, e = (i : Int) := ⟨e.toNat, by omega⟩
      have hi : i < 6 := by omega
      refine hs 0 _ rfl _ _ _ _ _ _ _ rfl ?_
      refine hs 1 _ rfl _ _ _ _ _ _ _ rfl ?_
      refine hs 2 _ rfl _ _ _ _ _ _ _ rfl ?_
      refine zw_c (hs 3 _ rfl) (a := [.ref x, .int (Int32.ofInt (i : Int))]) (st := [.ref x]) rfl rfl (Nat.le_of_ble_eq_true rfl) ⟨_, _, _, rfl, hX.1, rfl⟩ (Nat.zero_le _) (Nat.zero_le _) (zc_numAt_M g hX (i := i) rfl hi ?_)
      show S 6 [some (.ref x), some (.int (Int32.ofInt (i : Int)))] [.ref (x + 1 + 5 + 2 * i), .ref x] _ _ _
      refine hs 4 _ rfl _ _ _ _ _ _ _ rfl ?_
      refine hs 5 _ rfl _ _ _ _ _ _ _ rfl ?_
      refine zw_c (hs 6 _ rfl) (a := [.ref x, .int (Int32.ofInt (i : Int))]) (st := [.ref (x + 1 + 5 + 2 * i), .ref x]) rfl rfl (Nat.le_of_ble_eq_true rfl) ⟨_, _, _, rfl, hX.1, rfl⟩ (Nat.zero_le _) (Nat.zero_le _) (zc_mod_M g hX (i := i) rfl hi (fun _ => ?_) (fun y_ => absurd y_ (by omega)))
      show S 11 [some (.ref x), some (.int (Int32.ofInt (i : Int)))] [.int (Int32.ofInt (-9 : Int)), .ref (x + 1 + 5 + 2 * i), .ref x] _ _ _
      refine zw_c (hs 7 _ rfl) (a := [.ref x, .ref (x + 1 + 5 + 2 * i), .int (Int32.ofInt (-9 : Int))]) (st := []) rfl rfl (Nat.le_of_ble_eq_true rfl) ⟨_, _, _, rfl, hX.1, rfl⟩ (Nat.zero_le _) (Nat.zero_le _) (zc_putRound_M g hX hi (Or.inl rfl) (by decide) (fun _ h9_ f1_ f2_ => ?_) (fun y_ => absurd y_ (by decide)) (fun y_ => absurd y_ (by decide)))
      show S 14 _ [.int (Int32.ofInt (-9 : Int))] _ _ _
      exact hs 8 _ rfl _ _ _ _ _ (rv _) (Nat.zero_le _) (Nat.zero_le _) (hJ_ c2_ _ f1_ f2_)
    · 
      obtain ⟨i, rfl⟩ : ∃ i : Nat, e = (i : Int) := ⟨e.toNat, by omega⟩
      have hi : i < 6 := by omega
      have r1_ := Int.emod_nonneg (c.2.1.getD i 0) (b := c.1) (by omega)
      have r2_ := Int.emod_lt_of_pos (c.2.1.getD i 0) (b := c.1) (by omega)
      refine hs 0 _ rfl _ _ _ _ _ _ _ rfl ?_
      refine hs 1 _ rfl _ _ _ _ _ _ _ rfl ?_
      refine hs 2 _ rfl _ _ _ _ _ _ _ rfl ?_
      refine zw_c (hs 3 _ rfl) (a := [.ref x, .int (Int32.ofInt (i : Int))]) (st := [.ref x]) rfl rfl (Nat.le_of_ble_eq_true rfl) ⟨_, _, _, rfl, hX.1, rfl⟩ (Nat.zero_le _) (Nat.zero_le _) (zc_numAt_M g hX (i := i) rfl hi ?_)
      show S 6 [some (.ref x), some (.int (Int32.ofInt (i : Int)))] [.ref (x + 1 + 5 + 2 * i), .ref x] _ _ _
      refine hs 4 _ rfl _ _ _ _ _ _ _ rfl ?_
      refine hs 5 _ rfl _ _ _ _ _ _ _ rfl ?_
      refine zw_c (hs 6 _ rfl) (a := [.ref x, .int (Int32.ofInt (i : Int))]) (st := [.ref (x + 1 + 5 + 2 * i), .ref x]) rfl rfl (Nat.le_of_ble_eq_true rfl) ⟨_, _, _, rfl, hX.1, rfl⟩ (Nat.zero_le _) (Nat.zero_le _) (zc_mod_M g hX (i := i) rfl hi (fun y_ => absurd y_ (by omega)) (fun _ => ?_))
      show S 11 [some (.ref x), some (.int (Int32.ofInt (i : Int)))] [.int (Int32.ofInt (c.2.1.getD i 0 % c.1)), .ref (x + 1 + 5 + 2 * i), .ref x] _ _ _
      refine zw_c (hs 7 _ rfl) (a := [.ref x, .ref (x + 1 + 5 + 2 * i), .int (Int32.ofInt (c.2.1.getD i 0 % c.1))]) (st := []) rfl rfl (Nat.le_of_ble_eq_true rfl) ⟨_, _, _, rfl, hX.1, rfl⟩ (Nat.zero_le _) (Nat.zero_le _) (zc_putRound_M g hX hi (Or.inr (Or.inr r1_)) (by omega) (fun y_ => absurd y_ (by omega)) (fun y_ => absurd y_ (by omega)) (fun _ h9_ f1_ f2_ => ?_))
      show S 14 _ [.int (Int32.ofInt (c.2.1.getD i 0 % c.1))] _ _ _
      exact hs 8 _ rfl _ _ _ _ _ (rv _) (Nat.zero_le _) (Nat.zero_le _) (hP (by omega) _ f1_ f2_)
theorem sm_inv.cases {a m : Nat} {v : Int} (h : sm_inv a m v) : v = -8 ∨ (0 ≤ v ∧ v < m) := by
  rcases h with ⟨-, h1_⟩ | ⟨-, h1_, h2_, -⟩
  · exact Or.inl h1_
  · exact Or.inr ⟨h1_, h2_⟩
theorem zc_pw.cases {a m : Nat} {e v : Int} (h : zc_pw a m e v) : v = -8 ∨ (0 ≤ v ∧ v < m) := by
  rcases h with ⟨-, -, h1_⟩ | ⟨-, f_, h1_, -, -, h2_⟩
  · exact Or.inl h1_
  · have := Nat.mod_lt (f_ ^ e.natAbs) (show 0 < m by omega)
    exact Or.inr ⟨by omega, by omega⟩
set_option maxHeartbeats 4000000 in
theorem zc_roundInverse_M {l : Launch} {G : am_G} {X : ck_XT} (g : gM l G X) {x : Nat} {r : Nat → Nat} {jj mm kk : Int} {c : sp_S} {R : Nat → sp_S} {old cnt : Nat} {h : List am_C} (hX : zc_x G h x r jj mm kk c R old cnt) {e : Int} (he1 : -2147483648 ≤ e) (he2 : e ≤ 2147483647) {mc ms : Nat} {Post : am_O → List am_C → Prop} (hmc : 1 ≤ mc) (hms : 6 ≤ ms)
    (hJ : (0 ≤ e ∧ e < 6) → c.1 ≤ 0 → ∀ h', zc_fr G h h' x r → zc_x G h' x r (jj + 1) mm kk c R old cnt → Post (.inl (some (.int (Int32.ofInt (-9))))) h')
    (hM : (0 ≤ e ∧ e < 6) → 0 < c.1 → sm_inv (c.2.1.getD e.toNat 0 % c.1).toNat c.1.toNat (-8) → ∀ h', zc_fr G h h' x r → zc_x G h' x r jj (mm + 1) kk c R old cnt → Post (.inl (some (.int (Int32.ofInt (-8))))) h')
    (hP : (0 ≤ e ∧ e < 6) → 0 < c.1 → ∀ v : Int, sm_inv (c.2.1.getD e.toNat 0 % c.1).toNat c.1.toNat v → 0 ≤ v → v < c.1 → ∀ h', zc_fr G h h' x r → zc_X G h' x r jj mm kk (c.1, c.2.1.set e.toNat (v), c.2.2) (sp_keep (zc_l R old cnt) c) → Post (.inl (some (.int (Int32.ofInt v)))) h')
    (hX2 : ¬ (0 ≤ e ∧ e < 6) → Post (.inr "java/lang/IndexOutOfBoundsException") (h ++ [(99, [])])) :
    am_M l G yX10_roundInverse (.code yX10_roundInverse prog_1_method_12_code 2 (some .int)) 8 145 mc ms [.ref x, .int (Int32.ofInt e)] h Post := by
  refine gh_yX10_roundInverse_X g (Nat.le_of_ble_eq_true rfl) fun S SX hs hr hw hx => ?_
  have rv : ∀ x : Int32, ck_fv 0 (.int x) := fun x => ⟨_, rfl⟩
  have hx9_ := hX.2.2.2.2.2.2.2
  have hb_ := hX.2.2.1.1
  by_cases c1_ : 0 ≤ e ∧ e < 6
  rotate_left
  · 
    refine hs 0 _ rfl _ _ _ _ _ _ _ rfl ?_
    refine hs 1 _ rfl _ _ _ _ _ _ _ rfl ?_
    refine hs 2 _ rfl _ _ _ _ _ _ _ rfl ?_
    exact zw_cm (hs 3 _ rfl) (a := [.ref x, .int (Int32.ofInt e)]) (st := [.ref x]) 1 6 rfl rfl (Nat.le_of_ble_eq_true rfl) ⟨_, _, _, rfl, (hX.1), rfl⟩ (by omega) (by omega) (zc_numAtX_M g hX he1 he2 (by omega) (by decide) (by decide) (hx _ _ _ _ _ _ (by omega) (by omega) (hX2 c1_)))
  · have cc_ := c1_
    have hP := hP c1_
    have hJ_ := hJ cc_
    have hM_ := hM cc_
    by_cases c3_ : c.1 ≤ 0
    · 
      obtain ⟨i, rfl⟩ : ∃ i : Nat, e = (i : Int) := ⟨e.toNat, by omega⟩
      have hi : i < 6 := by omega
      refine hs 0 _ rfl _ _ _ _ _ _ _ rfl ?_
      refine hs 1 _ rfl _ _ _ _ _ _ _ rfl ?_
      refine hs 2 _ rfl _ _ _ _ _ _ _ rfl ?_
      refine zw_c (hs 3 _ rfl) (a := [.ref x, .int (Int32.ofInt (i : Int))]) (st := [.ref x]) rfl rfl (Nat.le_of_ble_eq_true rfl) ⟨_, _, _, rfl, hX.1, rfl⟩ (Nat.zero_le _) (Nat.zero_le _) (zc_numAt_M g hX (i := i) rfl hi ?_)
      show S 6 [some (.ref x), some (.int (Int32.ofInt (i : Int)))] [.ref (x + 1 + 5 + 2 * i), .ref x] _ _ _
      refine hs 4 _ rfl _ _ _ _ _ _ _ rfl ?_
      refine hs 5 _ rfl _ _ _ _ _ _ _ rfl ?_
      refine zw_c (hs 6 _ rfl) (a := [.ref x, .int (Int32.ofInt (i : Int))]) (st := [.ref (x + 1 + 5 + 2 * i), .ref x]) rfl rfl (Nat.le_of_ble_eq_true rfl) ⟨_, _, _, rfl, hX.1, rfl⟩ (Nat.zero_le _) (Nat.zero_le _) (zc_inv_M g hX (i := i) rfl hi (fun _ => ?_) (fun y_ => absurd y_ (by omega)))
      show S 11 [some (.ref x), some (.int (Int32.ofInt (i : Int)))] [.int (Int32.ofInt (-9 : Int)), .ref (x + 1 + 5 + 2 * i), .ref x] _ _ _
      refine zw_c (hs 7 _ rfl) (a := [.ref x, .ref (x + 1 + 5 + 2 * i), .int (Int32.ofInt (-9 : Int))]) (st := []) rfl rfl (Nat.le_of_ble_eq_true rfl) ⟨_, _, _, rfl, hX.1, rfl⟩ (Nat.zero_le _) (Nat.zero_le _) (zc_putRound_M g hX hi (Or.inl rfl) (by decide) (fun _ h9_ f1_ f2_ => ?_) (fun y_ => absurd y_ (by decide)) (fun y_ => absurd y_ (by decide)))
      show S 14 _ [.int (Int32.ofInt (-9 : Int))] _ _ _
      exact hs 8 _ rfl _ _ _ _ _ (rv _) (Nat.zero_le _) (Nat.zero_le _) (hJ_ c3_ _ f1_ f2_)
    · 
      obtain ⟨i, rfl⟩ : ∃ i : Nat, e = (i : Int) := ⟨e.toNat, by omega⟩
      have hi : i < 6 := by omega
      refine hs 0 _ rfl _ _ _ _ _ _ _ rfl ?_
      refine hs 1 _ rfl _ _ _ _ _ _ _ rfl ?_
      refine hs 2 _ rfl _ _ _ _ _ _ _ rfl ?_
      refine zw_c (hs 3 _ rfl) (a := [.ref x, .int (Int32.ofInt (i : Int))]) (st := [.ref x]) rfl rfl (Nat.le_of_ble_eq_true rfl) ⟨_, _, _, rfl, hX.1, rfl⟩ (Nat.zero_le _) (Nat.zero_le _) (zc_numAt_M g hX (i := i) rfl hi ?_)
      show S 6 [some (.ref x), some (.int (Int32.ofInt (i : Int)))] [.ref (x + 1 + 5 + 2 * i), .ref x] _ _ _
      refine hs 4 _ rfl _ _ _ _ _ _ _ rfl ?_
      refine hs 5 _ rfl _ _ _ _ _ _ _ rfl ?_
      refine zw_c (hs 6 _ rfl) (a := [.ref x, .int (Int32.ofInt (i : Int))]) (st := [.ref (x + 1 + 5 + 2 * i), .ref x]) rfl rfl (Nat.le_of_ble_eq_true rfl) ⟨_, _, _, rfl, hX.1, rfl⟩ (Nat.zero_le _) (Nat.zero_le _) (zc_inv_M g hX (i := i) rfl hi (fun y_ => absurd y_ (by omega)) (fun _ v_ hv_ => ?_))
      show S 11 [some (.ref x), some (.int (Int32.ofInt (i : Int)))] [.int (Int32.ofInt v_), .ref (x + 1 + 5 + 2 * i), .ref x] _ _ _
      rcases hv_.cases with vb_ | ⟨vb1_, vb2_⟩
      · subst vb_
        refine zw_c (hs 7 _ rfl) (a := [.ref x, .ref (x + 1 + 5 + 2 * i), .int (Int32.ofInt (-8 : Int))]) (st := []) rfl rfl (Nat.le_of_ble_eq_true rfl) ⟨_, _, _, rfl, hX.1, rfl⟩ (Nat.zero_le _) (Nat.zero_le _) (zc_putRound_M g hX hi (Or.inr (Or.inl rfl)) (by decide) (fun y_ => absurd y_ (by decide)) (fun _ h9_ f1_ f2_ => ?_) (fun y_ => absurd y_ (by decide)))
        show S 14 _ [.int (Int32.ofInt (-8 : Int))] _ _ _
        exact hs 8 _ rfl _ _ _ _ _ (rv _) (Nat.zero_le _) (Nat.zero_le _) (hM_ (by omega) hv_ _ f1_ f2_)
      · rw [show (c.1.toNat : Int) = c.1 by omega] at vb2_
        refine zw_c (hs 7 _ rfl) (a := [.ref x, .ref (x + 1 + 5 + 2 * i), .int (Int32.ofInt v_)]) (st := []) rfl rfl (Nat.le_of_ble_eq_true rfl) ⟨_, _, _, rfl, hX.1, rfl⟩ (Nat.zero_le _) (Nat.zero_le _) (zc_putRound_M g hX hi (Or.inr (Or.inr vb1_)) (by omega) (fun y_ => absurd y_ (by omega)) (fun y_ => absurd y_ (by omega)) (fun _ h9_ f1_ f2_ => ?_))
        show S 14 _ [.int (Int32.ofInt v_)] _ _ _
        exact hs 8 _ rfl _ _ _ _ _ (rv _) (Nat.zero_le _) (Nat.zero_le _) (hP (by omega) v_ hv_ vb1_ vb2_ _ f1_ f2_)
set_option maxHeartbeats 4000000 in
theorem zc_powX_M {l : Launch} {G : am_G} {X : ck_XT} (g : gM l G X) {x : Nat} {r : Nat → Nat} {jj mm kk : Int} {c : sp_S} {R : Nat → sp_S} {old cnt : Nat} {h : List am_C} (hX : zc_x G h x r jj mm kk c R old cnt) {i : Nat} {e : Int} (he : e = (i : Int)) (hi : i < 6) {e2 : Int} (hf1 : -2147483648 ≤ e2) (hf2 : e2 ≤ 2147483647) (hc : e2 < 0 ∨ 6 ≤ e2) {mc ms : Nat} {Post : am_O → List am_C → Prop} (hmc : 1 ≤ mc) (hms : 6 ≤ ms)
    (hX2 : Post (.inr "java/lang/IndexOutOfBoundsException") (h ++ [(99, [])])) :
    am_M l G yX10_power (.code yX10_power prog_1_method_29_code 5 (some .int)) 7 111 mc ms [.ref x, .int (Int32.ofInt e), .int (Int32.ofInt e2)] h Post := by
  refine gh_yX10_power_X g (Nat.le_of_ble_eq_true rfl) fun S SX hs hr hw hx => ?_
  have rv : ∀ x : Int32, ck_fv 0 (.int x) := fun x => ⟨_, rfl⟩
  subst he
  refine hs 0 _ rfl _ _ _ _ _ _ _ rfl ?_
  refine hs 1 _ rfl _ _ _ _ _ _ _ rfl ?_
  refine zw_c (hs 2 _ rfl) (a := [.ref x, .int (Int32.ofInt (i : Int))]) (st := []) rfl rfl (Nat.le_of_ble_eq_true rfl) ⟨_, _, _, rfl, hX.1, rfl⟩ (Nat.zero_le _) (Nat.zero_le _) (zc_numAt_M g hX (i := i) rfl hi ?_)
  show S 5 [some (.ref x), some (.int (Int32.ofInt (i : Int))), some (.int (Int32.ofInt e2)), none, none] [.ref (x + 1 + 5 + 2 * i)] _ _ _
  refine hs 3 _ rfl _ _ _ _ _ _ _ rfl ?_
  refine hs 4 _ rfl _ _ _ _ _ _ _ rfl ?_
  refine hs 5 _ rfl _ _ _ _ _ _ _ rfl ?_
  exact zw_cm (hs 6 _ rfl) (a := [.ref x, .int (Int32.ofInt e2)]) (st := []) 1 6 rfl rfl (Nat.le_of_ble_eq_true rfl) ⟨_, _, _, rfl, (hX.1), rfl⟩ (by omega) (by omega) (zc_numAtX_M g hX hf1 hf2 (by omega) (by decide) (by decide) (hx _ _ _ _ _ _ (by omega) (by omega) hX2))
set_option maxHeartbeats 4000000 in
theorem zc_roundPower_M {l : Launch} {G : am_G} {X : ck_XT} (g : gM l G X) {x : Nat} {r : Nat → Nat} {jj mm kk : Int} {c : sp_S} {R : Nat → sp_S} {old cnt : Nat} {h : List am_C} (hX : zc_x G h x r jj mm kk c R old cnt) {e : Int} (he1 : -2147483648 ≤ e) (he2 : e ≤ 2147483647) {e2 : Int} (hf1 : -2147483648 ≤ e2) (hf2 : e2 ≤ 2147483647) {mc ms : Nat} {Post : am_O → List am_C → Prop} (hmc : 1 ≤ mc) (hms : 6 ≤ ms)
    (hJ : (0 ≤ e ∧ e < 6 ∧ 0 ≤ e2 ∧ e2 < 6) → c.1 ≤ 0 → ∀ h', zc_fr G h h' x r → zc_x G h' x r (jj + 1) mm kk c R old cnt → Post (.inl (some (.int (Int32.ofInt (-9))))) h')
    (hM : (0 ≤ e ∧ e < 6 ∧ 0 ≤ e2 ∧ e2 < 6) → 0 < c.1 → zc_pw (c.2.1.getD e.toNat 0 % c.1).toNat c.1.toNat (c.2.1.getD e2.toNat 0) (-8) → ∀ h', zc_fr G h h' x r → zc_x G h' x r jj (mm + 1) kk c R old cnt → Post (.inl (some (.int (Int32.ofInt (-8))))) h')
    (hP : (0 ≤ e ∧ e < 6 ∧ 0 ≤ e2 ∧ e2 < 6) → 0 < c.1 → ∀ v : Int, zc_pw (c.2.1.getD e.toNat 0 % c.1).toNat c.1.toNat (c.2.1.getD e2.toNat 0) v → 0 ≤ v → v < c.1 → ∀ h', zc_fr G h h' x r → zc_X G h' x r jj mm kk (c.1, c.2.1.set e.toNat (v), c.2.2) (sp_keep (zc_l R old cnt) c) → Post (.inl (some (.int (Int32.ofInt v)))) h')
    (hX2 : ¬ (0 ≤ e ∧ e < 6 ∧ 0 ≤ e2 ∧ e2 < 6) → Post (.inr "java/lang/IndexOutOfBoundsException") (h ++ [(99, [])])) :
    am_M l G yX10_roundPower (.code yX10_roundPower prog_1_method_11_code 3 (some .int)) 8 145 mc ms [.ref x, .int (Int32.ofInt e), .int (Int32.ofInt e2)] h Post := by
  refine gh_yX10_roundPower_X g (Nat.le_of_ble_eq_true rfl) fun S SX hs hr hw hx => ?_
  have rv : ∀ x : Int32, ck_fv 0 (.int x) := fun x => ⟨_, rfl⟩
  have hx9_ := hX.2.2.2.2.2.2.2
  have hb_ := hX.2.2.1.1
  by_cases c1_ : 0 ≤ e ∧ e < 6
  rotate_left
  · 
    refine hs 0 _ rfl _ _ _ _ _ _ _ rfl ?_
    refine hs 1 _ rfl _ _ _ _ _ _ _ rfl ?_
    refine hs 2 _ rfl _ _ _ _ _ _ _ rfl ?_
    exact zw_cm (hs 3 _ rfl) (a := [.ref x, .int (Int32.ofInt e)]) (st := [.ref x]) 1 6 rfl rfl (Nat.le_of_ble_eq_true rfl) ⟨_, _, _, rfl, (hX.1), rfl⟩ (by omega) (by omega) (zc_numAtX_M g hX he1 he2 (by omega) (by decide) (by decide) (hx _ _ _ _ _ _ (by omega) (by omega) (hX2 (fun y_ => c1_ ⟨y_.1, y_.2.1⟩))))
  · by_cases c2_ : 0 ≤ e2 ∧ e2 < 6
    rotate_left
    · 
      obtain ⟨i, rfl⟩ : ∃ i : Nat, e = (i : Int) := ⟨e.toNat, by omega⟩
      have hi : i < 6 := by omega
      refine hs 0 _ rfl _ _ _ _ _ _ _ rfl ?_
      refine hs 1 _ rfl _ _ _ _ _ _ _ rfl ?_
      refine hs 2 _ rfl _ _ _ _ _ _ _ rfl ?_
      refine zw_c (hs 3 _ rfl) (a := [.ref x, .int (Int32.ofInt (i : Int))]) (st := [.ref x]) rfl rfl (Nat.le_of_ble_eq_true rfl) ⟨_, _, _, rfl, hX.1, rfl⟩ (Nat.zero_le _) (Nat.zero_le _) (zc_numAt_M g hX (i := i) rfl hi ?_)
      show S 6 [some (.ref x), some (.int (Int32.ofInt (i : Int))), some (.int (Int32.ofInt e2))] [.ref (x + 1 + 5 + 2 * i), .ref x] _ _ _
      refine hs 4 _ rfl _ _ _ _ _ _ _ rfl ?_
      refine hs 5 _ rfl _ _ _ _ _ _ _ rfl ?_
      refine hs 6 _ rfl _ _ _ _ _ _ _ rfl ?_
      exact zw_cm (hs 7 _ rfl) (a := [.ref x, .int (Int32.ofInt (i : Int)), .int (Int32.ofInt e2)]) (st := [.ref (x + 1 + 5 + 2 * i), .ref x]) 1 6 rfl rfl (Nat.le_of_ble_eq_true rfl) ⟨_, _, _, rfl, (hX.1), rfl⟩ (by omega) (by omega) (zc_powX_M g hX (i := i) rfl hi hf1 hf2 (by omega) (by decide) (by decide) (hx _ _ _ _ _ _ (by omega) (by omega) (hX2 (fun y_ => c2_ y_.2.2))))
    have cc_ : 0 ≤ e ∧ e < 6 ∧ 0 ≤ e2 ∧ e2 < 6 := ⟨c1_.1, c1_.2, c2_⟩
    have hP := hP cc_
    have hJ_ := hJ cc_
    have hM_ := hM cc_
    by_cases c3_ : c.1 ≤ 0
    · 
      obtain ⟨i, rfl⟩ : ∃ i : Nat, e = (i : Int) := ⟨e.toNat, by omega⟩
      have hi : i < 6 := by omega
      obtain ⟨i2, rfl⟩ : ∃ i2 : Nat, e2 = (i2 : Int) := ⟨e2.toNat, by omega⟩
      have hi2 : i2 < 6 := by omega
      refine hs 0 _ rfl _ _ _ _ _ _ _ rfl ?_
      refine hs 1 _ rfl _ _ _ _ _ _ _ rfl ?_
      refine hs 2 _ rfl _ _ _ _ _ _ _ rfl ?_
      refine zw_c (hs 3 _ rfl) (a := [.ref x, .int (Int32.ofInt (i : Int))]) (st := [.ref x]) rfl rfl (Nat.le_of_ble_eq_true rfl) ⟨_, _, _, rfl, hX.1, rfl⟩ (Nat.zero_le _) (Nat.zero_le _) (zc_numAt_M g hX (i := i) rfl hi ?_)
      show S 6 [some (.ref x), some (.int (Int32.ofInt (i : Int))), some (.int (Int32.ofInt (i2 : Int)))] [.ref (x + 1 + 5 + 2 * i), .ref x] _ _ _
      refine hs 4 _ rfl _ _ _ _ _ _ _ rfl ?_
      refine hs 5 _ rfl _ _ _ _ _ _ _ rfl ?_
      refine hs 6 _ rfl _ _ _ _ _ _ _ rfl ?_
      refine zw_c (hs 7 _ rfl) (a := [.ref x, .int (Int32.ofInt (i : Int)), .int (Int32.ofInt (i2 : Int))]) (st := [.ref (x + 1 + 5 + 2 * i), .ref x]) rfl rfl (Nat.le_of_ble_eq_true rfl) ⟨_, _, _, rfl, hX.1, rfl⟩ (Nat.zero_le _) (Nat.zero_le _) (zc_pow_M g hX (i := i) rfl hi (i2 := i2) rfl hi2 (fun _ => ?_) (fun y_ => absurd y_ (by omega)))
      show S 12 [some (.ref x), some (.int (Int32.ofInt (i : Int))), some (.int (Int32.ofInt (i2 : Int)))] [.int (Int32.ofInt (-9 : Int)), .ref (x + 1 + 5 + 2 * i), .ref x] _ _ _
      refine zw_c (hs 8 _ rfl) (a := [.ref x, .ref (x + 1 + 5 + 2 * i), .int (Int32.ofInt (-9 : Int))]) (st := []) rfl rfl (Nat.le_of_ble_eq_true rfl) ⟨_, _, _, rfl, hX.1, rfl⟩ (Nat.zero_le _) (Nat.zero_le _) (zc_putRound_M g hX hi (Or.inl rfl) (by decide) (fun _ h9_ f1_ f2_ => ?_) (fun y_ => absurd y_ (by decide)) (fun y_ => absurd y_ (by decide)))
      show S 15 _ [.int (Int32.ofInt (-9 : Int))] _ _ _
      exact hs 9 _ rfl _ _ _ _ _ (rv _) (Nat.zero_le _) (Nat.zero_le _) (hJ_ c3_ _ f1_ f2_)
    · 
      obtain ⟨i, rfl⟩ : ∃ i : Nat, e = (i : Int) := ⟨e.toNat, by omega⟩
      have hi : i < 6 := by omega
      obtain ⟨i2, rfl⟩ : ∃ i2 : Nat, e2 = (i2 : Int) := ⟨e2.toNat, by omega⟩
      have hi2 : i2 < 6 := by omega
      refine hs 0 _ rfl _ _ _ _ _ _ _ rfl ?_
      refine hs 1 _ rfl _ _ _ _ _ _ _ rfl ?_
      refine hs 2 _ rfl _ _ _ _ _ _ _ rfl ?_
      refine zw_c (hs 3 _ rfl) (a := [.ref x, .int (Int32.ofInt (i : Int))]) (st := [.ref x]) rfl rfl (Nat.le_of_ble_eq_true rfl) ⟨_, _, _, rfl, hX.1, rfl⟩ (Nat.zero_le _) (Nat.zero_le _) (zc_numAt_M g hX (i := i) rfl hi ?_)
      show S 6 [some (.ref x), some (.int (Int32.ofInt (i : Int))), some (.int (Int32.ofInt (i2 : Int)))] [.ref (x + 1 + 5 + 2 * i), .ref x] _ _ _
      refine hs 4 _ rfl _ _ _ _ _ _ _ rfl ?_
      refine hs 5 _ rfl _ _ _ _ _ _ _ rfl ?_
      refine hs 6 _ rfl _ _ _ _ _ _ _ rfl ?_
      refine zw_c (hs 7 _ rfl) (a := [.ref x, .int (Int32.ofInt (i : Int)), .int (Int32.ofInt (i2 : Int))]) (st := [.ref (x + 1 + 5 + 2 * i), .ref x]) rfl rfl (Nat.le_of_ble_eq_true rfl) ⟨_, _, _, rfl, hX.1, rfl⟩ (Nat.zero_le _) (Nat.zero_le _) (zc_pow_M g hX (i := i) rfl hi (i2 := i2) rfl hi2 (fun y_ => absurd y_ (by omega)) (fun _ v_ hv_ => ?_))
      show S 12 [some (.ref x), some (.int (Int32.ofInt (i : Int))), some (.int (Int32.ofInt (i2 : Int)))] [.int (Int32.ofInt v_), .ref (x + 1 + 5 + 2 * i), .ref x] _ _ _
      rcases hv_.cases with vb_ | ⟨vb1_, vb2_⟩
      · subst vb_
        refine zw_c (hs 8 _ rfl) (a := [.ref x, .ref (x + 1 + 5 + 2 * i), .int (Int32.ofInt (-8 : Int))]) (st := []) rfl rfl (Nat.le_of_ble_eq_true rfl) ⟨_, _, _, rfl, hX.1, rfl⟩ (Nat.zero_le _) (Nat.zero_le _) (zc_putRound_M g hX hi (Or.inr (Or.inl rfl)) (by decide) (fun y_ => absurd y_ (by decide)) (fun _ h9_ f1_ f2_ => ?_) (fun y_ => absurd y_ (by decide)))
        show S 15 _ [.int (Int32.ofInt (-8 : Int))] _ _ _
        exact hs 9 _ rfl _ _ _ _ _ (rv _) (Nat.zero_le _) (Nat.zero_le _) (hM_ (by omega) hv_ _ f1_ f2_)
      · rw [show (c.1.toNat : Int) = c.1 by omega] at vb2_
        refine zw_c (hs 8 _ rfl) (a := [.ref x, .ref (x + 1 + 5 + 2 * i), .int (Int32.ofInt v_)]) (st := []) rfl rfl (Nat.le_of_ble_eq_true rfl) ⟨_, _, _, rfl, hX.1, rfl⟩ (Nat.zero_le _) (Nat.zero_le _) (zc_putRound_M g hX hi (Or.inr (Or.inr vb1_)) (by omega) (fun y_ => absurd y_ (by omega)) (fun y_ => absurd y_ (by omega)) (fun _ h9_ f1_ f2_ => ?_))
        show S 15 _ [.int (Int32.ofInt v_)] _ _ _
        exact hs 9 _ rfl _ _ _ _ _ (rv _) (Nat.zero_le _) (Nat.zero_le _) (hP (by omega) v_ hv_ vb1_ vb2_ _ f1_ f2_)
set_option maxHeartbeats 4000000 in
theorem zc_roundPlus_M {l : Launch} {G : am_G} {X : ck_XT} (g : gM l G X) {x : Nat} {r : Nat → Nat} {jj mm kk : Int} {c : sp_S} {R : Nat → sp_S} {old cnt : Nat} {h : List am_C} (hX : zc_x G h x r jj mm kk c R old cnt) {e : Int} (he1 : -2147483648 ≤ e) (he2 : e ≤ 2147483647) {e2 : Int} (hf1 : -2147483648 ≤ e2) (hf2 : e2 ≤ 2147483647) {mc ms : Nat} {Post : am_O → List am_C → Prop} (hmc : 1 ≤ mc) (hms : 6 ≤ ms)
    (hJ : (0 ≤ e ∧ e < 6 ∧ 0 ≤ e2 ∧ e2 < 6) → c.1 ≤ 0 → ∀ h', zc_fr G h h' x r → zc_x G h' x r (jj + 1) mm kk c R old cnt → Post (.inl (some (.int (Int32.ofInt (-9))))) h')
    (hP : (0 ≤ e ∧ e < 6 ∧ 0 ≤ e2 ∧ e2 < 6) → 0 < c.1 → ∀ h', zc_fr G h h' x r → zc_X G h' x r jj mm kk (c.1, c.2.1.set e.toNat (((c.2.1.getD e.toNat 0 % c.1) + (c.2.1.getD e2.toNat 0 % c.1)) % c.1), c.2.2) (sp_keep (zc_l R old cnt) c) → Post (.inl (some (.int (Int32.ofInt (((c.2.1.getD e.toNat 0 % c.1) + (c.2.1.getD e2.toNat 0 % c.1)) % c.1))))) h')
    (hX2 : ¬ (0 ≤ e ∧ e < 6 ∧ 0 ≤ e2 ∧ e2 < 6) → Post (.inr "java/lang/IndexOutOfBoundsException") (h ++ [(99, [])])) :
    am_M l G yX10_roundPlus (.code yX10_roundPlus prog_1_method_9_code 6 (some .int)) 7 145 mc ms [.ref x, .int (Int32.ofInt e), .int (Int32.ofInt e2)] h Post := by
  refine gh_yX10_roundPlus_X g (Nat.le_of_ble_eq_true rfl) fun S SX hs hr hw hx => ?_
  have rv : ∀ x : Int32, ck_fv 0 (.int x) := fun x => ⟨_, rfl⟩
  have hx9_ := hX.2.2.2.2.2.2.2
  have hb_ := hX.2.2.1.1
  by_cases c1_ : 0 ≤ e ∧ e < 6
  rotate_left
  · 
    refine hs 0 _ rfl _ _ _ _ _ _ _ rfl ?_
    refine hs 1 _ rfl _ _ _ _ _ _ _ rfl ?_
    exact zw_cm (hs 2 _ rfl) (a := [.ref x, .int (Int32.ofInt e)]) (st := []) 1 6 rfl rfl (Nat.le_of_ble_eq_true rfl) ⟨_, _, _, rfl, (hX.1), rfl⟩ (by omega) (by omega) (zc_numAtX_M g hX he1 he2 (by omega) (by decide) (by decide) (hx _ _ _ _ _ _ (by omega) (by omega) (hX2 (fun y_ => c1_ ⟨y_.1, y_.2.1⟩))))
  · by_cases c2_ : 0 ≤ e2 ∧ e2 < 6
    rotate_left
    · 
      obtain ⟨i, rfl⟩ : ∃ i : Nat, e = (i : Int) := ⟨e.toNat, by omega⟩
      have hi : i < 6 := by omega
      refine hs 0 _ rfl _ _ _ _ _ _ _ rfl ?_
      refine hs 1 _ rfl _ _ _ _ _ _ _ rfl ?_
      refine zw_c (hs 2 _ rfl) (a := [.ref x, .int (Int32.ofInt (i : Int))]) (st := []) rfl rfl (Nat.le_of_ble_eq_true rfl) ⟨_, _, _, rfl, hX.1, rfl⟩ (Nat.zero_le _) (Nat.zero_le _) (zc_numAt_M g hX (i := i) rfl hi ?_)
      show S 5 [some (.ref x), some (.int (Int32.ofInt (i : Int))), some (.int (Int32.ofInt e2)), none, none, none] [.ref (x + 1 + 5 + 2 * i)] _ _ _
      refine hs 3 _ rfl _ _ _ _ _ _ _ rfl ?_
      refine hs 4 _ rfl _ _ _ _ _ _ _ rfl ?_
      refine hs 5 _ rfl _ _ _ _ _ _ _ rfl ?_
      exact zw_cm (hs 6 _ rfl) (a := [.ref x, .int (Int32.ofInt e2)]) (st := []) 1 6 rfl rfl (Nat.le_of_ble_eq_true rfl) ⟨_, _, _, rfl, (hX.1), rfl⟩ (by omega) (by omega) (zc_numAtX_M g hX hf1 hf2 (by omega) (by decide) (by decide) (hx _ _ _ _ _ _ (by omega) (by omega) (hX2 (fun y_ => c2_ y_.2.2))))
    have cc_ : 0 ≤ e ∧ e < 6 ∧ 0 ≤ e2 ∧ e2 < 6 := ⟨c1_.1, c1_.2, c2_⟩
    have hP := hP cc_
    have hJ_ := hJ cc_
    by_cases c3_ : c.1 ≤ 0
    · 
      obtain ⟨i, rfl⟩ : ∃ i : Nat, e = (i : Int) := ⟨e.toNat, by omega⟩
      have hi : i < 6 := by omega
      obtain ⟨i2, rfl⟩ : ∃ i2 : Nat, e2 = (i2 : Int) := ⟨e2.toNat, by omega⟩
      have hi2 : i2 < 6 := by omega
      refine hs 0 _ rfl _ _ _ _ _ _ _ rfl ?_
      refine hs 1 _ rfl _ _ _ _ _ _ _ rfl ?_
      refine zw_c (hs 2 _ rfl) (a := [.ref x, .int (Int32.ofInt (i : Int))]) (st := []) rfl rfl (Nat.le_of_ble_eq_true rfl) ⟨_, _, _, rfl, hX.1, rfl⟩ (Nat.zero_le _) (Nat.zero_le _) (zc_numAt_M g hX (i := i) rfl hi ?_)
      show S 5 [some (.ref x), some (.int (Int32.ofInt (i : Int))), some (.int (Int32.ofInt (i2 : Int))), none, none, none] [.ref (x + 1 + 5 + 2 * i)] _ _ _
      refine hs 3 _ rfl _ _ _ _ _ _ _ rfl ?_
      refine hs 4 _ rfl _ _ _ _ _ _ _ rfl ?_
      refine hs 5 _ rfl _ _ _ _ _ _ _ rfl ?_
      refine zw_c (hs 6 _ rfl) (a := [.ref x, .int (Int32.ofInt (i2 : Int))]) (st := []) rfl rfl (Nat.le_of_ble_eq_true rfl) ⟨_, _, _, rfl, hX.1, rfl⟩ (Nat.zero_le _) (Nat.zero_le _) (zc_numAt_M g hX (i := i2) rfl hi2 ?_)
      show S 11 [some (.ref x), some (.int (Int32.ofInt (i : Int))), some (.int (Int32.ofInt (i2 : Int))), some (.ref (x + 1 + 5 + 2 * i)), none, none] [.ref (x + 1 + 5 + 2 * i2)] _ _ _
      refine hs 7 _ rfl _ _ _ _ _ _ _ rfl ?_
      refine hs 8 _ rfl _ _ _ _ _ _ _ rfl ?_
      refine hs 9 _ rfl _ _ _ _ _ _ _ _ _ (hX.1) rfl rfl ?_
      refine hs 10 _ rfl _ _ _ _ _ _ _ _ _ (hX.2.1.d) rfl rfl ?_
      refine hs 11 _ rfl _ _ _ _ _ _ _ rfl ?_
      refine hs 12 _ rfl _ _ _ _ _ _ _ rfl ?_
      refine hs 13 _ rfl _ _ _ _ _ _ _ rfl ?_
      refine hs 14 _ rfl _ _ _ _ _ _ _ rfl ?_
      refine hs 15 _ rfl _ _ _ _ _ _ (fun zq => absurd (hd_c1z (c := 4) (by omega) (by omega) zq) (by omega : ¬ (0 < c.1))) (fun _ => ?_)
      refine hs 16 _ rfl _ _ _ _ _ _ _ rfl ?_
      refine hs 17 _ rfl _ _ _ _ _ ?_
      refine zw_c (hs 27 _ rfl) (a := [.ref x, .ref (x + 1 + 5 + 2 * i), .int (Int32.ofInt (-9 : Int))]) (st := []) rfl rfl (Nat.le_of_ble_eq_true rfl) ⟨_, _, _, rfl, hX.1, rfl⟩ (Nat.zero_le _) (Nat.zero_le _) (zc_putRound_M g hX hi (Or.inl rfl) (by decide) (fun _ h9_ f1_ f2_ => ?_) (fun y_ => absurd y_ (by decide)) (fun y_ => absurd y_ (by decide)))
      show S 54 _ [.int (Int32.ofInt (-9 : Int))] _ _ _
      exact hs 28 _ rfl _ _ _ _ _ (rv _) (Nat.zero_le _) (Nat.zero_le _) (hJ_ c3_ _ f1_ f2_)
    · 
      obtain ⟨i, rfl⟩ : ∃ i : Nat, e = (i : Int) := ⟨e.toNat, by omega⟩
      have hi : i < 6 := by omega
      obtain ⟨i2, rfl⟩ : ∃ i2 : Nat, e2 = (i2 : Int) := ⟨e2.toNat, by omega⟩
      have hi2 : i2 < 6 := by omega
      obtain ⟨ny_, sy_, ly_, y1_, y2_, y3_⟩ := hX.2.1.n hi
      obtain ⟨nv_, sv_, lv_, v1_, v2_, v3_⟩ := hX.2.1.n hi2
      have r1_ := Int.emod_nonneg (c.2.1.getD i 0) (b := c.1) (by omega)
      have r2_ := Int.emod_lt_of_pos (c.2.1.getD i 0) (b := c.1) (by omega)
      have s1_ := Int.emod_nonneg (c.2.1.getD i2 0) (b := c.1) (by omega)
      have s2_ := Int.emod_lt_of_pos (c.2.1.getD i2 0) (b := c.1) (by omega)
      have u1_ : 0 ≤ (c.2.1.getD i 0 % c.1) + (c.2.1.getD i2 0 % c.1) ∧ (c.2.1.getD i 0 % c.1) + (c.2.1.getD i2 0 % c.1) ≤ 400 * 400 := ⟨by omega, by omega⟩
      have t1_ := Int.emod_nonneg ((c.2.1.getD i 0 % c.1) + (c.2.1.getD i2 0 % c.1)) (b := c.1) (by omega)
      have t2_ := Int.emod_lt_of_pos ((c.2.1.getD i 0 % c.1) + (c.2.1.getD i2 0 % c.1)) (b := c.1) (by omega)
      refine hs 0 _ rfl _ _ _ _ _ _ _ rfl ?_
      refine hs 1 _ rfl _ _ _ _ _ _ _ rfl ?_
      refine zw_c (hs 2 _ rfl) (a := [.ref x, .int (Int32.ofInt (i : Int))]) (st := []) rfl rfl (Nat.le_of_ble_eq_true rfl) ⟨_, _, _, rfl, hX.1, rfl⟩ (Nat.zero_le _) (Nat.zero_le _) (zc_numAt_M g hX (i := i) rfl hi ?_)
      show S 5 [some (.ref x), some (.int (Int32.ofInt (i : Int))), some (.int (Int32.ofInt (i2 : Int))), none, none, none] [.ref (x + 1 + 5 + 2 * i)] _ _ _
      refine hs 3 _ rfl _ _ _ _ _ _ _ rfl ?_
      refine hs 4 _ rfl _ _ _ _ _ _ _ rfl ?_
      refine hs 5 _ rfl _ _ _ _ _ _ _ rfl ?_
      refine zw_c (hs 6 _ rfl) (a := [.ref x, .int (Int32.ofInt (i2 : Int))]) (st := []) rfl rfl (Nat.le_of_ble_eq_true rfl) ⟨_, _, _, rfl, hX.1, rfl⟩ (Nat.zero_le _) (Nat.zero_le _) (zc_numAt_M g hX (i := i2) rfl hi2 ?_)
      show S 11 [some (.ref x), some (.int (Int32.ofInt (i : Int))), some (.int (Int32.ofInt (i2 : Int))), some (.ref (x + 1 + 5 + 2 * i)), none, none] [.ref (x + 1 + 5 + 2 * i2)] _ _ _
      refine hs 7 _ rfl _ _ _ _ _ _ _ rfl ?_
      refine hs 8 _ rfl _ _ _ _ _ _ _ rfl ?_
      refine hs 9 _ rfl _ _ _ _ _ _ _ _ _ (hX.1) rfl rfl ?_
      refine hs 10 _ rfl _ _ _ _ _ _ _ _ _ (hX.2.1.d) rfl rfl ?_
      refine hs 11 _ rfl _ _ _ _ _ _ _ rfl ?_
      refine hs 12 _ rfl _ _ _ _ _ _ _ rfl ?_
      refine hs 13 _ rfl _ _ _ _ _ _ _ rfl ?_
      refine hs 14 _ rfl _ _ _ _ _ _ _ rfl ?_
      refine hs 15 _ rfl _ _ _ _ _ _ (fun _ => ?_) (fun zq => absurd (hd_c1t (c := 4) (by omega) (by omega) (by omega : 0 < c.1)) zq)
      refine hs 18 _ rfl _ _ _ _ _ _ _ rfl ?_
      refine hs 19 _ rfl _ _ _ _ _ _ _ rfl ?_
      refine zw_c (hs 20 _ rfl) (a := [.ref (x + 1 + 5 + 2 * i), .int (Int32.ofInt c.1)]) (st := [.ref (x + 1 + 5 + 2 * i), .ref x]) rfl rfl (Nat.le_of_ble_eq_true rfl) ⟨_, _, _, rfl, y1_, rfl⟩ (Nat.zero_le _) (Nat.zero_le _) (sb_restE_M g y1_ rfl y2_ rfl y3_ (by omega) (by omega) ?_)
      show S 40 [some (.ref x), some (.int (Int32.ofInt (i : Int))), some (.int (Int32.ofInt (i2 : Int))), some (.ref (x + 1 + 5 + 2 * i)), some (.ref (x + 1 + 5 + 2 * i2)), some (.int (Int32.ofInt c.1))] [.int (Int32.ofInt (c.2.1.getD i 0 % c.1)), .ref (x + 1 + 5 + 2 * i), .ref x] _ _ _
      refine hs 21 _ rfl _ _ _ _ _ _ _ rfl ?_
      refine hs 22 _ rfl _ _ _ _ _ _ _ rfl ?_
      refine zw_c (hs 23 _ rfl) (a := [.ref (x + 1 + 5 + 2 * i2), .int (Int32.ofInt c.1)]) (st := [.int (Int32.ofInt (c.2.1.getD i 0 % c.1)), .ref (x + 1 + 5 + 2 * i), .ref x]) rfl rfl (Nat.le_of_ble_eq_true rfl) ⟨_, _, _, rfl, v1_, rfl⟩ (Nat.zero_le _) (Nat.zero_le _) (sb_restE_M g v1_ rfl v2_ rfl v3_ (by omega) (by omega) ?_)
      show S 47 [some (.ref x), some (.int (Int32.ofInt (i : Int))), some (.int (Int32.ofInt (i2 : Int))), some (.ref (x + 1 + 5 + 2 * i)), some (.ref (x + 1 + 5 + 2 * i2)), some (.int (Int32.ofInt c.1))] [.int (Int32.ofInt (c.2.1.getD i2 0 % c.1)), .int (Int32.ofInt (c.2.1.getD i 0 % c.1)), .ref (x + 1 + 5 + 2 * i), .ref x] _ _ _
      refine hs 24 _ rfl _ _ _ _ _ _ _ hd_add ?_
      refine hs 25 _ rfl _ _ _ _ _ _ _ rfl ?_
      refine hs 26 _ rfl _ _ _ _ _ _ _ (hd_rem (by omega) (by omega) (by omega) (by omega)) ?_
      refine zw_c (hs 27 _ rfl) (a := [.ref x, .ref (x + 1 + 5 + 2 * i), .int (Int32.ofInt (((c.2.1.getD i 0 % c.1) + (c.2.1.getD i2 0 % c.1)) % c.1))]) (st := []) rfl rfl (Nat.le_of_ble_eq_true rfl) ⟨_, _, _, rfl, hX.1, rfl⟩ (Nat.zero_le _) (Nat.zero_le _) (zc_putRound_M g hX hi (Or.inr (Or.inr t1_)) (by omega) (fun y_ => absurd y_ (by omega)) (fun y_ => absurd y_ (by omega)) (fun _ h9_ f1_ f2_ => ?_))
      show S 54 _ [.int (Int32.ofInt (((c.2.1.getD i 0 % c.1) + (c.2.1.getD i2 0 % c.1)) % c.1))] _ _ _
      exact hs 28 _ rfl _ _ _ _ _ (rv _) (Nat.zero_le _) (Nat.zero_le _) (hP (by omega) _ f1_ f2_)
set_option maxHeartbeats 4000000 in
theorem zc_roundTimes_M {l : Launch} {G : am_G} {X : ck_XT} (g : gM l G X) {x : Nat} {r : Nat → Nat} {jj mm kk : Int} {c : sp_S} {R : Nat → sp_S} {old cnt : Nat} {h : List am_C} (hX : zc_x G h x r jj mm kk c R old cnt) {e : Int} (he1 : -2147483648 ≤ e) (he2 : e ≤ 2147483647) {e2 : Int} (hf1 : -2147483648 ≤ e2) (hf2 : e2 ≤ 2147483647) {mc ms : Nat} {Post : am_O → List am_C → Prop} (hmc : 1 ≤ mc) (hms : 6 ≤ ms)
    (hJ : (0 ≤ e ∧ e < 6 ∧ 0 ≤ e2 ∧ e2 < 6) → c.1 ≤ 0 → ∀ h', zc_fr G h h' x r → zc_x G h' x r (jj + 1) mm kk c R old cnt → Post (.inl (some (.int (Int32.ofInt (-9))))) h')
    (hP : (0 ≤ e ∧ e < 6 ∧ 0 ≤ e2 ∧ e2 < 6) → 0 < c.1 → ∀ h', zc_fr G h h' x r → zc_X G h' x r jj mm kk (c.1, c.2.1.set e.toNat (((c.2.1.getD e.toNat 0 % c.1) * (c.2.1.getD e2.toNat 0 % c.1)) % c.1), c.2.2) (sp_keep (zc_l R old cnt) c) → Post (.inl (some (.int (Int32.ofInt (((c.2.1.getD e.toNat 0 % c.1) * (c.2.1.getD e2.toNat 0 % c.1)) % c.1))))) h')
    (hX2 : ¬ (0 ≤ e ∧ e < 6 ∧ 0 ≤ e2 ∧ e2 < 6) → Post (.inr "java/lang/IndexOutOfBoundsException") (h ++ [(99, [])])) :
    am_M l G yX10_roundTimes (.code yX10_roundTimes prog_1_method_10_code 6 (some .int)) 7 145 mc ms [.ref x, .int (Int32.ofInt e), .int (Int32.ofInt e2)] h Post := by
  refine gh_yX10_roundTimes_X g (Nat.le_of_ble_eq_true rfl) fun S SX hs hr hw hx => ?_
  have rv : ∀ x : Int32, ck_fv 0 (.int x) := fun x => ⟨_, rfl⟩
  have hx9_ := hX.2.2.2.2.2.2.2
  have hb_ := hX.2.2.1.1
  by_cases c1_ : 0 ≤ e ∧ e < 6
  rotate_left
  · 
    refine hs 0 _ rfl _ _ _ _ _ _ _ rfl ?_
    refine hs 1 _ rfl _ _ _ _ _ _ _ rfl ?_
    exact zw_cm (hs 2 _ rfl) (a := [.ref x, .int (Int32.ofInt e)]) (st := []) 1 6 rfl rfl (Nat.le_of_ble_eq_true rfl) ⟨_, _, _, rfl, (hX.1), rfl⟩ (by omega) (by omega) (zc_numAtX_M g hX he1 he2 (by omega) (by decide) (by decide) (hx _ _ _ _ _ _ (by omega) (by omega) (hX2 (fun y_ => c1_ ⟨y_.1, y_.2.1⟩))))
  · by_cases c2_ : 0 ≤ e2 ∧ e2 < 6
    rotate_left
    · 
      obtain ⟨i, rfl⟩ : ∃ i : Nat, e = (i : Int) := ⟨e.toNat, by omega⟩
      have hi : i < 6 := by omega
      refine hs 0 _ rfl _ _ _ _ _ _ _ rfl ?_
      refine hs 1 _ rfl _ _ _ _ _ _ _ rfl ?_
      refine zw_c (hs 2 _ rfl) (a := [.ref x, .int (Int32.ofInt (i : Int))]) (st := []) rfl rfl (Nat.le_of_ble_eq_true rfl) ⟨_, _, _, rfl, hX.1, rfl⟩ (Nat.zero_le _) (Nat.zero_le _) (zc_numAt_M g hX (i := i) rfl hi ?_)
      show S 5 [some (.ref x), some (.int (Int32.ofInt (i : Int))), some (.int (Int32.ofInt e2)), none, none, none] [.ref (x + 1 + 5 + 2 * i)] _ _ _
      refine hs 3 _ rfl _ _ _ _ _ _ _ rfl ?_
      refine hs 4 _ rfl _ _ _ _ _ _ _ rfl ?_
      refine hs 5 _ rfl _ _ _ _ _ _ _ rfl ?_
      exact zw_cm (hs 6 _ rfl) (a := [.ref x, .int (Int32.ofInt e2)]) (st := []) 1 6 rfl rfl (Nat.le_of_ble_eq_true rfl) ⟨_, _, _, rfl, (hX.1), rfl⟩ (by omega) (by omega) (zc_numAtX_M g hX hf1 hf2 (by omega) (by decide) (by decide) (hx _ _ _ _ _ _ (by omega) (by omega) (hX2 (fun y_ => c2_ y_.2.2))))
    have cc_ : 0 ≤ e ∧ e < 6 ∧ 0 ≤ e2 ∧ e2 < 6 := ⟨c1_.1, c1_.2, c2_⟩
    have hP := hP cc_
    have hJ_ := hJ cc_
    by_cases c3_ : c.1 ≤ 0
    · 
      obtain ⟨i, rfl⟩ : ∃ i : Nat, e = (i : Int) := ⟨e.toNat, by omega⟩
      have hi : i < 6 := by omega
      obtain ⟨i2, rfl⟩ : ∃ i2 : Nat, e2 = (i2 : Int) := ⟨e2.toNat, by omega⟩
      have hi2 : i2 < 6 := by omega
      refine hs 0 _ rfl _ _ _ _ _ _ _ rfl ?_
      refine hs 1 _ rfl _ _ _ _ _ _ _ rfl ?_
      refine zw_c (hs 2 _ rfl) (a := [.ref x, .int (Int32.ofInt (i : Int))]) (st := []) rfl rfl (Nat.le_of_ble_eq_true rfl) ⟨_, _, _, rfl, hX.1, rfl⟩ (Nat.zero_le _) (Nat.zero_le _) (zc_numAt_M g hX (i := i) rfl hi ?_)
      show S 5 [some (.ref x), some (.int (Int32.ofInt (i : Int))), some (.int (Int32.ofInt (i2 : Int))), none, none, none] [.ref (x + 1 + 5 + 2 * i)] _ _ _
      refine hs 3 _ rfl _ _ _ _ _ _ _ rfl ?_
      refine hs 4 _ rfl _ _ _ _ _ _ _ rfl ?_
      refine hs 5 _ rfl _ _ _ _ _ _ _ rfl ?_
      refine zw_c (hs 6 _ rfl) (a := [.ref x, .int (Int32.ofInt (i2 : Int))]) (st := []) rfl rfl (Nat.le_of_ble_eq_true rfl) ⟨_, _, _, rfl, hX.1, rfl⟩ (Nat.zero_le _) (Nat.zero_le _) (zc_numAt_M g hX (i := i2) rfl hi2 ?_)
      show S 11 [some (.ref x), some (.int (Int32.ofInt (i : Int))), some (.int (Int32.ofInt (i2 : Int))), some (.ref (x + 1 + 5 + 2 * i)), none, none] [.ref (x + 1 + 5 + 2 * i2)] _ _ _
      refine hs 7 _ rfl _ _ _ _ _ _ _ rfl ?_
      refine hs 8 _ rfl _ _ _ _ _ _ _ rfl ?_
      refine hs 9 _ rfl _ _ _ _ _ _ _ _ _ (hX.1) rfl rfl ?_
      refine hs 10 _ rfl _ _ _ _ _ _ _ _ _ (hX.2.1.d) rfl rfl ?_
      refine hs 11 _ rfl _ _ _ _ _ _ _ rfl ?_
      refine hs 12 _ rfl _ _ _ _ _ _ _ rfl ?_
      refine hs 13 _ rfl _ _ _ _ _ _ _ rfl ?_
      refine hs 14 _ rfl _ _ _ _ _ _ _ rfl ?_
      refine hs 15 _ rfl _ _ _ _ _ _ (fun zq => absurd (hd_c1z (c := 4) (by omega) (by omega) zq) (by omega : ¬ (0 < c.1))) (fun _ => ?_)
      refine hs 16 _ rfl _ _ _ _ _ _ _ rfl ?_
      refine hs 17 _ rfl _ _ _ _ _ ?_
      refine zw_c (hs 27 _ rfl) (a := [.ref x, .ref (x + 1 + 5 + 2 * i), .int (Int32.ofInt (-9 : Int))]) (st := []) rfl rfl (Nat.le_of_ble_eq_true rfl) ⟨_, _, _, rfl, hX.1, rfl⟩ (Nat.zero_le _) (Nat.zero_le _) (zc_putRound_M g hX hi (Or.inl rfl) (by decide) (fun _ h9_ f1_ f2_ => ?_) (fun y_ => absurd y_ (by decide)) (fun y_ => absurd y_ (by decide)))
      show S 54 _ [.int (Int32.ofInt (-9 : Int))] _ _ _
      exact hs 28 _ rfl _ _ _ _ _ (rv _) (Nat.zero_le _) (Nat.zero_le _) (hJ_ c3_ _ f1_ f2_)
    · 
      obtain ⟨i, rfl⟩ : ∃ i : Nat, e = (i : Int) := ⟨e.toNat, by omega⟩
      have hi : i < 6 := by omega
      obtain ⟨i2, rfl⟩ : ∃ i2 : Nat, e2 = (i2 : Int) := ⟨e2.toNat, by omega⟩
      have hi2 : i2 < 6 := by omega
      obtain ⟨ny_, sy_, ly_, y1_, y2_, y3_⟩ := hX.2.1.n hi
      obtain ⟨nv_, sv_, lv_, v1_, v2_, v3_⟩ := hX.2.1.n hi2
      have r1_ := Int.emod_nonneg (c.2.1.getD i 0) (b := c.1) (by omega)
      have r2_ := Int.emod_lt_of_pos (c.2.1.getD i 0) (b := c.1) (by omega)
      have s1_ := Int.emod_nonneg (c.2.1.getD i2 0) (b := c.1) (by omega)
      have s2_ := Int.emod_lt_of_pos (c.2.1.getD i2 0) (b := c.1) (by omega)
      have u1_ : 0 ≤ (c.2.1.getD i 0 % c.1) * (c.2.1.getD i2 0 % c.1) ∧ (c.2.1.getD i 0 % c.1) * (c.2.1.getD i2 0 % c.1) ≤ 400 * 400 := ⟨Int.mul_nonneg r1_ s1_, Int.mul_le_mul (by omega) (by omega) s1_ (by decide)⟩
      have t1_ := Int.emod_nonneg ((c.2.1.getD i 0 % c.1) * (c.2.1.getD i2 0 % c.1)) (b := c.1) (by omega)
      have t2_ := Int.emod_lt_of_pos ((c.2.1.getD i 0 % c.1) * (c.2.1.getD i2 0 % c.1)) (b := c.1) (by omega)
      refine hs 0 _ rfl _ _ _ _ _ _ _ rfl ?_
      refine hs 1 _ rfl _ _ _ _ _ _ _ rfl ?_
      refine zw_c (hs 2 _ rfl) (a := [.ref x, .int (Int32.ofInt (i : Int))]) (st := []) rfl rfl (Nat.le_of_ble_eq_true rfl) ⟨_, _, _, rfl, hX.1, rfl⟩ (Nat.zero_le _) (Nat.zero_le _) (zc_numAt_M g hX (i := i) rfl hi ?_)
      show S 5 [some (.ref x), some (.int (Int32.ofInt (i : Int))), some (.int (Int32.ofInt (i2 : Int))), none, none, none] [.ref (x + 1 + 5 + 2 * i)] _ _ _
      refine hs 3 _ rfl _ _ _ _ _ _ _ rfl ?_
      refine hs 4 _ rfl _ _ _ _ _ _ _ rfl ?_
      refine hs 5 _ rfl _ _ _ _ _ _ _ rfl ?_
      refine zw_c (hs 6 _ rfl) (a := [.ref x, .int (Int32.ofInt (i2 : Int))]) (st := []) rfl rfl (Nat.le_of_ble_eq_true rfl) ⟨_, _, _, rfl, hX.1, rfl⟩ (Nat.zero_le _) (Nat.zero_le _) (zc_numAt_M g hX (i := i2) rfl hi2 ?_)
      show S 11 [some (.ref x), some (.int (Int32.ofInt (i : Int))), some (.int (Int32.ofInt (i2 : Int))), some (.ref (x + 1 + 5 + 2 * i)), none, none] [.ref (x + 1 + 5 + 2 * i2)] _ _ _
      refine hs 7 _ rfl _ _ _ _ _ _ _ rfl ?_
      refine hs 8 _ rfl _ _ _ _ _ _ _ rfl ?_
      refine hs 9 _ rfl _ _ _ _ _ _ _ _ _ (hX.1) rfl rfl ?_
      refine hs 10 _ rfl _ _ _ _ _ _ _ _ _ (hX.2.1.d) rfl rfl ?_
      refine hs 11 _ rfl _ _ _ _ _ _ _ rfl ?_
      refine hs 12 _ rfl _ _ _ _ _ _ _ rfl ?_
      refine hs 13 _ rfl _ _ _ _ _ _ _ rfl ?_
      refine hs 14 _ rfl _ _ _ _ _ _ _ rfl ?_
      refine hs 15 _ rfl _ _ _ _ _ _ (fun _ => ?_) (fun zq => absurd (hd_c1t (c := 4) (by omega) (by omega) (by omega : 0 < c.1)) zq)
      refine hs 18 _ rfl _ _ _ _ _ _ _ rfl ?_
      refine hs 19 _ rfl _ _ _ _ _ _ _ rfl ?_
      refine zw_c (hs 20 _ rfl) (a := [.ref (x + 1 + 5 + 2 * i), .int (Int32.ofInt c.1)]) (st := [.ref (x + 1 + 5 + 2 * i), .ref x]) rfl rfl (Nat.le_of_ble_eq_true rfl) ⟨_, _, _, rfl, y1_, rfl⟩ (Nat.zero_le _) (Nat.zero_le _) (sb_restE_M g y1_ rfl y2_ rfl y3_ (by omega) (by omega) ?_)
      show S 40 [some (.ref x), some (.int (Int32.ofInt (i : Int))), some (.int (Int32.ofInt (i2 : Int))), some (.ref (x + 1 + 5 + 2 * i)), some (.ref (x + 1 + 5 + 2 * i2)), some (.int (Int32.ofInt c.1))] [.int (Int32.ofInt (c.2.1.getD i 0 % c.1)), .ref (x + 1 + 5 + 2 * i), .ref x] _ _ _
      refine hs 21 _ rfl _ _ _ _ _ _ _ rfl ?_
      refine hs 22 _ rfl _ _ _ _ _ _ _ rfl ?_
      refine zw_c (hs 23 _ rfl) (a := [.ref (x + 1 + 5 + 2 * i2), .int (Int32.ofInt c.1)]) (st := [.int (Int32.ofInt (c.2.1.getD i 0 % c.1)), .ref (x + 1 + 5 + 2 * i), .ref x]) rfl rfl (Nat.le_of_ble_eq_true rfl) ⟨_, _, _, rfl, v1_, rfl⟩ (Nat.zero_le _) (Nat.zero_le _) (sb_restE_M g v1_ rfl v2_ rfl v3_ (by omega) (by omega) ?_)
      show S 47 [some (.ref x), some (.int (Int32.ofInt (i : Int))), some (.int (Int32.ofInt (i2 : Int))), some (.ref (x + 1 + 5 + 2 * i)), some (.ref (x + 1 + 5 + 2 * i2)), some (.int (Int32.ofInt c.1))] [.int (Int32.ofInt (c.2.1.getD i2 0 % c.1)), .int (Int32.ofInt (c.2.1.getD i 0 % c.1)), .ref (x + 1 + 5 + 2 * i), .ref x] _ _ _
      refine hs 24 _ rfl _ _ _ _ _ _ _ hd_mul ?_
      refine hs 25 _ rfl _ _ _ _ _ _ _ rfl ?_
      refine hs 26 _ rfl _ _ _ _ _ _ _ (hd_rem (by omega) (by omega) (by omega) (by omega)) ?_
      refine zw_c (hs 27 _ rfl) (a := [.ref x, .ref (x + 1 + 5 + 2 * i), .int (Int32.ofInt (((c.2.1.getD i 0 % c.1) * (c.2.1.getD i2 0 % c.1)) % c.1))]) (st := []) rfl rfl (Nat.le_of_ble_eq_true rfl) ⟨_, _, _, rfl, hX.1, rfl⟩ (Nat.zero_le _) (Nat.zero_le _) (zc_putRound_M g hX hi (Or.inr (Or.inr t1_)) (by omega) (fun y_ => absurd y_ (by omega)) (fun y_ => absurd y_ (by omega)) (fun _ h9_ f1_ f2_ => ?_))
      show S 54 _ [.int (Int32.ofInt (((c.2.1.getD i 0 % c.1) * (c.2.1.getD i2 0 % c.1)) % c.1))] _ _ _
      exact hs 28 _ rfl _ _ _ _ _ (rv _) (Nat.zero_le _) (Nat.zero_le _) (hP (by omega) _ f1_ f2_)
