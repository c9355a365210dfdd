/-! NUMBERS ARE PUT -/
theorem sb_top {n : Nat} {ls : List Int} (hd : sb_d ls) (hn : hd_pl ls n) (h0 : 0 < n) : 1000000000 ^ (n - 1) ≤ sb_v ls := by
  obtain ⟨x_, x1_, x2_⟩ := hn.2.2 h0
  have hb_ := hd.at x1_
  have e1_ := sb_take x1_
  rw [show n - 1 + 1 = n by omega, sb_take_all hn (Nat.le_refl _)] at e1_
  have h4_ := sb_a.nn (ls := ls.take (n - 1)) fun z hz => hd.2 z (List.mem_of_mem_take hz)
  have p0_ : (0 : Int) ≤ 1000000000 ^ (n - 1) := Int.pow_nonneg (by decide)
  have f1_ : 1 * 1000000000 ^ (n - 1) ≤ x_ * 1000000000 ^ (n - 1) := Int.mul_le_mul_of_nonneg_right (by omega) p0_
  rw [Int.one_mul] at f1_
  rw [e1_]
  generalize (1000000000 : Int) ^ (n - 1) = a_ at *
  generalize x_ * a_ = b_ at *
  omega
theorem sb_is.abs {n : Nat} {sg z : Int} {ls : List Int} (h : sb_is n sg ls z) : (z.natAbs : Int) = sb_v ls := by
  obtain ⟨hd_, -, rfl, hs_, h0_⟩ := h
  have hn_ := sb_a.nn hd_.2
  rcases hs_ with c_ | c_ | c_
  · rw [c_]; omega
  · rw [c_, h0_.mp c_]; rfl
  · rw [c_]; omega
theorem sb_pw (k : Nat) {n : Nat} (h : k ≤ n) : (1000000000 : Int) ^ k ≤ 1000000000 ^ n := by
  have := Nat.pow_le_pow_right (show 0 < 1000000000 by decide) h
  have e_ : ((1000000000 ^ k : Nat) : Int) ≤ ((1000000000 ^ n : Nat) : Int) := Int.ofNat_le.mpr this
  rw [Int.natCast_pow, Int.natCast_pow] at e_
  exact e_
/-- how long a number is -/
theorem sb_is.le {n k : Nat} {sg z : Int} {ls : List Int} (h : sb_is n sg ls z) (hz : (z.natAbs : Int) < 1000000000 ^ k) : n ≤ k := by
  rw [h.abs] at hz
  apply Nat.not_lt.mp
  intro y_
  have e1_ := sb_top h.1 h.2.1 (by omega)
  have e2_ := sb_pw k (show k ≤ n - 1 by omega)
  omega
theorem sb_is.lt {n : Nat} {sg z : Int} {ls : List Int} (h : sb_is n sg ls z) : (z.natAbs : Int) < 1000000000 ^ n := by
  rw [h.abs, ← sb_take_all h.2.1 (Nat.le_refl n)]
  have := sb_lt (ls := ls.take n) fun y hy => h.1.2 y (List.mem_of_mem_take hy)
  rw [List.length_take, Nat.min_eq_left h.2.1.1] at this
  exact this
theorem sb_p4 : (1000000000 : Int) ^ 4 = 1000000000000000000000000000000000000 := by decide
theorem sb_p10 : (1000000000 : Int) ^ 10 = 1000000000000000000000000000000000000000000000000000000000000000000000000000000000000000000 := by decide
theorem sb_is.four {n : Nat} {sg z : Int} {ls : List Int} (h : sb_is n sg ls z) (h1 : -1000000000000000000000000000000000000 < z) (h2 : z < 1000000000000000000000000000000000000) : n ≤ 4 := h.le (by rw [sb_p4]; omega)
theorem sb_is.far {n : Nat} {sg z : Int} {ls : List Int} (h : sb_is n sg ls z) (h1 : n ≤ 4) : -1000000000000000000000000000000000000 < z ∧ z < 1000000000000000000000000000000000000 := by
  have e1_ := h.lt
  have e2_ := sb_pw n h1
  rw [sb_p4] at e2_
  omega
theorem sb_longE_M {l : Launch} {G : am_G} {X : ck_XT} (g : gM l G X) {q p t n : Nat} {sg v : Int} {h : List am_C} (hg : am_g G h q = some (sb_c t p (n : Int) sg)) (ht : t % 100 = 7) (hn : n ≤ 10) (hv : (if 4 < n then 1 else 0 : Int) = v) {mc ms : Nat} {Post : am_O → List am_C → Prop} (hP : Post (.inl (some (.int (Int32.ofInt v)))) h) :
    am_M l G yX0_isTooLong (.code yX0_isTooLong prog_2_method_4_code 1 (some .boolean)) 1 20 mc ms [.ref q] h Post := by
  subst hv
  exact sb_long_M g hg ht hn hP
set_option maxHeartbeats 4000000 in
theorem zc_putNum_M {l : Launch} {G : am_G} {X : ck_XT} (g : gM l G X) {x : Nat} {r : Nat → Nat} {jj mm kk : Int} {c : sp_S} {R : Nat → sp_S} {old cnt : Nat} {h : List am_C} (hX : zc_x G h x r jj mm kk c R old cnt) {n : Nat} {sg z : Int} {ls : List Int} (hw1 : am_g G h (x + 224) = some (sb_c 1007 (x + 225) (n : Int) sg)) (hw2 : am_g G h (x + 225) = some (1050, hd_r ls)) (hwi : sb_is n sg ls z) {i : Nat} (hi : i < 6) {mc ms : Nat} {Post : am_O → List am_C → Prop} (hmc : 1 ≤ mc) (hms : 6 ≤ ms)
    (hP : (-1000000000000000000000000000000000000 < z ∧ z < 1000000000000000000000000000000000000) → ∀ (h' : List am_C) (d : Nat), zc_fr G h h' x r → zc_X G h' x r jj mm kk (c.1, c.2.1.set i z, c.2.2) (sp_keep (zc_l R old cnt) c) → zc_dg (z.natAbs : Int) d → Post (.inl (some (.int (Int32.ofInt (d : Int))))) h')
    (hX2 : ¬ (-1000000000000000000000000000000000000 < z ∧ z < 1000000000000000000000000000000000000) → Post (.inr "java/lang/IllegalStateException") (h ++ [(99, [])])) :
    am_M l G yX10_putNumber (.code yX10_putNumber prog_1_method_68_code 3 (some .int)) 6 123 mc ms [.ref x, .ref (x + 1 + 5 + 2 * i), .ref (x + 224)] h Post := by
  refine gh_yX10_putNumber_X g (Nat.le_of_ble_eq_true rfl) fun S SX hs hr hw hx => ?_
  have rv : ∀ x : Int32, ck_fv 0 (.int x) := fun x => ⟨_, rfl⟩
  have hx9_ := hX.2.2.2.2.2.2.2
  have hn10_ := zc_nb hwi
  by_cases h4_ : 4 < n
  · have hfar_ : ¬ (-1000000000000000000000000000000000000 < z ∧ z < 1000000000000000000000000000000000000) := fun y_ => by have := hwi.four y_.1 y_.2; omega
    refine hs 0 _ rfl _ _ _ _ _ _ _ rfl ?_
    refine zw_c (hs 1 _ rfl) (a := [.ref (x + 224)]) (st := []) rfl rfl (Nat.le_of_ble_eq_true rfl) ⟨_, _, _, rfl, hw1, rfl⟩ (Nat.zero_le _) (Nat.zero_le _) (sb_longE_M g hw1 rfl hn10_ (if_pos h4_) ?_)
    show S 4 [some (.ref x), some (.ref (x + 1 + 5 + 2 * i)), some (.ref (x + 224))] [.int (Int32.ofInt (1 : Int))] _ _ _
    refine hs 2 _ rfl _ _ _ _ _ _ (fun zq => absurd (hd_c1z (c := 0) (by omega) (by omega) zq) (by omega : ¬ ((1 : Int) = 0))) (fun _ => ?_)
    exact hs 3 _ rfl _ _ _ _ _ rfl (Nat.le_of_ble_eq_true rfl) (by omega) (by omega) (hX2 hfar_)
  · have hz_ := hwi.far (by omega)
    refine hs 0 _ rfl _ _ _ _ _ _ _ rfl ?_
    refine zw_c (hs 1 _ rfl) (a := [.ref (x + 224)]) (st := []) rfl rfl (Nat.le_of_ble_eq_true rfl) ⟨_, _, _, rfl, hw1, rfl⟩ (Nat.zero_le _) (Nat.zero_le _) (sb_longE_M g hw1 rfl hn10_ (if_neg h4_) ?_)
    show S 4 [some (.ref x), some (.ref (x + 1 + 5 + 2 * i)), some (.ref (x + 224))] [.int (Int32.ofInt (0 : Int))] _ _ _
    refine hs 2 _ rfl _ _ _ _ _ _ (fun _ => ?_) (fun zq => absurd (hd_c1t (c := 0) (by omega) (by omega) (by omega : (0 : Int) = 0)) zq)
    refine hs 4 _ rfl _ _ _ _ _ _ _ rfl ?_
    refine hs 5 _ rfl _ _ _ _ _ _ _ _ _ (hX.1) rfl rfl ?_
    refine hs 6 _ rfl _ _ _ _ _ _ _ rfl ?_
    refine hs 7 _ rfl _ _ _ _ _ _ _ _ _ (hX.1) rfl rfl ?_
    refine zw_c (hs 8 _ rfl) (a := [.ref (x + 18), .ref (x + 1)]) (st := []) rfl rfl (Nat.le_of_ble_eq_true rfl) ⟨_, _, _, rfl, hX.2.2.2.1.1, rfl⟩ (Nat.zero_le _) (Nat.zero_le _) (zc_keep_M g (p := x + 18) (s := x + 1) (by omega) (by omega) hX.2.2.2.1 hX.2.1 hX.2.2.1 fun hk3_ ok3_ ck3_ fk3_ pk3_ e13_ e23_ => ?_)
    have xk3_ := hX.past fk3_ pk3_
    have lk3_ := zc_l_keep (R := R) (c := c) hX.2.2.2.1.2.2.2.1 hX.2.2.2.1.2.2.2.2 e13_ e23_
    show S 29 [some (.ref x), some (.ref (x + 1 + 5 + 2 * i)), some (.ref (x + 224))] [] _ _ _
    obtain ⟨ny_, sy_, ly_, y1_, y2_, y3_⟩ := xk3_.2.1.n hi
    have v1_ := (fk3_.2 _ (by omega)).trans hw1
    have v2_ := (fk3_.2 _ (by omega)).trans hw2
    refine hs 9 _ rfl _ _ _ _ _ _ _ rfl ?_
    refine hs 10 _ rfl _ _ _ _ _ _ _ rfl ?_
    refine zw_c (hs 11 _ rfl) (a := [.ref (x + 1 + 5 + 2 * i), .ref (x + 224)]) (st := []) rfl rfl (Nat.le_of_ble_eq_true rfl) ⟨_, _, _, rfl, y1_, rfl⟩ (Nat.zero_le _) (Nat.zero_le _) (sb_become_M g (by omega) (by omega) (by omega) y1_ rfl y2_ rfl y3_.1.1 v1_ rfl v2_ rfl hwi.1.1 (by omega) (by omega) fun hb_ wb_ => ?_)
    show S 34 [some (.ref x), some (.ref (x + 1 + 5 + 2 * i)), some (.ref (x + 224))] [] _ _ _
    refine hs 12 _ rfl _ _ _ _ _ _ _ rfl ?_
    refine zw_c (hs 13 _ rfl) (a := [.ref (x + 1 + 5 + 2 * i)]) (st := []) rfl rfl (Nat.le_of_ble_eq_true rfl) ⟨_, _, _, rfl, wb_.q, rfl⟩ (Nat.zero_le _) (Nat.zero_le _) (sb_dig_M g (by omega) (by omega) (by omega) wb_.q rfl (wb_.p (by omega)) rfl hwi.1 hwi.2.1 fun d_ hd_ => ?_)
    show S 38 [some (.ref x), some (.ref (x + 1 + 5 + 2 * i)), some (.ref (x + 224))] [.int (Int32.ofInt (d_ : Int))] _ _ _
    obtain ⟨xb_, fb_⟩ := xk3_.num hi wb_ hwi hz_.1 hz_.2
    rw [← hwi.abs] at hd_
    exact hs 14 _ rfl _ _ _ _ _ (rv _) (Nat.zero_le _) (Nat.zero_le _) (hP hz_ _ d_ ((zc_fr.of fk3_ (by omega) (by omega)).tr (zc_fr.of fb_ (by omega) (by omega))) (zc_X.mk xb_ lk3_) hd_)
