/-! JOINED, WOULD JOIN -/
noncomputable def sp_jv (L : List (Int × Int)) : Int := @ite Int (sp_fit L) (Classical.propDecidable _) 1 0
theorem sp_jv.y {L : List (Int × Int)} (h : sp_fit L) : sp_jv L = 1 := by
  unfold sp_jv
  exact if_pos h
theorem sp_jv.n {L : List (Int × Int)} (h : ¬ sp_fit L) : sp_jv L = 0 := by
  unfold sp_jv
  exact if_neg h
theorem sp_jv.of {L : List (Int × Int)} {j n : Int} {w : Nat} (h : zj_I L j n w) : j = sp_jv L := by
  obtain ⟨-, -, -, -, -, c_⟩ := h
  rcases c_ with ⟨j_, a_⟩ | ⟨j_, a_⟩
  · rw [j_, sp_jv.y ⟨n, a_⟩]
  · rw [j_, sp_jv.n a_]
def sp_fi (T : sp_T) (e e2 : Int) : Prop := sp_fit (T.1.2.2.1 ++ [(e % e2, e2)])
def sp_r48 (e e2 : Int) (T : sp_T) (a : Int) : Prop := (sp_fi T e e2 ∧ a = 1) ∨ (¬ sp_fi T e e2 ∧ a = 0)
def sp_q48 (e e2 : Int) (T : sp_T) (a th : Int) (T' : sp_T) : Prop := sp_q T (sp_row e e2) (sp_r48 e e2 T) a th T'
theorem sp_q48.fn {e e2 a th a2 th2 : Int} {T T' T2 : sp_T} (h1 : sp_q48 e e2 T a th T') (h2 : sp_q48 e e2 T a2 th2 T2) : sp_al a th T' a2 th2 T2 := sp_q.fn (fun v w y_ z_ => by
  rcases y_ with ⟨y1_, y2_⟩ | ⟨y1_, y2_⟩
  · rcases z_ with ⟨z1_, z2_⟩ | ⟨z1_, z2_⟩
    · rw [y2_, z2_]
    · exact absurd y1_ z1_
  · rcases z_ with ⟨z1_, z2_⟩ | ⟨z1_, z2_⟩
    · exact absurd z1_ y1_
    · rw [y2_, z2_]) h1 h2
set_option maxHeartbeats 4000000 in
theorem zc_isJoined9_M {l : Launch} {G : am_G} {X : ck_XT} (g : gM l G X) {x : Nat} {r : Nat → Nat} {jj mm kk : Int} {c : sp_S} {R : Nat → sp_S} {old cnt : Nat} {h : List am_C} (hX : zc_x G h x r jj mm kk c R old cnt){mc ms : Nat} {Post : am_O → List am_C → Prop}
    (hP : ∀ h', zc_fr G h h' x r → zc_x G h' x r jj mm kk c R old cnt → Post (.inl (some (.int (Int32.ofInt (sp_jv c.2.2.1))))) h') :
    am_M l G yX10_isJoined (.code yX10_isJoined prog_1_method_47_code 1 (some .boolean)) 5 117 mc ms [.ref x] h Post := by
  refine gh_yX10_isJoined_X g (Nat.le_of_ble_eq_true rfl) fun S SX hs hr hw hx => ?_
  have rv : ∀ x : Int32, ck_fv 0 (.int x) := fun x => ⟨_, rfl⟩
  refine hs 0 _ rfl _ _ _ _ _ _ _ rfl ?_
  refine zw_c (hs 1 _ rfl) (a := [.ref x]) (st := []) rfl rfl (Nat.le_of_ble_eq_true rfl) ⟨_, _, _, rfl, hX.1, rfl⟩ (by omega) (by omega) (zc_join_M g hX fun h1_ j_ n_ w_ f1_ jg_ ji_ => ?_)
  have xj_ := hX.jn f1_ jg_
  have jv_ := sp_jv.of ji_
  show S 4 [some (.ref x)] [] _ _ _
  have fl_ : j_ = 1 ∨ j_ = 0 := by
    obtain ⟨-, -, -, -, -, c_⟩ := id ji_
    rcases c_ with ⟨y_, -⟩ | ⟨y_, -⟩
    · exact Or.inl y_
    · exact Or.inr y_
  rw [← jv_] at hP
  rcases fl_ with f_ | f_
  · subst f_
    refine hs 2 _ rfl _ _ _ _ _ _ _ rfl ?_
    refine hs 3 _ rfl _ _ _ _ _ _ _ _ _ (xj_.1) rfl rfl ?_
    refine hs 4 _ rfl _ _ _ _ _ _ _ _ _ (jg_) rfl rfl ?_
    exact hs 5 _ rfl _ _ _ _ _ ⟨_, rfl, by decide, by decide⟩ (Nat.zero_le _) (Nat.zero_le _) (hP _ (zc_fr.jn f1_) xj_)
  · subst f_
    refine hs 2 _ rfl _ _ _ _ _ _ _ rfl ?_
    refine hs 3 _ rfl _ _ _ _ _ _ _ _ _ (xj_.1) rfl rfl ?_
    refine hs 4 _ rfl _ _ _ _ _ _ _ _ _ (jg_) rfl rfl ?_
    exact hs 5 _ rfl _ _ _ _ _ ⟨_, rfl, by decide, by decide⟩ (Nat.zero_le _) (Nat.zero_le _) (hP _ (zc_fr.jn f1_) xj_)
set_option maxHeartbeats 4000000 in
theorem zm_isJoined9_M {l : Launch} {G : am_G} {X : ck_XT} (g : gM l G X) {o : Nat → Nat} {x tx now qw : Nat} {th j m k : Int} {c : sp_S} {P : List sp_S} {h : List am_C} (hX : zm_x G h o x tx now qw th j m k c P) (hok : sp_ok c) {mc ms : Nat} {Post : am_O → List am_C → Prop} (hmc : 2 ≤ mc) (hms : 6 ≤ ms)
    (hP : ∀ h', zm_fr G h h' → zm_Y G h' x 0 (c, P, j, m, k) → Post (.inl (some (.int (Int32.ofInt (sp_jv c.2.2.1))))) h') :
    am_M l G yX14_isJoined (.code yX14_isJoined prog_14_method_86_code 1 (some .boolean)) 4 92 mc ms [.ref x] h Post := by
  refine gh_yX14_isJoined_X g (Nat.le_of_ble_eq_true rfl) fun S SX hs hr hw hx => ?_
  have rv : ∀ x : Int32, ck_fv 0 (.int x) := fun x => ⟨_, rfl⟩
  obtain ⟨a1_, a2_, a3_, a4_⟩ := id hX
  refine hs 0 _ rfl _ _ _ _ _ _ _ rfl ?_
  refine hs 1 _ rfl _ _ _ _ _ _ _ rfl ?_
  refine zw_U (hs 2 _ rfl) (by omega) (a1_) a2_.1 ⟨_, rfl⟩ fun hz715 wz716 => ?_
  have wz716 : hd_w G h hz715 x (tx, [.int (Int32.ofInt (0 : Int)), .ref now, .ref qw, .int (Int32.ofInt j), .int (Int32.ofInt m), .int (Int32.ofInt k)]) := wz716
  have lwz716 := wz716.1
  have x2_ := hX.own wz716
  obtain ⟨t_, qn_, ql_, qb_, vl_, s1_, l1_, ⟨e1_, e2_⟩, up_⟩ := x2_.rowL
  show S 5 [some (.ref x)] [] _ _ _
  refine hs 3 _ rfl _ _ _ _ _ _ _ rfl ?_
  refine hs 4 _ rfl _ _ _ _ _ _ _ _ _ (x2_.1) a2_.1 rfl ?_
  refine hs 5 _ rfl _ _ _ _ _ _ _ _ _ (s1_.1) s1_.2 rfl ?_
  refine zw_cm (hs 6 _ rfl) (a := [.ref ql_]) (st := []) 2 6 rfl rfl (Nat.le_of_ble_eq_true rfl) trivial (by omega) (by omega) (zm_found_M g l1_ ⟨e1_, e2_⟩ hok.2.2.1 (by omega) (by omega) (fun n9_ w9_ hI_ hy_ p9_ gy_ py_ => ?_) (fun hf_ hy_ gy_ => ?_))
  · have jv_ : (1 : Int) = sp_jv c.2.2.1 := sp_jv.of hI_
    rw [← jv_] at hP
    show S 15 [some (.ref x)] [.ref p9_] _ _ _
    refine zw_Nr (hs 7 _ rfl) ?_
    refine hs 8 _ rfl _ _ _ _ _ _ _ rfl ?_
    refine hs 9 _ rfl _ _ _ _ _ ?_
    exact hs 11 _ rfl _ _ _ _ _ ⟨_, rfl, by decide, by decide⟩ (by omega) (by omega) (hP _ ((zm_fr.w wz716 a1_ (Or.inl a2_.1)).tr (zm_fr.g gy_)) ⟨_, _, _, _, x2_.g gy_ fun _ _ => rfl⟩)
  · rw [sp_jv.n hf_] at hP
    show S 15 [some (.ref x)] [.null] _ _ _
    refine zw_Nn (hs 7 _ rfl) ?_
    refine hs 10 _ rfl _ _ _ _ _ _ _ rfl ?_
    exact hs 11 _ rfl _ _ _ _ _ ⟨_, rfl, by decide, by decide⟩ (by omega) (by omega) (hP _ ((zm_fr.w wz716 a1_ (Or.inl a2_.1)).tr (zm_fr.g gy_)) ⟨_, _, _, _, x2_.g gy_ fun _ _ => rfl⟩)
set_option maxHeartbeats 4000000 in
theorem zc_qwouldJoin_M {l : Launch} {G : am_G} {X : ck_XT} (g : gM l G X) {x : Nat} {r : Nat → Nat} {jj mm kk : Int} {c : sp_S} {R : Nat → sp_S} {old cnt : Nat} {h : List am_C} (hX : zc_x G h x r jj mm kk c R old cnt) {e : Int} (he1 : -2147483648 ≤ e) (he2 : e ≤ 2147483647) {e2 : Int} (hf1 : -2147483648 ≤ e2) (hf2 : e2 ≤ 2147483647) {mc ms : Nat} {Post : am_O → List am_C → Prop} (hmc : 1 ≤ mc) (hms : 6 ≤ ms)
    (hY : (-9999 ≤ e ∧ e ≤ 9999 ∧ 1 ≤ e2 ∧ e2 ≤ 999) → sp_fit (c.2.2.1 ++ [(e % e2, e2)]) → ∀ h', zc_fr G h h' x r → zc_x G h' x r jj mm kk c R old cnt → Post (.inl (some (.int (Int32.ofInt 1)))) h')
    (hN : (-9999 ≤ e ∧ e ≤ 9999 ∧ 1 ≤ e2 ∧ e2 ≤ 999) → ¬ sp_fit (c.2.2.1 ++ [(e % e2, e2)]) → ∀ h', zc_fr G h h' x r → zc_x G h' x r jj mm kk c R old cnt → Post (.inl (some (.int (Int32.ofInt 0)))) h')
    (hX2 : ¬ (-9999 ≤ e ∧ e ≤ 9999 ∧ 1 ≤ e2 ∧ e2 ≤ 999) → Post (.inr "java/lang/IllegalArgumentException") (h ++ [(99, [])])) :
    am_M l G yX10_wouldJoin (.code yX10_wouldJoin prog_1_method_48_code 3 (some .boolean)) 7 117 mc ms [.ref x, .int (Int32.ofInt e), .int (Int32.ofInt e2)] h Post := by
  refine gh_yX10_wouldJoin_X g (Nat.le_of_ble_eq_true rfl) fun S SX hs hr hw hx => ?_
  have rv : ∀ x : Int32, ck_fv 0 (.int x) := fun x => ⟨_, rfl⟩
  have hx9_ := hX.2.2.2.2.2.2.2
  have hl_ := hX.2.2.1.2.2.1.1
  have hx8_ := hX.2.2.2.2.2.2.1
  by_cases c1_ : (-9999 ≤ e ∧ e ≤ 9999 ∧ 1 ≤ e2 ∧ e2 ≤ 999)
  rotate_left
  · 
    refine hs 0 _ rfl _ _ _ _ _ _ _ rfl ?_
    refine hs 1 _ rfl _ _ _ _ _ _ _ rfl ?_
    exact zw_cm (hs 2 _ rfl) (a := [.int (Int32.ofInt e), .int (Int32.ofInt e2)]) (st := []) 1 6 rfl rfl (Nat.le_of_ble_eq_true rfl) trivial (by omega) (by omega) (zc_needCX_M g he1 he2 hf1 hf2 c1_ (by decide) (by decide) (hx _ _ _ _ _ _ (by omega) (by omega) (hX2 c1_)))
  · obtain ⟨s_, rfl⟩ : ∃ s_ : Nat, e2 = (s_ : Int) := ⟨e2.toNat, by omega⟩
    refine hs 0 _ rfl _ _ _ _ _ _ _ rfl ?_
    refine hs 1 _ rfl _ _ _ _ _ _ _ rfl ?_
    refine zw_c (hs 2 _ rfl) (a := [.int (Int32.ofInt e), .int (Int32.ofInt (s_ : Int))]) (st := []) rfl rfl (Nat.le_of_ble_eq_true rfl) trivial (by omega) (by omega) (zc_needC_M g he1 he2 hf1 hf2 c1_ ?_)
    show S 5 [some (.ref x), some (.int (Int32.ofInt e)), some (.int (Int32.ofInt (s_ : Int)))] [] _ _ _
    refine hs 3 _ rfl _ _ _ _ _ _ _ rfl ?_
    refine zw_c (hs 4 _ rfl) (a := [.ref x]) (st := []) rfl rfl (Nat.le_of_ble_eq_true rfl) ⟨_, _, _, rfl, hX.1, rfl⟩ (by omega) (by omega) (zc_join_M g hX fun h1_ j_ n_ w_ f1_ jg_ ji_ => ?_)
    have xj_ := hX.jn f1_ jg_
    have w6_ := ji_.big hl_
    have fi_ := ji_.fit (s := s_) (by omega) (Int.dvd_self_sub_emod (x := e) (m := (s_ : Int)))
    show S 9 [some (.ref x), some (.int (Int32.ofInt e)), some (.int (Int32.ofInt (s_ : Int)))] [] _ _ _
    by_cases sf_ : sp_fit (c.2.2.1 ++ [(e % (s_ : Int), (s_ : Int))])
    rotate_left
    · 
      refine hs 5 _ rfl _ _ _ _ _ _ _ rfl ?_
      refine hs 6 _ rfl _ _ _ _ _ _ _ _ _ (xj_.1) rfl rfl ?_
      refine hs 7 _ rfl _ _ _ _ _ _ _ rfl ?_
      refine hs 8 _ rfl _ _ _ _ _ _ _ rfl ?_
      refine zw_c (hs 9 _ rfl) (a := [.ref (r 4), .int (Int32.ofInt e), .int (Int32.ofInt (s_ : Int))]) (st := []) rfl rfl (Nat.le_of_ble_eq_true rfl) ⟨_, _, _, rfl, jg_, rfl⟩ (by omega) (by omega) (zj_admits_M g jg_ ji_.flag ji_.1 w6_ ji_.2.2.1.1 ji_.2.2.1.2 (by omega) (by omega) (by omega) (by omega) (fun y_ => absurd (fi_.mp y_) sf_) (fun _ => ?_))
      show S 18 [some (.ref x), some (.int (Int32.ofInt e)), some (.int (Int32.ofInt (s_ : Int)))] [.int (Int32.ofInt (0 : Int))] _ _ _
      exact hs 10 _ rfl _ _ _ _ _ ⟨_, rfl, by decide, by decide⟩ (Nat.zero_le _) (Nat.zero_le _) (hN c1_ sf_ _ (zc_fr.jn f1_) xj_)
    · 
      refine hs 5 _ rfl _ _ _ _ _ _ _ rfl ?_
      refine hs 6 _ rfl _ _ _ _ _ _ _ _ _ (xj_.1) rfl rfl ?_
      refine hs 7 _ rfl _ _ _ _ _ _ _ rfl ?_
      refine hs 8 _ rfl _ _ _ _ _ _ _ rfl ?_
      refine zw_c (hs 9 _ rfl) (a := [.ref (r 4), .int (Int32.ofInt e), .int (Int32.ofInt (s_ : Int))]) (st := []) rfl rfl (Nat.le_of_ble_eq_true rfl) ⟨_, _, _, rfl, jg_, rfl⟩ (by omega) (by omega) (zj_admits_M g jg_ ji_.flag ji_.1 w6_ ji_.2.2.1.1 ji_.2.2.1.2 (by omega) (by omega) (by omega) (by omega) (fun _ => ?_) (fun y_ => absurd (fi_.mpr sf_) y_))
      show S 18 [some (.ref x), some (.int (Int32.ofInt e)), some (.int (Int32.ofInt (s_ : Int)))] [.int (Int32.ofInt (1 : Int))] _ _ _
      exact hs 10 _ rfl _ _ _ _ _ ⟨_, rfl, by decide, by decide⟩ (Nat.zero_le _) (Nat.zero_le _) (hY c1_ sf_ _ (zc_fr.jn f1_) xj_)
set_option maxHeartbeats 4000000 in
theorem zm_qwouldJoin_M {l : Launch} {G : am_G} {X : ck_XT} (g : gM l G X) {o : Nat → Nat} {x tx now qw : Nat} {th j m k : Int} {c : sp_S} {P : List sp_S} {h : List am_C} (hX : zm_x G h o x tx now qw th j m k c P) (hok : sp_ok c) {e e2 : Int} (he1 : -2147483648 ≤ e) (he2 : e ≤ 2147483647) (hf1 : -2147483648 ≤ e2) (hf2 : e2 ≤ 2147483647) {mc ms : Nat} {Post : am_O → List am_C → Prop} (hmc : 3 ≤ mc) (hms : 8 ≤ ms)
    (hP : ∀ (a th : Int) (T' : sp_T) (h' : List am_C), sp_q48 e e2 (c, P, j, m, k) a th T' → zm_fr G h h' → zm_Y G h' x th T' → Post (.inl (some (.int (Int32.ofInt a)))) h') :
    am_M l G yX14_wouldJoin (.code yX14_wouldJoin prog_14_method_87_code 3 (some .boolean)) 5 115 mc ms [.ref x, .int (Int32.ofInt e), .int (Int32.ofInt e2)] h Post := by
  refine gh_yX14_wouldJoin_X g (Nat.le_of_ble_eq_true rfl) fun S SX hs hr hw hx => ?_
  have rv : ∀ x : Int32, ck_fv 0 (.int x) := fun x => ⟨_, rfl⟩
  obtain ⟨a1_, a2_, a3_, a4_⟩ := id hX
  have okr_ := hok.2.2.1.1
  by_cases c1_ : sp_row e e2
  rotate_left
  · have c1b_ : ¬ (-9999 ≤ e ∧ e ≤ 9999 ∧ 1 ≤ e2 ∧ e2 ≤ 999) := c1_
    refine hs 0 _ rfl _ _ _ _ _ _ _ rfl ?_
    refine hs 1 _ rfl _ _ _ _ _ _ _ rfl ?_
    refine hs 2 _ rfl _ _ _ _ _ _ _ rfl ?_
    refine zw_c (hs 3 _ rfl) (a := [.int (Int32.ofInt e), .int (Int32.ofInt e2)]) (st := [.ref x]) rfl rfl (Nat.le_of_ble_eq_true rfl) trivial (by omega) (by omega) (zm_noRow_M g (e := e) (f := e2) (by omega) (by omega) (by omega) (by omega) (fun y_ => ?_) (fun y_ => absurd y_ (by omega)))
    show S 6 [some (.ref x), some (.int (Int32.ofInt e)), some (.int (Int32.ofInt e2))] [.int (Int32.ofInt (1 : Int)), .ref x] _ _ _
    refine hs 4 _ rfl _ _ _ _ _ _ _ rfl ?_
    refine zw_c (hs 5 _ rfl) (a := [.ref x, .int (Int32.ofInt (1 : Int)), .int (Int32.ofInt (1 : Int))]) (st := []) rfl rfl (Nat.le_of_ble_eq_true rfl) ⟨_, _, _, rfl, a1_, a2_.1⟩ (by omega) (by omega) (zm_start_M g hX (i_ := 1) (w_ := 1) (Or.inr rfl) (by decide) (fun y_ h2_ f2_ x2_ => ?_) (fun y_ => absurd y_ (by decide)))
    show S 10 [some (.ref x), some (.int (Int32.ofInt e)), some (.int (Int32.ofInt e2))] [.int (Int32.ofInt (1 : Int))] _ _ _
    refine hs 6 _ rfl _ _ _ _ _ _ (fun _ => ?_) (fun zq => absurd (hd_c1t (c := 1) (by omega) (by omega) (by omega : (1 : Int) ≠ 0)) zq)
    refine hs 14 _ rfl _ _ _ _ _ _ _ rfl ?_
    exact hs 15 _ rfl _ _ _ _ _ ⟨_, rfl, by decide, by decide⟩ (by omega) (by omega) (hP 0 _ _ _ ⟨rfl, Or.inr ⟨c1_, rfl⟩⟩ (f2_) ⟨_, _, _, _, x2_⟩)
  · have c1b_ : -9999 ≤ e ∧ e ≤ 9999 ∧ 1 ≤ e2 ∧ e2 ≤ 999 := c1_
    obtain ⟨f, rfl⟩ : ∃ f : Nat, e2 = (f : Int) := ⟨e2.toNat, by omega⟩
    refine hs 0 _ rfl _ _ _ _ _ _ _ rfl ?_
    refine hs 1 _ rfl _ _ _ _ _ _ _ rfl ?_
    refine hs 2 _ rfl _ _ _ _ _ _ _ rfl ?_
    refine zw_c (hs 3 _ rfl) (a := [.int (Int32.ofInt e), .int (Int32.ofInt (f : Int))]) (st := [.ref x]) rfl rfl (Nat.le_of_ble_eq_true rfl) trivial (by omega) (by omega) (zm_noRow_M g (e := e) (f := (f : Int)) (by omega) (by omega) (by omega) (by omega) (fun y_ => absurd (by omega) y_) (fun y_ => ?_))
    show S 6 [some (.ref x), some (.int (Int32.ofInt e)), some (.int (Int32.ofInt (f : Int)))] [.int (Int32.ofInt (0 : Int)), .ref x] _ _ _
    refine hs 4 _ rfl _ _ _ _ _ _ _ rfl ?_
    refine zw_c (hs 5 _ rfl) (a := [.ref x, .int (Int32.ofInt (0 : Int)), .int (Int32.ofInt (1 : Int))]) (st := []) rfl rfl (Nat.le_of_ble_eq_true rfl) ⟨_, _, _, rfl, a1_, a2_.1⟩ (by omega) (by omega) (zm_start_M g hX (i_ := 0) (w_ := 1) (Or.inl rfl) (by decide) (fun y_ => absurd y_ (by decide)) (fun y_ h2_ f2_ x2_ => ?_))
    show S 10 [some (.ref x), some (.int (Int32.ofInt e)), some (.int (Int32.ofInt (f : Int)))] [.int (Int32.ofInt (0 : Int))] _ _ _
    refine hs 6 _ rfl _ _ _ _ _ _ (fun zq => absurd (hd_c1z (c := 1) (by omega) (by omega) zq) (by omega : ¬ ((0 : Int) ≠ 0))) (fun _ => ?_)
    refine hs 7 _ rfl _ _ _ _ _ _ _ rfl ?_
    refine hs 8 _ rfl _ _ _ _ _ _ _ rfl ?_
    refine hs 9 _ rfl _ _ _ _ _ _ _ rfl ?_
    refine zw_cm (hs 10 _ rfl) (a := [.ref x, .int (Int32.ofInt e), .int (Int32.ofInt (f : Int))]) (st := []) 3 8 rfl rfl (Nat.le_of_ble_eq_true rfl) (zm_rc x2_) (by omega) (by omega) (zm_isFit_M g x2_ hok (by omega) (by omega) (by omega) (by omega) (by omega) (by omega) (fun ft_ h3_ g3_ => ?_) (fun ft_ h3_ g3_ => ?_))
    · show S 19 [some (.ref x), some (.int (Int32.ofInt e)), some (.int (Int32.ofInt (f : Int)))] [.int (Int32.ofInt (1 : Int))] _ _ _
      refine hs 11 _ rfl _ _ _ _ _ _ (fun zq => absurd (hd_c1z (c := 0) (by omega) (by omega) zq) (by omega : ¬ ((1 : Int) = 0))) (fun _ => ?_)
      refine hs 12 _ rfl _ _ _ _ _ _ _ rfl ?_
      refine hs 13 _ rfl _ _ _ _ _ ?_
      exact hs 15 _ rfl _ _ _ _ _ ⟨_, rfl, by decide, by decide⟩ (by omega) (by omega) (hP 1 _ _ _ ⟨rfl, Or.inl ⟨c1_, rfl, Or.inl ⟨ft_, rfl⟩⟩⟩ (f2_.tr (zm_fr.g g3_)) ⟨_, _, _, _, x2_.g g3_ fun _ _ => rfl⟩)
    · show S 19 [some (.ref x), some (.int (Int32.ofInt e)), some (.int (Int32.ofInt (f : Int)))] [.int (Int32.ofInt (0 : Int))] _ _ _
      refine hs 11 _ rfl _ _ _ _ _ _ (fun _ => ?_) (fun zq => absurd (hd_c1t (c := 0) (by omega) (by omega) (by omega : (0 : Int) = 0)) zq)
      refine hs 14 _ rfl _ _ _ _ _ _ _ rfl ?_
      exact hs 15 _ rfl _ _ _ _ _ ⟨_, rfl, by decide, by decide⟩ (by omega) (by omega) (hP 0 _ _ _ ⟨rfl, Or.inl ⟨c1_, rfl, Or.inr ⟨ft_, rfl⟩⟩⟩ (f2_.tr (zm_fr.g g3_)) ⟨_, _, _, _, x2_.g g3_ fun _ _ => rfl⟩)
set_option maxHeartbeats 4000000 in
theorem zc_wqwouldJoin_M {l : Launch} {G : am_G} {X : ck_XT} (g : gM l G X) {x : Nat} {r : Nat → Nat} {jj mm kk : Int} {c : sp_S} {R : Nat → sp_S} {old cnt : Nat} {h : List am_C} (hX : zc_x G h x r jj mm kk c R old cnt){o : Nat} {n0 : Int64} {s0 : Value} (hO : am_g G h o = some (1016, [.long n0, s0])) (ho1 : o < x ∨ x + 228 ≤ o) (ho2 : o ≠ r 4) (ho3 : 1000 ≤ o) {e e2 : Int} (he1 : -2147483648 ≤ e) (he2 : e ≤ 2147483647) (hf1 : -2147483648 ≤ e2) (hf2 : e2 ≤ 2147483647) {mc ms : Nat} {Post : am_O → List am_C → Prop} (hmc : 1 ≤ mc) (hms : 6 ≤ ms)
    (hP : ∀ (a th : Int) (T' : sp_T) (h' : List am_C), sp_q48 e e2 (c, zc_l R old cnt, jj, mm, kk) a th T' → zc_of G h h' x r o → zc_Y G h' x r T' → (th = 0 → am_g G h' o = some (1016, [.long (Int64.ofInt a), s0])) → Post (.inl (some (.int (Int32.ofInt th)))) h') :
    am_M l G yL_wouldJoin (.codeWith yL_wouldJoin method_42_code 5 (some .int) [(0, 18, 21, 19)]) 8 139 mc ms [.ref x, .int (Int32.ofInt e), .int (Int32.ofInt e2), .ref o] h Post := by
  refine gh_yL_wouldJoin_X g (Nat.le_of_ble_eq_true rfl) fun S SX hs hr hw hx => ?_
  have rv : ∀ x : Int32, ck_fv 0 (.int x) := fun x => ⟨_, rfl⟩
  have ok_ := hX.2.2.1
  have okd_ := ok_.1
  have okn_ := ok_.2.1.1
  have okr_ := ok_.2.2.1.1
  have okb_ := ok_.2.2.2.1
  have px_ := hX.2.2.2.2.2.2.2
  refine hs 0 _ rfl _ _ _ _ _ _ _ rfl ?_
  refine hs 1 _ rfl _ _ _ _ _ _ _ rfl ?_
  refine hs 2 _ rfl _ _ _ _ _ _ _ rfl ?_
  refine hs 3 _ rfl _ _ _ _ _ _ _ rfl ?_
  refine zw_cm (hs 4 _ rfl) (a := [.ref x, .int (Int32.ofInt e), .int (Int32.ofInt e2)]) (st := [.ref o]) 1 6 rfl rfl (Nat.le_of_ble_eq_true rfl) ⟨_, _, _, rfl, hX.1, rfl⟩ (by omega) (by omega) (zc_qwouldJoin_M g hX he1 he2 hf1 hf2 (by omega) (by omega) (fun y_ ft_ h9_ fr_ x9_ => ?_) (fun y_ ft_ h9_ fr_ x9_ => ?_) (fun hn_ => ?_))
  · show S 7 [some (.ref x), some (.int (Int32.ofInt e)), some (.int (Int32.ofInt e2)), some (.ref o), none] [.int (Int32.ofInt (1 : Int)), .ref o] _ _ _
    refine hs 5 _ rfl _ _ _ _ _ _ (fun zq => absurd (hd_c1z (c := 0) (by omega) (by omega) zq) (by omega : ¬ ((1 : Int) = 0))) (fun _ => ?_)
    refine hs 6 _ rfl _ _ _ _ _ _ _ rfl ?_
    refine hs 7 _ rfl _ _ _ _ _ ?_
    refine zw_U (hs 9 _ rfl) (by omega) (((fr_.2 _ ho1 ho2).trans hO)) rfl ⟨_, rfl⟩ fun hz717 wz718 => ?_
    have wz718 : hd_w G _ hz717 o (1016, [.long (Int64.ofInt (1 : Int)), s0]) := wz718
    have lwz718 := wz718.1
    refine hs 10 _ rfl _ _ _ _ _ ?_
    refine hs 14 _ rfl _ _ _ _ _ _ _ rfl ?_
    exact hs 15 _ rfl _ _ _ _ _ (rv _) (by omega) (by omega) (hP (1 : Int) 0 _ _ (⟨rfl, Or.inl ⟨y_, rfl, Or.inl ⟨ft_, rfl⟩⟩⟩) ((zc_of.fr fr_).tr (zc_of.w wz718)) (zc_X.out (⟨_, _, _, x9_, rfl⟩) wz718 ho1 ho2) fun _ => wz718.at)
  · show S 7 [some (.ref x), some (.int (Int32.ofInt e)), some (.int (Int32.ofInt e2)), some (.ref o), none] [.int (Int32.ofInt (0 : Int)), .ref o] _ _ _
    refine hs 5 _ rfl _ _ _ _ _ _ (fun _ => ?_) (fun zq => absurd (hd_c1t (c := 0) (by omega) (by omega) (by omega : (0 : Int) = 0)) zq)
    refine hs 8 _ rfl _ _ _ _ _ _ _ rfl ?_
    refine zw_U (hs 9 _ rfl) (by omega) (((fr_.2 _ ho1 ho2).trans hO)) rfl ⟨_, rfl⟩ fun hz719 wz720 => ?_
    have wz720 : hd_w G _ hz719 o (1016, [.long (Int64.ofInt (0 : Int)), s0]) := wz720
    have lwz720 := wz720.1
    refine hs 10 _ rfl _ _ _ _ _ ?_
    refine hs 14 _ rfl _ _ _ _ _ _ _ rfl ?_
    exact hs 15 _ rfl _ _ _ _ _ (rv _) (by omega) (by omega) (hP (0 : Int) 0 _ _ (⟨rfl, Or.inl ⟨y_, rfl, Or.inr ⟨ft_, rfl⟩⟩⟩) ((zc_of.fr fr_).tr (zc_of.w wz720)) (zc_X.out (⟨_, _, _, x9_, rfl⟩) wz720 ho1 ho2) fun _ => wz720.at)
  · refine hx (_, _) (List.mem_cons.mpr (Or.inl rfl)) _ _ _ _ rfl ?_
    show S 23 _ [] _ _ _
    refine hs 12 _ rfl _ _ _ _ _ _ _ rfl ?_
    exact hs 13 _ rfl _ _ _ _ _ (rv _) (by omega) (by omega) (hP 0 1 _ _ (⟨rfl, Or.inr ⟨hn_, rfl⟩⟩) (zc_of.g zg.app1) ⟨_, _, _, hX.app, rfl⟩ fun z_ => absurd z_ (by decide))
