/-! THE ROOT AT A PLACE -/
def sp_r40 (e e2 : Int) (T : sp_T) (a : Int) : Prop := sp_jm T (fun v => sk_at (sk_r (sp_md T e).toNat T.1.1.toNat) T.1.1.toNat e2 v) a
def sp_q40 (e e2 : Int) (T : sp_T) (a th : Int) (T' : sp_T) : Prop := T' = T ∧ ((sp_s1 e ∧ 0 ≤ e2 ∧ th = 0 ∧ sp_r40 e e2 T a) ∨ (sp_s1 e ∧ e2 < 0 ∧ th = 2) ∨ (¬ sp_s1 e ∧ th = 1))
section SPR
variable {e e2 a th a2 th2 : Int} {T T' T2 : sp_T}
theorem sp_q40.fn (h1 : sp_q40 e e2 T a th T') (h2 : sp_q40 e e2 T a2 th2 T2) : sp_al a th T' a2 th2 T2 := by
  obtain ⟨e1_, c1_⟩ := h1
  obtain ⟨e2_, c2_⟩ := h2
  have t_ : T' = T2 := e1_.trans e2_.symm
  rcases c1_ with ⟨a1_, a2_, a3_, a4_⟩ | ⟨a1_, a2_, a3_⟩ | ⟨a1_, a2_⟩
  · rcases c2_ with ⟨b1_, b2_, b3_, b4_⟩ | ⟨b1_, b2_, b3_⟩ | ⟨b1_, b2_⟩
    · exact ⟨a3_.trans b3_.symm, t_, fun _ => sp_jm.fn (fun v w y_ z_ => sk_at.fn y_ z_) a4_ b4_⟩
    · omega
    · exact absurd a1_ b1_
  · rcases c2_ with ⟨b1_, b2_, b3_, b4_⟩ | ⟨b1_, b2_, b3_⟩ | ⟨b1_, b2_⟩
    · omega
    · exact ⟨a3_.trans b3_.symm, t_, fun z_ => by omega⟩
    · exact absurd a1_ b1_
  · rcases c2_ with ⟨b1_, b2_, b3_, b4_⟩ | ⟨b1_, b2_, b3_⟩ | ⟨b1_, b2_⟩
    · exact absurd b1_ a1_
    · exact absurd b1_ a1_
    · exact ⟨a2_.trans b2_.symm, t_, fun z_ => by omega⟩
theorem sp_r40.bd (hk : sp_ok T.1) (h : sp_r40 e e2 T a) : -9 ≤ a ∧ a ≤ 1000 := sp_jm.bd hk (fun hp hr => by
  have d_ := hk.1
  have l_ := sk_at.bd hr
  omega) h
end SPR
set_option maxHeartbeats 4000000 in
theorem zc_np_M {l : Launch} {G : am_G} {X : ck_XT} (g : gM l G X) {e : Int} (he1 : -2147483648 ≤ e) (he2 : e ≤ 2147483647) (he : 0 ≤ e) {h : List am_C} {mc ms : Nat} {Post : am_O → List am_C → Prop} (hP : Post (.inl none) h) :
    am_M l G yX10_needPlace (.code yX10_needPlace prog_1_method_64_code 1 none) 6 90 mc ms [.int (Int32.ofInt e)] h Post := by
  refine gh_yX10_needPlace_X g (Nat.le_of_ble_eq_true rfl) fun S SX hs hr hw hx => ?_
  have rv : ∀ x : Int32, ck_fv 0 (.int x) := fun x => ⟨_, rfl⟩
  refine hs 0 _ rfl _ _ _ _ _ _ _ rfl ?_
  refine hs 1 _ rfl _ _ _ _ _ _ (fun _ => ?_) (fun zq => absurd (hd_c1t (c := 3) (by omega) (by omega) (by omega : 0 ≤ e)) zq)
  exact hs 3 _ rfl _ _ _ _ (Nat.zero_le _) (Nat.zero_le _) hP
set_option maxHeartbeats 4000000 in
theorem zc_npX_M {l : Launch} {G : am_G} {X : ck_XT} (g : gM l G X) {e : Int} (he1 : -2147483648 ≤ e) (he2 : e ≤ 2147483647) (he : e < 0) {h : List am_C} {mc ms : Nat} {Post : am_O → List am_C → Prop} (hmc : 1 ≤ mc) (hms : 6 ≤ ms) (hP : Post (.inr "java/lang/IllegalArgumentException") (h ++ [(99, [])])) :
    am_M l G yX10_needPlace (.code yX10_needPlace prog_1_method_64_code 1 none) 6 90 mc ms [.int (Int32.ofInt e)] h Post := by
  refine gh_yX10_needPlace_X g (Nat.le_of_ble_eq_true rfl) fun S SX hs hr hw hx => ?_
  have rv : ∀ x : Int32, ck_fv 0 (.int x) := fun x => ⟨_, rfl⟩
  refine hs 0 _ rfl _ _ _ _ _ _ _ rfl ?_
  refine hs 1 _ rfl _ _ _ _ _ _ (fun zq => absurd (hd_c1z (c := 3) (by omega) (by omega) zq) (by omega : ¬ (0 ≤ e))) (fun _ => ?_)
  exact hs 2 _ rfl _ _ _ _ _ rfl (Nat.le_of_ble_eq_true rfl) (by omega) (by omega) hP
theorem sk_rootAtE_M {l : Launch} {G : am_G} {X : ck_XT} (g : gM l G X) {a m pl_ : Int} {h : List am_C} (ha : 0 ≤ a) (ka : a < m) (hm : m ≤ 400) (hpl : 0 ≤ pl_) (hpl2 : pl_ ≤ 2147483647) {mc ms : Nat} {Post : am_O → List am_C → Prop} (hP : ∀ v : Int, sk_at (sk_r a.toNat m.toNat) m.toNat pl_ v → Post (.inl (some (.int (Int32.ofInt v)))) h) :
    am_M l G yX7_rootAt (.code yX7_rootAt prog_9_method_11_code 5 (some .int)) 1 20 mc ms [.int (Int32.ofInt a), .int (Int32.ofInt m), .int (Int32.ofInt pl_)] h Post := by
  obtain ⟨A_, rfl⟩ : ∃ x_ : Nat, a = (x_ : Int) := ⟨a.toNat, by omega⟩
  obtain ⟨M_, rfl⟩ : ∃ x_ : Nat, m = (x_ : Int) := ⟨m.toNat, by omega⟩
  exact sk_rootAt_M g (by omega) (by omega) hpl hpl2 hP
theorem zk_rootAtE_M {l : Launch} {G : am_G} {X : ck_XT} (g : gM l G X) {o : Nat → Nat} {x tx now qw : Nat} {th j m k : Int} {c : sp_S} {P : List sp_S} {h : List am_C} (hX : zm_x G h o x tx now qw th j m k c P) (hok : sp_ok c) {a pl_ : Int} (ha : 0 ≤ a) (ka : a < c.1) (hpl : 0 ≤ pl_) (hpl2 : pl_ ≤ 2147483647) {mc ms : Nat} {Post : am_O → List am_C → Prop} (hP : ∀ v : Int, sk_at (sk_r a.toNat c.1.toNat) c.1.toNat pl_ v → Post (.inl (some (.int (Int32.ofInt v)))) h) :
    am_M l G yX14_rootAt (.code yX14_rootAt prog_14_method_72_code 5 (some .int)) 1 20 mc ms [.ref x, .int (Int32.ofInt a), .int (Int32.ofInt pl_)] h Post := by
  obtain ⟨A_, rfl⟩ : ∃ x_ : Nat, a = (x_ : Int) := ⟨a.toNat, by omega⟩
  have okd_ := hok.1
  exact zk_rootAt_M g hX (M_ := c.1.toNat) (by omega) (by omega) (by omega) hpl hpl2 hP
set_option maxHeartbeats 4000000 in
theorem zc_qroot_M {l : Launch} {G : am_G} {X : ck_XT} (g : gM l G X) {x : Nat} {r : Nat → Nat} {jj mm kk : Int} {c : sp_S} {R : Nat → sp_S} {old cnt : Nat} {h : List am_C} (hX : zc_x G h x r jj mm kk c R old cnt) {e : Int} (he1 : -2147483648 ≤ e) (he2 : e ≤ 2147483647) {e2 : Int} (hf1 : -2147483648 ≤ e2) (hf2 : e2 ≤ 2147483647) {mc ms : Nat} {Post : am_O → List am_C → Prop} (hmc : 1 ≤ mc) (hms : 6 ≤ ms)
    (hP : (0 ≤ e ∧ e < 6) → 0 ≤ e2 → ∀ a : Int, sp_r40 e e2 (c, zc_l R old cnt, jj, mm, kk) a → Post (.inl (some (.int (Int32.ofInt a)))) h)
    (hX3 : (0 ≤ e ∧ e < 6) → e2 < 0 → Post (.inr "java/lang/IllegalArgumentException") (h ++ [(99, [])]))
    (hX2 : ¬ (0 ≤ e ∧ e < 6) → Post (.inr "java/lang/IndexOutOfBoundsException") (h ++ [(99, [])])) :
    am_M l G yX10_root (.code yX10_root prog_1_method_40_code 4 (some .int)) 7 111 mc ms [.ref x, .int (Int32.ofInt e), .int (Int32.ofInt e2)] h Post := by
  have hx9_ := hX.2.2.2.2.2.2.2
  by_cases c1_ : 0 ≤ e ∧ e < 6
  rotate_left
  · 
    refine gh_yX10_root_X g (Nat.le_of_ble_eq_true rfl) fun S SX hs hr hw hx => ?_
    have rv : ∀ x : Int32, ck_fv 0 (.int x) := fun x => ⟨_, rfl⟩
    refine hs 0 _ rfl _ _ _ _ _ _ _ rfl ?_
    refine hs 1 _ rfl _ _ _ _ _ _ _ rfl ?_
    exact zw_cm (hs 2 _ rfl) (a := [.ref x, .int (Int32.ofInt e)]) (st := []) 1 6 rfl rfl (Nat.le_of_ble_eq_true rfl) ⟨_, _, _, rfl, (hX.1), rfl⟩ (by omega) (by omega) (zc_numAtX_M g hX he1 he2 (by omega) (by decide) (by decide) (hx _ _ _ _ _ _ (by omega) (by omega) (hX2 c1_)))
  · obtain ⟨i, rfl⟩ : ∃ i : Nat, e = (i : Int) := ⟨e.toNat, by omega⟩
    have hi : i < 6 := by omega
    by_cases y2_ : 0 ≤ e2
    rotate_left
    · 
      refine gh_yX10_root_X g (Nat.le_of_ble_eq_true rfl) fun S SX hs hr hw hx => ?_
      have rv : ∀ x : Int32, ck_fv 0 (.int x) := fun x => ⟨_, rfl⟩
      refine hs 0 _ rfl _ _ _ _ _ _ _ rfl ?_
      refine hs 1 _ rfl _ _ _ _ _ _ _ rfl ?_
      refine zw_c (hs 2 _ rfl) (a := [.ref x, .int (Int32.ofInt (i : Int))]) (st := []) rfl rfl (Nat.le_of_ble_eq_true rfl) ⟨_, _, _, rfl, hX.1, rfl⟩ (by omega) (by omega) (zc_numAt_M g hX (i := i) rfl hi ?_)
      show S 5 [some (.ref x), some (.int (Int32.ofInt (i : Int))), some (.int (Int32.ofInt e2)), none] [.ref (x + 1 + 5 + 2 * i)] _ _ _
      refine hs 3 _ rfl _ _ _ _ _ _ _ rfl ?_
      refine hs 4 _ rfl _ _ _ _ _ _ _ rfl ?_
      exact zw_cm (hs 5 _ rfl) (a := [.int (Int32.ofInt e2)]) (st := []) 1 6 rfl rfl (Nat.le_of_ble_eq_true rfl) trivial (by omega) (by omega) (zc_npX_M g hf1 hf2 (by omega) (by decide) (by decide) (hx _ _ _ _ _ _ (by omega) (by omega) (hX3 c1_ (by omega))))
    · have hP_ := hP c1_ y2_
      obtain ⟨ny_, sy_, ly_, y1_, y2b_, y3_⟩ := hX.2.1.n hi
      have hb_ := hX.2.2.1.1
      refine gh_yX10_root_X g (Nat.le_of_ble_eq_true rfl) fun S SX hs hr hw hx => ?_
      have rv : ∀ x : Int32, ck_fv 0 (.int x) := fun x => ⟨_, rfl⟩
      by_cases cj_ : c.1 ≤ 0
      · 
        refine hs 0 _ rfl _ _ _ _ _ _ _ rfl ?_
        refine hs 1 _ rfl _ _ _ _ _ _ _ rfl ?_
        refine zw_c (hs 2 _ rfl) (a := [.ref x, .int (Int32.ofInt (i : Int))]) (st := []) rfl rfl (Nat.le_of_ble_eq_true rfl) ⟨_, _, _, rfl, hX.1, rfl⟩ (by omega) (by omega) (zc_numAt_M g hX (i := i) rfl hi ?_)
        show S 5 [some (.ref x), some (.int (Int32.ofInt (i : Int))), some (.int (Int32.ofInt e2)), none] [.ref (x + 1 + 5 + 2 * i)] _ _ _
        refine hs 3 _ rfl _ _ _ _ _ _ _ rfl ?_
        refine hs 4 _ rfl _ _ _ _ _ _ _ rfl ?_
        refine zw_c (hs 5 _ rfl) (a := [.int (Int32.ofInt e2)]) (st := []) rfl rfl (Nat.le_of_ble_eq_true rfl) trivial (by omega) (by omega) (zc_np_M g (e := e2) hf1 hf2 y2_ ?_)
        show S 10 [some (.ref x), some (.int (Int32.ofInt (i : Int))), some (.int (Int32.ofInt e2)), some (.ref (x + 1 + 5 + 2 * i))] [] _ _ _
        refine hs 6 _ rfl _ _ _ _ _ _ _ rfl ?_
        refine zw_c (hs 7 _ rfl) (a := [.ref x]) (st := []) rfl rfl (Nat.le_of_ble_eq_true rfl) ⟨_, _, _, rfl, hX.1, rfl⟩ (by omega) (by omega) (zc_jam_M g hX (fun _ => ?_) (fun y_ => absurd y_ (by omega)))
        show S 14 [some (.ref x), some (.int (Int32.ofInt (i : Int))), some (.int (Int32.ofInt e2)), some (.ref (x + 1 + 5 + 2 * i))] [.int (Int32.ofInt (1 : Int))] _ _ _
        refine hs 8 _ rfl _ _ _ _ _ _ (fun zq => absurd (hd_c1z (c := 0) (by omega) (by omega) zq) (by omega : ¬ ((1 : Int) = 0))) (fun _ => ?_)
        refine hs 9 _ rfl _ _ _ _ _ _ _ rfl ?_
        refine hs 10 _ rfl _ _ _ _ _ ?_
        exact hs 21 _ rfl _ _ _ _ _ (rv _) (Nat.zero_le _) (Nat.zero_le _) (hP_ _ (Or.inl ⟨cj_, rfl⟩))
      · have r1_ := Int.emod_nonneg (c.2.1.getD i 0) (b := c.1) (by omega)
        have r2_ := Int.emod_lt_of_pos (c.2.1.getD i 0) (b := c.1) (by omega)
        refine hs 0 _ rfl _ _ _ _ _ _ _ rfl ?_
        refine hs 1 _ rfl _ _ _ _ _ _ _ rfl ?_
        refine zw_c (hs 2 _ rfl) (a := [.ref x, .int (Int32.ofInt (i : Int))]) (st := []) rfl rfl (Nat.le_of_ble_eq_true rfl) ⟨_, _, _, rfl, hX.1, rfl⟩ (by omega) (by omega) (zc_numAt_M g hX (i := i) rfl hi ?_)
        show S 5 [some (.ref x), some (.int (Int32.ofInt (i : Int))), some (.int (Int32.ofInt e2)), none] [.ref (x + 1 + 5 + 2 * i)] _ _ _
        refine hs 3 _ rfl _ _ _ _ _ _ _ rfl ?_
        refine hs 4 _ rfl _ _ _ _ _ _ _ rfl ?_
        refine zw_c (hs 5 _ rfl) (a := [.int (Int32.ofInt e2)]) (st := []) rfl rfl (Nat.le_of_ble_eq_true rfl) trivial (by omega) (by omega) (zc_np_M g (e := e2) hf1 hf2 y2_ ?_)
        show S 10 [some (.ref x), some (.int (Int32.ofInt (i : Int))), some (.int (Int32.ofInt e2)), some (.ref (x + 1 + 5 + 2 * i))] [] _ _ _
        refine hs 6 _ rfl _ _ _ _ _ _ _ rfl ?_
        refine zw_c (hs 7 _ rfl) (a := [.ref x]) (st := []) rfl rfl (Nat.le_of_ble_eq_true rfl) ⟨_, _, _, rfl, hX.1, rfl⟩ (by omega) (by omega) (zc_jam_M g hX (fun y_ => absurd y_ (by omega)) (fun _ => ?_))
        show S 14 [some (.ref x), some (.int (Int32.ofInt (i : Int))), some (.int (Int32.ofInt e2)), some (.ref (x + 1 + 5 + 2 * i))] [.int (Int32.ofInt (0 : Int))] _ _ _
        refine hs 8 _ rfl _ _ _ _ _ _ (fun _ => ?_) (fun zq => absurd (hd_c1t (c := 0) (by omega) (by omega) (by omega : (0 : Int) = 0)) zq)
        refine hs 11 _ rfl _ _ _ _ _ _ _ rfl ?_
        refine hs 12 _ rfl _ _ _ _ _ _ _ rfl ?_
        refine hs 13 _ rfl _ _ _ _ _ _ _ _ _ (hX.1) rfl rfl ?_
        refine hs 14 _ rfl _ _ _ _ _ _ _ _ _ (hX.2.1.d) rfl rfl ?_
        refine zw_c (hs 15 _ rfl) (a := [.ref (x + 1 + 5 + 2 * i), .int (Int32.ofInt c.1)]) (st := []) rfl rfl (Nat.le_of_ble_eq_true rfl) ⟨_, _, _, rfl, y1_, rfl⟩ (by omega) (by omega) (sb_restE_M g y1_ rfl y2b_ rfl y3_ (by omega) (by omega) ?_)
        show S 33 [some (.ref x), some (.int (Int32.ofInt (i : Int))), some (.int (Int32.ofInt e2)), some (.ref (x + 1 + 5 + 2 * i))] [.int (Int32.ofInt (c.2.1.getD i 0 % c.1))] _ _ _
        refine hs 16 _ rfl _ _ _ _ _ _ _ rfl ?_
        refine hs 17 _ rfl _ _ _ _ _ _ _ _ _ (hX.1) rfl rfl ?_
        refine hs 18 _ rfl _ _ _ _ _ _ _ _ _ (hX.2.1.d) rfl rfl ?_
        refine hs 19 _ rfl _ _ _ _ _ _ _ rfl ?_
        refine zw_c (hs 20 _ rfl) (a := [.int (Int32.ofInt (c.2.1.getD i 0 % c.1)), .int (Int32.ofInt c.1), .int (Int32.ofInt e2)]) (st := []) rfl rfl (Nat.le_of_ble_eq_true rfl) trivial (by omega) (by omega) (sk_rootAtE_M g r1_ r2_ (by omega) y2_ hf2 (fun v_ hv_ => ?_))
        show S 44 [some (.ref x), some (.int (Int32.ofInt (i : Int))), some (.int (Int32.ofInt e2)), some (.ref (x + 1 + 5 + 2 * i))] [.int (Int32.ofInt v_)] _ _ _
        exact hs 21 _ rfl _ _ _ _ _ (rv _) (Nat.zero_le _) (Nat.zero_le _) (hP_ _ (Or.inr ⟨by show 0 < c.1; omega, hv_⟩))
set_option maxHeartbeats 4000000 in
theorem zm_qroot_M {l : Launch} {G : am_G} {X : ck_XT} (g : gM l G X) {o : Nat → Nat} {x tx now qw : Nat} {th j m k : Int} {c : sp_S} {P : List sp_S} {h : List am_C} (hX : zm_x G h o x tx now qw th j m k c P) (hok : sp_ok c) {e e2 : Int} (he1 : -2147483648 ≤ e) (he2 : e ≤ 2147483647) (hf1 : -2147483648 ≤ e2) (hf2 : e2 ≤ 2147483647) {mc ms : Nat} {Post : am_O → List am_C → Prop}
    (hP : ∀ (a th : Int) (T' : sp_T) (h' : List am_C), sp_q40 e e2 (c, P, j, m, k) a th T' → zm_fr G h h' → zm_Y G h' x th T' → Post (.inl (some (.int (Int32.ofInt a)))) h') :
    am_M l G yX14_root (.code yX14_root prog_14_method_74_code 3 (some .int)) 3 64 mc ms [.ref x, .int (Int32.ofInt e), .int (Int32.ofInt e2)] h Post := by
  refine gh_yX14_root_X g (Nat.le_of_ble_eq_true rfl) fun S SX hs hr hw hx => ?_
  have rv : ∀ x : Int32, ck_fv 0 (.int x) := fun x => ⟨_, rfl⟩
  obtain ⟨a1_, a2_, a3_, a4_⟩ := id hX
  by_cases c1_ : sp_s1 e
  rotate_left
  · have c1b_ : ¬ (0 ≤ e ∧ e < 6) := c1_
    refine hs 0 _ rfl _ _ _ _ _ _ _ rfl ?_
    refine hs 1 _ rfl _ _ _ _ _ _ _ rfl ?_
    refine zw_c (hs 2 _ rfl) (a := [.int (Int32.ofInt e)]) (st := [.ref x]) rfl rfl (Nat.le_of_ble_eq_true rfl) trivial (by omega) (by omega) (zm_noSlot_M g (e := e) (by omega) (by omega) (fun y_ => ?_) (fun y_ => absurd y_ (by omega)))
    show S 5 [some (.ref x), some (.int (Int32.ofInt e)), some (.int (Int32.ofInt e2))] [.int (Int32.ofInt (1 : Int)), .ref x] _ _ _
    refine hs 3 _ rfl _ _ _ _ _ _ _ rfl ?_
    refine zw_c (hs 4 _ rfl) (a := [.ref x, .int (Int32.ofInt (1 : Int)), .int (Int32.ofInt (1 : Int))]) (st := []) rfl rfl (Nat.le_of_ble_eq_true rfl) ⟨_, _, _, rfl, a1_, a2_.1⟩ (by omega) (by omega) (zm_start_M g hX (i_ := 1) (w_ := 1) (Or.inr rfl) (by decide) (fun y_ h2_ f2_ x2_ => ?_) (fun y_ => absurd y_ (by decide)))
    show S 9 [some (.ref x), some (.int (Int32.ofInt e)), some (.int (Int32.ofInt e2))] [.int (Int32.ofInt (1 : Int))] _ _ _
    refine hs 5 _ rfl _ _ _ _ _ _ (fun _ => ?_) (fun zq => absurd (hd_c1t (c := 1) (by omega) (by omega) (by omega : (1 : Int) ≠ 0)) zq)
    refine hs 15 _ rfl _ _ _ _ _ _ _ rfl ?_
    exact hs 16 _ rfl _ _ _ _ _ (rv _) (by omega) (by omega) (hP 0 _ _ _ ⟨rfl, Or.inr (Or.inr ⟨c1_, rfl⟩)⟩ (f2_) ⟨_, _, _, _, x2_⟩)
  · 
    obtain ⟨i, rfl⟩ : ∃ i : Nat, e = (i : Int) := ⟨e.toNat, by have := c1_.1; omega⟩
    have hi : i < 6 := by have := c1_.2; omega
    have c1b_ := c1_.1
    have c1c_ := c1_.2
    by_cases c3_ : 0 ≤ e2
    rotate_left
    · 
      refine hs 0 _ rfl _ _ _ _ _ _ _ rfl ?_
      refine hs 1 _ rfl _ _ _ _ _ _ _ rfl ?_
      refine zw_c (hs 2 _ rfl) (a := [.int (Int32.ofInt (i : Int))]) (st := [.ref x]) rfl rfl (Nat.le_of_ble_eq_true rfl) trivial (by omega) (by omega) (zm_noSlot_M g (e := (i : Int)) (by omega) (by omega) (fun y_ => absurd (by omega) y_) (fun y_ => ?_))
      show S 5 [some (.ref x), some (.int (Int32.ofInt (i : Int))), some (.int (Int32.ofInt e2))] [.int (Int32.ofInt (0 : Int)), .ref x] _ _ _
      refine hs 3 _ rfl _ _ _ _ _ _ _ rfl ?_
      refine zw_c (hs 4 _ rfl) (a := [.ref x, .int (Int32.ofInt (0 : Int)), .int (Int32.ofInt (1 : Int))]) (st := []) rfl rfl (Nat.le_of_ble_eq_true rfl) ⟨_, _, _, rfl, a1_, a2_.1⟩ (by omega) (by omega) (zm_start_M g hX (i_ := 0) (w_ := 1) (Or.inl rfl) (by decide) (fun y_ => absurd y_ (by decide)) (fun y_ h2_ f2_ x2_ => ?_))
      show S 9 [some (.ref x), some (.int (Int32.ofInt (i : Int))), some (.int (Int32.ofInt e2))] [.int (Int32.ofInt (0 : Int))] _ _ _
      refine hs 5 _ rfl _ _ _ _ _ _ (fun zq => absurd (hd_c1z (c := 1) (by omega) (by omega) zq) (by omega : ¬ ((0 : Int) ≠ 0))) (fun _ => ?_)
      refine hs 6 _ rfl _ _ _ _ _ _ _ rfl ?_
      refine hs 7 _ rfl _ _ _ _ _ _ _ rfl ?_
      refine hs 8 _ rfl _ _ _ _ _ _ (fun zq => absurd (hd_c1z (c := 3) (by omega) (by omega) zq) (by omega : ¬ (0 ≤ e2))) (fun _ => ?_)
      refine hs 9 _ rfl _ _ _ _ _ _ _ rfl ?_
      refine hs 10 _ rfl _ _ _ _ _ ?_
      refine hs 12 _ rfl _ _ _ _ _ _ _ rfl ?_
      refine zw_c (hs 13 _ rfl) (a := [.ref x, .int (Int32.ofInt (1 : Int)), .int (Int32.ofInt (2 : Int))]) (st := []) rfl rfl (Nat.le_of_ble_eq_true rfl) ⟨_, _, _, rfl, x2_.1, a2_.1⟩ (by omega) (by omega) (zm_refuse_M g x2_ (i_ := 1) (w_ := 2) (Or.inr rfl) (by decide) (fun y_ h3_ f3_ x3_ => ?_) (fun y_ => absurd y_ (by decide)))
      show S 26 [some (.ref x), some (.int (Int32.ofInt (i : Int))), some (.int (Int32.ofInt e2))] [.int (Int32.ofInt (1 : Int))] _ _ _
      refine hs 14 _ rfl _ _ _ _ _ _ (fun zq => absurd (hd_c1z (c := 0) (by omega) (by omega) zq) (by omega : ¬ ((1 : Int) = 0))) (fun _ => ?_)
      refine hs 15 _ rfl _ _ _ _ _ _ _ rfl ?_
      exact hs 16 _ rfl _ _ _ _ _ (rv _) (by omega) (by omega) (hP 0 _ _ _ ⟨rfl, Or.inr (Or.inl ⟨c1_, by omega, rfl⟩)⟩ (f2_.tr f3_) ⟨_, _, _, _, x3_⟩)
    · have okd_ := hok.1
      by_cases cj_ : c.1 ≤ 0
      · 
        refine hs 0 _ rfl _ _ _ _ _ _ _ rfl ?_
        refine hs 1 _ rfl _ _ _ _ _ _ _ rfl ?_
        refine zw_c (hs 2 _ rfl) (a := [.int (Int32.ofInt (i : Int))]) (st := [.ref x]) rfl rfl (Nat.le_of_ble_eq_true rfl) trivial (by omega) (by omega) (zm_noSlot_M g (e := (i : Int)) (by omega) (by omega) (fun y_ => absurd (by omega) y_) (fun y_ => ?_))
        show S 5 [some (.ref x), some (.int (Int32.ofInt (i : Int))), some (.int (Int32.ofInt e2))] [.int (Int32.ofInt (0 : Int)), .ref x] _ _ _
        refine hs 3 _ rfl _ _ _ _ _ _ _ rfl ?_
        refine zw_c (hs 4 _ rfl) (a := [.ref x, .int (Int32.ofInt (0 : Int)), .int (Int32.ofInt (1 : Int))]) (st := []) rfl rfl (Nat.le_of_ble_eq_true rfl) ⟨_, _, _, rfl, a1_, a2_.1⟩ (by omega) (by omega) (zm_start_M g hX (i_ := 0) (w_ := 1) (Or.inl rfl) (by decide) (fun y_ => absurd y_ (by decide)) (fun y_ h2_ f2_ x2_ => ?_))
        show S 9 [some (.ref x), some (.int (Int32.ofInt (i : Int))), some (.int (Int32.ofInt e2))] [.int (Int32.ofInt (0 : Int))] _ _ _
        refine hs 5 _ rfl _ _ _ _ _ _ (fun zq => absurd (hd_c1z (c := 1) (by omega) (by omega) zq) (by omega : ¬ ((0 : Int) ≠ 0))) (fun _ => ?_)
        refine hs 6 _ rfl _ _ _ _ _ _ _ rfl ?_
        refine hs 7 _ rfl _ _ _ _ _ _ _ rfl ?_
        refine hs 8 _ rfl _ _ _ _ _ _ (fun _ => ?_) (fun zq => absurd (hd_c1t (c := 3) (by omega) (by omega) (by omega : 0 ≤ e2)) zq)
        refine hs 11 _ rfl _ _ _ _ _ _ _ rfl ?_
        refine hs 12 _ rfl _ _ _ _ _ _ _ rfl ?_
        refine zw_c (hs 13 _ rfl) (a := [.ref x, .int (Int32.ofInt (0 : Int)), .int (Int32.ofInt (2 : Int))]) (st := []) rfl rfl (Nat.le_of_ble_eq_true rfl) ⟨_, _, _, rfl, x2_.1, a2_.1⟩ (by omega) (by omega) (zm_refuse_M g x2_ (i_ := 0) (w_ := 2) (Or.inl rfl) (by decide) (fun y_ => absurd y_ (by decide)) (fun y_ => ?_))
        show S 26 [some (.ref x), some (.int (Int32.ofInt (i : Int))), some (.int (Int32.ofInt e2))] [.int (Int32.ofInt (0 : Int))] _ _ _
        refine hs 14 _ rfl _ _ _ _ _ _ (fun _ => ?_) (fun zq => absurd (hd_c1t (c := 0) (by omega) (by omega) (by omega : (0 : Int) = 0)) zq)
        refine hs 17 _ rfl _ _ _ _ _ _ _ rfl ?_
        refine zw_c (hs 18 _ rfl) (a := [.ref x]) (st := []) rfl rfl (Nat.le_of_ble_eq_true rfl) (zm_rc x2_) (by omega) (by omega) (zm_jam_M g x2_ hok (fun y_ => ?_) (fun y_ => absurd y_ (by omega)))
        show S 35 [some (.ref x), some (.int (Int32.ofInt (i : Int))), some (.int (Int32.ofInt e2))] [.int (Int32.ofInt (1 : Int))] _ _ _
        refine hs 19 _ rfl _ _ _ _ _ _ (fun zq => absurd (hd_c1z (c := 0) (by omega) (by omega) zq) (by omega : ¬ ((1 : Int) = 0))) (fun _ => ?_)
        refine hs 20 _ rfl _ _ _ _ _ _ _ rfl ?_
        refine hs 21 _ rfl _ _ _ _ _ ?_
        exact hs 28 _ rfl _ _ _ _ _ (rv _) (by omega) (by omega) (hP (-9) _ _ _ ⟨rfl, Or.inl ⟨c1_, c3_, rfl, Or.inl ⟨cj_, rfl⟩⟩⟩ (f2_) ⟨_, _, _, _, x2_⟩)
      · have cp_ : 0 < c.1 := by omega
        have r1_ := Int.emod_nonneg (c.2.1.getD i 0) (b := c.1) (by omega)
        have r2_ := Int.emod_lt_of_pos (c.2.1.getD i 0) (b := c.1) (by omega)
        refine hs 0 _ rfl _ _ _ _ _ _ _ rfl ?_
        refine hs 1 _ rfl _ _ _ _ _ _ _ rfl ?_
        refine zw_c (hs 2 _ rfl) (a := [.int (Int32.ofInt (i : Int))]) (st := [.ref x]) rfl rfl (Nat.le_of_ble_eq_true rfl) trivial (by omega) (by omega) (zm_noSlot_M g (e := (i : Int)) (by omega) (by omega) (fun y_ => absurd (by omega) y_) (fun y_ => ?_))
        show S 5 [some (.ref x), some (.int (Int32.ofInt (i : Int))), some (.int (Int32.ofInt e2))] [.int (Int32.ofInt (0 : Int)), .ref x] _ _ _
        refine hs 3 _ rfl _ _ _ _ _ _ _ rfl ?_
        refine zw_c (hs 4 _ rfl) (a := [.ref x, .int (Int32.ofInt (0 : Int)), .int (Int32.ofInt (1 : Int))]) (st := []) rfl rfl (Nat.le_of_ble_eq_true rfl) ⟨_, _, _, rfl, a1_, a2_.1⟩ (by omega) (by omega) (zm_start_M g hX (i_ := 0) (w_ := 1) (Or.inl rfl) (by decide) (fun y_ => absurd y_ (by decide)) (fun y_ h2_ f2_ x2_ => ?_))
        show S 9 [some (.ref x), some (.int (Int32.ofInt (i : Int))), some (.int (Int32.ofInt e2))] [.int (Int32.ofInt (0 : Int))] _ _ _
        refine hs 5 _ rfl _ _ _ _ _ _ (fun zq => absurd (hd_c1z (c := 1) (by omega) (by omega) zq) (by omega : ¬ ((0 : Int) ≠ 0))) (fun _ => ?_)
        refine hs 6 _ rfl _ _ _ _ _ _ _ rfl ?_
        refine hs 7 _ rfl _ _ _ _ _ _ _ rfl ?_
        refine hs 8 _ rfl _ _ _ _ _ _ (fun _ => ?_) (fun zq => absurd (hd_c1t (c := 3) (by omega) (by omega) (by omega : 0 ≤ e2)) zq)
        refine hs 11 _ rfl _ _ _ _ _ _ _ rfl ?_
        refine hs 12 _ rfl _ _ _ _ _ _ _ rfl ?_
        refine zw_c (hs 13 _ rfl) (a := [.ref x, .int (Int32.ofInt (0 : Int)), .int (Int32.ofInt (2 : Int))]) (st := []) rfl rfl (Nat.le_of_ble_eq_true rfl) ⟨_, _, _, rfl, x2_.1, a2_.1⟩ (by omega) (by omega) (zm_refuse_M g x2_ (i_ := 0) (w_ := 2) (Or.inl rfl) (by decide) (fun y_ => absurd y_ (by decide)) (fun y_ => ?_))
        show S 26 [some (.ref x), some (.int (Int32.ofInt (i : Int))), some (.int (Int32.ofInt e2))] [.int (Int32.ofInt (0 : Int))] _ _ _
        refine hs 14 _ rfl _ _ _ _ _ _ (fun _ => ?_) (fun zq => absurd (hd_c1t (c := 0) (by omega) (by omega) (by omega : (0 : Int) = 0)) zq)
        refine hs 17 _ rfl _ _ _ _ _ _ _ rfl ?_
        refine zw_c (hs 18 _ rfl) (a := [.ref x]) (st := []) rfl rfl (Nat.le_of_ble_eq_true rfl) (zm_rc x2_) (by omega) (by omega) (zm_jam_M g x2_ hok (fun y_ => absurd y_ (by omega)) (fun y_ => ?_))
        show S 35 [some (.ref x), some (.int (Int32.ofInt (i : Int))), some (.int (Int32.ofInt e2))] [.int (Int32.ofInt (0 : Int))] _ _ _
        refine hs 19 _ rfl _ _ _ _ _ _ (fun _ => ?_) (fun zq => absurd (hd_c1t (c := 0) (by omega) (by omega) (by omega : (0 : Int) = 0)) zq)
        refine hs 22 _ rfl _ _ _ _ _ _ _ rfl ?_
        refine hs 23 _ rfl _ _ _ _ _ _ _ rfl ?_
        refine hs 24 _ rfl _ _ _ _ _ _ _ rfl ?_
        refine zw_c (hs 25 _ rfl) (a := [.ref x, .int (Int32.ofInt (i : Int))]) (st := [.ref x]) rfl rfl (Nat.le_of_ble_eq_true rfl) (zm_rc x2_) (by omega) (by omega) (zm_modAt_M g x2_ hok rfl hi (fun y_ => absurd y_ (by omega)) (fun y_ => ?_))
        show S 49 [some (.ref x), some (.int (Int32.ofInt (i : Int))), some (.int (Int32.ofInt e2))] [.int (Int32.ofInt (c.2.1.getD i 0 % c.1)), .ref x] _ _ _
        refine hs 26 _ rfl _ _ _ _ _ _ _ rfl ?_
        refine zw_c (hs 27 _ rfl) (a := [.ref x, .int (Int32.ofInt (c.2.1.getD i 0 % c.1)), .int (Int32.ofInt e2)]) (st := []) rfl rfl (Nat.le_of_ble_eq_true rfl) (zm_rc x2_) (by omega) (by omega) (zk_rootAtE_M g x2_ hok r1_ r2_ c3_ hf2 (fun v_ hv_ => ?_))
        show S 53 [some (.ref x), some (.int (Int32.ofInt (i : Int))), some (.int (Int32.ofInt e2))] [.int (Int32.ofInt v_)] _ _ _
        exact hs 28 _ rfl _ _ _ _ _ (rv _) (by omega) (by omega) (hP _ _ _ _ ⟨rfl, Or.inl ⟨c1_, c3_, rfl, Or.inr ⟨cp_, hv_⟩⟩⟩ (f2_) ⟨_, _, _, _, x2_⟩)
set_option maxHeartbeats 4000000 in
theorem zc_wqroot_M {l : Launch} {G : am_G} {X : ck_XT} (g : gM l G X) {x : Nat} {r : Nat → Nat} {jj mm kk : Int} {c : sp_S} {R : Nat → sp_S} {old cnt : Nat} {h : List am_C} (hX : zc_x G h x r jj mm kk c R old cnt){o : Nat} {n0 : Int64} {s0 : Value} (hO : am_g G h o = some (1016, [.long n0, s0])) (ho1 : o < x ∨ x + 228 ≤ o) (ho2 : o ≠ r 4) (ho3 : 1000 ≤ o) {e e2 : Int} (he1 : -2147483648 ≤ e) (he2 : e ≤ 2147483647) (hf1 : -2147483648 ≤ e2) (hf2 : e2 ≤ 2147483647) {mc ms : Nat} {Post : am_O → List am_C → Prop} (hmc : 1 ≤ mc) (hms : 6 ≤ ms)
    (hP : ∀ (a th : Int) (T' : sp_T) (h' : List am_C), sp_q40 e e2 (c, zc_l R old cnt, jj, mm, kk) a th T' → zc_of G h h' x r o → zc_Y G h' x r T' → (th = 0 → am_g G h' o = some (1016, [.long (Int64.ofInt a), s0])) → Post (.inl (some (.int (Int32.ofInt th)))) h') :
    am_M l G yL_root (.codeWith yL_root method_37_code 5 (some .int) [(0, 11, 14, 25), (0, 11, 18, 19)]) 8 134 mc ms [.ref x, .int (Int32.ofInt e), .int (Int32.ofInt e2), .ref o] h Post := by
  refine gh_yL_root_X g (Nat.le_of_ble_eq_true rfl) fun S SX hs hr hw hx => ?_
  have rv : ∀ x : Int32, ck_fv 0 (.int x) := fun x => ⟨_, rfl⟩
  have ok_ := hX.2.2.1
  have okd_ := ok_.1
  have okn_ := ok_.2.1.1
  have okr_ := ok_.2.2.1.1
  have okb_ := ok_.2.2.2.1
  have px_ := hX.2.2.2.2.2.2.2
  refine hs 0 _ rfl _ _ _ _ _ _ _ rfl ?_
  refine hs 1 _ rfl _ _ _ _ _ _ _ rfl ?_
  refine hs 2 _ rfl _ _ _ _ _ _ _ rfl ?_
  refine hs 3 _ rfl _ _ _ _ _ _ _ rfl ?_
  refine zw_cm (hs 4 _ rfl) (a := [.ref x, .int (Int32.ofInt e), .int (Int32.ofInt e2)]) (st := [.ref o]) 1 6 rfl rfl (Nat.le_of_ble_eq_true rfl) ⟨_, _, _, rfl, hX.1, rfl⟩ (by omega) (by omega) (zc_qroot_M g hX he1 he2 hf1 hf2 (by omega) (by omega) (fun y_ y2_ a_ r_ => ?_) (fun y_ y2_ => ?_) (fun hn_ => ?_))
  · show S 7 [some (.ref x), some (.int (Int32.ofInt e)), some (.int (Int32.ofInt e2)), some (.ref o), none] [.int (Int32.ofInt a_), .ref o] _ _ _
    have bd_ : -9 ≤ a_ ∧ a_ ≤ 1000 := sp_r40.bd (T := (c, zc_l R old cnt, jj, mm, kk)) ok_ r_
    refine hs 5 _ rfl _ _ _ _ _ _ _ (hd_i2l (by omega) (by omega)) ?_
    refine zw_U (hs 6 _ rfl) (by omega) (hO) rfl ⟨_, rfl⟩ fun hz701 wz702 => ?_
    have wz702 : hd_w G _ hz701 o (1016, [.long (Int64.ofInt a_), s0]) := wz702
    have lwz702 := wz702.1
    refine hs 7 _ rfl _ _ _ _ _ ?_
    refine hs 14 _ rfl _ _ _ _ _ _ _ rfl ?_
    exact hs 15 _ rfl _ _ _ _ _ (rv _) (by omega) (by omega) (hP a_ 0 _ _ (⟨rfl, Or.inl ⟨y_, y2_, rfl, r_⟩⟩) (zc_of.w wz702) (zc_X.out ⟨_, _, _, hX, rfl⟩ wz702 ho1 ho2) fun _ => wz702.at)
  · refine hx (_, _) (List.mem_cons.mpr (Or.inr (List.mem_cons.mpr (Or.inl rfl)))) _ _ _ _ rfl ?_
    show S 20 _ [] _ _ _
    refine hs 12 _ rfl _ _ _ _ _ _ _ rfl ?_
    exact hs 13 _ rfl _ _ _ _ _ (rv _) (by omega) (by omega) (hP 0 2 _ _ (⟨rfl, Or.inr (Or.inl ⟨y_, y2_, rfl⟩)⟩) (zc_of.g zg.app1) ⟨_, _, _, hX.app, rfl⟩ fun z_ => absurd z_ (by decide))
  · refine hx (_, _) (List.mem_cons.mpr (Or.inl rfl)) _ _ _ _ rfl ?_
    show S 16 _ [] _ _ _
    refine hs 9 _ rfl _ _ _ _ _ _ _ rfl ?_
    exact hs 10 _ rfl _ _ _ _ _ (rv _) (by omega) (by omega) (hP 0 1 _ _ (⟨rfl, Or.inr (Or.inr ⟨hn_, rfl⟩)⟩) (zc_of.g zg.app1) ⟨_, _, _, hX.app, rfl⟩ fun z_ => absurd z_ (by decide))
