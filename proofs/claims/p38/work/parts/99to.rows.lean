/-! ROWS, BASES, UNDO -/
theorem sp_last {α : Type} : ∀ (l : List α) (n : Nat), l.length = n + 1 → ∃ (B : List α) (b : α), l = B ++ [b] ∧ l[n]? = some b ∧ l.dropLast = B ∧ B.length = n
  | [], n, h => absurd h (by rw [List.length_nil]; omega)
  | [a], n, h => by
      obtain rfl : n = 0 := by rw [List.length_singleton] at h; omega
      exact ⟨[], a, rfl, rfl, rfl, rfl⟩
  | a :: b :: s, n, h => by
      obtain ⟨m_, rfl⟩ : ∃ m_ : Nat, n = m_ + 1 := ⟨n - 1, by rw [List.length_cons, List.length_cons] at h; omega⟩
      obtain ⟨B_, b_, e1_, e2_, e3_, e4_⟩ := sp_last (b :: s) m_ (by rw [List.length_cons] at h; omega)
      exact ⟨a :: B_, b_, congrArg (List.cons a) e1_, e2_, congrArg (List.cons a) e3_, by rw [List.length_cons, e4_]⟩
theorem sp_ok.cut {c : sp_S} (h : sp_ok c) (i : Nat) : sp_ok (c.1, c.2.1, c.2.2.1.eraseIdx i, c.2.2.2) := by
  obtain ⟨a1_, a2_, ⟨a3_, a4_⟩, a5_⟩ := h
  have s_ := List.eraseIdx_sublist c.2.2.1 i
  exact ⟨a1_, a2_, ⟨Nat.le_trans s_.length_le a3_, fun p hp => a4_ p (s_.subset hp)⟩, a5_⟩
theorem sp_ok.bs {c : sp_S} (h : sp_ok c) (hl : c.2.2.2.length < 5) {z : Int} (hz : 2 ≤ z ∧ z ≤ 999) : sp_ok (c.1, c.2.1, c.2.2.1, c.2.2.2 ++ [z]) := by
  obtain ⟨a1_, a2_, a3_, a4_, a5_⟩ := h
  refine ⟨a1_, a2_, a3_, by show (c.2.2.2 ++ [z]).length ≤ 5; rw [List.length_append, List.length_singleton]; omega, fun p hp => ?_⟩
  rcases List.mem_append.mp hp with e_ | e_
  · exact a5_ p e_
  · cases List.mem_singleton.mp e_
    exact hz
theorem sp_ok.ub {c : sp_S} (h : sp_ok c) {B : List Int} {b : Int} (e : c.2.2.2 = B ++ [b]) : sp_ok (c.1, c.2.1, c.2.2.1, B) := by
  obtain ⟨a1_, a2_, a3_, a4_, a5_⟩ := h
  refine ⟨a1_, a2_, a3_, by show B.length ≤ 5; rw [e, List.length_append, List.length_singleton] at a4_; omega, fun p hp => a5_ p (by rw [e]; exact List.mem_append_left _ hp)⟩
theorem zc_l_succ {R : Nat → sp_S} {old n : Nat} : zc_l R old (n + 1) = zc_l R old n ++ [R ((old + n) % 12)] := by
  unfold zc_l
  rw [List.range_succ, List.map_append]
  rfl
set_option maxHeartbeats 4000000 in
theorem zc_tell_M {l : Launch} {G : am_G} {X : ck_XT} (g : gM l G X) {x : Nat} {r : Nat → Nat} {jj mm kk : Int} {c : sp_S} {R : Nat → sp_S} {old cnt : Nat} {h : List am_C} (hX : zc_x G h x r jj mm kk c R old cnt) {e : Int} (he1 : -2147483648 ≤ e) (he2 : e ≤ 2147483647) {e2 : Int} (hf1 : -2147483648 ≤ e2) (hf2 : e2 ≤ 2147483647) {mc ms : Nat} {Post : am_O → List am_C → Prop} (hmc : 1 ≤ mc) (hms : 6 ≤ ms)
    (hP : (-9999 ≤ e ∧ e ≤ 9999 ∧ 1 ≤ e2 ∧ e2 ≤ 999) → c.2.2.1.length < 6 → ∀ h', zc_fr G h h' x r → zc_X G h' x r jj mm kk (c.1, c.2.1, c.2.2.1 ++ [(e % e2, e2)], c.2.2.2) (sp_keep (zc_l R old cnt) c) → Post (.inl (some (.int (Int32.ofInt (c.2.2.1.length : Int))))) h')
    (hX1 : ¬ (-9999 ≤ e ∧ e ≤ 9999 ∧ 1 ≤ e2 ∧ e2 ≤ 999) → Post (.inr "java/lang/IllegalArgumentException") (h ++ [(99, [])]))
    (hX3 : (-9999 ≤ e ∧ e ≤ 9999 ∧ 1 ≤ e2 ∧ e2 ≤ 999) → ¬ c.2.2.1.length < 6 → Post (.inr "java/lang/IllegalStateException") (h ++ [(99, [])])) :
    am_M l G yX10_tell (.code yX10_tell prog_1_method_13_code 3 (some .int)) 7 145 mc ms [.ref x, .int (Int32.ofInt e), .int (Int32.ofInt e2)] h Post := by
  refine gh_yX10_tell_X g (Nat.le_of_ble_eq_true rfl) fun S SX hs hr hw hx => ?_
  have rv : ∀ x : Int32, ck_fv 0 (.int x) := fun x => ⟨_, rfl⟩
  have hx9_ := hX.2.2.2.2.2.2.2
  have hl_ := hX.2.2.1.2.2.1.1
  by_cases c1_ : (-9999 ≤ e ∧ e ≤ 9999 ∧ 1 ≤ e2 ∧ e2 ≤ 999)
  rotate_left
  · 
    refine hs 0 _ rfl _ _ _ _ _ _ _ rfl ?_
    refine hs 1 _ rfl _ _ _ _ _ _ _ rfl ?_
    exact zw_cm (hs 2 _ rfl) (a := [.int (Int32.ofInt e), .int (Int32.ofInt e2)]) (st := []) 1 6 rfl rfl (Nat.le_of_ble_eq_true rfl) trivial (by omega) (by omega) (zc_needCX_M g he1 he2 hf1 hf2 c1_ (by decide) (by decide) (hx _ _ _ _ _ _ (by omega) (by omega) (hX1 c1_)))
  · by_cases c2_ : c.2.2.1.length < 6
    rotate_left
    · 
      refine hs 0 _ rfl _ _ _ _ _ _ _ rfl ?_
      refine hs 1 _ rfl _ _ _ _ _ _ _ rfl ?_
      refine zw_c (hs 2 _ rfl) (a := [.int (Int32.ofInt e), .int (Int32.ofInt e2)]) (st := []) rfl rfl (Nat.le_of_ble_eq_true rfl) trivial (Nat.zero_le _) (Nat.zero_le _) (zc_needC_M g he1 he2 hf1 hf2 c1_ ?_)
      show S 5 [some (.ref x), some (.int (Int32.ofInt e)), some (.int (Int32.ofInt e2))] [] _ _ _
      refine hs 3 _ rfl _ _ _ _ _ _ _ rfl ?_
      exact zw_cm (hs 4 _ rfl) (a := [.ref x]) (st := []) 1 6 rfl rfl (Nat.le_of_ble_eq_true rfl) ⟨_, _, _, rfl, hX.1, rfl⟩ (by omega) (by omega) (zc_needFX_M g hX (by omega) (by decide) (by decide) (hx _ _ _ _ _ _ (by omega) (by omega) (hX3 c1_ c2_)))
    · 
      refine hs 0 _ rfl _ _ _ _ _ _ _ rfl ?_
      refine hs 1 _ rfl _ _ _ _ _ _ _ rfl ?_
      refine zw_c (hs 2 _ rfl) (a := [.int (Int32.ofInt e), .int (Int32.ofInt e2)]) (st := []) rfl rfl (Nat.le_of_ble_eq_true rfl) trivial (Nat.zero_le _) (Nat.zero_le _) (zc_needC_M g he1 he2 hf1 hf2 c1_ ?_)
      show S 5 [some (.ref x), some (.int (Int32.ofInt e)), some (.int (Int32.ofInt e2))] [] _ _ _
      refine hs 3 _ rfl _ _ _ _ _ _ _ rfl ?_
      refine zw_c (hs 4 _ rfl) (a := [.ref x]) (st := []) rfl rfl (Nat.le_of_ble_eq_true rfl) ⟨_, _, _, rfl, hX.1, rfl⟩ (Nat.zero_le _) (Nat.zero_le _) (zc_needF_M g hX (by omega) ?_)
      show S 9 [some (.ref x), some (.int (Int32.ofInt e)), some (.int (Int32.ofInt e2))] [] _ _ _
      refine hs 5 _ rfl _ _ _ _ _ _ _ rfl ?_
      refine hs 6 _ rfl _ _ _ _ _ _ _ rfl ?_
      refine hs 7 _ rfl _ _ _ _ _ _ _ rfl ?_
      refine zw_c (hs 8 _ rfl) (a := [.ref x, .int (Int32.ofInt e), .int (Int32.ofInt e2)]) (st := []) rfl rfl (Nat.le_of_ble_eq_true rfl) ⟨_, _, _, rfl, hX.1, rfl⟩ (Nat.zero_le _) (Nat.zero_le _) (zc_addRowX_M g hX c1_.1 c1_.2.1 c1_.2.2 c2_ fun h9_ f9_ x9_ => ?_)
      show S 15 [some (.ref x), some (.int (Int32.ofInt e)), some (.int (Int32.ofInt e2))] [.int (Int32.ofInt (c.2.2.1.length : Int))] _ _ _
      exact hs 9 _ rfl _ _ _ _ _ (rv _) (Nat.zero_le _) (Nat.zero_le _) (hP c1_ c2_ _ f9_ x9_)
set_option maxHeartbeats 4000000 in
theorem zc_drop_M {l : Launch} {G : am_G} {X : ck_XT} (g : gM l G X) {x : Nat} {r : Nat → Nat} {jj mm kk : Int} {c : sp_S} {R : Nat → sp_S} {old cnt : Nat} {h : List am_C} (hX : zc_x G h x r jj mm kk c R old cnt) {e : Int} (he1 : -2147483648 ≤ e) (he2 : e ≤ 2147483647) {mc ms : Nat} {Post : am_O → List am_C → Prop} (hmc : 1 ≤ mc) (hms : 6 ≤ ms)
    (hP : (0 ≤ e ∧ e < (c.2.2.1.length : Int)) → ∀ h', zc_fr G h h' x r → zc_X G h' x r jj mm kk (c.1, c.2.1, c.2.2.1.eraseIdx e.toNat, c.2.2.2) (sp_keep (zc_l R old cnt) c) → Post (.inl (some (.int (Int32.ofInt ((c.2.2.1.eraseIdx e.toNat).length : Int))))) h')
    (hX2 : ¬ (0 ≤ e ∧ e < (c.2.2.1.length : Int)) → Post (.inr "java/lang/IndexOutOfBoundsException") (h ++ [(99, [])])) :
    am_M l G yX10_drop (.code yX10_drop prog_1_method_15_code 2 (some .int)) 7 123 mc ms [.ref x, .int (Int32.ofInt e)] h Post := by
  refine gh_yX10_drop_X g (Nat.le_of_ble_eq_true rfl) fun S SX hs hr hw hx => ?_
  have rv : ∀ x : Int32, ck_fv 0 (.int x) := fun x => ⟨_, rfl⟩
  have hx9_ := hX.2.2.2.2.2.2.2
  have hl_ := hX.2.2.1.2.2.1.1
  by_cases c1_ : (0 ≤ e ∧ e < (c.2.2.1.length : Int))
  rotate_left
  · 
    refine hs 0 _ rfl _ _ _ _ _ _ _ rfl ?_
    refine hs 1 _ rfl _ _ _ _ _ _ _ rfl ?_
    exact zw_cm (hs 2 _ rfl) (a := [.ref x, .int (Int32.ofInt e)]) (st := []) 1 6 rfl rfl (Nat.le_of_ble_eq_true rfl) ⟨_, _, _, rfl, hX.1, rfl⟩ (by omega) (by omega) (zc_needRX_M g hX he1 he2 c1_ (by decide) (by decide) (hx _ _ _ _ _ _ (by omega) (by omega) (hX2 c1_)))
  · have hP_ := hP c1_
    obtain ⟨i, rfl⟩ : ∃ i : Nat, e = (i : Int) := ⟨e.toNat, by omega⟩
    obtain ⟨n_, hn_⟩ : ∃ n_ : Nat, c.2.2.1.length = n_ + 1 := ⟨c.2.2.1.length - 1, by omega⟩
    refine hs 0 _ rfl _ _ _ _ _ _ _ rfl ?_
    refine hs 1 _ rfl _ _ _ _ _ _ _ rfl ?_
    refine zw_c (hs 2 _ rfl) (a := [.ref x, .int (Int32.ofInt (i : Int))]) (st := []) rfl rfl (Nat.le_of_ble_eq_true rfl) ⟨_, _, _, rfl, hX.1, rfl⟩ (Nat.zero_le _) (Nat.zero_le _) (zc_needR_M g hX (by omega) ?_)
    show S 5 [some (.ref x), some (.int (Int32.ofInt (i : Int)))] [] _ _ _
    refine hs 3 _ rfl _ _ _ _ _ _ _ rfl ?_
    refine hs 4 _ rfl _ _ _ _ _ _ _ _ _ (hX.1) rfl rfl ?_
    refine hs 5 _ rfl _ _ _ _ _ _ _ rfl ?_
    refine hs 6 _ rfl _ _ _ _ _ _ _ _ _ (hX.1) rfl rfl ?_
    refine zw_c (hs 7 _ rfl) (a := [.ref (x + 18), .ref (x + 1)]) (st := []) rfl rfl (Nat.le_of_ble_eq_true rfl) ⟨_, _, _, rfl, hX.2.2.2.1.1, rfl⟩ (Nat.zero_le _) (Nat.zero_le _) (zc_keep_M g (p := x + 18) (s := x + 1) (by omega) (by omega) hX.2.2.2.1 hX.2.1 hX.2.2.1 fun hk7_ ok7_ ck7_ fk7_ pk7_ e17_ e27_ => ?_)
    have xk7_ := hX.past fk7_ pk7_
    have lk7_ := zc_l_keep (R := R) (c := c) hX.2.2.2.1.2.2.2.1 hX.2.2.2.1.2.2.2.2 e17_ e27_
    show S 16 [some (.ref x), some (.int (Int32.ofInt (i : Int)))] [] _ _ _
    refine hs 8 _ rfl _ _ _ _ _ _ _ rfl ?_
    refine hs 9 _ rfl _ _ _ _ _ _ _ _ _ (xk7_.1) rfl rfl ?_
    refine hs 10 _ rfl _ _ _ _ _ _ _ rfl ?_
    refine zw_c (hs 11 _ rfl) (a := [.ref (x + 1), .int (Int32.ofInt (i : Int))]) (st := []) rfl rfl (Nat.le_of_ble_eq_true rfl) ⟨_, _, _, rfl, xk7_.2.1.d, rfl⟩ (Nat.zero_le _) (Nat.zero_le _) (zc_removeRow_M g (p := i) (n := n_) (by omega) xk7_.2.1 hn_ (by omega) (by omega) fun ha_ fa_ na_ => ?_)
    show S 24 [some (.ref x), some (.int (Int32.ofInt (i : Int)))] [] _ _ _
    have xa_ := xk7_.st fa_ na_ (hX.2.2.1.cut i)
    refine hs 12 _ rfl _ _ _ _ _ _ _ rfl ?_
    refine hs 13 _ rfl _ _ _ _ _ _ _ _ _ (xa_.1) rfl rfl ?_
    refine hs 14 _ rfl _ _ _ _ _ _ _ _ _ (xa_.2.1.d) rfl rfl ?_
    exact hs 15 _ rfl _ _ _ _ _ (rv _) (Nat.zero_le _) (Nat.zero_le _) (hP_ _ ((zc_fr.of fk7_ (by omega) (by omega)).tr (zc_fr.of fa_ (by omega) (by omega))) (zc_X.mk xa_ lk7_))
set_option maxHeartbeats 4000000 in
theorem zc_base_M {l : Launch} {G : am_G} {X : ck_XT} (g : gM l G X) {x : Nat} {r : Nat → Nat} {jj mm kk : Int} {c : sp_S} {R : Nat → sp_S} {old cnt : Nat} {h : List am_C} (hX : zc_x G h x r jj mm kk c R old cnt) {e : Int} (he1 : -2147483648 ≤ e) (he2 : e ≤ 2147483647) {mc ms : Nat} {Post : am_O → List am_C → Prop} (hmc : 1 ≤ mc) (hms : 6 ≤ ms)
    (hP : (2 ≤ e ∧ e ≤ 999) → sp_tb c e → ∀ h', zc_fr G h h' x r → zc_X G h' x r jj mm kk (c.1, c.2.1, c.2.2.1, c.2.2.2 ++ [e]) (sp_keep (zc_l R old cnt) c) → Post (.inl (some (.int (Int32.ofInt (c.2.2.2.length : Int))))) h')
    (hX1 : ¬ (2 ≤ e ∧ e ≤ 999) → Post (.inr "java/lang/IllegalArgumentException") (h ++ [(99, [])]))
    (hX3 : (2 ≤ e ∧ e ≤ 999) → ¬ sp_tb c e → Post (.inr "java/lang/IllegalStateException") (h ++ [(99, [])])) :
    am_M l G yX10_base (.code yX10_base prog_1_method_16_code 2 (some .int)) 6 123 mc ms [.ref x, .int (Int32.ofInt e)] h Post := by
  refine gh_yX10_base_X g (Nat.le_of_ble_eq_true rfl) fun S SX hs hr hw hx => ?_
  have rv : ∀ x : Int32, ck_fv 0 (.int x) := fun x => ⟨_, rfl⟩
  have hx9_ := hX.2.2.2.2.2.2.2
  by_cases c1_ : (2 ≤ e ∧ e ≤ 999)
  rotate_left
  · by_cases c3_ : e < 2
    · 
      refine hs 0 _ rfl _ _ _ _ _ _ _ rfl ?_
      refine hs 1 _ rfl _ _ _ _ _ _ _ rfl ?_
      refine hs 2 _ rfl _ _ _ _ _ _ _ (fun _ => ?_) (fun zq => absurd (hd_c2t (c := 2) (by omega) (by omega) (by omega) (by omega) (by omega : (e - (2 : Int)) < 0)) zq)
      exact hs 6 _ rfl _ _ _ _ _ rfl (Nat.le_of_ble_eq_true rfl) (by omega) (by omega) (hX1 (fun y_ => by omega))
    · 
      refine hs 0 _ rfl _ _ _ _ _ _ _ rfl ?_
      refine hs 1 _ rfl _ _ _ _ _ _ _ rfl ?_
      refine hs 2 _ rfl _ _ _ _ _ _ _ (fun zq => absurd (hd_c2z (c := 2) (by omega) (by omega) (by omega) (by omega) zq) (by omega : ¬ ((e - (2 : Int)) < 0))) (fun _ => ?_)
      refine hs 3 _ rfl _ _ _ _ _ _ _ rfl ?_
      refine hs 4 _ rfl _ _ _ _ _ _ _ rfl ?_
      refine hs 5 _ rfl _ _ _ _ _ _ _ (fun zq => absurd (hd_c2z (c := 5) (by omega) (by omega) (by omega) (by omega) zq) (by omega : ¬ ((e - (999 : Int)) ≤ 0))) (fun _ => ?_)
      exact hs 6 _ rfl _ _ _ _ _ rfl (Nat.le_of_ble_eq_true rfl) (by omega) (by omega) (hX1 (fun y_ => by omega))
  · by_cases c2_ : sp_tb c e
    rotate_left
    · 
      refine hs 0 _ rfl _ _ _ _ _ _ _ rfl ?_
      refine hs 1 _ rfl _ _ _ _ _ _ _ rfl ?_
      refine hs 2 _ rfl _ _ _ _ _ _ _ (fun zq => absurd (hd_c2z (c := 2) (by omega) (by omega) (by omega) (by omega) zq) (by omega : ¬ ((e - (2 : Int)) < 0))) (fun _ => ?_)
      refine hs 3 _ rfl _ _ _ _ _ _ _ rfl ?_
      refine hs 4 _ rfl _ _ _ _ _ _ _ rfl ?_
      refine hs 5 _ rfl _ _ _ _ _ _ _ (fun _ => ?_) (fun zq => absurd (hd_c2t (c := 5) (by omega) (by omega) (by omega) (by omega) (by omega : (e - (999 : Int)) ≤ 0)) zq)
      refine hs 7 _ rfl _ _ _ _ _ _ _ rfl ?_
      refine hs 8 _ rfl _ _ _ _ _ _ _ _ _ (hX.1) rfl rfl ?_
      refine hs 9 _ rfl _ _ _ _ _ _ _ rfl ?_
      refine zw_c (hs 10 _ rfl) (a := [.ref (x + 1), .int (Int32.ofInt e)]) (st := []) rfl rfl (Nat.le_of_ble_eq_true rfl) ⟨_, _, _, rfl, hX.2.1.d, rfl⟩ (Nat.zero_le _) (Nat.zero_le _) (zc_takesBase_M g hX.2.1 hX.2.2.1 c1_ (fun y_ => absurd y_ c2_) (fun _ => ?_))
      show S 30 [some (.ref x), some (.int (Int32.ofInt e))] [.int (Int32.ofInt (0 : Int))] _ _ _
      refine hs 11 _ rfl _ _ _ _ _ _ (fun zq => absurd (hd_c1z (c := 1) (by omega) (by omega) zq) (by omega : ¬ ((0 : Int) ≠ 0))) (fun _ => ?_)
      exact hs 12 _ rfl _ _ _ _ _ rfl (Nat.le_of_ble_eq_true rfl) (by omega) (by omega) (hX3 c1_ c2_)
    · 
      refine hs 0 _ rfl _ _ _ _ _ _ _ rfl ?_
      refine hs 1 _ rfl _ _ _ _ _ _ _ rfl ?_
      refine hs 2 _ rfl _ _ _ _ _ _ _ (fun zq => absurd (hd_c2z (c := 2) (by omega) (by omega) (by omega) (by omega) zq) (by omega : ¬ ((e - (2 : Int)) < 0))) (fun _ => ?_)
      refine hs 3 _ rfl _ _ _ _ _ _ _ rfl ?_
      refine hs 4 _ rfl _ _ _ _ _ _ _ rfl ?_
      refine hs 5 _ rfl _ _ _ _ _ _ _ (fun _ => ?_) (fun zq => absurd (hd_c2t (c := 5) (by omega) (by omega) (by omega) (by omega) (by omega : (e - (999 : Int)) ≤ 0)) zq)
      refine hs 7 _ rfl _ _ _ _ _ _ _ rfl ?_
      refine hs 8 _ rfl _ _ _ _ _ _ _ _ _ (hX.1) rfl rfl ?_
      refine hs 9 _ rfl _ _ _ _ _ _ _ rfl ?_
      refine zw_c (hs 10 _ rfl) (a := [.ref (x + 1), .int (Int32.ofInt e)]) (st := []) rfl rfl (Nat.le_of_ble_eq_true rfl) ⟨_, _, _, rfl, hX.2.1.d, rfl⟩ (Nat.zero_le _) (Nat.zero_le _) (zc_takesBase_M g hX.2.1 hX.2.2.1 c1_ (fun _ => ?_) (fun y_ => absurd c2_ y_))
      show S 30 [some (.ref x), some (.int (Int32.ofInt e))] [.int (Int32.ofInt (1 : Int))] _ _ _
      refine hs 11 _ rfl _ _ _ _ _ _ (fun _ => ?_) (fun zq => absurd (hd_c1t (c := 1) (by omega) (by omega) (by omega : (1 : Int) ≠ 0)) zq)
      refine hs 13 _ rfl _ _ _ _ _ _ _ rfl ?_
      refine hs 14 _ rfl _ _ _ _ _ _ _ _ _ (hX.1) rfl rfl ?_
      refine hs 15 _ rfl _ _ _ _ _ _ _ rfl ?_
      refine hs 16 _ rfl _ _ _ _ _ _ _ _ _ (hX.1) rfl rfl ?_
      refine zw_c (hs 17 _ rfl) (a := [.ref (x + 18), .ref (x + 1)]) (st := []) rfl rfl (Nat.le_of_ble_eq_true rfl) ⟨_, _, _, rfl, hX.2.2.2.1.1, rfl⟩ (Nat.zero_le _) (Nat.zero_le _) (zc_keep_M g (p := x + 18) (s := x + 1) (by omega) (by omega) hX.2.2.2.1 hX.2.1 hX.2.2.1 fun hk8_ ok8_ ck8_ fk8_ pk8_ e18_ e28_ => ?_)
      have xk8_ := hX.past fk8_ pk8_
      have lk8_ := zc_l_keep (R := R) (c := c) hX.2.2.2.1.2.2.2.1 hX.2.2.2.1.2.2.2.2 e18_ e28_
      show S 54 [some (.ref x), some (.int (Int32.ofInt e))] [] _ _ _
      refine hs 18 _ rfl _ _ _ _ _ _ _ rfl ?_
      refine hs 19 _ rfl _ _ _ _ _ _ _ _ _ (xk8_.1) rfl rfl ?_
      refine hs 20 _ rfl _ _ _ _ _ _ _ rfl ?_
      refine zw_c (hs 21 _ rfl) (a := [.ref (x + 1), .int (Int32.ofInt e)]) (st := []) rfl rfl (Nat.le_of_ble_eq_true rfl) ⟨_, _, _, rfl, xk8_.2.1.d, rfl⟩ (Nat.zero_le _) (Nat.zero_le _) (zc_addBase_M g (by omega) xk8_.2.1 (size := e) (by omega) c2_.2 fun ha_ fa_ na_ => ?_)
      show S 62 [some (.ref x), some (.int (Int32.ofInt e))] [] _ _ _
      have xa_ := xk8_.st fa_ na_ (hX.2.2.1.bs c2_.2 c1_)
      refine hs 22 _ rfl _ _ _ _ _ _ _ rfl ?_
      refine hs 23 _ rfl _ _ _ _ _ _ _ _ _ (xa_.1) rfl rfl ?_
      refine hs 24 _ rfl _ _ _ _ _ _ _ _ _ (xa_.2.1.d) rfl rfl ?_
      refine hs 25 _ rfl _ _ _ _ _ _ _ rfl ?_
      refine hs 26 _ rfl _ _ _ _ _ _ _ hd_sub ?_
      refine hs 27 _ rfl _ _ _ _ _ (rv _) (Nat.zero_le _) (Nat.zero_le _) ?_
      have e_ : (((c.2.2.2 ++ [e]).length : Int) - (1 : Int)) = (c.2.2.2.length : Int) := by rw [List.length_append, List.length_singleton]; omega
      show Post (.inl (some (.int (Int32.ofInt (((c.2.2.2 ++ [e]).length : Int) - (1 : Int)))))) _
      rw [e_]
      exact hP c1_ c2_ _ ((zc_fr.of fk8_ (by omega) (by omega)).tr (zc_fr.of fa_ (by omega) (by omega))) (zc_X.mk xa_ lk8_)
set_option maxHeartbeats 4000000 in
theorem zc_unbase_M {l : Launch} {G : am_G} {X : ck_XT} (g : gM l G X) {x : Nat} {r : Nat → Nat} {jj mm kk : Int} {c : sp_S} {R : Nat → sp_S} {old cnt : Nat} {h : List am_C} (hX : zc_x G h x r jj mm kk c R old cnt){mc ms : Nat} {Post : am_O → List am_C → Prop} (hmc : 1 ≤ mc) (hms : 6 ≤ ms)
    (hP : ∀ (B : List Int) (b : Int), c.2.2.2 = B ++ [b] → ∀ h', zc_fr G h h' x r → zc_X G h' x r jj mm kk (c.1, c.2.1, c.2.2.1, B) (sp_keep (zc_l R old cnt) c) → Post (.inl (some (.int (Int32.ofInt b)))) h')
    (hX3 : c.2.2.2 = [] → Post (.inr "java/lang/IllegalStateException") (h ++ [(99, [])])) :
    am_M l G yX10_unbase (.code yX10_unbase prog_1_method_17_code 1 (some .int)) 6 123 mc ms [.ref x] h Post := by
  refine gh_yX10_unbase_X g (Nat.le_of_ble_eq_true rfl) fun S SX hs hr hw hx => ?_
  have rv : ∀ x : Int32, ck_fv 0 (.int x) := fun x => ⟨_, rfl⟩
  have hx9_ := hX.2.2.2.2.2.2.2
  have hl_ := hX.2.2.1.2.2.2.1
  by_cases c1_ : c.2.2.2.length = 0
  · 
    refine hs 0 _ rfl _ _ _ _ _ _ _ rfl ?_
    refine hs 1 _ rfl _ _ _ _ _ _ _ _ _ (hX.1) rfl rfl ?_
    refine hs 2 _ rfl _ _ _ _ _ _ _ _ _ (hX.2.1.d) rfl rfl ?_
    refine hs 3 _ rfl _ _ _ _ _ _ (fun zq => absurd (hd_c1z (c := 1) (by omega) (by omega) zq) (by omega : ¬ ((c.2.2.2.length : Int) ≠ 0))) (fun _ => ?_)
    exact hs 4 _ rfl _ _ _ _ _ rfl (Nat.le_of_ble_eq_true rfl) (by omega) (by omega) (hX3 (List.length_eq_zero_iff.mp c1_))
  · obtain ⟨n_, hn_⟩ : ∃ n_ : Nat, c.2.2.2.length = n_ + 1 := ⟨c.2.2.2.length - 1, by omega⟩
    obtain ⟨B_, b_, b1_, b2_, b3_, -⟩ := sp_last _ _ hn_
    refine hs 0 _ rfl _ _ _ _ _ _ _ rfl ?_
    refine hs 1 _ rfl _ _ _ _ _ _ _ _ _ (hX.1) rfl rfl ?_
    refine hs 2 _ rfl _ _ _ _ _ _ _ _ _ (hX.2.1.d) rfl rfl ?_
    refine hs 3 _ rfl _ _ _ _ _ _ (fun _ => ?_) (fun zq => absurd (hd_c1t (c := 1) (by omega) (by omega) (by omega : (c.2.2.2.length : Int) ≠ 0)) zq)
    refine hs 5 _ rfl _ _ _ _ _ _ _ rfl ?_
    refine hs 6 _ rfl _ _ _ _ _ _ _ _ _ (hX.1) rfl rfl ?_
    refine hs 7 _ rfl _ _ _ _ _ _ _ rfl ?_
    refine hs 8 _ rfl _ _ _ _ _ _ _ _ _ (hX.1) rfl rfl ?_
    refine zw_c (hs 9 _ rfl) (a := [.ref (x + 18), .ref (x + 1)]) (st := []) rfl rfl (Nat.le_of_ble_eq_true rfl) ⟨_, _, _, rfl, hX.2.2.2.1.1, rfl⟩ (Nat.zero_le _) (Nat.zero_le _) (zc_keep_M g (p := x + 18) (s := x + 1) (by omega) (by omega) hX.2.2.2.1 hX.2.1 hX.2.2.1 fun hk9_ ok9_ ck9_ fk9_ pk9_ e19_ e29_ => ?_)
    have xk9_ := hX.past fk9_ pk9_
    have lk9_ := zc_l_keep (R := R) (c := c) hX.2.2.2.1.2.2.2.1 hX.2.2.2.1.2.2.2.2 e19_ e29_
    show S 31 [some (.ref x)] [] _ _ _
    refine hs 10 _ rfl _ _ _ _ _ _ _ rfl ?_
    refine hs 11 _ rfl _ _ _ _ _ _ _ _ _ (xk9_.1) rfl rfl ?_
    refine zw_c (hs 12 _ rfl) (a := [.ref (x + 1)]) (st := []) rfl rfl (Nat.le_of_ble_eq_true rfl) ⟨_, _, _, rfl, xk9_.2.1.d, rfl⟩ (Nat.zero_le _) (Nat.zero_le _) (zc_removeBase_M g (n := n_) (by omega) xk9_.2.1 hn_ (by omega) b2_ fun ha_ fa_ na_ => ?_)
    show S 38 [some (.ref x)] [.int (Int32.ofInt b_)] _ _ _
    rw [b3_] at na_
    have xa_ := xk9_.st fa_ na_ (hX.2.2.1.ub b1_)
    exact hs 13 _ rfl _ _ _ _ _ (rv _) (Nat.zero_le _) (Nat.zero_le _) (hP B_ b_ b1_ _ ((zc_fr.of fk9_ (by omega) (by omega)).tr (zc_fr.of fa_ (by omega) (by omega))) (zc_X.mk xa_ lk9_))
set_option maxHeartbeats 4000000 in
theorem zc_undo_M {l : Launch} {G : am_G} {X : ck_XT} (g : gM l G X) {x : Nat} {r : Nat → Nat} {jj mm kk : Int} {c : sp_S} {R : Nat → sp_S} {old cnt : Nat} {h : List am_C} (hX : zc_x G h x r jj mm kk c R old cnt){mc ms : Nat} {Post : am_O → List am_C → Prop} (hmc : 1 ≤ mc) (hms : 6 ≤ ms)
    (hP : ∀ (P : List sp_S) (s : sp_S), zc_l R old cnt = P ++ [s] → ∀ h', zc_fr G h h' x r → zc_X G h' x r jj mm kk s P → Post (.inl (some (.int (Int32.ofInt (P.length : Int))))) h')
    (hX3 : zc_l R old cnt = [] → Post (.inr "java/lang/IllegalStateException") (h ++ [(99, [])])) :
    am_M l G yX10_undo (.code yX10_undo prog_1_method_18_code 1 (some .int)) 6 123 mc ms [.ref x] h Post := by
  refine gh_yX10_undo_X g (Nat.le_of_ble_eq_true rfl) fun S SX hs hr hw hx => ?_
  have rv : ∀ x : Int32, ck_fv 0 (.int x) := fun x => ⟨_, rfl⟩
  have hx9_ := hX.2.2.2.2.2.2.2
  have hl_ := hX.2.2.2.1.2.2.2.2
  by_cases c1_ : cnt = 0
  · 
    refine hs 0 _ rfl _ _ _ _ _ _ _ rfl ?_
    refine hs 1 _ rfl _ _ _ _ _ _ _ _ _ (hX.1) rfl rfl ?_
    refine hs 2 _ rfl _ _ _ _ _ _ _ _ _ (hX.2.2.2.1.1) rfl rfl ?_
    refine hs 3 _ rfl _ _ _ _ _ _ (fun zq => absurd (hd_c1z (c := 1) (by omega) (by omega) zq) (by omega : ¬ ((cnt : Int) ≠ 0))) (fun _ => ?_)
    exact hs 4 _ rfl _ _ _ _ _ rfl (Nat.le_of_ble_eq_true rfl) (by omega) (by omega) (hX3 (by rw [c1_]; rfl))
  · obtain ⟨n_, rfl⟩ : ∃ n_ : Nat, cnt = n_ + 1 := ⟨cnt - 1, by omega⟩
    refine hs 0 _ rfl _ _ _ _ _ _ _ rfl ?_
    refine hs 1 _ rfl _ _ _ _ _ _ _ _ _ (hX.1) rfl rfl ?_
    refine hs 2 _ rfl _ _ _ _ _ _ _ _ _ (hX.2.2.2.1.1) rfl rfl ?_
    refine hs 3 _ rfl _ _ _ _ _ _ (fun _ => ?_) (fun zq => absurd (hd_c1t (c := 1) (by omega) (by omega) (by omega : ((n_ + 1 : Nat) : Int) ≠ 0)) zq)
    refine hs 5 _ rfl _ _ _ _ _ _ _ rfl ?_
    refine hs 6 _ rfl _ _ _ _ _ _ _ _ _ (hX.1) rfl rfl ?_
    refine hs 7 _ rfl _ _ _ _ _ _ _ rfl ?_
    refine hs 8 _ rfl _ _ _ _ _ _ _ _ _ (hX.1) rfl rfl ?_
    refine zw_c (hs 9 _ rfl) (a := [.ref (x + 18), .ref (x + 1)]) (st := []) rfl rfl (Nat.le_of_ble_eq_true rfl) ⟨_, _, _, rfl, hX.2.2.2.1.1, rfl⟩ (Nat.zero_le _) (Nat.zero_le _) (zc_back_M g (p := x + 18) (s := x + 1) (by omega) (by omega) hX.2.2.2.1 hX.2.1 (by omega) fun hb_ fb_ pb_ sb1_ => ?_)
    show S 31 [some (.ref x)] [] _ _ _
    have pb2_ : zc_p G hb_ (x + 18) R old n_ := pb_
    have sb2_ : zc_s G hb_ (x + 1) (R ((old + n_) % 12)) := sb1_
    have xb_ := hX.undo fb_ pb2_ sb2_ (pb2_.2.2.1 _ (by omega)).2
    refine hs 10 _ rfl _ _ _ _ _ _ _ rfl ?_
    refine hs 11 _ rfl _ _ _ _ _ _ _ _ _ (xb_.1) rfl rfl ?_
    refine hs 12 _ rfl _ _ _ _ _ _ _ _ _ (xb_.2.2.2.1.1) rfl rfl ?_
    have e_ := hP _ _ zc_l_succ _ (zc_fr.of fb_ (by omega) (by omega)) (zc_X.mk xb_ rfl)
    rw [zc_l_len] at e_
    exact hs 13 _ rfl _ _ _ _ _ (rv _) (Nat.zero_le _) (Nat.zero_le _) e_
