section
/-! ROWS, BASES, UNDO -/
theorem sp_last {α : Type} : ∀ (l : List α) (n : Nat), l.length = n + 1 → ∃ (B : List α) (b : α), l = B ++ [b] ∧ l[n]? = some b ∧ l.dropLast = B ∧ B.length = n
  | [], n, h => absurd h (by rw [List.length_nil]; omega)
  | [a], n, h => by
      obtain rfl : n = 0 := by rw [List.length_singleton] at h; omega
      exact ⟨[], a, rfl, rfl, rfl, rfl⟩
  | a :: b :: s, n, h => by
      obtain ⟨m_, rfl⟩ : ∃ m_ : Nat, n = m_ + 1 := ⟨n - 1, by rw [List.length_cons, List.length_cons] at h; omega⟩
      obtain ⟨B_, b_, e1_, e2_, e3_, e4_⟩ := sp_last (b :: s) m_ (by rw [List.length_cons] at h; omega)
      exact ⟨a :: B_, b_, congrArg (List.cons a) e1_, e2_, congrArg (List.cons a) e3_, by rw [List.length_cons, e4_]⟩
theorem sp_ok.cut {c : sp_S} (h : sp_ok c) (i : Nat) : sp_ok (c.1, c.2.1, c.2.2.1.eraseIdx i, c.2.2.2) := by
  obtain ⟨a1_, a2_, ⟨a3_, a4_⟩, a5_⟩ := h
  have s_ := List.eraseIdx_sublist c.2.2.1 i
  exact ⟨a1_, a2_, ⟨Nat.le_trans s_.length_le a3_, fun p hp => a4_ p (s_.subset hp)⟩, a5_⟩
theorem sp_ok.bs {c : sp_S} (h : sp_ok c) (hl : c.2.2.2.length < 5) {z : Int} (hz : 2 ≤ z ∧ z ≤ 999) : sp_ok (c.1, c.2.1, c.2.2.1, c.2.2.2 ++ [z]) := by
  obtain ⟨a1_, a2_, a3_, a4_, a5_⟩ := h
  refine ⟨a1_, a2_, a3_, by show (c.2.2.2 ++ [z]).length ≤ 5; rw [List.length_append, List.length_singleton]; omega, fun p hp => ?_⟩
  rcases List.mem_append.mp hp with e_ | e_
  · exact a5_ p e_
  · cases List.mem_singleton.mp e_
    exact hz
theorem sp_ok.ub {c : sp_S} (h : sp_ok c) {B : List Int} {b : Int} (e : c.2.2.2 = B ++ [b]) : sp_ok (c.1, c.2.1, c.2.2.1, B) := by
  obtain ⟨a1_, a2_, a3_, a4_, a5_⟩ := h
  refine ⟨a1_, a2_, a3_, by show B.length ≤ 5; rw [e, List.length_append, List.length_singleton] at a4_; omega, fun p hp => a5_ p (by rw [e]; exact List.mem_append_left _ hp)⟩
theorem zc_l_succ {R : Nat → sp_S} {old n : Nat} : zc_l R old (n + 1) = zc_l R old n ++ [R ((old + n) % 12)] := by
  unfold zc_l
  rw [List.range_succ, List.map_append]
  rfl
set_option maxHeartbeats 4000000 in
theorem zc_tell_M {l : Launch} {G : am_G} {X : ck_XT} (g : gM l G X) {x : Nat} {r : Nat → Nat} {jj mm kk : Int} {c : sp_S} {R : Nat → sp_S} {old cnt : Nat} {h : List am_C} (hX : zc_x G h x r jj mm kk c R old cnt) {e : Int} (he1 : -2147483648 ≤ e) (he2 : e ≤ 2147483647) {e2 : Int} (hf1 : -2147483648 ≤ e2) (hf2 : e2 ≤ 2147483647) {mc ms : Nat} {Post : am_O → List am_C → Prop} (hmc : 1 ≤ mc) (hms : 6 ≤ ms)
    (hP : (-9999 ≤ e ∧ e ≤ 9999 ∧ 1 ≤ e2 ∧ e2 ≤ 999) → c.2.2.1.length < 6 → ∀ h', zc_fr G h h' x r → zc_X G h' x r jj mm kk (c.1, c.2.1, c.2.2.1 ++ [(e % e2, e2)], c.2.2.2) (sp_keep (zc_l R old cnt) c) → Post (.inl (some (.int (Int32.ofInt (c.2.2.1.length : Int))))) h')
    (hX1 : ¬ (-9999 ≤ e ∧ e ≤ 9999 ∧ 1 ≤ e2 ∧ e2 ≤ 999) → Post (.inr "java/lang/IllegalArgumentException") (h ++ [(99, [])]))
    (hX3 : (-9999 ≤ e ∧ e ≤ 9999 ∧ 1 ≤ e2 ∧ e2 ≤ 999) → ¬ c.2.2.1.length < 6 → Post (.inr "java/lang/IllegalStateException") (h ++ [(99, [])])) :
    am_M l G yX10_tell (.code yX10_tell prog_1_method_13_code 3 (some .int)) 7 145 mc ms [.ref x, .int (Int32.ofInt e), .int (Int32.ofInt e2)] h Post := by
  refine gh_yX10_tell_X g (Nat.le_of_ble_eq_true rfl) fun S SX hs hr hw hx => ?_
  have rv : ∀ x : Int32, ck_fv 0 (.int x) := fun x => ⟨_, rfl⟩
  have hx9_ := hX.2.2.2.2.2.2.2
  have hl_ := hX.2.2.1.2.2.1.1
  by_cases c1_ : (-9999 ≤ e ∧ e ≤ 9999 ∧ 1 ≤ e2 ∧ e2 ≤ 999)
  rotate_left
  · 
    refine hs 0 _ rfl _ _ _ _ _ _ _ rfl ?_
    refine hs 1 _ rfl _ _ _ _ _ _ _ rfl ?_
    exact zw_cm (hs 2 _ rfl) (a := [.int (Int32.ofInt e), .int (Int32.ofInt e2)]) (st := []) 1 6 rfl rfl (Nat.le_of_ble_eq_true rfl) trivial (by omega) (by omega) (zc_needCX_M g he1 he2 hf1 hf2 c1_ (by decide) (by decide) (hx _ _ _ _ _ _ (by omega) (by omega) (hX1 c1_)))
  · by_cases c2_ : c.2.2.1.length < 6
    rotate_left
    · 
      refine hs 0 _ rfl _ _ _ _ _ _ _ rfl ?_
      refine hs 1 _ rfl _ _ _ _ _ _ _ rfl ?_
      refine zw_c (hs 2 _ rfl) (a := [.int (Int32.ofInt e), .int (Int32.ofInt e2)]) (st := []) rfl rfl (Nat.le_of_ble_eq_true rfl) trivial (Nat.zero_le _) (Nat.zero_le _) (zc_needC_M g he1 he2 hf1 hf2 c1_ ?_)
      show S 5 [some (.ref x), some (.int (Int32.ofInt e)), some (.int (Int32.ofInt e2))] [] _ _ _
      refine hs 3 _ rfl _ _ _ _ _ _ _ rfl ?_
      exact zw_cm (hs 4 _ rfl) (a := [.ref x]) (st := []) 1 6 rfl rfl (Nat.le_of_ble_eq_true rfl) ⟨_, _, _, rfl, hX.1, rfl⟩ (by omega) (by omega) (zc_needFX_M g hX (by omega) (by decide) (by decide) (hx _ _ _ _ _ _ (by omega) (by omega) (hX3 c1_ c2_)))
    · 
      refine hs 0 _ rfl _ _ _ _ _ _ _ rfl ?_
      refine hs 1 _ rfl _ _ _ _ _ _ _ rfl ?_
      refine zw_c (hs 2 _ rfl) (a := [.int (Int32.ofInt e), .int (Int32.ofInt e2)]) (st := []) rfl rfl (Nat.le_of_ble_eq_true rfl) trivial (Nat.zero_le _) (Nat.zero_le _) (zc_needC_M g he1 he2 hf1 hf2 c1_ ?_)
      show S 5 [some (.ref x), some (.int (Int32.ofInt e)), some (.int (Int32.ofInt e2))] [] _ _ _
      refine hs 3 _ rfl _ _ _ _ _ _ _ rfl ?_
      refine zw_c (hs 4 _ rfl) (a := [.ref x]) (st := []) rfl rfl (Nat.le_of_ble_eq_true rfl) ⟨_, _, _, rfl, hX.1, rfl⟩ (Nat.zero_le _) (Nat.zero_le _) (zc_needF_M g hX (by omega) ?_)
      show S 9 [some (.ref x), some (.int (Int32.ofInt e)), some (.int (Int32.ofInt e2))] [] _ _ _
      refine hs 5 _ rfl _ _ _ _ _ _ _ rfl ?_
      refine hs 6 _ rfl _ _ _ _ _ _ _ rfl ?_
      refine hs 7 _ rfl _ _ _ _ _ _ _ rfl ?_
      refine zw_c (hs 8 _ rfl) (a := [.ref x, .int (Int32.ofInt e), .int (Int32.ofInt e2)]) (st := []) rfl rfl (Nat.le_of_ble_eq_true rfl) ⟨_, _, _, rfl, hX.1, rfl⟩ (Nat.zero_le _) (Nat.zero_le _) (zc_addRowX_M g hX c1_.1 c1_.2.1 c1_.2.2 c2_ fun h9_ f9_ x9_ => ?_)
      show S 15 [some (.ref x), some (.int (Int32.ofInt e)), some (.int (Int32.ofInt e2))] [.int (Int32.ofInt (c.2.2.1.length : Int))] _ _ _
      exact hs 9 _ rfl _ _ _ _ _ (rv _) (Nat.zero_le _) (Nat.zero_le _) (hP c1_ c2_ _ f9_ x9_)
set_option maxHeartbeats 4000000 in
theorem zc_drop_M {l : Launch} {G : am_G} {X : ck_XT} (g : gM l G X) {x : Nat} {r : Nat → Nat} {jj mm kk : Int} {c : sp_S} {R : Nat → sp_S} {old cnt : Nat} {h : List am_C} (hX : zc_x G h x r jj mm kk c R old cnt) {e : Int} (he1 : -2147483648 ≤ e) (he2 : e ≤ 2147483647) {mc ms : Nat} {Post : am_O → List am_C → Prop} (hmc : 1 ≤ mc) (hms : 6 ≤ ms)
    (hP : (0 ≤ e ∧ e < (c.2.2.1.length : Int)) → ∀ h', zc_fr G h h' x r → zc_X G h' x r jj mm kk (c.1, c.2.1, c.2.2.1.eraseIdx e.toNat, c.2.2.2) (sp_keep (zc_l R old cnt) c) → Post (.inl (some (.int (Int32.ofInt ((c.2.2.1.eraseIdx e.toNat).length : Int))))) h')
    (hX2 : ¬ (0 ≤ e ∧ e < (c.2.2.1.length : Int)) → Post (.inr "java/lang/IndexOutOfBoundsException") (h ++ [(99, [])])) :
    am_M l G yX10_drop (.code yX10_drop prog_1_method_15_code 2 (some .int)) 7 123 mc ms [.ref x, .int (Int32.ofInt e)] h Post := by
  refine gh_yX10_drop_X g (Nat.le_of_ble_eq_true rfl) fun S SX hs hr hw hx => ?_
  have rv : ∀ x : Int32, ck_fv 0 (.int x) := fun x => ⟨_, rfl⟩
  have hx9_ := hX.2.2.2.2.2.2.2
  have hl_ := hX.2.2.1.2.2.1.1
  by_cases c1_ : (0 ≤ e ∧ e < (c.2.2.1.length : Int))
  rotate_left
  · 
    refine hs 0 _ rfl _ _ _ _ _ _ _ rfl ?_
    refine hs 1 _ rfl _ _ _ _ _ _ _ rfl ?_
    exact zw_cm (hs 2 _ rfl) (a := [.ref x, .int (Int32.ofInt e)]) (st := []) 1 6 rfl rfl (Nat.le_of_ble_eq_true rfl) ⟨_, _, _, rfl, hX.1, rfl⟩ (by omega) (by omega) (zc_needRX_M g hX he1 he2 c1_ (by decide) (by decide) (hx _ _ _ _ _ _ (by omega) (by omega) (hX2 c1_)))
  · have hP_ := hP c1_
    obtain ⟨i, rfl⟩ : ∃ i : Nat, e = (i : Int) := ⟨e.toNat, by omega⟩
    obtain ⟨n_, hn_⟩ : ∃ n_ : Nat, c.2.2.1.length = n_ + 1 := ⟨c.2.2.1.length - 1, by omega⟩
    refine hs 0 _ rfl _ _ _ _ _ _ _ rfl ?_
    refine hs 1 _ rfl _ _ _ _ _ _ _ rfl ?_
    refine zw_c (hs 2 _ rfl) (a := [.ref x, .int (Int32.ofInt (i : Int))]) (st := []) rfl rfl (Nat.le_of_ble_eq_true rfl) ⟨_, _, _, rfl, hX.1, rfl⟩ (Nat.zero_le _) (Nat.zero_le _) (zc_needR_M g hX (by omega) ?_)
    show S 5 [some (.ref x), some (.int (Int32.ofInt (i : Int)))] [] _ _ _
    refine hs 3 _ rfl _ _ _ _ _ _ _ rfl ?_
    refine hs 4 _ rfl _ _ _ _ _ _ _ _ _ (hX.1) rfl rfl ?_
    refine hs 5 _ rfl _ _ _ _ _ _ _ rfl ?_
    refine hs 6 _ rfl _ _ _ _ _ _ _ _ _ (hX.1) rfl rfl ?_
    refine zw_c (hs 7 _ rfl) (a := [.ref (x + 18), .ref (x + 1)]) (st := []) rfl rfl (Nat.le_of_ble_eq_true rfl) ⟨_, _, _, rfl, hX.2.2.2.1.1, rfl⟩ (Nat.zero_le _) (Nat.zero_le _) (zc_keep_M g (p := x + 18) (s := x + 1) (by omega) (by omega) hX.2.2.2.1 hX.2.1 hX.2.2.1 fun hk7_ ok7_ ck7_ fk7_ pk7_ e17_ e27_ => ?_)
    have xk7_ := hX.past fk7_ pk7_
    have lk7_ := zc_l_keep (R := R) (c := c) hX.2.2.2.1.2.2.2.1 hX.2.2.2.1.2.2.2.2 e17_ e27_
    show S 16 [some (.ref x), some (.int (Int32.ofInt (i : Int)))] [] _ _ _
    refine hs 8 _ rfl _ _ _ _ _ _ _ rfl ?_
    refine hs 9 _ rfl _ _ _ _ _ _ _ _ _ (xk7_.1) rfl rfl ?_
    refine hs 10 _ rfl _ _ _ _ _ _ _ rfl ?_
    refine zw_c (hs 11 _ rfl) (a := [.ref (x + 1), .int (Int32.ofInt (i : Int))]) (st := []) rfl rfl (Nat.le_of_ble_eq_true rfl) ⟨_, _, _, rfl, xk7_.2.1.d, rfl⟩ (Nat.zero_le _) (Nat.zero_le _) (zc_removeRow_M g (p := i) (n := n_) (by omega) xk7_.2.1 hn_ (by omega) (by omega) fun ha_ fa_ na_ => ?_)
    show S 24 [some (.ref x), some (.int (Int32.ofInt (i : Int)))] [] _ _ _
    have xa_ := xk7_.st fa_ na_ (hX.2.2.1.cut i)
    refine hs 12 _ rfl _ _ _ _ _ _ _ rfl ?_
    refine hs 13 _ rfl _ _ _ _ _ _ _ _ _ (xa_.1) rfl rfl ?_
    refine hs 14 _ rfl _ _ _ _ _ _ _ _ _ (xa_.2.1.d) rfl rfl ?_
    exact hs 15 _ rfl _ _ _ _ _ (rv _) (Nat.zero_le _) (Nat.zero_le _) (hP_ _ ((zc_fr.of fk7_ (by omega) (by omega)).tr (zc_fr.of fa_ (by omega) (by omega))) (zc_X.mk xa_ lk7_))
set_option maxHeartbeats 4000000 in
theorem zc_base_M {l : Launch} {G : am_G} {X : ck_XT} (g : gM l G X) {x : Nat} {r : Nat → Nat} {jj mm kk : Int} {c : sp_S} {R : Nat → sp_S} {old cnt : Nat} {h : List am_C} (hX : zc_x G h x r jj mm kk c R old cnt) {e : Int} (he1 : -2147483648 ≤ e) (he2 : e ≤ 2147483647) {mc ms : Nat} {Post : am_O → List am_C → Prop} (hmc : 1 ≤ mc) (hms : 6 ≤ ms)
    (hP : (2 ≤ e ∧ e ≤ 999) → sp_tb c e → ∀ h', zc_fr G h h' x r → zc_X G h' x r jj mm kk (c.1, c.2.1, c.2.2.1, c.2.2.2 ++ [e]) (sp_keep (zc_l R old cnt) c) → Post (.inl (some (.int (Int32.ofInt (c.2.2.2.length : Int))))) h')
    (hX1 : ¬ (2 ≤ e ∧ e ≤ 999) → Post (.inr "java/lang/IllegalArgumentException") (h ++ [(99, [])]))
    (hX3 : (2 ≤ e ∧ e ≤ 999) → ¬ sp_tb c e → Post (.inr "java/lang/IllegalStateException") (h ++ [(99, [])])) :
    am_M l G yX10_base (.code yX10_base prog_1_method_16_code 2 (some .int)) 6 123 mc ms [.ref x, .int (Int32.ofInt e)] h Post := by
  refine gh_yX10_base_X g (Nat.le_of_ble_eq_true rfl) fun S SX hs hr hw hx => ?_
  have rv : ∀ x : Int32, ck_fv 0 (.int x) := fun x => ⟨_, rfl⟩
  have hx9_ := hX.2.2.2.2.2.2.2
  by_cases c1_ : (2 ≤ e ∧ e ≤ 999)
  rotate_left
  · by_cases c3_ : e < 2
    · 
      refine hs 0 _ rfl _ _ _ _ _ _ _ rfl ?_
      refine hs 1 _ rfl _ _ _ _ _ _ _ rfl ?_
      refine hs 2 _ rfl _ _ _ _ _ _ _ (fun _ => ?_) (fun zq => absurd (hd_c2t (c := 2) (by omega) (by omega) (by omega) (by omega) (by omega : (e - (2 : Int)) < 0)) zq)
      exact hs 6 _ rfl _ _ _ _ _ rfl (Nat.le_of_ble_eq_true rfl) (by omega) (by omega) (hX1 (fun y_ => by omega))
    · 
      refine hs 0 _ rfl _ _ _ _ _ _ _ rfl ?_
      refine hs 1 _ rfl _ _ _ _ _ _ _ rfl ?_
      refine hs 2 _ rfl _ _ _ _ _ _ _ (fun zq => absurd (hd_c2z (c := 2) (by omega) (by omega) (by omega) (by omega) zq) (by omega : ¬ ((e - (2 : Int)) < 0))) (fun _ => ?_)
      refine hs 3 _ rfl _ _ _ _ _ _ _ rfl ?_
      refine hs 4 _ rfl _ _ _ _ _ _ _ rfl ?_
      refine hs 5 _ rfl _ _ _ _ _ _ _ (fun zq => absurd (hd_c2z (c := 5) (by omega) (by omega) (by omega) (by omega) zq) (by omega : ¬ ((e - (999 : Int)) ≤ 0))) (fun _ => ?_)
      exact hs 6 _ rfl _ _ _ _ _ rfl (Nat.le_of_ble_eq_true rfl) (by omega) (by omega) (hX1 (fun y_ => by omega))
  · by_cases c2_ : sp_tb c e
    rotate_left
    · 
      refine hs 0 _ rfl _ _ _ _ _ _ _ rfl ?_
      refine hs 1 _ rfl _ _ _ _ _ _ _ rfl ?_
      refine hs 2 _ rfl _ _ _ _ _ _ _ (fun zq => absurd (hd_c2z (c := 2) (by omega) (by omega) (by omega) (by omega) zq) (by omega : ¬ ((e - (2 : Int)) < 0))) (fun _ => ?_)
      refine hs 3 _ rfl _ _ _ _ _ _ _ rfl ?_
      refine hs 4 _ rfl _ _ _ _ _ _ _ rfl ?_
      refine hs 5 _ rfl _ _ _ _ _ _ _ (fun _ => ?_) (fun zq => absurd (hd_c2t (c := 5) (by omega) (by omega) (by omega) (by omega) (by omega : (e - (999 : Int)) ≤ 0)) zq)
      refine hs 7 _ rfl _ _ _ _ _ _ _ rfl ?_
      refine hs 8 _ rfl _ _ _ _ _ _ _ _ _ (hX.1) rfl rfl ?_
      refine hs 9 _ rfl _ _ _ _ _ _ _ rfl ?_
      refine zw_c (hs 10 _ rfl) (a := [.ref (x + 1), .int (Int32.ofInt e)]) (st := []) rfl rfl (Nat.le_of_ble_eq_true rfl) ⟨_, _, _, rfl, hX.2.1.d, rfl⟩ (Nat.zero_le _) (Nat.zero_le _) (zc_takesBase_M g hX.2.1 hX.2.2.1 c1_ (fun y_ => absurd y_ c2_) (fun _ => ?_))
      show S 30 [some (.ref x), some (.int (Int32.ofInt e))] [.int (Int32.ofInt (0 : Int))] _ _ _
      refine hs 11 _ rfl _ _ _ _ _ _ (fun zq => absurd (hd_c1z (c := 1) (by omega) (by omega) zq) (by omega : ¬ ((0 : Int) ≠ 0))) (fun _ => ?_)
      exact hs 12 _ rfl _ _ _ _ _ rfl (Nat.le_of_ble_eq_true rfl) (by omega) (by omega) (hX3 c1_ c2_)
    · 
      refine hs 0 _ rfl _ _ _ _ _ _ _ rfl ?_
      refine hs 1 _ rfl _ _ _ _ _ _ _ rfl ?_
      refine hs 2 _ rfl _ _ _ _ _ _ _ (fun zq => absurd (hd_c2z (c := 2) (by omega) (by omega) (by omega) (by omega) zq) (by omega : ¬ ((e - (2 : Int)) < 0))) (fun _ => ?_)
      refine hs 3 _ rfl _ _ _ _ _ _ _ rfl ?_
      refine hs 4 _ rfl _ _ _ _ _ _ _ rfl ?_
      refine hs 5 _ rfl _ _ _ _ _ _ _ (fun _ => ?_) (fun zq => absurd (hd_c2t (c := 5) (by omega) (by omega) (by omega) (by omega) (by omega : (e - (999 : Int)) ≤ 0)) zq)
      refine hs 7 _ rfl _ _ _ _ _ _ _ rfl ?_
      refine hs 8 _ rfl _ _ _ _ _ _ _ _ _ (hX.1) rfl rfl ?_
      refine hs 9 _ rfl _ _ _ _ _ _ _ rfl ?_
      refine zw_c (hs 10 _ rfl) (a := [.ref (x + 1), .int (Int32.ofInt e)]) (st := []) rfl rfl (Nat.le_of_ble_eq_true rfl) ⟨_, _, _, rfl, hX.2.1.d, rfl⟩ (Nat.zero_le _) (Nat.zero_le _) (zc_takesBase_M g hX.2.1 hX.2.2.1 c1_ (fun _ => ?_) (fun y_ => absurd c2_ y_))
      show S 30 [some (.ref x), some (.int (Int32.ofInt e))] [.int (Int32.ofInt (1 : Int))] _ _ _
      refine hs 11 _ rfl _ _ _ _ _ _ (fun _ => ?_) (fun zq => absurd (hd_c1t (c := 1) (by omega) (by omega) (by omega : (1 : Int) ≠ 0)) zq)
      refine hs 13 _ rfl _ _ _ _ _ _ _ rfl ?_
      refine hs 14 _ rfl _ _ _ _ _ _ _ _ _ (hX.1) rfl rfl ?_
      refine hs 15 _ rfl _ _ _ _ _ _ _ rfl ?_
      refine hs 16 _ rfl _ _ _ _ _ _ _ _ _ (hX.1) rfl rfl ?_
      refine zw_c (hs 17 _ rfl) (a := [.ref (x + 18), .ref (x + 1)]) (st := []) rfl rfl (Nat.le_of_ble_eq_true rfl) ⟨_, _, _, rfl, hX.2.2.2.1.1, rfl⟩ (Nat.zero_le _) (Nat.zero_le _) (zc_keep_M g (p := x + 18) (s := x + 1) (by omega) (by omega) hX.2.2.2.1 hX.2.1 hX.2.2.1 fun hk8_ ok8_ ck8_ fk8_ pk8_ e18_ e28_ => ?_)
      have xk8_ := hX.past fk8_ pk8_
      have lk8_ := zc_l_keep (R := R) (c := c) hX.2.2.2.1.2.2.2.1 hX.2.2.2.1.2.2.2.2 e18_ e28_
      show S 54 [some (.ref x), some (.int (Int32.ofInt e))] [] _ _ _
      refine hs 18 _ rfl _ _ _ _ _ _ _ rfl ?_
      refine hs 19 _ rfl _ _ _ _ _ _ _ _ _ (xk8_.1) rfl rfl ?_
      refine hs 20 _ rfl _ _ _ _ _ _ _ rfl ?_
      refine zw_c (hs 21 _ rfl) (a := [.ref (x + 1), .int (Int32.ofInt e)]) (st := []) rfl rfl (Nat.le_of_ble_eq_true rfl) ⟨_, _, _, rfl, xk8_.2.1.d, rfl⟩ (Nat.zero_le _) (Nat.zero_le _) (zc_addBase_M g (by omega) xk8_.2.1 (size := e) (by omega) c2_.2 fun ha_ fa_ na_ => ?_)
      show S 62 [some (.ref x), some (.int (Int32.ofInt e))] [] _ _ _
      have xa_ := xk8_.st fa_ na_ (hX.2.2.1.bs c2_.2 c1_)
      refine hs 22 _ rfl _ _ _ _ _ _ _ rfl ?_
      refine hs 23 _ rfl _ _ _ _ _ _ _ _ _ (xa_.1) rfl rfl ?_
      refine hs 24 _ rfl _ _ _ _ _ _ _ _ _ (xa_.2.1.d) rfl rfl ?_
      refine hs 25 _ rfl _ _ _ _ _ _ _ rfl ?_
      refine hs 26 _ rfl _ _ _ _ _ _ _ hd_sub ?_
      refine hs 27 _ rfl _ _ _ _ _ (rv _) (Nat.zero_le _) (Nat.zero_le _) ?_
      have e_ : (((c.2.2.2 ++ [e]).length : Int) - (1 : Int)) = (c.2.2.2.length : Int) := by rw [List.length_append, List.length_singleton]; omega
      show Post (.inl (some (.int (Int32.ofInt (((c.2.2.2 ++ [e]).length : Int) - (1 : Int)))))) _
      rw [e_]
      exact hP c1_ c2_ _ ((zc_fr.of fk8_ (by omega) (by omega)).tr (zc_fr.of fa_ (by omega) (by omega))) (zc_X.mk xa_ lk8_)
set_option maxHeartbeats 4000000 in
theorem zc_unbase_M {l : Launch} {G : am_G} {X : ck_XT} (g : gM l G X) {x : Nat} {r : Nat → Nat} {jj mm kk : Int} {c : sp_S} {R : Nat → sp_S} {old cnt : Nat} {h : List am_C} (hX : zc_x G h x r jj mm kk c R old cnt){mc ms : Nat} {Post : am_O → List am_C → Prop} (hmc : 1 ≤ mc) (hms : 6 ≤ ms)
    (hP : ∀ (B : List Int) (b : Int), c.2.2.2 = B ++ [b] → ∀ h', zc_fr G h h' x r → zc_X G h' x r jj mm kk (c.1, c.2.1, c.2.2.1, B) (sp_keep (zc_l R old cnt) c) → Post (.inl (some (.int (Int32.ofInt b)))) h')
    (hX3 : c.2.2.2 = [] → Post (.inr "java/lang/IllegalStateException") (h ++ [(99, [])])) :
    am_M l G yX10_unbase (.code yX10_unbase prog_1_method_17_code 1 (some .int)) 6 123 mc ms [.ref x] h Post := by
  refine gh_yX10_unbase_X g (Nat.le_of_ble_eq_true rfl) fun S SX hs hr hw hx => ?_
  have rv : ∀ x : Int32, ck_fv 0 (.int x) := fun x => ⟨_, rfl⟩
  have hx9_ := hX.2.2.2.2.2.2.2
  have hl_ := hX.2.2.1.2.2.2.1
  by_cases c1_ : c.2.2.2.length = 0
  · 
    refine hs 0 _ rfl _ _ _ _ _ _ _ rfl ?_
    refine hs 1 _ rfl _ _ _ _ _ _ _ _ _ (hX.1) rfl rfl ?_
    refine hs 2 _ rfl _ _ _ _ _ _ _ _ _ (hX.2.1.d) rfl rfl ?_
    refine hs 3 _ rfl _ _ _ _ _ _ (fun zq => absurd (hd_c1z (c := 1) (by omega) (by omega) zq) (by omega : ¬ ((c.2.2.2.length : Int) ≠ 0))) (fun _ => ?_)
    exact hs 4 _ rfl _ _ _ _ _ rfl (Nat.le_of_ble_eq_true rfl) (by omega) (by omega) (hX3 (List.length_eq_zero_iff.mp c1_))
  · obtain ⟨n_, hn_⟩ : ∃ n_ : Nat, c.2.2.2.length = n_ + 1 := ⟨c.2.2.2.length - 1, by omega⟩
    obtain ⟨B_, b_, b1_, b2_, b3_, -⟩ := sp_last _ _ hn_
    refine hs 0 _ rfl _ _ _ _ _ _ _ rfl ?_
    refine hs 1 _ rfl _ _ _ _ _ _ _ _ _ (hX.1) rfl rfl ?_
    refine hs 2 _ rfl _ _ _ _ _ _ _ _ _ (hX.2.1.d) rfl rfl ?_
    refine hs 3 _ rfl _ _ _ _ _ _ (fun _ => ?_) (fun zq => absurd (hd_c1t (c := 1) (by omega) (by omega) (by omega : (c.2.2.2.length : Int) ≠ 0)) zq)
    refine hs 5 _ rfl _ _ _ _ _ _ _ rfl ?_
    refine hs 6 _ rfl _ _ _ _ _ _ _ _ _ (hX.1) rfl rfl ?_
    refine hs 7 _ rfl _ _ _ _ _ _ _ rfl ?_
    refine hs 8 _ rfl _ _ _ _ _ _ _ _ _ (hX.1) rfl rfl ?_
    refine zw_c (hs 9 _ rfl) (a := [.ref (x + 18), .ref (x + 1)]) (st := []) rfl rfl (Nat.le_of_ble_eq_true rfl) ⟨_, _, _, rfl, hX.2.2.2.1.1, rfl⟩ (Nat.zero_le _) (Nat.zero_le _) (zc_keep_M g (p := x + 18) (s := x + 1) (by omega) (by omega) hX.2.2.2.1 hX.2.1 hX.2.2.1 fun hk9_ ok9_ ck9_ fk9_ pk9_ e19_ e29_ => ?_)
    have xk9_ := hX.past fk9_ pk9_
    have lk9_ := zc_l_keep (R := R) (c := c) hX.2.2.2.1.2.2.2.1 hX.2.2.2.1.2.2.2.2 e19_ e29_
    show S 31 [some (.ref x)] [] _ _ _
    refine hs 10 _ rfl _ _ _ _ _ _ _ rfl ?_
    refine hs 11 _ rfl _ _ _ _ _ _ _ _ _ (xk9_.1) rfl rfl ?_
    refine zw_c (hs 12 _ rfl) (a := [.ref (x + 1)]) (st := []) rfl rfl (Nat.le_of_ble_eq_true rfl) ⟨_, _, _, rfl, xk9_.2.1.d, rfl⟩ (Nat.zero_le _) (Nat.zero_le _) (zc_removeBase_M g (n := n_) (by omega) xk9_.2.1 hn_ (by omega) b2_ fun ha_ fa_ na_ => ?_)
    show S 38 [some (.ref x)] [.int (Int32.ofInt b_)] _ _ _
    rw [b3_] at na_
    have xa_ := xk9_.st fa_ na_ (hX.2.2.1.ub b1_)
    exact hs 13 _ rfl _ _ _ _ _ (rv _) (Nat.zero_le _) (Nat.zero_le _) (hP B_ b_ b1_ _ ((zc_fr.of fk9_ (by omega) (by omega)).tr (zc_fr.of fa_ (by omega) (by omega))) (zc_X.mk xa_ lk9_))
set_option maxHeartbeats 4000000 in
theorem zc_undo_M {l : Launch} {G : am_G} {X : ck_XT} (g : gM l G X) {x : Nat} {r : Nat → Nat} {jj mm kk : Int} {c : sp_S} {R : Nat → sp_S} {old cnt : Nat} {h : List am_C} (hX : zc_x G h x r jj mm kk c R old cnt){mc ms : Nat} {Post : am_O → List am_C → Prop} (hmc : 1 ≤ mc) (hms : 6 ≤ ms)
    (hP : ∀ (P : List sp_S) (s : sp_S), zc_l R old cnt = P ++ [s] → ∀ h', zc_fr G h h' x r → zc_X G h' x r jj mm kk s P → Post (.inl (some (.int (Int32.ofInt (P.length : Int))))) h')
    (hX3 : zc_l R old cnt = [] → Post (.inr "java/lang/IllegalStateException") (h ++ [(99, [])])) :
    am_M l G yX10_undo (.code yX10_undo prog_1_method_18_code 1 (some .int)) 6 123 mc ms [.ref x] h Post := by
  refine gh_yX10_undo_X g (Nat.le_of_ble_eq_true rfl) fun S SX hs hr hw hx => ?_
  have rv : ∀ x : Int32, ck_fv 0 (.int x) := fun x => ⟨_, rfl⟩
  have hx9_ := hX.2.2.2.2.2.2.2
  have hl_ := hX.2.2.2.1.2.2.2.2
  by_cases c1_ : cnt = 0
  · 
    refine hs 0 _ rfl _ _ _ _ _ _ _ rfl ?_
    refine hs 1 _ rfl _ _ _ _ _ _ _ _ _ (hX.1) rfl rfl ?_
    refine hs 2 _ rfl _ _ _ _ _ _ _ _ _ (hX.2.2.2.1.1) rfl rfl ?_
    refine hs 3 _ rfl _ _ _ _ _ _ (fun zq => absurd (hd_c1z (c := 1) (by omega) (by omega) zq) (by omega : ¬ ((cnt : Int) ≠ 0))) (fun _ => ?_)
    exact hs 4 _ rfl _ _ _ _ _ rfl (Nat.le_of_ble_eq_true rfl) (by omega) (by omega) (hX3 (by rw [c1_]; rfl))
  · obtain ⟨n_, rfl⟩ : ∃ n_ : Nat, cnt = n_ + 1 := ⟨cnt - 1, by omega⟩
    refine hs 0 _ rfl _ _ _ _ _ _ _ rfl ?_
    refine hs 1 _ rfl _ _ _ _ _ _ _ _ _ (hX.1) rfl rfl ?_
    refine hs 2 _ rfl _ _ _ _ _ _ _ _ _ (hX.2.2.2.1.1) rfl rfl ?_
    refine hs 3 _ rfl _ _ _ _ _ _ (fun _ => ?_) (fun zq => absurd (hd_c1t (c := 1) (by omega) (by omega) (by omega : ((n_ + 1 : Nat) : Int) ≠ 0)) zq)
    refine hs 5 _ rfl _ _ _ _ _ _ _ rfl ?_
    refine hs 6 _ rfl _ _ _ _ _ _ _ _ _ (hX.1) rfl rfl ?_
    refine hs 7 _ rfl _ _ _ _ _ _ _ rfl ?_
    refine hs 8 _ rfl _ _ _ _ _ _ _ _ _ (hX.1) rfl rfl ?_
    refine zw_c (hs 9 _ rfl) (a := [.ref (x + 18), .ref (x + 1)]) (st := []) rfl rfl (Nat.le_of_ble_eq_true rfl) ⟨_, _, _, rfl, hX.2.2.2.1.1, rfl⟩ (Nat.zero_le _) (Nat.zero_le _) (zc_back_M g (p := x + 18) (s := x + 1) (by omega) (by omega) hX.2.2.2.1 hX.2.1 (by omega) fun hb_ fb_ pb_ sb1_ => ?_)
    show S 31 [some (.ref x)] [] _ _ _
    have pb2_ : zc_p G hb_ (x + 18) R old n_ := pb_
    have sb2_ : zc_s G hb_ (x + 1) (R ((old + n_) % 12)) := sb1_
    have xb_ := hX.undo fb_ pb2_ sb2_ (pb2_.2.2.1 _ (by omega)).2
    refine hs 10 _ rfl _ _ _ _ _ _ _ rfl ?_
    refine hs 11 _ rfl _ _ _ _ _ _ _ _ _ (xb_.1) rfl rfl ?_
    refine hs 12 _ rfl _ _ _ _ _ _ _ _ _ (xb_.2.2.2.1.1) rfl rfl ?_
    have e_ := hP _ _ zc_l_succ _ (zc_fr.of fb_ (by omega) (by omega)) (zc_X.mk xb_ rfl)
    rw [zc_l_len] at e_
    exact hs 13 _ rfl _ _ _ _ _ (rv _) (Nat.zero_le _) (Nat.zero_le _) e_
end
section
/-! CONGRUENCES, TO BE WALKED BY HAND -/
def gt_yJ9_floorMod_f86c9_X : ck_TB := ([], [], [], [], [], [], [], [], ([], [], [], []), [], [], [], 3)
def ge_yJ9_floorMod_f86c9_X : ck_E := (gT, [], (([], [], [], 0, []), ((0, []), (0, [])), [], [], ([], [], [], 0, []), []), 6, [(0, (0, 4, 0, 0, 1, 0, [])), (1, (0, 4, 2, 0, 2, 0, [])), (2, (0, 16, 4, 0, 3, 0, [])), (3, (0, 7, 4, 0, 5, 0, [])), (5, (0, 4, 0, 0, 6, 0, [])), (6, (0, 4, 2, 0, 7, 0, [])), (7, (0, 16, 7, 0, 8, 0, [])), (8, (0, 1, 0, 0, 9, 0, [])), (9, (0, 21, 0, 0, 10, 0, [])), (10, (1, 3, 0, 0, 13, 25, [])), (13, (0, 4, 4, 0, 15, 0, [])), (15, (0, 1, 0, 0, 16, 0, [])), (16, (0, 21, 0, 0, 17, 0, [])), (17, (1, 0, 0, 0, 20, 25, [])), (20, (0, 4, 4, 0, 22, 0, [])), (22, (0, 4, 2, 0, 23, 0, [])), (23, (0, 16, 0, 0, 24, 0, [])), (24, (14, 0, 0, 3, 0, 0, [])), (25, (0, 4, 4, 0, 27, 0, [])), (27, (14, 0, 0, 3, 0, 0, []))], [], [], [], [])
theorem gd_yJ9_floorMod_f86c9_X : ck_dec prog_32_method_52_code gt_yJ9_floorMod_f86c9_X ge_yJ9_floorMod_f86c9_X.2.2.2.2.1 = true := by decide +kernel
theorem gh_yJ9_floorMod_f86c9_X {l : Launch} {G : am_G} {X : ck_XT} (g : gM l G X) {a : List Value} {h : List am_C} {mc ms : Nat} {Post : am_O → List am_C → Prop} (hay : (am_lay a).length ≤ 6) (H : ∀ (S : ck_SS) (SX : Nat → ck_SX), ck_hs G S SX Post mc ms (ck_cms []) ge_yJ9_floorMod_f86c9_X → (∀ pc, ck_sR G S pc) → ck_hw S → zw_hx SX Post mc ms → S 0 (am_ent a 6) [] h 0 0) : am_M l G yJ9_floorMod_f86c9 (.code yJ9_floorMod_f86c9 prog_32_method_52_code 6 (some .long)) 1 20 mc ms a h Post :=
  zw_handX (E := ge_yJ9_floorMod_f86c9_X) (tb := gt_yJ9_floorMod_f86c9_X) (init := false) (cm := (ck_cms [])) g.1.1 (by decide +kernel) rfl gd_yJ9_floorMod_f86c9_X ⟨(List.forall_mem_nil _), (List.forall_mem_nil _), (List.forall_mem_nil _), (List.forall_mem_nil _), (List.forall_mem_nil _), (List.forall_mem_nil _), (List.forall_mem_nil _), (List.forall_mem_nil _)⟩ (List.forall_mem_nil _) (fun h => nomatch h) ⟨_, rfl, rfl⟩ (by decide) (by decide) g_oi g_ar
    (fun s hk _ => (List.forall_mem_nil _)) (fun s hk => (List.forall_mem_nil _))
    (List.forall_mem_nil _) (List.forall_mem_nil _) (List.forall_mem_nil _) (List.forall_mem_nil _)
    (List.forall_mem_nil _) hay H
def gt_yX4_clear_X : ck_TB := ([], [], [], [], [(7, 11, 0, 1), (13, 11, 1, 3), (17, 11, 2, 3)], [], [], [], ([], [], [], []), [], [], [], 9)
def ge_yX4_clear_X : ck_E := (gT, [], (([], [], [], 0, []), ((0, []), (0, [])), [], [], ([], [], [], 0, []), []), 1, [(0, (0, 5, 0, 0, 1, 0, [])), (1, (0, 0, 0, 1, 2, 0, [])), (2, (8, 11, 0, 1, 5, 0, [])), (5, (0, 5, 0, 0, 6, 0, [])), (6, (0, 1, 0, 0, 7, 0, [])), (7, (8, 11, 1, 3, 10, 0, [])), (10, (0, 5, 0, 0, 11, 0, [])), (11, (0, 1, 0, 1, 12, 0, [])), (12, (8, 11, 2, 3, 15, 0, [])), (15, (15, 0, 0, 0, 0, 0, []))], [], [], [], [])
theorem gd_yX4_clear_X : ck_dec prog_6_method_2_code gt_yX4_clear_X ge_yX4_clear_X.2.2.2.2.1 = true := by decide +kernel
theorem gh_yX4_clear_X {l : Launch} {G : am_G} {X : ck_XT} (g : gM l G X) {a : List Value} {h : List am_C} {mc ms : Nat} {Post : am_O → List am_C → Prop} (hay : (am_lay a).length ≤ 1) (H : ∀ (S : ck_SS) (SX : Nat → ck_SX), ck_hs G S SX Post mc ms (ck_cms []) ge_yX4_clear_X → (∀ pc, ck_sR G S pc) → ck_hw S → zw_hx SX Post mc ms → S 0 (am_ent a 1) [] h 0 0) : am_M l G yX4_clear (.code yX4_clear prog_6_method_2_code 1 none) 1 20 mc ms a h Post :=
  zw_handX (E := ge_yX4_clear_X) (tb := gt_yX4_clear_X) (init := false) (cm := (ck_cms [])) g.1.1 (by decide +kernel) rfl gd_yX4_clear_X ⟨(List.forall_mem_nil _), (List.forall_mem_nil _), (List.forall_mem_nil _), (List.forall_mem_nil _), (List.forall_mem_nil _), (List.forall_mem_nil _), (List.forall_mem_nil _), (List.forall_mem_nil _)⟩ (List.forall_mem_cons.mpr ⟨⟨⟨_, _, _, rfl, Or.inl w307⟩, by decide, _, rfl, Or.inl g_fd11_0⟩, (List.forall_mem_cons.mpr ⟨⟨⟨_, _, _, rfl, Or.inl w309⟩, by decide, _, rfl, Or.inl g_fd11_1⟩, (List.forall_mem_cons.mpr ⟨⟨⟨_, _, _, rfl, Or.inl w311⟩, by decide, _, rfl, Or.inl g_fd11_2⟩, (List.forall_mem_nil _)⟩)⟩)⟩) (fun h => nomatch h) rfl (by decide) (by decide) g_oi g_ar
    (fun s hk _ => (List.forall_mem_nil _)) (fun s hk => (List.forall_mem_nil _))
    (List.forall_mem_nil _) (List.forall_mem_nil _) (List.forall_mem_nil _) (List.forall_mem_nil _)
    (List.forall_mem_nil _) hay H
def gt_yX4_admits_X : ck_TB := ([], [], [], [(7, 11, 0), (13, 11, 1), (17, 11, 2)], [], [], [], [], ([], [], [(20, 0)], []), [], [], [], 1)
def ge_yX4_admits_X : ck_E := (gT, [], (([], [], [], 0, []), ((0, []), (0, [])), [], [], ([], [], [], 0, []), []), 4, [(0, (0, 3, 2, 0, 1, 0, [])), (1, (1, 4, 0, 0, 4, 6, [])), (4, (0, 0, 0, 0, 5, 0, [])), (5, (14, 0, 0, 1, 0, 0, [])), (6, (0, 5, 0, 0, 7, 0, [])), (7, (7, 11, 2, 0, 10, 0, [])), (10, (0, 3, 2, 0, 11, 0, [])), (11, (0, 19, 0, 0, 12, 0, [])), (12, (0, 16, 4, 0, 13, 0, [])), (13, (0, 20, 0, 0, 14, 0, [])), (14, (0, 3, 2, 0, 15, 0, [])), (15, (16, 0, 0, 0, 18, 0, [])), (18, (0, 6, 3, 0, 19, 0, [])), (19, (0, 5, 0, 0, 20, 0, [])), (20, (7, 11, 0, 0, 23, 0, [])), (23, (1, 0, 0, 0, 26, 49, [])), (26, (0, 3, 3, 0, 27, 0, [])), (27, (1, 5, 0, 0, 30, 49, [])), (30, (0, 3, 1, 0, 31, 0, [])), (31, (0, 19, 0, 0, 32, 0, [])), (32, (0, 5, 0, 0, 33, 0, [])), (33, (7, 11, 1, 0, 36, 0, [])), (36, (0, 16, 1, 0, 37, 0, [])), (37, (0, 3, 3, 0, 38, 0, [])), (38, (0, 19, 0, 0, 39, 0, [])), (39, (0, 16, 4, 0, 40, 0, [])), (40, (0, 1, 0, 0, 41, 0, [])), (41, (0, 21, 0, 0, 42, 0, [])), (42, (1, 1, 0, 0, 45, 49, [])), (45, (0, 0, 0, 1, 46, 0, [])), (46, (3, 0, 0, 0, 0, 50, [])), (49, (0, 0, 0, 0, 50, 0, [])), (50, (14, 0, 0, 1, 0, 0, []))], [(none, 2, [])], [], [], [])
theorem gd_yX4_admits_X : ck_dec prog_6_method_3_code gt_yX4_admits_X ge_yX4_admits_X.2.2.2.2.1 = true := by decide +kernel
theorem gh_yX4_admits_X {l : Launch} {G : am_G} {X : ck_XT} (g : gM l G X) {a : List Value} {h : List am_C} {mc ms : Nat} {Post : am_O → List am_C → Prop} (hay : (am_lay a).length ≤ 4) (H : ∀ (S : ck_SS) (SX : Nat → ck_SX), ck_hs G S SX Post mc ms (ck_cms [am_cm l G yX7_commonOf (.code yX7_commonOf prog_9_method_2_code 6 (some .int)) 1 20]) ge_yX4_admits_X → (∀ pc, ck_sR G S pc) → ck_hw S → zw_hx SX Post mc ms → S 0 (am_ent a 4) [] h 0 0) : am_M l G yX4_admits (.code yX4_admits prog_6_method_3_code 4 (some .boolean)) 2 45 mc ms a h Post :=
  zw_handX (E := ge_yX4_admits_X) (tb := gt_yX4_admits_X) (init := false) (cm := (ck_cms [am_cm l G yX7_commonOf (.code yX7_commonOf prog_9_method_2_code 6 (some .int)) 1 20])) g.1.1 (by decide +kernel) rfl gd_yX4_admits_X ⟨(List.forall_mem_nil _), (List.forall_mem_nil _), (List.forall_mem_nil _), (List.forall_mem_cons.mpr ⟨⟨⟨_, _, _, rfl, Or.inl w307⟩, by decide, _, _, g_fd11_0⟩, (List.forall_mem_cons.mpr ⟨⟨⟨_, _, _, rfl, Or.inl w309⟩, by decide, _, _, g_fd11_1⟩, (List.forall_mem_cons.mpr ⟨⟨⟨_, _, _, rfl, Or.inl w311⟩, by decide, _, _, g_fd11_2⟩, (List.forall_mem_nil _)⟩)⟩)⟩), (List.forall_mem_nil _), (List.forall_mem_nil _), (List.forall_mem_nil _), (List.forall_mem_nil _)⟩ (List.forall_mem_nil _) (fun h => nomatch h) ⟨_, rfl, rfl⟩ (by decide) (by decide) g_oi g_ar
    (fun s hk _ => (List.forall_mem_nil _)) (fun s hk => (List.forall_mem_nil _))
    (List.forall_mem_nil _) (List.forall_mem_nil _) (List.forall_mem_cons.mpr ⟨(ck_kS g_y_yX7_commonOf w446 w413 (by decide) (by decide)), (List.forall_mem_nil _)⟩) (List.forall_mem_nil _)
    (List.forall_mem_nil _) hay H
def gt_yX4_join_X : ck_TB := ([], [], [], [(7, 11, 0), (13, 11, 1), (17, 11, 2)], [(7, 11, 0, 1), (13, 11, 1, 3), (17, 11, 2, 3)], [], [], [], ([(26, 0)], [], [(20, 1), (30, 2), (36, 3)], []), [], [], [], 9)
def ge_yX4_join_X : ck_E := (gT, [], (([], [], [], 0, []), ((0, []), (0, [])), [], [], ([], [], [], 0, []), []), 9, [(0, (0, 5, 0, 0, 1, 0, [])), (1, (0, 5, 0, 0, 2, 0, [])), (2, (0, 3, 1, 0, 3, 0, [])), (3, (0, 3, 2, 0, 4, 0, [])), (4, (16, 0, 0, 0, 7, 0, [])), (7, (8, 11, 0, 1, 10, 0, [])), (10, (0, 3, 2, 0, 11, 0, [])), (11, (1, 4, 0, 0, 14, 15, [])), (14, (15, 0, 0, 0, 0, 0, [])), (15, (0, 5, 0, 0, 16, 0, [])), (16, (7, 11, 2, 0, 19, 0, [])), (19, (0, 3, 2, 0, 20, 0, [])), (20, (0, 19, 0, 0, 21, 0, [])), (21, (0, 16, 4, 0, 22, 0, [])), (22, (0, 20, 0, 0, 23, 0, [])), (23, (0, 3, 2, 0, 24, 0, [])), (24, (16, 1, 0, 0, 27, 0, [])), (27, (0, 6, 3, 0, 28, 0, [])), (28, (0, 3, 3, 0, 29, 0, [])), (29, (1, 5, 0, 0, 32, 38, [])), (32, (0, 3, 2, 0, 33, 0, [])), (33, (0, 3, 3, 0, 34, 0, [])), (34, (0, 15, 3, 0, 35, 0, [])), (35, (3, 0, 0, 0, 0, 39, [])), (38, (0, 0, 0, 0, 39, 0, [])), (39, (0, 6, 4, 0, 41, 0, [])), (41, (0, 3, 4, 0, 43, 0, [])), (43, (1, 4, 0, 0, 46, 47, [])), (46, (15, 0, 0, 0, 0, 0, [])), (47, (0, 5, 0, 0, 48, 0, [])), (48, (7, 11, 0, 0, 51, 0, [])), (51, (1, 0, 0, 0, 54, 114, [])), (54, (0, 3, 1, 0, 55, 0, [])), (55, (0, 19, 0, 0, 56, 0, [])), (56, (0, 5, 0, 0, 57, 0, [])), (57, (7, 11, 1, 0, 60, 0, [])), (60, (0, 16, 1, 0, 61, 0, [])), (61, (0, 3, 2, 0, 62, 0, [])), (62, (0, 19, 0, 0, 63, 0, [])), (63, (16, 2, 0, 0, 66, 0, [])), (66, (0, 3, 3, 0, 67, 0, [])), (67, (0, 19, 0, 0, 68, 0, [])), (68, (0, 16, 3, 0, 69, 0, [])), (69, (0, 7, 5, 0, 71, 0, [])), (71, (0, 5, 0, 0, 72, 0, [])), (72, (7, 11, 2, 0, 75, 0, [])), (75, (0, 3, 3, 0, 76, 0, [])), (76, (0, 19, 0, 0, 77, 0, [])), (77, (0, 16, 3, 0, 78, 0, [])), (78, (0, 3, 4, 0, 80, 0, [])), (80, (0, 19, 0, 0, 81, 0, [])), (81, (0, 16, 4, 0, 82, 0, [])), (82, (0, 20, 0, 0, 83, 0, [])), (83, (0, 3, 4, 0, 85, 0, [])), (85, (16, 3, 0, 0, 88, 0, [])), (88, (0, 19, 0, 0, 89, 0, [])), (89, (0, 7, 7, 0, 91, 0, [])), (91, (0, 5, 0, 0, 92, 0, [])), (92, (0, 12, 0, 0, 93, 0, [])), (93, (7, 11, 1, 0, 96, 0, [])), (96, (0, 5, 0, 0, 97, 0, [])), (97, (7, 11, 2, 0, 100, 0, [])), (100, (0, 4, 5, 0, 102, 0, [])), (102, (0, 4, 7, 0, 104, 0, [])), (104, (0, 16, 2, 0, 105, 0, [])), (105, (0, 3, 4, 0, 107, 0, [])), (107, (0, 19, 0, 0, 108, 0, [])), (108, (0, 16, 4, 0, 109, 0, [])), (109, (0, 16, 2, 0, 110, 0, [])), (110, (0, 16, 0, 0, 111, 0, [])), (111, (8, 11, 1, 3, 114, 0, [])), (114, (0, 5, 0, 0, 115, 0, [])), (115, (0, 12, 0, 0, 116, 0, [])), (116, (7, 11, 2, 0, 119, 0, [])), (119, (0, 3, 4, 0, 121, 0, [])), (121, (0, 19, 0, 0, 122, 0, [])), (122, (0, 16, 2, 0, 123, 0, [])), (123, (8, 11, 2, 3, 126, 0, [])), (126, (15, 0, 0, 0, 0, 0, []))], [(some 11, 3, []), (none, 2, []), (none, 2, []), (none, 2, [])], [], [], [])
theorem gd_yX4_join_X : ck_dec prog_6_method_4_code gt_yX4_join_X ge_yX4_join_X.2.2.2.2.1 = true := by decide +kernel
theorem gh_yX4_join_X {l : Launch} {G : am_G} {X : ck_XT} (g : gM l G X) {a : List Value} {h : List am_C} {mc ms : Nat} {Post : am_O → List am_C → Prop} (hay : (am_lay a).length ≤ 9) (H : ∀ (S : ck_SS) (SX : Nat → ck_SX), ck_hs G S SX Post mc ms (ck_cms [am_cm l G yX4_admits (.code yX4_admits prog_6_method_3_code 4 (some .boolean)) 2 45, am_cm l G yX7_commonOf (.code yX7_commonOf prog_9_method_2_code 6 (some .int)) 1 20, am_cm l G yJ9_floorMod_f86c9 (.code yJ9_floorMod_f86c9 prog_32_method_52_code 6 (some .long)) 1 20, am_cm l G yX7_invert (.code yX7_invert prog_9_method_3_code 10 (some .int)) 1 20]) ge_yX4_join_X → (∀ pc, ck_sR G S pc) → ck_hw S → zw_hx SX Post mc ms → S 0 (am_ent a 9) [] h 0 0) : am_M l G yX4_join (.code yX4_join prog_6_method_4_code 9 none) 3 68 mc ms a h Post :=
  zw_handX (E := ge_yX4_join_X) (tb := gt_yX4_join_X) (init := false) (cm := (ck_cms [am_cm l G yX4_admits (.code yX4_admits prog_6_method_3_code 4 (some .boolean)) 2 45, am_cm l G yX7_commonOf (.code yX7_commonOf prog_9_method_2_code 6 (some .int)) 1 20, am_cm l G yJ9_floorMod_f86c9 (.code yJ9_floorMod_f86c9 prog_32_method_52_code 6 (some .long)) 1 20, am_cm l G yX7_invert (.code yX7_invert prog_9_method_3_code 10 (some .int)) 1 20])) g.1.1 (by decide +kernel) rfl gd_yX4_join_X ⟨(List.forall_mem_nil _), (List.forall_mem_nil _), (List.forall_mem_nil _), (List.forall_mem_cons.mpr ⟨⟨⟨_, _, _, rfl, Or.inl w307⟩, by decide, _, _, g_fd11_0⟩, (List.forall_mem_cons.mpr ⟨⟨⟨_, _, _, rfl, Or.inl w309⟩, by decide, _, _, g_fd11_1⟩, (List.forall_mem_cons.mpr ⟨⟨⟨_, _, _, rfl, Or.inl w311⟩, by decide, _, _, g_fd11_2⟩, (List.forall_mem_nil _)⟩)⟩)⟩), (List.forall_mem_nil _), (List.forall_mem_nil _), (List.forall_mem_nil _), (List.forall_mem_nil _)⟩ (List.forall_mem_cons.mpr ⟨⟨⟨_, _, _, rfl, Or.inl w307⟩, by decide, _, rfl, Or.inl g_fd11_0⟩, (List.forall_mem_cons.mpr ⟨⟨⟨_, _, _, rfl, Or.inl w309⟩, by decide, _, rfl, Or.inl g_fd11_1⟩, (List.forall_mem_cons.mpr ⟨⟨⟨_, _, _, rfl, Or.inl w311⟩, by decide, _, rfl, Or.inl g_fd11_2⟩, (List.forall_mem_nil _)⟩)⟩)⟩) (fun h => nomatch h) rfl (by decide) (by decide) g_oi g_ar
    (fun s hk _ => (List.forall_mem_nil _)) (fun s hk => (List.forall_mem_nil _))
    (List.forall_mem_cons.mpr ⟨(ck_kV g_y_yX4_admits w442 w443 w444 (T := TX4) (N := 3) rfl (by decide) (by decide) (by decide)), (List.forall_mem_nil _)⟩) (List.forall_mem_nil _) (List.forall_mem_cons.mpr ⟨(ck_kS g_y_yX7_commonOf w446 w413 (by decide) (by decide)), (List.forall_mem_cons.mpr ⟨(ck_kS g_y_yJ9_floorMod_f86c9 w447 w448 (by decide) (by decide)), (List.forall_mem_cons.mpr ⟨(ck_kS g_y_yX7_invert w450 w451 (by decide) (by decide)), (List.forall_mem_nil _)⟩)⟩)⟩) (List.forall_mem_nil _)
    (List.forall_mem_nil _) hay H
def gt_yX10_joinRows_X : ck_TB := ([], [], [], [(10, 15, 0), (60, 15, 11), (159, 14, 2), (301, 14, 3), (305, 14, 4)], [], [], [], [], ([(436, 0), (439, 1)], [], [], []), [], [], [], 9)
def ge_yX10_joinRows_X : ck_E := (gT, [], (([], [], [], 0, []), ((0, []), (0, [])), [], [], ([], [], [], 0, []), []), 2, [(0, (0, 5, 0, 0, 1, 0, [])), (1, (7, 15, 11, 0, 4, 0, [])), (4, (16, 0, 0, 0, 7, 0, [])), (7, (0, 0, 0, 0, 8, 0, [])), (8, (0, 6, 1, 0, 9, 0, [])), (9, (0, 3, 1, 0, 10, 0, [])), (10, (0, 5, 0, 0, 11, 0, [])), (11, (7, 15, 0, 0, 14, 0, [])), (14, (7, 14, 2, 0, 17, 0, [])), (17, (2, 3, 0, 0, 20, 51, [])), (20, (0, 5, 0, 0, 21, 0, [])), (21, (7, 15, 11, 0, 24, 0, [])), (24, (0, 5, 0, 0, 25, 0, [])), (25, (7, 15, 0, 0, 28, 0, [])), (28, (7, 14, 3, 0, 31, 0, [])), (31, (0, 3, 1, 0, 32, 0, [])), (32, (12, 50, 50, 0, 33, 0, [])), (33, (0, 5, 0, 0, 34, 0, [])), (34, (7, 15, 0, 0, 37, 0, [])), (37, (7, 14, 4, 0, 40, 0, [])), (40, (0, 3, 1, 0, 41, 0, [])), (41, (12, 50, 50, 0, 42, 0, [])), (42, (16, 1, 0, 0, 45, 0, [])), (45, (0, 9, 1, 1, 48, 0, [])), (48, (3, 0, 0, 0, 0, 9, [])), (51, (15, 0, 0, 0, 0, 0, []))], [(some 11, 1, []), (some 11, 3, [])], [], [], [])
theorem gd_yX10_joinRows_X : ck_dec prog_1_method_71_code gt_yX10_joinRows_X ge_yX10_joinRows_X.2.2.2.2.1 = true := by decide +kernel
theorem gh_yX10_joinRows_X {l : Launch} {G : am_G} {X : ck_XT} (g : gM l G X) {a : List Value} {h : List am_C} {mc ms : Nat} {Post : am_O → List am_C → Prop} (hay : (am_lay a).length ≤ 2) (H : ∀ (S : ck_SS) (SX : Nat → ck_SX), ck_hs G S SX Post mc ms (ck_cms [am_cm l G yX4_clear (.code yX4_clear prog_6_method_2_code 1 none) 1 20, am_cm l G yX4_join (.code yX4_join prog_6_method_4_code 9 none) 3 68]) ge_yX10_joinRows_X → (∀ pc, ck_sR G S pc) → ck_hw S → zw_hx SX Post mc ms → S 0 (am_ent a 2) [] h 0 0) : am_M l G yX10_joinRows (.code yX10_joinRows prog_1_method_71_code 2 none) 4 96 mc ms a h Post :=
  zw_handX (E := ge_yX10_joinRows_X) (tb := gt_yX10_joinRows_X) (init := false) (cm := (ck_cms [am_cm l G yX4_clear (.code yX4_clear prog_6_method_2_code 1 none) 1 20, am_cm l G yX4_join (.code yX4_join prog_6_method_4_code 9 none) 3 68])) g.1.1 (by decide +kernel) rfl gd_yX10_joinRows_X ⟨(List.forall_mem_nil _), (List.forall_mem_nil _), (List.forall_mem_nil _), (List.forall_mem_cons.mpr ⟨⟨⟨_, _, _, rfl, Or.inl w353⟩, by decide, _, _, g_fd15_0⟩, (List.forall_mem_cons.mpr ⟨⟨⟨_, _, _, rfl, Or.inl w364⟩, by decide, _, _, g_fd15_11⟩, (List.forall_mem_cons.mpr ⟨⟨⟨_, _, _, rfl, Or.inr (Or.inl ⟨_, w166⟩)⟩, by decide, _, _, g_fd14_2⟩, (List.forall_mem_cons.mpr ⟨⟨⟨_, _, _, rfl, Or.inr (Or.inl ⟨_, w168⟩)⟩, by decide, _, _, g_fd14_3⟩, (List.forall_mem_cons.mpr ⟨⟨⟨_, _, _, rfl, Or.inr (Or.inl ⟨_, w170⟩)⟩, by decide, _, _, g_fd14_4⟩, (List.forall_mem_nil _)⟩)⟩)⟩)⟩)⟩), (List.forall_mem_nil _), (List.forall_mem_nil _), (List.forall_mem_nil _), (List.forall_mem_nil _)⟩ (List.forall_mem_nil _) (fun h => nomatch h) rfl (by decide) (by decide) g_oi g_ar
    (fun s hk _ => (List.forall_mem_nil _)) (fun s hk => (List.forall_mem_nil _))
    (List.forall_mem_cons.mpr ⟨(ck_kV g_y_yX4_clear w434 w435 w436 (T := TX4) (N := 3) rfl (by decide) (by decide) (by decide)), (List.forall_mem_cons.mpr ⟨(ck_kV g_y_yX4_join w438 w439 w440 (T := TX4) (N := 3) rfl (by decide) (by decide) (by decide)), (List.forall_mem_nil _)⟩)⟩) (List.forall_mem_nil _) (List.forall_mem_nil _) (List.forall_mem_nil _)
    (List.forall_mem_nil _) hay H
def gt_yX10_tellIf_X : ck_TB := ([], [], [], [(60, 15, 11)], [], [], [], [], ([(139, 1), (142, 4), (145, 2), (148, 3)], [], [(135, 0)], []), [], [], [], 1)
def ge_yX10_tellIf_X : ck_E := (gT, [], (([], [], [], 0, []), ((0, []), (0, [])), [], [], ([], [], [], 0, []), []), 3, [(0, (0, 3, 1, 0, 1, 0, [])), (1, (0, 3, 2, 0, 2, 0, [])), (2, (16, 0, 0, 0, 5, 0, [])), (5, (0, 5, 0, 0, 6, 0, [])), (6, (16, 1, 0, 0, 9, 0, [])), (9, (0, 5, 0, 0, 10, 0, [])), (10, (16, 2, 0, 0, 13, 0, [])), (13, (0, 5, 0, 0, 14, 0, [])), (14, (7, 15, 11, 0, 17, 0, [])), (17, (0, 3, 1, 0, 18, 0, [])), (18, (0, 3, 2, 0, 19, 0, [])), (19, (16, 3, 0, 0, 22, 0, [])), (22, (1, 1, 0, 0, 25, 27, [])), (25, (0, 0, 0, 0, 26, 0, [])), (26, (14, 0, 0, 1, 0, 0, [])), (27, (0, 5, 0, 0, 28, 0, [])), (28, (0, 3, 1, 0, 29, 0, [])), (29, (0, 3, 2, 0, 30, 0, [])), (30, (16, 4, 0, 0, 33, 0, [])), (33, (0, 10, 0, 0, 34, 0, [])), (34, (0, 0, 0, 1, 35, 0, [])), (35, (14, 0, 0, 1, 0, 0, []))], [(none, 2, []), (some 15, 1, []), (some 15, 1, []), (some 11, 3, []), (some 15, 3, [])], [], [], [])
theorem gd_yX10_tellIf_X : ck_dec prog_1_method_14_code gt_yX10_tellIf_X ge_yX10_tellIf_X.2.2.2.2.1 = true := by decide +kernel
theorem gh_yX10_tellIf_X {l : Launch} {G : am_G} {X : ck_XT} (g : gM l G X) {a : List Value} {h : List am_C} {mc ms : Nat} {Post : am_O → List am_C → Prop} (hay : (am_lay a).length ≤ 3) (H : ∀ (S : ck_SS) (SX : Nat → ck_SX), ck_hs G S SX Post mc ms (ck_cms [am_cm l G yX10_needCongruence (.code yX10_needCongruence prog_1_method_65_code 2 none) 6 90, am_cm l G yX10_needFreeRow (.code yX10_needFreeRow prog_1_method_66_code 1 none) 6 90, am_cm l G yX10_joinRows (.code yX10_joinRows prog_1_method_71_code 2 none) 4 96, am_cm l G yX4_admits (.code yX4_admits prog_6_method_3_code 4 (some .boolean)) 2 45, am_cm l G yX10_addRow (.code yX10_addRow prog_1_method_70_code 3 (some .int)) 5 123]) ge_yX10_tellIf_X → (∀ pc, ck_sR G S pc) → ck_hw S → zw_hx SX Post mc ms → S 0 (am_ent a 3) [] h 0 0) : am_M l G yX10_tellIf (.code yX10_tellIf prog_1_method_14_code 3 (some .boolean)) 7 145 mc ms a h Post :=
  zw_handX (E := ge_yX10_tellIf_X) (tb := gt_yX10_tellIf_X) (init := false) (cm := (ck_cms [am_cm l G yX10_needCongruence (.code yX10_needCongruence prog_1_method_65_code 2 none) 6 90, am_cm l G yX10_needFreeRow (.code yX10_needFreeRow prog_1_method_66_code 1 none) 6 90, am_cm l G yX10_joinRows (.code yX10_joinRows prog_1_method_71_code 2 none) 4 96, am_cm l G yX4_admits (.code yX4_admits prog_6_method_3_code 4 (some .boolean)) 2 45, am_cm l G yX10_addRow (.code yX10_addRow prog_1_method_70_code 3 (some .int)) 5 123])) g.1.1 (by decide +kernel) rfl gd_yX10_tellIf_X ⟨(List.forall_mem_nil _), (List.forall_mem_nil _), (List.forall_mem_nil _), (List.forall_mem_cons.mpr ⟨⟨⟨_, _, _, rfl, Or.inl w364⟩, by decide, _, _, g_fd15_11⟩, (List.forall_mem_nil _)⟩), (List.forall_mem_nil _), (List.forall_mem_nil _), (List.forall_mem_nil _), (List.forall_mem_nil _)⟩ (List.forall_mem_nil _) (fun h => nomatch h) ⟨_, rfl, rfl⟩ (by decide) (by decide) g_oi g_ar
    (fun s hk _ => (List.forall_mem_nil _)) (fun s hk => (List.forall_mem_nil _))
    (List.forall_mem_cons.mpr ⟨(ck_kV g_y_yX10_needFreeRow w1344 w1346 w27 (T := TX10) (N := 13) rfl (by decide) (by decide) (by decide)), (List.forall_mem_cons.mpr ⟨(ck_kV g_y_yX10_addRow w1349 w1351 w28 (T := TX10) (N := 13) rfl (by decide) (by decide) (by decide)), (List.forall_mem_cons.mpr ⟨(ck_kV g_y_yX10_joinRows w430 w432 w1 (T := TX10) (N := 13) rfl (by decide) (by decide) (by decide)), (List.forall_mem_cons.mpr ⟨(ck_kV g_y_yX4_admits w1365 w443 w444 (T := TX4) (N := 3) rfl (by decide) (by decide) (by decide)), (List.forall_mem_nil _)⟩)⟩)⟩)⟩) (List.forall_mem_nil _) (List.forall_mem_cons.mpr ⟨(ck_kS g_y_yX10_needCongruence w1339 w1340 (by decide) (by decide)), (List.forall_mem_nil _)⟩) (List.forall_mem_nil _)
    (List.forall_mem_nil _) hay H
end
section
/-! CONGRUENCES JOIN -/
theorem zj_msb (w : Int64) : w.toBitVec.msb = decide (w.toInt < 0) := BitVec.msb_eq_toInt
theorem zj_xorc {a b : Int} (ha : -9223372036854775808 ≤ a) (ha2 : a ≤ 9223372036854775807) (hb : 0 < b) (hb2 : b ≤ 9223372036854775807) : ∃ s : Int, (-9223372036854775808 ≤ s ∧ s ≤ 9223372036854775807) ∧ (s < 0 ↔ a < 0) ∧ ∀ (v : Int) (L : List (Option Value)) (st : List Value), ck_cf 16 7 v L (.long (Int64.ofInt b) :: .long (Int64.ofInt a) :: st) = some (L, .long (Int64.ofInt s) :: st) := by
  refine ⟨(Int64.ofInt a ^^^ Int64.ofInt b).toInt, ⟨?_, ?_⟩, ?_, fun v L st => ?_⟩
  · exact Int64.le_toInt _
  · have := Int64.toInt_lt (Int64.ofInt a ^^^ Int64.ofInt b)
    have h2 : (2 : Int) ^ 63 = 9223372036854775808 := by decide
    omega
  · have h1 := zj_msb (Int64.ofInt a ^^^ Int64.ofInt b)
    rw [Int64.toBitVec_xor, BitVec.msb_xor, zj_msb, zj_msb, hd_li ha ha2, hd_li (by omega) hb2, decide_eq_false (show ¬ b < 0 by omega), Bool.xor_false] at h1
    exact (decide_eq_decide.mp h1).symm
  · rw [Int64.ofInt_toInt]
    rfl
theorem zj_trem {L : List (Option Value)} {st : List Value} {v x y : Int} (h1 : -9223372036854775808 ≤ x) (h2 : x ≤ 9223372036854775807) (h3 : 0 < y) (h4 : y ≤ 9223372036854775807) : ck_cf 16 4 v L (.long (Int64.ofInt y) :: .long (Int64.ofInt x) :: st) = some (L, .long (Int64.ofInt (x.tmod y)) :: st) := by
  have hm : Int64.minValue.toInt = -9223372036854775808 := by decide
  have hM : Int64.maxValue.toInt = 9223372036854775807 := by decide
  have e : Int64.ofInt x - Int64.ofInt x / Int64.ofInt y * Int64.ofInt y = Int64.ofInt (x.tmod y) := by
    rw [← Int64.ofInt_tdiv (by omega) (by omega) (by omega) (by omega), ← Int64.ofInt_mul, ← Int64.ofInt_sub, Int.tmod_def, Int.mul_comm]
  rw [← e]
  show (if ck_dz 4 = true ∧ Int64.ofInt y = 0 then none else _) = _
  rw [if_neg (fun z => hd_l0 h3 h4 z.2)]
  rfl
theorem zj_ldivE {L : List (Option Value)} {st : List Value} {v x y z : Int} (h1 : 0 ≤ x) (h2 : x ≤ 9223372036854775807) (h3 : 0 < y) (h4 : y ≤ 9223372036854775807) (e : x / y = z) : ck_cf 16 3 v L (.long (Int64.ofInt y) :: .long (Int64.ofInt x) :: st) = some (L, .long (Int64.ofInt z) :: st) := by
  rw [← e]
  exact hd_ldiv h1 h2 h3 h4
theorem zj_lremE {L : List (Option Value)} {st : List Value} {v x y z : Int} (h1 : 0 ≤ x) (h2 : x ≤ 9223372036854775807) (h3 : 0 < y) (h4 : y ≤ 9223372036854775807) (e : x % y = z) : ck_cf 16 4 v L (.long (Int64.ofInt y) :: .long (Int64.ofInt x) :: st) = some (L, .long (Int64.ofInt z) :: st) := by
  rw [← e]
  exact hd_lrem h1 h2 h3 h4
theorem zj_idivE {L : List (Option Value)} {st : List Value} {v x y z : Int} (h1 : 0 ≤ x) (h2 : x ≤ 2147483647) (h3 : 0 < y) (h4 : y ≤ 2147483647) (e : x / y = z) : ck_cf 15 3 v L (.int (Int32.ofInt y) :: .int (Int32.ofInt x) :: st) = some (L, .int (Int32.ofInt z) :: st) := by
  rw [← e]
  exact hd_div h1 h2 h3 h4
theorem zj_sg (s : Int) : ∃ c : Int, (if 0 < s then 1 else if s < 0 then -1 else 0 : Int) = c ∧ -1 ≤ c ∧ c ≤ 1 ∧ (c < 0 ↔ s < 0) ∧ (c = 0 ↔ s = 0) := by
  rcases Int.lt_trichotomy s 0 with h_ | h_ | h_
  · exact ⟨-1, by rw [if_neg (by omega), if_pos h_], by omega, by omega, by omega, by omega⟩
  · exact ⟨0, by rw [if_neg (by omega), if_neg (by omega)], by omega, by omega, by omega, by omega⟩
  · exact ⟨1, by rw [if_pos h_], by omega, by omega, by omega, by omega⟩
set_option maxHeartbeats 4000000 in
theorem zj_fmod_M {l : Launch} {G : am_G} {X : ck_XT} (g : gM l G X) {x y : Int} {h : List am_C} (hx : -4611686018427387904 ≤ x) (hx2 : x ≤ 4611686018427387904) (hy : 0 < y) (hy2 : y ≤ 4611686018427387904) {mc ms : Nat} {Post : am_O → List am_C → Prop}
    (hP : Post (.inl (some (.long (Int64.ofInt (x % y))))) h) :
    am_M l G yJ9_floorMod_f86c9 (.code yJ9_floorMod_f86c9 prog_32_method_52_code 6 (some .long)) 1 20 mc ms [.long (Int64.ofInt x), .long (Int64.ofInt y)] h Post := by
  refine gh_yJ9_floorMod_f86c9_X g (Nat.le_of_ble_eq_true rfl) fun S SX hs hr hw hx => ?_
  have rv : ∀ x : Int32, ck_fv 0 (.int x) := fun x => ⟨_, rfl⟩
  have htb_ : -4611686018427387904 ≤ x.tmod y ∧ x.tmod y ≤ 4611686018427387904 := by
    have hl_ := Int.emod_lt_of_pos x hy
    have hl0_ := Int.emod_nonneg x (b := y) (by omega)
    rcases sm_td (x := x) hy with ⟨z1, z2, z3⟩ | ⟨z1, z2, z3, z4⟩ | ⟨z1, z2, z3, z4, z5⟩ <;> omega
  obtain ⟨s_, ⟨s1_, s2_⟩, s3_, s4_⟩ := zj_xorc (a := x) (b := y) (by omega) (by omega) hy (by omega)
  obtain ⟨c_, q1_, q2_, q3_, q4_, q5_⟩ := zj_sg s_
  obtain ⟨d_, p1_, p2_, p3_, p4_, p5_⟩ := zj_sg (x.tmod y)
  rcases sm_td (x := x) hy with ⟨z1, z2, z3⟩ | ⟨z1, z2, z3, z4⟩ | ⟨z1, z2, z3, z4, z5⟩
  · rw [← z3] at hP
    have c0_ : 0 ≤ c_ := by omega
    refine hs 0 _ rfl _ _ _ _ _ _ _ rfl ?_
    refine hs 1 _ rfl _ _ _ _ _ _ _ rfl ?_
    refine hs 2 _ rfl _ _ _ _ _ _ _ (zj_trem (by omega) (by omega) (by omega) (by omega)) ?_
    refine hs 3 _ rfl _ _ _ _ _ _ _ rfl ?_
    refine hs 4 _ rfl _ _ _ _ _ _ _ rfl ?_
    refine hs 5 _ rfl _ _ _ _ _ _ _ rfl ?_
    refine hs 6 _ rfl _ _ _ _ _ _ _ (s4_ _ _ _) ?_
    refine hs 7 _ rfl _ _ _ _ _ _ _ rfl ?_
    refine hs 8 _ rfl _ _ _ _ _ _ _ (zw_lcmpE (by omega) (by omega) (by decide) (by decide) q1_) ?_
    refine hs 9 _ rfl _ _ _ _ _ _ (fun _ => ?_) (fun zq => absurd (hd_c1t (c := 3) (by omega) (by omega) (by omega : 0 ≤ c_)) zq)
    refine hs 18 _ rfl _ _ _ _ _ _ _ rfl ?_
    exact hs 19 _ rfl _ _ _ _ _ ⟨_, rfl⟩ (Nat.zero_le _) (Nat.zero_le _) hP
  · rw [z4, ← z2] at hP
    have c0_ : c_ < 0 := by omega
    have d0_ : d_ = 0 := by omega
    refine hs 0 _ rfl _ _ _ _ _ _ _ rfl ?_
    refine hs 1 _ rfl _ _ _ _ _ _ _ rfl ?_
    refine hs 2 _ rfl _ _ _ _ _ _ _ (zj_trem (by omega) (by omega) (by omega) (by omega)) ?_
    refine hs 3 _ rfl _ _ _ _ _ _ _ rfl ?_
    refine hs 4 _ rfl _ _ _ _ _ _ _ rfl ?_
    refine hs 5 _ rfl _ _ _ _ _ _ _ rfl ?_
    refine hs 6 _ rfl _ _ _ _ _ _ _ (s4_ _ _ _) ?_
    refine hs 7 _ rfl _ _ _ _ _ _ _ rfl ?_
    refine hs 8 _ rfl _ _ _ _ _ _ _ (zw_lcmpE (by omega) (by omega) (by decide) (by decide) q1_) ?_
    refine hs 9 _ rfl _ _ _ _ _ _ (fun zq => absurd (hd_c1z (c := 3) (by omega) (by omega) zq) (by omega : ¬ (0 ≤ c_))) (fun _ => ?_)
    refine hs 10 _ rfl _ _ _ _ _ _ _ rfl ?_
    refine hs 11 _ rfl _ _ _ _ _ _ _ rfl ?_
    refine hs 12 _ rfl _ _ _ _ _ _ _ (zw_lcmpE (by omega) (by omega) (by decide) (by decide) p1_) ?_
    refine hs 13 _ rfl _ _ _ _ _ _ (fun _ => ?_) (fun zq => absurd (hd_c1t (c := 0) (by omega) (by omega) (by omega : d_ = 0)) zq)
    refine hs 18 _ rfl _ _ _ _ _ _ _ rfl ?_
    exact hs 19 _ rfl _ _ _ _ _ ⟨_, rfl⟩ (Nat.zero_le _) (Nat.zero_le _) hP
  · rw [← z5] at hP
    have c0_ : c_ < 0 := by omega
    have d0_ : d_ ≠ 0 := by omega
    refine hs 0 _ rfl _ _ _ _ _ _ _ rfl ?_
    refine hs 1 _ rfl _ _ _ _ _ _ _ rfl ?_
    refine hs 2 _ rfl _ _ _ _ _ _ _ (zj_trem (by omega) (by omega) (by omega) (by omega)) ?_
    refine hs 3 _ rfl _ _ _ _ _ _ _ rfl ?_
    refine hs 4 _ rfl _ _ _ _ _ _ _ rfl ?_
    refine hs 5 _ rfl _ _ _ _ _ _ _ rfl ?_
    refine hs 6 _ rfl _ _ _ _ _ _ _ (s4_ _ _ _) ?_
    refine hs 7 _ rfl _ _ _ _ _ _ _ rfl ?_
    refine hs 8 _ rfl _ _ _ _ _ _ _ (zw_lcmpE (by omega) (by omega) (by decide) (by decide) q1_) ?_
    refine hs 9 _ rfl _ _ _ _ _ _ (fun zq => absurd (hd_c1z (c := 3) (by omega) (by omega) zq) (by omega : ¬ (0 ≤ c_))) (fun _ => ?_)
    refine hs 10 _ rfl _ _ _ _ _ _ _ rfl ?_
    refine hs 11 _ rfl _ _ _ _ _ _ _ rfl ?_
    refine hs 12 _ rfl _ _ _ _ _ _ _ (zw_lcmpE (by omega) (by omega) (by decide) (by decide) p1_) ?_
    refine hs 13 _ rfl _ _ _ _ _ _ (fun zq => absurd (hd_c1z (c := 0) (by omega) (by omega) zq) (by omega : ¬ (d_ = 0))) (fun _ => ?_)
    refine hs 14 _ rfl _ _ _ _ _ _ _ rfl ?_
    refine hs 15 _ rfl _ _ _ _ _ _ _ rfl ?_
    refine hs 16 _ rfl _ _ _ _ _ _ _ hd_ladd ?_
    exact hs 17 _ rfl _ _ _ _ _ ⟨_, rfl⟩ (Nat.zero_le _) (Nat.zero_le _) hP
theorem zj_com_M {l : Launch} {G : am_G} {X : ck_XT} (g : gM l G X) {w s : Nat} {h : List am_C} (hs : 1 ≤ s) (hs2 : s ≤ 999) {mc ms : Nat} {Post : am_O → List am_C → Prop} (hP : Post (.inl (some (.int (Int32.ofInt ((Nat.gcd w s : Nat) : Int))))) h) :
    am_M l G yX7_commonOf (.code yX7_commonOf prog_9_method_2_code 6 (some .int)) 1 20 mc ms [.int (Int32.ofInt ((w : Int) % (s : Int))), .int (Int32.ofInt (s : Int))] h Post := by
  rw [show (w : Int) % (s : Int) = ((w % s : Nat) : Int) from (Int.natCast_emod w s).symm]
  have l_ := Nat.mod_lt w (y := s) (by omega)
  refine sm_common_M g (by omega) (by omega) ?_
  rw [nu_gcd_mod]
  exact hP
theorem zj_emd {a b m : Int} (h : a % m = b % m) : m ∣ a - b := Int.dvd_of_emod_eq_zero (by rw [Int.sub_emod, h, Int.sub_self, Int.zero_emod])
theorem zj_parts (w s : Nat) (hs : 0 < s) : ∃ w_ t_ : Nat, w = Nat.gcd w s * w_ ∧ s = Nat.gcd w s * t_ ∧ Nat.gcd w_ t_ = 1 ∧ 0 < t_ ∧ 0 < Nat.gcd w s := by
  obtain ⟨w_, hw_⟩ := Nat.gcd_dvd_left w s
  obtain ⟨t_, ht_⟩ := Nat.gcd_dvd_right w s
  have g0_ : 0 < Nat.gcd w s := Nat.gcd_pos_of_pos_right w hs
  have e_ : Nat.gcd w s * Nat.gcd w_ t_ = Nat.gcd w s * 1 := by rw [← Nat.gcd_mul_left (Nat.gcd w s) w_ t_, ← hw_, ← ht_, Nat.mul_one]
  refine ⟨w_, t_, hw_, ht_, Nat.eq_of_mul_eq_mul_left g0_ e_, ?_, g0_⟩
  apply Nat.pos_of_ne_zero
  intro y_
  rw [y_, Nat.mul_zero] at ht_
  omega
theorem zj_key {gg w s w_ t_ : Nat} {n rest q u : Int} (hw : w = gg * w_) (hs : s = gg * t_) (hq : rest - n = (gg : Int) * q) (hu : (t_ : Int) ∣ (w_ : Int) * u - q) : (s : Int) ∣ n + (w : Int) * u - rest := by
  obtain ⟨k_, hk_⟩ := hu
  have e1_ : (gg : Int) * ((w_ : Int) * u) - (gg : Int) * q = (gg : Int) * ((t_ : Int) * k_) := by rw [← Int.mul_sub, hk_]
  have e2_ : (w : Int) * u = (gg : Int) * ((w_ : Int) * u) := by rw [hw, Int.natCast_mul, Int.mul_assoc]
  have e3_ : (s : Int) * k_ = (gg : Int) * ((t_ : Int) * k_) := by rw [hs, Int.natCast_mul, Int.mul_assoc]
  exact ⟨k_, by rw [e2_, e3_, ← e1_, ← hq]; omega⟩
theorem zj_solve {w s : Nat} (hs : 0 < s) {n rest : Int} (h : ((Nat.gcd w s : Nat) : Int) ∣ rest - n) : ∃ u : Int, (s : Int) ∣ n + (w : Int) * u - rest := by
  obtain ⟨w_, t_, hw_, ht_, hc_, h0_, -⟩ := zj_parts w s hs
  obtain ⟨q_, hq_⟩ := h
  obtain ⟨k_, -, hk_⟩ := nu_reach h0_ hc_ q_
  exact ⟨(k_ : Int), zj_key hw_ ht_ hq_ (zj_emd hk_)⟩
theorem zj_dv {t a u g v q : Int} (A : t ∣ u - g * v) (B : t ∣ a * v - 1) (C : t ∣ g - q) : t ∣ a * u - q := by
  have x_ := Int.dvd_add (Int.dvd_add (Int.dvd_mul_of_dvd_right (b := a) A) (Int.dvd_mul_of_dvd_right (b := g) B)) C
  have e_ : a * (u - g * v) + g * (a * v - 1) + (g - q) = a * u - q := by
    rw [Int.mul_sub a u (g * v), Int.mul_sub g (a * v) 1, Int.mul_one, Int.mul_left_comm a g v]
    omega
  rw [e_] at x_
  exact x_
theorem zj_inv {a t : Nat} (hc : Nat.gcd a t = 1) {v : Int} (h : sm_inv ((a : Int) % (t : Int)).toNat (t : Int).toNat v) : 0 ≤ v ∧ v < (t : Int) ∧ (t : Int) ∣ (a : Int) * v - 1 := by
  rw [← Int.natCast_emod, Int.toNat_natCast, Int.toNat_natCast] at h
  rcases h with ⟨c_, -⟩ | ⟨-, h1_, h2_, h3_⟩
  · rw [nu_gcd_mod] at c_
    exact absurd hc c_
  · refine ⟨h1_, h2_, ?_⟩
    have e2_ := zj_emd h3_
    rw [Int.natCast_emod] at e2_
    have x_ : (t : Int) ∣ ((a : Int) - (a : Int) % (t : Int)) * v := Int.dvd_mul_of_dvd_left (c := v) (Int.dvd_self_sub_emod (x := (a : Int)) (m := (t : Int)))
    rw [Int.sub_mul] at x_
    have y_ := Int.dvd_add x_ e2_
    rw [show (a : Int) * v - (a : Int) % (t : Int) * v + ((a : Int) % (t : Int) * v - 1) = (a : Int) * v - 1 by omega] at y_
    exact y_
theorem zj_gap {gg s t : Nat} (g0 : 0 < gg) (hs : s = gg * t) {d q : Int} (hd : d = (gg : Int) * q) : d % (s : Int) / (gg : Int) = q % (t : Int) := by
  rw [hd, hs, Int.natCast_mul, Int.mul_emod_mul_of_pos _ _ (by omega), Int.mul_ediv_cancel_left _ (by omega)]
theorem zj_lt {w n u t : Int} (hn : 0 ≤ n) (hn2 : n < w) (hu : 0 ≤ u) (hu2 : u < t) : 0 ≤ n + w * u ∧ n + w * u < w * t := by
  have a_ : w * (u + 1) ≤ w * t := Int.mul_le_mul_of_nonneg_left (by omega) (by omega)
  have b_ := Int.mul_nonneg (show 0 ≤ w by omega) hu
  rw [Int.mul_add, Int.mul_one] at a_
  omega
/-- a congruence may join -/
def zj_ad (j n rest : Int) (w s : Nat) : Prop := j = 1 ∧ ((Nat.gcd w s : Nat) : Int) ∣ rest - n
/-- some number has all rests -/
def sp_fit (L : List (Int × Int)) : Prop := ∃ m : Int, ∀ p ∈ L, p.2 ∣ m - p.1
/-- what the joiner holds behind some congruences -/
def zj_I (L : List (Int × Int)) (j n : Int) (w : Nat) : Prop := 1 ≤ w ∧ w ≤ 999 ^ L.length ∧ (0 ≤ n ∧ n < (w : Int)) ∧ (∀ p ∈ L, p.2 ∣ (w : Int)) ∧ (∀ k : Int, (∀ p ∈ L, p.2 ∣ k) → (w : Int) ∣ k) ∧ ((j = 1 ∧ ∀ p ∈ L, p.2 ∣ n - p.1) ∨ (j = 0 ∧ ¬ sp_fit L))
theorem zj_I.fit {L : List (Int × Int)} {j n : Int} {w s : Nat} (h : zj_I L j n w) (hs : 0 < s) {rest r : Int} (hr : (s : Int) ∣ rest - r) : zj_ad j n rest w s ↔ sp_fit (L ++ [(r, (s : Int))]) := by
  obtain ⟨h1_, -, -, h2_, h3_, h4_⟩ := h
  have gs_ : ((Nat.gcd w s : Nat) : Int) ∣ (s : Int) := Int.natCast_dvd_natCast.mpr (Nat.gcd_dvd_right w s)
  have gw_ : ((Nat.gcd w s : Nat) : Int) ∣ (w : Int) := Int.natCast_dvd_natCast.mpr (Nat.gcd_dvd_left w s)
  constructor
  · intro a9_
    obtain ⟨j1_, d1_⟩ := a9_
    have d2_ := Int.dvd_sub d1_ (Int.dvd_trans gs_ hr)
    rw [show rest - n - (rest - r) = r - n by omega] at d2_
    obtain ⟨u_, hu_⟩ := zj_solve hs d2_
    rcases h4_ with ⟨-, b_⟩ | ⟨b_, -⟩
    · refine ⟨n + (w : Int) * u_, fun p hp => ?_⟩
      rcases List.mem_append.mp hp with e_ | e_
      · have x_ := Int.dvd_add (b_ p e_) (Int.dvd_mul_of_dvd_left (c := u_) (h2_ p e_))
        rw [show n - p.1 + (w : Int) * u_ = n + (w : Int) * u_ - p.1 by omega] at x_
        exact x_
      · cases List.mem_singleton.mp e_
        exact hu_
    · omega
  · intro a9_
    obtain ⟨m_, hm_⟩ := a9_
    have a_ : ∀ p ∈ L, p.2 ∣ m_ - p.1 := fun p hp => hm_ p (List.mem_append_left _ hp)
    have b_ : (s : Int) ∣ m_ - r := hm_ (r, (s : Int)) (List.mem_append_right _ (List.mem_singleton.mpr rfl))
    rcases h4_ with ⟨j1_, c_⟩ | ⟨-, c_⟩
    · refine ⟨j1_, ?_⟩
      have d_ : (w : Int) ∣ m_ - n := h3_ _ fun p hp => by
        have x_ := Int.dvd_sub (a_ p hp) (c_ p hp)
        rw [show m_ - p.1 - (n - p.1) = m_ - n by omega] at x_
        exact x_
      have e_ := Int.dvd_add (Int.dvd_sub (Int.dvd_trans gs_ hr) (Int.dvd_trans gs_ b_)) (Int.dvd_trans gw_ d_)
      rw [show rest - r - (m_ - r) + (m_ - n) = rest - n by omega] at e_
      exact e_
    · exact absurd ⟨m_, a_⟩ c_
theorem zj_I.lcm {L : List (Int × Int)} {j n r : Int} {w s t : Nat} (h : zj_I L j n w) (ht : s = Nat.gcd w s * t) (hs : 1 ≤ s) (hs2 : s ≤ 999) : 1 ≤ t ∧ 1 ≤ w * t ∧ w * t ≤ 999 ^ (L ++ [(r, (s : Int))]).length ∧ (∀ p ∈ L ++ [(r, (s : Int))], p.2 ∣ ((w * t : Nat) : Int)) ∧ (∀ k : Int, (∀ p ∈ L ++ [(r, (s : Int))], p.2 ∣ k) → ((w * t : Nat) : Int) ∣ k) := by
  obtain ⟨h1_, h0_, -, h2_, h3_, -⟩ := h
  have g0_ : 0 < Nat.gcd w s := Nat.gcd_pos_of_pos_right w (by omega)
  have t0_ : 1 ≤ t := by
    apply Nat.pos_of_ne_zero
    intro y_
    rw [y_, Nat.mul_zero] at ht
    omega
  have t9_ : t ≤ s := Nat.le_trans (Nat.le_mul_of_pos_left t g0_) (Nat.le_of_eq ht.symm)
  obtain ⟨w_, hw_⟩ := Nat.gcd_dvd_left w s
  have sw_ : w * t = s * w_ := by
    have a1_ : w * t = Nat.gcd w s * w_ * t := congrArg (· * t) hw_
    have a2_ : s * w_ = Nat.gcd w s * t * w_ := congrArg (· * w_) ht
    rw [a1_, a2_, Nat.mul_right_comm]
  have l_ : Nat.lcm w s = w * t := by
    apply Nat.eq_of_mul_eq_mul_left g0_
    have a3_ : w * s = w * (Nat.gcd w s * t) := congrArg (w * ·) ht
    rw [Nat.gcd_mul_lcm, a3_, Nat.mul_left_comm]
  refine ⟨t0_, Nat.mul_pos h1_ t0_, ?_, fun p hp => ?_, fun k hk => ?_⟩
  · rw [List.length_append, List.length_singleton, Nat.pow_succ]
    exact Nat.mul_le_mul h0_ (by omega)
  · rcases List.mem_append.mp hp with e_ | e_
    · rw [Int.natCast_mul]
      exact Int.dvd_mul_of_dvd_left (h2_ p e_)
    · cases List.mem_singleton.mp e_
      exact Int.natCast_dvd_natCast.mpr ⟨w_, sw_⟩
  · have a_ := h3_ k fun p hp => hk p (List.mem_append_left _ hp)
    have b_ : (s : Int) ∣ k := hk (r, (s : Int)) (List.mem_append_right _ (List.mem_singleton.mpr rfl))
    rw [← l_]
    exact Int.ofNat_dvd_left.mpr (Nat.lcm_dvd (Int.ofNat_dvd_left.mp a_) (Int.ofNat_dvd_left.mp b_))
theorem zj_I.one {L : List (Int × Int)} {j n r n2 : Int} {w s t : Nat} (h : zj_I L j n w) (ht : s = Nat.gcd w s * t) (hs : 1 ≤ s) (hs2 : s ≤ 999) (hj : j = 1) (h1 : 0 ≤ n2) (h2 : n2 < ((w * t : Nat) : Int)) (h3 : (w : Int) ∣ n2 - n) (h4 : (s : Int) ∣ n2 - r) : zj_I (L ++ [(r, (s : Int))]) 1 n2 (w * t) := by
  obtain ⟨-, a2_, a3_, a4_, a5_⟩ := h.lcm (r := r) ht hs hs2
  obtain ⟨-, -, -, b2_, -, b4_⟩ := h
  refine ⟨a2_, a3_, ⟨h1, h2⟩, a4_, a5_, Or.inl ⟨rfl, fun p hp => ?_⟩⟩
  rcases b4_ with ⟨-, b_⟩ | ⟨b_, -⟩
  · rcases List.mem_append.mp hp with e_ | e_
    · have x_ := Int.dvd_add (b_ p e_) (Int.dvd_trans (b2_ p e_) h3)
      rw [show n - p.1 + (n2 - n) = n2 - p.1 by omega] at x_
      exact x_
    · cases List.mem_singleton.mp e_
      exact h4
  · omega
theorem zj_I.none {L : List (Int × Int)} {j n r : Int} {w s t : Nat} (h : zj_I L j n w) (ht : s = Nat.gcd w s * t) (hs : 1 ≤ s) (hs2 : s ≤ 999) (hf : ¬ sp_fit (L ++ [(r, (s : Int))])) : zj_I (L ++ [(r, (s : Int))]) 0 n (w * t) := by
  obtain ⟨a1_, a2_, a3_, a4_, a5_⟩ := h.lcm (r := r) ht hs hs2
  obtain ⟨-, -, b3_, -, -, -⟩ := h
  have m_ : w ≤ w * t := Nat.le_mul_of_pos_right w a1_
  exact ⟨a2_, a3_, ⟨b3_.1, by omega⟩, a4_, a5_, Or.inr ⟨rfl, hf⟩⟩
theorem zj_I.nil : zj_I [] 1 0 1 := ⟨Nat.le_refl 1, Nat.le_refl 1, ⟨by decide, by decide⟩, (fun p hp => nomatch hp), fun k _ => ⟨k, by omega⟩, Or.inl ⟨rfl, (fun p hp => nomatch hp)⟩⟩
def zj_c (j n w : Int) : am_C := (1011, [.int (Int32.ofInt j), .long (Int64.ofInt n), .long (Int64.ofInt w)])
set_option maxHeartbeats 4000000 in
theorem zj_clear_M {l : Launch} {G : am_G} {X : ck_XT} (g : gM l G X) {q : Nat} {h : List am_C} {a0_ : Int32} {b0_ d0_ : Int64} (hq : 1000 ≤ q) (hg : am_g G h q = some (1011, [.int a0_, .long b0_, .long d0_])) {mc ms : Nat} {Post : am_O → List am_C → Prop}
    (hP : ∀ h', zw_f G h h' q 1 → am_g G h' q = some (zj_c 1 0 1) → Post (.inl none) h') :
    am_M l G yX4_clear (.code yX4_clear prog_6_method_2_code 1 none) 1 20 mc ms [.ref q] h Post := by
  refine gh_yX4_clear_X g (Nat.le_of_ble_eq_true rfl) fun S SX hs hr hw hx => ?_
  have rv : ∀ x : Int32, ck_fv 0 (.int x) := fun x => ⟨_, rfl⟩
  refine hs 0 _ rfl _ _ _ _ _ _ _ rfl ?_
  refine hs 1 _ rfl _ _ _ _ _ _ _ rfl ?_
  refine zw_U (hs 2 _ rfl) (by omega) (hg) rfl ⟨_, rfl, by decide, by decide⟩ fun hz79 wz80 => ?_
  have wz80 : hd_w G h hz79 q (1011, [.int (Int32.ofInt (1 : Int)), .long b0_, .long d0_]) := wz80
  refine hs 3 _ rfl _ _ _ _ _ _ _ rfl ?_
  refine hs 4 _ rfl _ _ _ _ _ _ _ rfl ?_
  refine zw_U (hs 5 _ rfl) (by omega) (wz80.at) rfl ⟨_, rfl⟩ fun hz81 wz82 => ?_
  have wz82 : hd_w G hz79 hz81 q (1011, [.int (Int32.ofInt (1 : Int)), .long (Int64.ofInt (0 : Int)), .long d0_]) := wz82
  refine hs 6 _ rfl _ _ _ _ _ _ _ rfl ?_
  refine hs 7 _ rfl _ _ _ _ _ _ _ rfl ?_
  refine zw_U (hs 8 _ rfl) (by omega) (wz82.at) rfl ⟨_, rfl⟩ fun hz83 wz84 => ?_
  have wz84 : hd_w G hz81 hz83 q (1011, [.int (Int32.ofInt (1 : Int)), .long (Int64.ofInt (0 : Int)), .long (Int64.ofInt (1 : Int))]) := wz84
  exact hs 9 _ rfl _ _ _ _ (Nat.zero_le _) (Nat.zero_le _) (hP _ (((zw_f.w (lo := q) (n := 1) wz80 (by omega) (by omega)).tr (zw_f.w (lo := q) (n := 1) wz82 (by omega) (by omega))).tr (zw_f.w (lo := q) (n := 1) wz84 (by omega) (by omega))) wz84.at)
set_option maxHeartbeats 4000000 in
theorem zj_admits_M {l : Launch} {G : am_G} {X : ck_XT} (g : gM l G X) {q w s : Nat} {j n rest : Int} {h : List am_C} (hg : am_g G h q = some (zj_c j n (w : Int))) (hj : j = 0 ∨ j = 1) (hw1 : 1 ≤ w) (hw2 : w ≤ 994014980014994001) (hn : 0 ≤ n) (hn2 : n < (w : Int)) (hs1 : 1 ≤ s) (hs2 : s ≤ 999) (hr1 : -9999 ≤ rest) (hr2 : rest ≤ 9999) {mc ms : Nat} {Post : am_O → List am_C → Prop}
    (hP1 : zj_ad j n rest w s → Post (.inl (some (.int (Int32.ofInt 1)))) h) (hP0 : ¬ zj_ad j n rest w s → Post (.inl (some (.int (Int32.ofInt 0)))) h) :
    am_M l G yX4_admits (.code yX4_admits prog_6_method_3_code 4 (some .boolean)) 2 45 mc ms [.ref q, .int (Int32.ofInt rest), .int (Int32.ofInt (s : Int))] h Post := by
  refine gh_yX4_admits_X g (Nat.le_of_ble_eq_true rfl) fun S SX hs hr hw hx => ?_
  have rv : ∀ x : Int32, ck_fv 0 (.int x) := fun x => ⟨_, rfl⟩
  have rm0_ := Int.emod_nonneg (w : Int) (b := (s : Int)) (by omega)
  have rm1_ := Int.emod_lt_of_pos (w : Int) (b := (s : Int)) (by omega)
  have g0_ : 0 < Nat.gcd w s := Nat.gcd_pos_of_pos_right w (by omega)
  have gl_ : Nat.gcd w s ≤ s := Nat.gcd_le_right w (by omega)
  rcases hj with rfl | rfl
  · 
    refine hs 0 _ rfl _ _ _ _ _ _ _ rfl ?_
    refine hs 1 _ rfl _ _ _ _ _ _ (fun _ => ?_) (fun zq => absurd (hd_c1t (c := 4) (by omega) (by omega) (by omega : 0 < (s : Int))) zq)
    refine hs 4 _ rfl _ _ _ _ _ _ _ rfl ?_
    refine hs 5 _ rfl _ _ _ _ _ _ _ _ _ (hg) rfl rfl ?_
    refine hs 6 _ rfl _ _ _ _ _ _ _ rfl ?_
    refine hs 7 _ rfl _ _ _ _ _ _ _ (hd_i2l (by omega) (by omega)) ?_
    refine hs 8 _ rfl _ _ _ _ _ _ _ (hd_lrem (by omega) (by omega) (by omega) (by omega)) ?_
    refine hs 9 _ rfl _ _ _ _ _ _ _ (hd_l2i (by omega) (by omega)) ?_
    refine hs 10 _ rfl _ _ _ _ _ _ _ rfl ?_
    refine zw_c (hs 11 _ rfl) (a := [.int (Int32.ofInt ((w : Int) % (s : Int))), .int (Int32.ofInt (s : Int))]) (st := []) rfl rfl (Nat.le_of_ble_eq_true rfl) trivial (Nat.zero_le _) (Nat.zero_le _) (zj_com_M g (by omega) (by omega) ?_)
    show S 18 [some (.ref q), some (.int (Int32.ofInt rest)), some (.int (Int32.ofInt (s : Int))), none] [.int (Int32.ofInt ((Nat.gcd w s : Nat) : Int))] _ _ _
    refine hs 12 _ rfl _ _ _ _ _ _ _ rfl ?_
    refine hs 13 _ rfl _ _ _ _ _ _ _ rfl ?_
    refine hs 14 _ rfl _ _ _ _ _ _ _ _ _ (hg) rfl rfl ?_
    refine hs 15 _ rfl _ _ _ _ _ _ (fun _ => ?_) (fun zq => absurd (hd_c1t (c := 0) (by omega) (by omega) (by omega : (0 : Int) = 0)) zq)
    refine hs 31 _ rfl _ _ _ _ _ _ _ rfl ?_
    exact hs 32 _ rfl _ _ _ _ _ ⟨_, rfl, by decide, by decide⟩ (Nat.zero_le _) (Nat.zero_le _) (hP0 fun y_ => absurd y_.1 (by decide))
  · have htb_ : -4611686018427387904 ≤ (rest - n).tmod ((Nat.gcd w s : Nat) : Int) ∧ (rest - n).tmod ((Nat.gcd w s : Nat) : Int) ≤ 4611686018427387904 := by
      have hl_ := Int.emod_lt_of_pos (rest - n) (b := ((Nat.gcd w s : Nat) : Int)) (by omega)
      have hl0_ := Int.emod_nonneg (rest - n) (b := ((Nat.gcd w s : Nat) : Int)) (by omega)
      rcases sm_td (x := rest - n) (y := ((Nat.gcd w s : Nat) : Int)) (by omega) with ⟨z1, z2, z3⟩ | ⟨z1, z2, z3, z4⟩ | ⟨z1, z2, z3, z4, z5⟩ <;> omega
    obtain ⟨c_, q1_, q2_, q3_, q4_, q5_⟩ := zj_sg ((rest - n).tmod ((Nat.gcd w s : Nat) : Int))
    by_cases d_ : ((Nat.gcd w s : Nat) : Int) ∣ rest - n
    · have z_ := Int.dvd_iff_tmod_eq_zero.mp d_
      have c0_ : c_ = 0 := by omega
      refine hs 0 _ rfl _ _ _ _ _ _ _ rfl ?_
      refine hs 1 _ rfl _ _ _ _ _ _ (fun _ => ?_) (fun zq => absurd (hd_c1t (c := 4) (by omega) (by omega) (by omega : 0 < (s : Int))) zq)
      refine hs 4 _ rfl _ _ _ _ _ _ _ rfl ?_
      refine hs 5 _ rfl _ _ _ _ _ _ _ _ _ (hg) rfl rfl ?_
      refine hs 6 _ rfl _ _ _ _ _ _ _ rfl ?_
      refine hs 7 _ rfl _ _ _ _ _ _ _ (hd_i2l (by omega) (by omega)) ?_
      refine hs 8 _ rfl _ _ _ _ _ _ _ (hd_lrem (by omega) (by omega) (by omega) (by omega)) ?_
      refine hs 9 _ rfl _ _ _ _ _ _ _ (hd_l2i (by omega) (by omega)) ?_
      refine hs 10 _ rfl _ _ _ _ _ _ _ rfl ?_
      refine zw_c (hs 11 _ rfl) (a := [.int (Int32.ofInt ((w : Int) % (s : Int))), .int (Int32.ofInt (s : Int))]) (st := []) rfl rfl (Nat.le_of_ble_eq_true rfl) trivial (Nat.zero_le _) (Nat.zero_le _) (zj_com_M g (by omega) (by omega) ?_)
      show S 18 [some (.ref q), some (.int (Int32.ofInt rest)), some (.int (Int32.ofInt (s : Int))), none] [.int (Int32.ofInt ((Nat.gcd w s : Nat) : Int))] _ _ _
      refine hs 12 _ rfl _ _ _ _ _ _ _ rfl ?_
      refine hs 13 _ rfl _ _ _ _ _ _ _ rfl ?_
      refine hs 14 _ rfl _ _ _ _ _ _ _ _ _ (hg) rfl rfl ?_
      refine hs 15 _ rfl _ _ _ _ _ _ (fun zq => absurd (hd_c1z (c := 0) (by omega) (by omega) zq) (by omega : ¬ ((1 : Int) = 0))) (fun _ => ?_)
      refine hs 16 _ rfl _ _ _ _ _ _ _ rfl ?_
      refine hs 17 _ rfl _ _ _ _ _ _ (fun zq => absurd (hd_c1z (c := 5) (by omega) (by omega) zq) (by omega : ¬ (((Nat.gcd w s : Nat) : Int) ≤ 0))) (fun _ => ?_)
      refine hs 18 _ rfl _ _ _ _ _ _ _ rfl ?_
      refine hs 19 _ rfl _ _ _ _ _ _ _ (hd_i2l (by omega) (by omega)) ?_
      refine hs 20 _ rfl _ _ _ _ _ _ _ rfl ?_
      refine hs 21 _ rfl _ _ _ _ _ _ _ _ _ (hg) rfl rfl ?_
      refine hs 22 _ rfl _ _ _ _ _ _ _ sb_lsub ?_
      refine hs 23 _ rfl _ _ _ _ _ _ _ rfl ?_
      refine hs 24 _ rfl _ _ _ _ _ _ _ (hd_i2l (by omega) (by omega)) ?_
      refine hs 25 _ rfl _ _ _ _ _ _ _ (zj_trem (by omega) (by omega) (by omega) (by omega)) ?_
      refine hs 26 _ rfl _ _ _ _ _ _ _ rfl ?_
      refine hs 27 _ rfl _ _ _ _ _ _ _ (zw_lcmpE (by omega) (by omega) (by decide) (by decide) q1_) ?_
      refine hs 28 _ rfl _ _ _ _ _ _ (fun zq => absurd (hd_c1z (c := 1) (by omega) (by omega) zq) (by omega : ¬ (c_ ≠ 0))) (fun _ => ?_)
      refine hs 29 _ rfl _ _ _ _ _ _ _ rfl ?_
      refine hs 30 _ rfl _ _ _ _ _ ?_
      exact hs 32 _ rfl _ _ _ _ _ ⟨_, rfl, by decide, by decide⟩ (Nat.zero_le _) (Nat.zero_le _) (hP1 ⟨rfl, d_⟩)
    · have z_ : (rest - n).tmod ((Nat.gcd w s : Nat) : Int) ≠ 0 := fun y_ => d_ (Int.dvd_iff_tmod_eq_zero.mpr y_)
      have c0_ : c_ ≠ 0 := by omega
      refine hs 0 _ rfl _ _ _ _ _ _ _ rfl ?_
      refine hs 1 _ rfl _ _ _ _ _ _ (fun _ => ?_) (fun zq => absurd (hd_c1t (c := 4) (by omega) (by omega) (by omega : 0 < (s : Int))) zq)
      refine hs 4 _ rfl _ _ _ _ _ _ _ rfl ?_
      refine hs 5 _ rfl _ _ _ _ _ _ _ _ _ (hg) rfl rfl ?_
      refine hs 6 _ rfl _ _ _ _ _ _ _ rfl ?_
      refine hs 7 _ rfl _ _ _ _ _ _ _ (hd_i2l (by omega) (by omega)) ?_
      refine hs 8 _ rfl _ _ _ _ _ _ _ (hd_lrem (by omega) (by omega) (by omega) (by omega)) ?_
      refine hs 9 _ rfl _ _ _ _ _ _ _ (hd_l2i (by omega) (by omega)) ?_
      refine hs 10 _ rfl _ _ _ _ _ _ _ rfl ?_
      refine zw_c (hs 11 _ rfl) (a := [.int (Int32.ofInt ((w : Int) % (s : Int))), .int (Int32.ofInt (s : Int))]) (st := []) rfl rfl (Nat.le_of_ble_eq_true rfl) trivial (Nat.zero_le _) (Nat.zero_le _) (zj_com_M g (by omega) (by omega) ?_)
      show S 18 [some (.ref q), some (.int (Int32.ofInt rest)), some (.int (Int32.ofInt (s : Int))), none] [.int (Int32.ofInt ((Nat.gcd w s : Nat) : Int))] _ _ _
      refine hs 12 _ rfl _ _ _ _ _ _ _ rfl ?_
      refine hs 13 _ rfl _ _ _ _ _ _ _ rfl ?_
      refine hs 14 _ rfl _ _ _ _ _ _ _ _ _ (hg) rfl rfl ?_
      refine hs 15 _ rfl _ _ _ _ _ _ (fun zq => absurd (hd_c1z (c := 0) (by omega) (by omega) zq) (by omega : ¬ ((1 : Int) = 0))) (fun _ => ?_)
      refine hs 16 _ rfl _ _ _ _ _ _ _ rfl ?_
      refine hs 17 _ rfl _ _ _ _ _ _ (fun zq => absurd (hd_c1z (c := 5) (by omega) (by omega) zq) (by omega : ¬ (((Nat.gcd w s : Nat) : Int) ≤ 0))) (fun _ => ?_)
      refine hs 18 _ rfl _ _ _ _ _ _ _ rfl ?_
      refine hs 19 _ rfl _ _ _ _ _ _ _ (hd_i2l (by omega) (by omega)) ?_
      refine hs 20 _ rfl _ _ _ _ _ _ _ rfl ?_
      refine hs 21 _ rfl _ _ _ _ _ _ _ _ _ (hg) rfl rfl ?_
      refine hs 22 _ rfl _ _ _ _ _ _ _ sb_lsub ?_
      refine hs 23 _ rfl _ _ _ _ _ _ _ rfl ?_
      refine hs 24 _ rfl _ _ _ _ _ _ _ (hd_i2l (by omega) (by omega)) ?_
      refine hs 25 _ rfl _ _ _ _ _ _ _ (zj_trem (by omega) (by omega) (by omega) (by omega)) ?_
      refine hs 26 _ rfl _ _ _ _ _ _ _ rfl ?_
      refine hs 27 _ rfl _ _ _ _ _ _ _ (zw_lcmpE (by omega) (by omega) (by decide) (by decide) q1_) ?_
      refine hs 28 _ rfl _ _ _ _ _ _ (fun _ => ?_) (fun zq => absurd (hd_c1t (c := 1) (by omega) (by omega) (by omega : c_ ≠ 0)) zq)
      refine hs 31 _ rfl _ _ _ _ _ _ _ rfl ?_
      exact hs 32 _ rfl _ _ _ _ _ ⟨_, rfl, by decide, by decide⟩ (Nat.zero_le _) (Nat.zero_le _) (hP0 fun y_ => d_ y_.2)
set_option maxHeartbeats 4000000 in
theorem zj_join_M {l : Launch} {G : am_G} {X : ck_XT} (g : gM l G X) {q w s : Nat} {j n rest : Int} {h : List am_C} (hg : am_g G h q = some (zj_c j n (w : Int))) (hj : j = 0 ∨ j = 1) (hw1 : 1 ≤ w) (hw2 : w ≤ 995009990004999) (hn : 0 ≤ n) (hn2 : n < (w : Int)) (hs1 : 1 ≤ s) (hs2 : s ≤ 999) (hr1 : 0 ≤ rest) (hr2 : rest ≤ 9999) (hq : 1000 ≤ q) {mc ms : Nat} {Post : am_O → List am_C → Prop}
    (hP1 : zj_ad j n rest w s → ∀ (h' : List am_C) (t : Nat) (n2 : Int), s = Nat.gcd w s * t → zw_f G h h' q 1 → am_g G h' q = some (zj_c 1 n2 ((w : Int) * (t : Int))) → 0 ≤ n2 → n2 < (w : Int) * (t : Int) → (w : Int) ∣ n2 - n → (s : Int) ∣ n2 - rest → Post (.inl none) h')
    (hP0 : ¬ zj_ad j n rest w s → ∀ (h' : List am_C) (t : Nat), s = Nat.gcd w s * t → zw_f G h h' q 1 → am_g G h' q = some (zj_c 0 n ((w : Int) * (t : Int))) → Post (.inl none) h') :
    am_M l G yX4_join (.code yX4_join prog_6_method_4_code 9 none) 3 68 mc ms [.ref q, .int (Int32.ofInt rest), .int (Int32.ofInt (s : Int))] h Post := by
  refine gh_yX4_join_X g (Nat.le_of_ble_eq_true rfl) fun S SX hs hr hw hx => ?_
  have rv : ∀ x : Int32, ck_fv 0 (.int x) := fun x => ⟨_, rfl⟩
  have rm0_ := Int.emod_nonneg (w : Int) (b := (s : Int)) (by omega)
  have rm1_ := Int.emod_lt_of_pos (w : Int) (b := (s : Int)) (by omega)
  have g0_ : 0 < Nat.gcd w s := Nat.gcd_pos_of_pos_right w (by omega)
  have gl_ : Nat.gcd w s ≤ s := Nat.gcd_le_right w (by omega)
  obtain ⟨w_, t_, hw_, ht_, hc_, h0_, -⟩ := zj_parts w s (by omega)
  have t9_ : t_ ≤ s := Nat.le_trans (Nat.le_mul_of_pos_left t_ g0_) (Nat.le_of_eq ht_.symm)
  have e1_ : (w : Int) / ((Nat.gcd w s : Nat) : Int) = (w_ : Int) := Int.ediv_eq_of_eq_mul_right (by omega) (by rw [← Int.natCast_mul, ← hw_])
  have e2_ : (s : Int) / ((Nat.gcd w s : Nat) : Int) = (t_ : Int) := Int.ediv_eq_of_eq_mul_right (by omega) (by rw [← Int.natCast_mul, ← ht_])
  have w9_ : w_ ≤ w := Nat.le_trans (Nat.le_mul_of_pos_left w_ g0_) (Nat.le_of_eq hw_.symm)
  have wm0_ := Int.emod_nonneg (w_ : Int) (b := (t_ : Int)) (by omega)
  have wm1_ := Int.emod_lt_of_pos (w_ : Int) (b := (t_ : Int)) (by omega)
  by_cases a_ : zj_ad j n rest w s
  rotate_left
  · 
    refine hs 0 _ rfl _ _ _ _ _ _ _ rfl ?_
    refine hs 1 _ rfl _ _ _ _ _ _ _ rfl ?_
    refine hs 2 _ rfl _ _ _ _ _ _ _ rfl ?_
    refine hs 3 _ rfl _ _ _ _ _ _ _ rfl ?_
    refine zw_c (hs 4 _ rfl) (a := [.ref q, .int (Int32.ofInt rest), .int (Int32.ofInt (s : Int))]) (st := [.ref q]) rfl rfl (Nat.le_of_ble_eq_true rfl) ⟨_, _, _, rfl, hg, rfl⟩ (Nat.zero_le _) (Nat.zero_le _) (zj_admits_M g hg hj hw1 (by omega) hn hn2 hs1 hs2 (by omega) (by omega) (fun y_ => absurd y_ a_) (fun _ => ?_))
    show S 7 [some (.ref q), some (.int (Int32.ofInt rest)), some (.int (Int32.ofInt (s : Int))), none, none, none, none, none, none] [.int (Int32.ofInt (0 : Int)), .ref q] _ _ _
    refine zw_U (hs 5 _ rfl) (by omega) (hg) rfl ⟨_, rfl, by decide, by decide⟩ fun hz85 wz86 => ?_
    have wz86 : hd_w G h hz85 q (1011, [.int (Int32.ofInt (0 : Int)), .long (Int64.ofInt n), .long (Int64.ofInt (w : Int))]) := wz86
    refine hs 6 _ rfl _ _ _ _ _ _ _ rfl ?_
    refine hs 7 _ rfl _ _ _ _ _ _ (fun _ => ?_) (fun zq => absurd (hd_c1t (c := 4) (by omega) (by omega) (by omega : 0 < (s : Int))) zq)
    refine hs 9 _ rfl _ _ _ _ _ _ _ rfl ?_
    refine hs 10 _ rfl _ _ _ _ _ _ _ _ _ (wz86.at) rfl rfl ?_
    refine hs 11 _ rfl _ _ _ _ _ _ _ rfl ?_
    refine hs 12 _ rfl _ _ _ _ _ _ _ (hd_i2l (by omega) (by omega)) ?_
    refine hs 13 _ rfl _ _ _ _ _ _ _ (hd_lrem (by omega) (by omega) (by omega) (by omega)) ?_
    refine hs 14 _ rfl _ _ _ _ _ _ _ (hd_l2i (by omega) (by omega)) ?_
    refine hs 15 _ rfl _ _ _ _ _ _ _ rfl ?_
    refine zw_c (hs 16 _ rfl) (a := [.int (Int32.ofInt ((w : Int) % (s : Int))), .int (Int32.ofInt (s : Int))]) (st := []) rfl rfl (Nat.le_of_ble_eq_true rfl) trivial (Nat.zero_le _) (Nat.zero_le _) (zj_com_M g (by omega) (by omega) ?_)
    show S 27 [some (.ref q), some (.int (Int32.ofInt rest)), some (.int (Int32.ofInt (s : Int))), none, none, none, none, none, none] [.int (Int32.ofInt ((Nat.gcd w s : Nat) : Int))] _ _ _
    refine hs 17 _ rfl _ _ _ _ _ _ _ rfl ?_
    refine hs 18 _ rfl _ _ _ _ _ _ _ rfl ?_
    refine hs 19 _ rfl _ _ _ _ _ _ (fun zq => absurd (hd_c1z (c := 5) (by omega) (by omega) zq) (by omega : ¬ (((Nat.gcd w s : Nat) : Int) ≤ 0))) (fun _ => ?_)
    refine hs 20 _ rfl _ _ _ _ _ _ _ rfl ?_
    refine hs 21 _ rfl _ _ _ _ _ _ _ rfl ?_
    refine hs 22 _ rfl _ _ _ _ _ _ _ (zj_idivE (by omega) (by omega) (by omega) (by omega) e2_) ?_
    refine hs 23 _ rfl _ _ _ _ _ ?_
    refine hs 25 _ rfl _ _ _ _ _ _ _ rfl ?_
    refine hs 26 _ rfl _ _ _ _ _ _ _ rfl ?_
    refine hs 27 _ rfl _ _ _ _ _ _ (fun _ => ?_) (fun zq => absurd (hd_c1t (c := 4) (by omega) (by omega) (by omega : 0 < (t_ : Int))) zq)
    refine hs 29 _ rfl _ _ _ _ _ _ _ rfl ?_
    refine hs 30 _ rfl _ _ _ _ _ _ _ _ _ (wz86.at) rfl rfl ?_
    refine hs 31 _ rfl _ _ _ _ _ _ (fun _ => ?_) (fun zq => absurd (hd_c1t (c := 0) (by omega) (by omega) (by omega : (0 : Int) = 0)) zq)
    refine hs 71 _ rfl _ _ _ _ _ _ _ rfl ?_
    refine hs 72 _ rfl _ _ _ _ _ _ _ rfl ?_
    refine hs 73 _ rfl _ _ _ _ _ _ _ _ _ (wz86.at) rfl rfl ?_
    refine hs 74 _ rfl _ _ _ _ _ _ _ rfl ?_
    refine hs 75 _ rfl _ _ _ _ _ _ _ (hd_i2l (by omega) (by omega)) ?_
    refine hs 76 _ rfl _ _ _ _ _ _ _ hd_lmul ?_
    refine zw_U (hs 77 _ rfl) (by omega) (wz86.at) rfl ⟨_, rfl⟩ fun hz87 wz88 => ?_
    have wz88 : hd_w G hz85 hz87 q (1011, [.int (Int32.ofInt (0 : Int)), .long (Int64.ofInt n), .long (Int64.ofInt ((w : Int) * (t_ : Int)))]) := wz88
    exact hs 78 _ rfl _ _ _ _ (Nat.zero_le _) (Nat.zero_le _) (hP0 a_ _ t_ ht_ ((zw_f.w (lo := q) (n := 1) wz86 (by omega) (by omega)).tr (zw_f.w (lo := q) (n := 1) wz88 (by omega) (by omega))) wz88.at)
  · obtain rfl := a_.1
    obtain ⟨q_, hq_⟩ := a_.2
    have sm0_ := Int.emod_nonneg (rest - n) (b := (s : Int)) (by omega)
    have sm1_ := Int.emod_lt_of_pos (rest - n) (b := (s : Int)) (by omega)
    obtain ⟨gap_, hgap_⟩ : ∃ gap_ : Int, (rest - n) % (s : Int) / ((Nat.gcd w s : Nat) : Int) = gap_ := ⟨_, rfl⟩
    have gq_ : gap_ = q_ % (t_ : Int) := hgap_.symm.trans (zj_gap g0_ ht_ hq_)
    have gp0_ : 0 ≤ gap_ := by rw [gq_]; exact Int.emod_nonneg _ (by omega)
    have gp1_ : gap_ < (t_ : Int) := by rw [gq_]; exact Int.emod_lt_of_pos _ (by omega)
    refine hs 0 _ rfl _ _ _ _ _ _ _ rfl ?_
    refine hs 1 _ rfl _ _ _ _ _ _ _ rfl ?_
    refine hs 2 _ rfl _ _ _ _ _ _ _ rfl ?_
    refine hs 3 _ rfl _ _ _ _ _ _ _ rfl ?_
    refine zw_c (hs 4 _ rfl) (a := [.ref q, .int (Int32.ofInt rest), .int (Int32.ofInt (s : Int))]) (st := [.ref q]) rfl rfl (Nat.le_of_ble_eq_true rfl) ⟨_, _, _, rfl, hg, rfl⟩ (Nat.zero_le _) (Nat.zero_le _) (zj_admits_M g hg hj hw1 (by omega) hn hn2 hs1 hs2 (by omega) (by omega) (fun _ => ?_) (fun y_ => absurd a_ y_))
    show S 7 [some (.ref q), some (.int (Int32.ofInt rest)), some (.int (Int32.ofInt (s : Int))), none, none, none, none, none, none] [.int (Int32.ofInt (1 : Int)), .ref q] _ _ _
    refine zw_U (hs 5 _ rfl) (by omega) (hg) rfl ⟨_, rfl, by decide, by decide⟩ fun hz89 wz90 => ?_
    have wz90 : hd_w G h hz89 q (1011, [.int (Int32.ofInt (1 : Int)), .long (Int64.ofInt n), .long (Int64.ofInt (w : Int))]) := wz90
    refine hs 6 _ rfl _ _ _ _ _ _ _ rfl ?_
    refine hs 7 _ rfl _ _ _ _ _ _ (fun _ => ?_) (fun zq => absurd (hd_c1t (c := 4) (by omega) (by omega) (by omega : 0 < (s : Int))) zq)
    refine hs 9 _ rfl _ _ _ _ _ _ _ rfl ?_
    refine hs 10 _ rfl _ _ _ _ _ _ _ _ _ (wz90.at) rfl rfl ?_
    refine hs 11 _ rfl _ _ _ _ _ _ _ rfl ?_
    refine hs 12 _ rfl _ _ _ _ _ _ _ (hd_i2l (by omega) (by omega)) ?_
    refine hs 13 _ rfl _ _ _ _ _ _ _ (hd_lrem (by omega) (by omega) (by omega) (by omega)) ?_
    refine hs 14 _ rfl _ _ _ _ _ _ _ (hd_l2i (by omega) (by omega)) ?_
    refine hs 15 _ rfl _ _ _ _ _ _ _ rfl ?_
    refine zw_c (hs 16 _ rfl) (a := [.int (Int32.ofInt ((w : Int) % (s : Int))), .int (Int32.ofInt (s : Int))]) (st := []) rfl rfl (Nat.le_of_ble_eq_true rfl) trivial (Nat.zero_le _) (Nat.zero_le _) (zj_com_M g (by omega) (by omega) ?_)
    show S 27 [some (.ref q), some (.int (Int32.ofInt rest)), some (.int (Int32.ofInt (s : Int))), none, none, none, none, none, none] [.int (Int32.ofInt ((Nat.gcd w s : Nat) : Int))] _ _ _
    refine hs 17 _ rfl _ _ _ _ _ _ _ rfl ?_
    refine hs 18 _ rfl _ _ _ _ _ _ _ rfl ?_
    refine hs 19 _ rfl _ _ _ _ _ _ (fun zq => absurd (hd_c1z (c := 5) (by omega) (by omega) zq) (by omega : ¬ (((Nat.gcd w s : Nat) : Int) ≤ 0))) (fun _ => ?_)
    refine hs 20 _ rfl _ _ _ _ _ _ _ rfl ?_
    refine hs 21 _ rfl _ _ _ _ _ _ _ rfl ?_
    refine hs 22 _ rfl _ _ _ _ _ _ _ (zj_idivE (by omega) (by omega) (by omega) (by omega) e2_) ?_
    refine hs 23 _ rfl _ _ _ _ _ ?_
    refine hs 25 _ rfl _ _ _ _ _ _ _ rfl ?_
    refine hs 26 _ rfl _ _ _ _ _ _ _ rfl ?_
    refine hs 27 _ rfl _ _ _ _ _ _ (fun _ => ?_) (fun zq => absurd (hd_c1t (c := 4) (by omega) (by omega) (by omega : 0 < (t_ : Int))) zq)
    refine hs 29 _ rfl _ _ _ _ _ _ _ rfl ?_
    refine hs 30 _ rfl _ _ _ _ _ _ _ _ _ (wz90.at) rfl rfl ?_
    refine hs 31 _ rfl _ _ _ _ _ _ (fun zq => absurd (hd_c1z (c := 0) (by omega) (by omega) zq) (by omega : ¬ ((1 : Int) = 0))) (fun _ => ?_)
    refine hs 32 _ rfl _ _ _ _ _ _ _ rfl ?_
    refine hs 33 _ rfl _ _ _ _ _ _ _ (hd_i2l (by omega) (by omega)) ?_
    refine hs 34 _ rfl _ _ _ _ _ _ _ rfl ?_
    refine hs 35 _ rfl _ _ _ _ _ _ _ _ _ (wz90.at) rfl rfl ?_
    refine hs 36 _ rfl _ _ _ _ _ _ _ sb_lsub ?_
    refine hs 37 _ rfl _ _ _ _ _ _ _ rfl ?_
    refine hs 38 _ rfl _ _ _ _ _ _ _ (hd_i2l (by omega) (by omega)) ?_
    refine zw_c (hs 39 _ rfl) (a := [.long (Int64.ofInt (rest - n)), .long (Int64.ofInt (s : Int))]) (st := []) rfl rfl (Nat.le_of_ble_eq_true rfl) trivial (Nat.zero_le _) (Nat.zero_le _) (zj_fmod_M g (by omega) (by omega) (by omega) (by omega) ?_)
    show S 66 [some (.ref q), some (.int (Int32.ofInt rest)), some (.int (Int32.ofInt (s : Int))), some (.int (Int32.ofInt ((Nat.gcd w s : Nat) : Int))), some (.int (Int32.ofInt (t_ : Int))), none, none, none, none] [.long (Int64.ofInt ((rest - n) % (s : Int)))] _ _ _
    refine hs 40 _ rfl _ _ _ _ _ _ _ rfl ?_
    refine hs 41 _ rfl _ _ _ _ _ _ _ (hd_i2l (by omega) (by omega)) ?_
    refine hs 42 _ rfl _ _ _ _ _ _ _ (zj_ldivE (by omega) (by omega) (by omega) (by omega) hgap_) ?_
    refine hs 43 _ rfl _ _ _ _ _ _ _ rfl ?_
    refine hs 44 _ rfl _ _ _ _ _ _ _ rfl ?_
    refine hs 45 _ rfl _ _ _ _ _ _ _ _ _ (wz90.at) rfl rfl ?_
    refine hs 46 _ rfl _ _ _ _ _ _ _ rfl ?_
    refine hs 47 _ rfl _ _ _ _ _ _ _ (hd_i2l (by omega) (by omega)) ?_
    refine hs 48 _ rfl _ _ _ _ _ _ _ (zj_ldivE (by omega) (by omega) (by omega) (by omega) e1_) ?_
    refine hs 49 _ rfl _ _ _ _ _ _ _ rfl ?_
    refine hs 50 _ rfl _ _ _ _ _ _ _ (hd_i2l (by omega) (by omega)) ?_
    refine hs 51 _ rfl _ _ _ _ _ _ _ (hd_lrem (by omega) (by omega) (by omega) (by omega)) ?_
    refine hs 52 _ rfl _ _ _ _ _ _ _ (hd_l2i (by omega) (by omega)) ?_
    refine hs 53 _ rfl _ _ _ _ _ _ _ rfl ?_
    refine zw_c (hs 54 _ rfl) (a := [.int (Int32.ofInt ((w_ : Int) % (t_ : Int))), .int (Int32.ofInt (t_ : Int))]) (st := []) rfl rfl (Nat.le_of_ble_eq_true rfl) trivial (Nat.zero_le _) (Nat.zero_le _) (sm_invertE_M g wm0_ wm1_ (by omega) fun v_ hv_ => ?_)
    show S 88 [some (.ref q), some (.int (Int32.ofInt rest)), some (.int (Int32.ofInt (s : Int))), some (.int (Int32.ofInt ((Nat.gcd w s : Nat) : Int))), some (.int (Int32.ofInt (t_ : Int))), some (.long (Int64.ofInt gap_)), none, none, none] [.int (Int32.ofInt v_)] _ _ _
    obtain ⟨v0_, v1_, v2_⟩ := zj_inv hc_ hv_
    have gv0_ := Int.mul_nonneg gp0_ v0_
    have gv1_ : gap_ * v_ ≤ 999 * 999 := Int.mul_le_mul (by omega) (by omega) v0_ (by decide)
    obtain ⟨u_, hu_⟩ : ∃ u_ : Int, (gap_ * v_) % (t_ : Int) = u_ := ⟨_, rfl⟩
    refine hs 55 _ rfl _ _ _ _ _ _ _ (hd_i2l (by omega) (by omega)) ?_
    refine hs 56 _ rfl _ _ _ _ _ _ _ rfl ?_
    refine hs 57 _ rfl _ _ _ _ _ _ _ rfl ?_
    refine hs 58 _ rfl _ _ _ _ _ _ _ rfl ?_
    refine hs 59 _ rfl _ _ _ _ _ _ _ _ _ (wz90.at) rfl rfl ?_
    refine hs 60 _ rfl _ _ _ _ _ _ _ rfl ?_
    refine hs 61 _ rfl _ _ _ _ _ _ _ _ _ (wz90.at) rfl rfl ?_
    refine hs 62 _ rfl _ _ _ _ _ _ _ rfl ?_
    refine hs 63 _ rfl _ _ _ _ _ _ _ rfl ?_
    refine hs 64 _ rfl _ _ _ _ _ _ _ hd_lmul ?_
    refine hs 65 _ rfl _ _ _ _ _ _ _ rfl ?_
    refine hs 66 _ rfl _ _ _ _ _ _ _ (hd_i2l (by omega) (by omega)) ?_
    refine hs 67 _ rfl _ _ _ _ _ _ _ (zj_lremE gv0_ (by omega) (by omega) (by omega) hu_) ?_
    refine hs 68 _ rfl _ _ _ _ _ _ _ hd_lmul ?_
    refine hs 69 _ rfl _ _ _ _ _ _ _ hd_ladd ?_
    refine zw_U (hs 70 _ rfl) (by omega) (wz90.at) rfl ⟨_, rfl⟩ fun hz91 wz92 => ?_
    have wz92 : hd_w G hz89 hz91 q (1011, [.int (Int32.ofInt (1 : Int)), .long (Int64.ofInt (n + ((w : Int) * u_))), .long (Int64.ofInt (w : Int))]) := wz92
    refine hs 71 _ rfl _ _ _ _ _ _ _ rfl ?_
    refine hs 72 _ rfl _ _ _ _ _ _ _ rfl ?_
    refine hs 73 _ rfl _ _ _ _ _ _ _ _ _ (wz92.at) rfl rfl ?_
    refine hs 74 _ rfl _ _ _ _ _ _ _ rfl ?_
    refine hs 75 _ rfl _ _ _ _ _ _ _ (hd_i2l (by omega) (by omega)) ?_
    refine hs 76 _ rfl _ _ _ _ _ _ _ hd_lmul ?_
    refine zw_U (hs 77 _ rfl) (by omega) (wz92.at) rfl ⟨_, rfl⟩ fun hz93 wz94 => ?_
    have wz94 : hd_w G hz91 hz93 q (1011, [.int (Int32.ofInt (1 : Int)), .long (Int64.ofInt (n + ((w : Int) * u_))), .long (Int64.ofInt ((w : Int) * (t_ : Int)))]) := wz94
    have u0_ : 0 ≤ u_ := by rw [← hu_]; exact Int.emod_nonneg _ (by omega)
    have u1_ : u_ < (t_ : Int) := by rw [← hu_]; exact Int.emod_lt_of_pos _ (by omega)
    have b_ := zj_lt hn hn2 u0_ u1_
    have k_ : (t_ : Int) ∣ (w_ : Int) * u_ - q_ := zj_dv (Int.dvd_sub_self_of_emod_eq hu_) v2_ (Int.dvd_sub_self_of_emod_eq gq_.symm)
    exact hs 78 _ rfl _ _ _ _ (Nat.zero_le _) (Nat.zero_le _) (hP1 a_ _ t_ (n + (w : Int) * u_) ht_ (((zw_f.w (lo := q) (n := 1) wz90 (by omega) (by omega)).tr (zw_f.w (lo := q) (n := 1) wz92 (by omega) (by omega))).tr (zw_f.w (lo := q) (n := 1) wz94 (by omega) (by omega))) wz94.at b_.1 b_.2 ⟨u_, by omega⟩ (zj_key hw_ ht_ hq_ k_))
theorem zc_x.jn {G : am_G} {h h' : List am_C} {x : Nat} {r : Nat → Nat} {j m k : Int} {c : sp_S} {R : Nat → sp_S} {old cnt : Nat} (a : zc_x G h x r j m k c R old cnt) (f : zw_f G h h' (r 4) 1) {y : Int32} {b d : Int64} (e : am_g G h' (r 4) = some (1011, [.int y, .long b, .long d])) : zc_x G h' x r j m k c R old cnt := by
  obtain ⟨a1_, a2_, a3_, a4_, ⟨a5_, a6_⟩, -, a8_, a9_⟩ := a
  exact ⟨(f.2 _ (by omega)).trans a1_, a2_.fr f (by omega), a3_, a4_.fr f (by omega), ⟨a5_.fr f (by omega), a6_.fr f (by omega)⟩, ⟨_, _, _, e⟩, a8_, a9_⟩
theorem zc_fr.jn {G : am_G} {h h' : List am_C} {x : Nat} {r : Nat → Nat} (f : zw_f G h h' (r 4) 1) : zc_fr G h h' x r := ⟨f.1, fun p _ h2 => f.2 p (by omega)⟩
theorem zj_p6 : (999 : Nat) ^ 6 = 994014980014994001 := by decide
theorem zj_p5 : (999 : Nat) ^ 5 = 995009990004999 := by decide
theorem zj_I.big {L : List (Int × Int)} {j n : Int} {w : Nat} (h : zj_I L j n w) (hl : L.length ≤ 6) : w ≤ 994014980014994001 := by
  have a_ := Nat.pow_le_pow_right (show 0 < 999 by decide) hl
  rw [zj_p6] at a_
  exact Nat.le_trans h.2.1 a_
theorem zj_I.big5 {L : List (Int × Int)} {j n : Int} {w : Nat} (h : zj_I L j n w) (hl : L.length ≤ 5) : w ≤ 995009990004999 := by
  have a_ := Nat.pow_le_pow_right (show 0 < 999 by decide) hl
  rw [zj_p5] at a_
  exact Nat.le_trans h.2.1 a_
theorem zj_I.flag {L : List (Int × Int)} {j n : Int} {w : Nat} (h : zj_I L j n w) : j = 0 ∨ j = 1 := by
  rcases h.2.2.2.2.2 with ⟨a_, -⟩ | ⟨a_, -⟩
  · exact Or.inr a_
  · exact Or.inl a_
set_option maxHeartbeats 4000000 in
theorem zc_join_M {l : Launch} {G : am_G} {X : ck_XT} (g : gM l G X) {x : Nat} {r : Nat → Nat} {jj mm kk : Int} {c : sp_S} {R : Nat → sp_S} {old cnt : Nat} {h : List am_C} (hX : zc_x G h x r jj mm kk c R old cnt) {mc ms : Nat} {Post : am_O → List am_C → Prop}
    (hP : ∀ (h' : List am_C) (j n : Int) (w : Nat), zw_f G h h' (r 4) 1 → am_g G h' (r 4) = some (zj_c j n (w : Int)) → zj_I c.2.2.1 j n w → Post (.inl none) h') :
    am_M l G yX10_joinRows (.code yX10_joinRows prog_1_method_71_code 2 none) 4 96 mc ms [.ref x] h Post := by
  refine gh_yX10_joinRows_X g (Nat.le_of_ble_eq_true rfl) fun S SX hs hr hw hx => ?_
  have rv : ∀ x : Int32, ck_fv 0 (.int x) := fun x => ⟨_, rfl⟩
  have hx9_ := hX.2.2.2.2.2.2.2
  have hx8_ := hX.2.2.2.2.2.2.1
  obtain ⟨y0_, yb_, yd_, y3_⟩ := hX.2.2.2.2.2.1
  obtain ⟨rs_, zs_, bs_, d1_, d2_, d3_, d4_, d5_, d6_, d7_⟩ := hX.2.1
  obtain ⟨hl6_, hok_⟩ := hX.2.2.1.2.2.1
  obtain ⟨⟨p4_, p5_, p6_⟩, -, hro_, -⟩ := id d6_
  have hx1_ := hX.1
  have loop_ : ∀ (m_ i_ : Nat) (h1_ : List am_C) (j n : Int) (w : Nat), i_ + m_ = c.2.2.1.length → zw_f G h h1_ (r 4) 1 → am_g G h1_ (r 4) = some (zj_c j n (w : Int)) → zj_I (c.2.2.1.take i_) j n w → S 9 [some (.ref x), some (.int (Int32.ofInt (i_ : Int)))] [] h1_ 0 0 := by
    intro m_
    induction m_ with
    | zero =>
      intro i_ h1_ j n w him_ f1_ jg_ ji_
      have x1_ := (f1_.2 x (by omega)).trans hx1_
      have x2_ := (f1_.2 (x + 1) (by omega)).trans d1_
      rw [List.take_of_length_le (by omega)] at ji_
      refine hs 5 _ rfl _ _ _ _ _ _ _ rfl ?_
      refine hs 6 _ rfl _ _ _ _ _ _ _ rfl ?_
      refine hs 7 _ rfl _ _ _ _ _ _ _ _ _ (x1_) rfl rfl ?_
      refine hs 8 _ rfl _ _ _ _ _ _ _ _ _ (x2_) rfl rfl ?_
      refine hs 9 _ rfl _ _ _ _ _ _ _ (fun _ => ?_) (fun zq => absurd (hd_c2t (c := 3) (by omega) (by omega) (by omega) (by omega) (by omega : 0 ≤ ((i_ : Int) - (c.2.2.1.length : Int)))) zq)
      exact hs 25 _ rfl _ _ _ _ (Nat.zero_le _) (Nat.zero_le _) (hP _ _ _ _ f1_ jg_ ji_)
    | succ m_ ih_ =>
      intro i_ h1_ j n w him_ f1_ jg_ ji_
      have x1_ := (f1_.2 x (by omega)).trans hx1_
      have x2_ := (f1_.2 (x + 1) (by omega)).trans d1_
      have x3_ := (f1_.2 (x + 1 + 2) (by omega)).trans d3_
      have x4_ := (f1_.2 (x + 1 + 3) (by omega)).trans d4_
      have hi_ : i_ < c.2.2.1.length := by omega
      obtain ⟨⟨a_, b_⟩, hp_⟩ : ∃ p : Int × Int, c.2.2.1[i_]? = some p := ⟨_, List.getElem?_eq_getElem hi_⟩
      obtain ⟨o1_, o2_, o3_, o4_⟩ : 1 ≤ b_ ∧ b_ ≤ 999 ∧ 0 ≤ a_ ∧ a_ < b_ := hok_ _ (List.mem_of_getElem? hp_)
      obtain ⟨s_, rfl⟩ : ∃ s_ : Nat, b_ = (s_ : Int) := ⟨b_.toNat, by omega⟩
      have y1_ : rs_[i_]? = some a_ := (hro_ i_ _ hp_).1
      have y2_ : zs_[i_]? = some (s_ : Int) := (hro_ i_ _ hp_).2
      have w5_ : w ≤ 995009990004999 := ji_.big5 (by rw [List.length_take]; omega)
      have tk_ : c.2.2.1.take (i_ + 1) = c.2.2.1.take i_ ++ [(a_, (s_ : Int))] := by
        rw [List.take_add_one, hp_]
        rfl
      refine hs 5 _ rfl _ _ _ _ _ _ _ rfl ?_
      refine hs 6 _ rfl _ _ _ _ _ _ _ rfl ?_
      refine hs 7 _ rfl _ _ _ _ _ _ _ _ _ (x1_) rfl rfl ?_
      refine hs 8 _ rfl _ _ _ _ _ _ _ _ _ (x2_) rfl rfl ?_
      refine hs 9 _ rfl _ _ _ _ _ _ _ (fun zq => absurd (hd_c2z (c := 3) (by omega) (by omega) (by omega) (by omega) zq) (by omega : ¬ (0 ≤ ((i_ : Int) - (c.2.2.1.length : Int))))) (fun _ => ?_)
      refine hs 10 _ rfl _ _ _ _ _ _ _ rfl ?_
      refine hs 11 _ rfl _ _ _ _ _ _ _ _ _ (x1_) rfl rfl ?_
      refine hs 12 _ rfl _ _ _ _ _ _ _ rfl ?_
      refine hs 13 _ rfl _ _ _ _ _ _ _ _ _ (x1_) rfl rfl ?_
      refine hs 14 _ rfl _ _ _ _ _ _ _ _ _ (x2_) rfl rfl ?_
      refine hs 15 _ rfl _ _ _ _ _ _ _ rfl ?_
      refine hd_A (hs 16 _ rfl) (by decide) (by decide) (x3_) rfl (j := i_) (by omega) (by omega) y1_ ?_
      refine hs 17 _ rfl _ _ _ _ _ _ _ rfl ?_
      refine hs 18 _ rfl _ _ _ _ _ _ _ _ _ (x1_) rfl rfl ?_
      refine hs 19 _ rfl _ _ _ _ _ _ _ _ _ (x2_) rfl rfl ?_
      refine hs 20 _ rfl _ _ _ _ _ _ _ rfl ?_
      refine hd_A (hs 21 _ rfl) (by decide) (by decide) (x4_) rfl (j := i_) (by omega) (by omega) y2_ ?_
      refine zw_c (hs 22 _ rfl) (a := [.ref (r 4), .int (Int32.ofInt a_), .int (Int32.ofInt (s_ : Int))]) (st := []) rfl rfl (Nat.le_of_ble_eq_true rfl) ⟨_, _, _, rfl, jg_, rfl⟩ (Nat.zero_le _) (Nat.zero_le _) (zj_join_M g jg_ ji_.flag ji_.1 w5_ ji_.2.2.1.1 ji_.2.2.1.2 (by omega) (by omega) (by omega) (by omega) (by omega) (fun ad_ h2_ t_ n2_ ht_ f2_ g2_ n0_ n1_ d1_ d2_ => ?_) (fun ad_ h2_ t_ ht_ f2_ g2_ => ?_))
      · show S 45 [some (.ref x), some (.int (Int32.ofInt (i_ : Int)))] [] _ _ _
        rw [← Int.natCast_mul] at g2_ n1_
        refine hs 23 _ rfl _ _ _ _ _ _ _ (hd_inc rfl) ?_
        refine hs 24 _ rfl _ _ _ _ _ ?_
        rw [show ((i_ : Int) + (1 : Int)) = ((i_ + 1 : Nat) : Int) by omega]
        exact ih_ (i_ + 1) h2_ 1 n2_ (w * t_) (by omega) (f1_.tr f2_) g2_ (by rw [tk_]; exact ji_.one ht_ (by omega) (by omega) ad_.1 n0_ n1_ d1_ d2_)
      · show S 45 [some (.ref x), some (.int (Int32.ofInt (i_ : Int)))] [] _ _ _
        rw [← Int.natCast_mul] at g2_
        refine hs 23 _ rfl _ _ _ _ _ _ _ (hd_inc rfl) ?_
        refine hs 24 _ rfl _ _ _ _ _ ?_
        rw [show ((i_ : Int) + (1 : Int)) = ((i_ + 1 : Nat) : Int) by omega]
        exact ih_ (i_ + 1) h2_ 0 n (w * t_) (by omega) (f1_.tr f2_) g2_ (by rw [tk_]; exact ji_.none ht_ (by omega) (by omega) (fun y_ => ad_ ((ji_.fit (by omega) (by rw [Int.sub_self]; exact Int.dvd_zero _)).mpr y_)))
  refine hs 0 _ rfl _ _ _ _ _ _ _ rfl ?_
  refine hs 1 _ rfl _ _ _ _ _ _ _ _ _ (hX.1) rfl rfl ?_
  refine zw_c (hs 2 _ rfl) (a := [.ref (r 4)]) (st := []) rfl rfl (Nat.le_of_ble_eq_true rfl) ⟨_, _, _, rfl, y3_, rfl⟩ (Nat.zero_le _) (Nat.zero_le _) (zj_clear_M g (by omega) y3_ fun h1_ f1_ jg_ => ?_)
  show S 7 [some (.ref x), none] [] _ _ _
  refine hs 3 _ rfl _ _ _ _ _ _ _ rfl ?_
  refine hs 4 _ rfl _ _ _ _ _ _ _ rfl ?_
  exact loop_ c.2.2.1.length 0 h1_ 1 0 1 (by omega) f1_ jg_ (by rw [List.take_zero]; exact zj_I.nil)
set_option maxHeartbeats 4000000 in
theorem zc_tellIf_M {l : Launch} {G : am_G} {X : ck_XT} (g : gM l G X) {x : Nat} {r : Nat → Nat} {jj mm kk : Int} {c : sp_S} {R : Nat → sp_S} {old cnt : Nat} {h : List am_C} (hX : zc_x G h x r jj mm kk c R old cnt) {e : Int} (he1 : -2147483648 ≤ e) (he2 : e ≤ 2147483647) {e2 : Int} (hf1 : -2147483648 ≤ e2) (hf2 : e2 ≤ 2147483647) {mc ms : Nat} {Post : am_O → List am_C → Prop} (hmc : 1 ≤ mc) (hms : 6 ≤ ms)
    (hP : (-9999 ≤ e ∧ e ≤ 9999 ∧ 1 ≤ e2 ∧ e2 ≤ 999) → c.2.2.1.length < 6 → sp_fit (c.2.2.1 ++ [(e % e2, e2)]) → ∀ h', zc_fr G h h' x r → zc_X G h' x r jj mm kk (c.1, c.2.1, c.2.2.1 ++ [(e % e2, e2)], c.2.2.2) (sp_keep (zc_l R old cnt) c) → Post (.inl (some (.int (Int32.ofInt 1)))) h')
    (hP0 : (-9999 ≤ e ∧ e ≤ 9999 ∧ 1 ≤ e2 ∧ e2 ≤ 999) → c.2.2.1.length < 6 → ¬ sp_fit (c.2.2.1 ++ [(e % e2, e2)]) → ∀ h', zc_fr G h h' x r → zc_x G h' x r jj mm kk c R old cnt → Post (.inl (some (.int (Int32.ofInt 0)))) h')
    (hX1 : ¬ (-9999 ≤ e ∧ e ≤ 9999 ∧ 1 ≤ e2 ∧ e2 ≤ 999) → Post (.inr "java/lang/IllegalArgumentException") (h ++ [(99, [])]))
    (hX3 : (-9999 ≤ e ∧ e ≤ 9999 ∧ 1 ≤ e2 ∧ e2 ≤ 999) → ¬ c.2.2.1.length < 6 → Post (.inr "java/lang/IllegalStateException") (h ++ [(99, [])])) :
    am_M l G yX10_tellIf (.code yX10_tellIf prog_1_method_14_code 3 (some .boolean)) 7 145 mc ms [.ref x, .int (Int32.ofInt e), .int (Int32.ofInt e2)] h Post := by
  refine gh_yX10_tellIf_X g (Nat.le_of_ble_eq_true rfl) fun S SX hs hr hw hx => ?_
  have rv : ∀ x : Int32, ck_fv 0 (.int x) := fun x => ⟨_, rfl⟩
  have hx9_ := hX.2.2.2.2.2.2.2
  have hl_ := hX.2.2.1.2.2.1.1
  have hx8_ := hX.2.2.2.2.2.2.1
  by_cases c1_ : (-9999 ≤ e ∧ e ≤ 9999 ∧ 1 ≤ e2 ∧ e2 ≤ 999)
  rotate_left
  · 
    refine hs 0 _ rfl _ _ _ _ _ _ _ rfl ?_
    refine hs 1 _ rfl _ _ _ _ _ _ _ rfl ?_
    exact zw_cm (hs 2 _ rfl) (a := [.int (Int32.ofInt e), .int (Int32.ofInt e2)]) (st := []) 1 6 rfl rfl (Nat.le_of_ble_eq_true rfl) trivial (by omega) (by omega) (zc_needCX_M g he1 he2 hf1 hf2 c1_ (by decide) (by decide) (hx _ _ _ _ _ _ (by omega) (by omega) (hX1 c1_)))
  · by_cases c2_ : c.2.2.1.length < 6
    rotate_left
    · 
      refine hs 0 _ rfl _ _ _ _ _ _ _ rfl ?_
      refine hs 1 _ rfl _ _ _ _ _ _ _ rfl ?_
      refine zw_c (hs 2 _ rfl) (a := [.int (Int32.ofInt e), .int (Int32.ofInt e2)]) (st := []) rfl rfl (Nat.le_of_ble_eq_true rfl) trivial (Nat.zero_le _) (Nat.zero_le _) (zc_needC_M g he1 he2 hf1 hf2 c1_ ?_)
      show S 5 [some (.ref x), some (.int (Int32.ofInt e)), some (.int (Int32.ofInt e2))] [] _ _ _
      refine hs 3 _ rfl _ _ _ _ _ _ _ rfl ?_
      exact zw_cm (hs 4 _ rfl) (a := [.ref x]) (st := []) 1 6 rfl rfl (Nat.le_of_ble_eq_true rfl) ⟨_, _, _, rfl, hX.1, rfl⟩ (by omega) (by omega) (zc_needFX_M g hX (by omega) (by decide) (by decide) (hx _ _ _ _ _ _ (by omega) (by omega) (hX3 c1_ c2_)))
    · obtain ⟨s_, rfl⟩ : ∃ s_ : Nat, e2 = (s_ : Int) := ⟨e2.toNat, by omega⟩
      refine hs 0 _ rfl _ _ _ _ _ _ _ rfl ?_
      refine hs 1 _ rfl _ _ _ _ _ _ _ rfl ?_
      refine zw_c (hs 2 _ rfl) (a := [.int (Int32.ofInt e), .int (Int32.ofInt (s_ : Int))]) (st := []) rfl rfl (Nat.le_of_ble_eq_true rfl) trivial (Nat.zero_le _) (Nat.zero_le _) (zc_needC_M g he1 he2 hf1 hf2 c1_ ?_)
      show S 5 [some (.ref x), some (.int (Int32.ofInt e)), some (.int (Int32.ofInt (s_ : Int)))] [] _ _ _
      refine hs 3 _ rfl _ _ _ _ _ _ _ rfl ?_
      refine zw_c (hs 4 _ rfl) (a := [.ref x]) (st := []) rfl rfl (Nat.le_of_ble_eq_true rfl) ⟨_, _, _, rfl, hX.1, rfl⟩ (Nat.zero_le _) (Nat.zero_le _) (zc_needF_M g hX (by omega) ?_)
      show S 9 [some (.ref x), some (.int (Int32.ofInt e)), some (.int (Int32.ofInt (s_ : Int)))] [] _ _ _
      refine hs 5 _ rfl _ _ _ _ _ _ _ rfl ?_
      refine zw_c (hs 6 _ rfl) (a := [.ref x]) (st := []) rfl rfl (Nat.le_of_ble_eq_true rfl) ⟨_, _, _, rfl, hX.1, rfl⟩ (Nat.zero_le _) (Nat.zero_le _) (zc_join_M g hX fun h1_ j_ n_ w_ f1_ jg_ ji_ => ?_)
      have xj_ := hX.jn f1_ jg_
      have w6_ := ji_.big hl_
      have fi_ := ji_.fit (s := s_) (by omega) (Int.dvd_self_sub_emod (x := e) (m := (s_ : Int)))
      show S 13 [some (.ref x), some (.int (Int32.ofInt e)), some (.int (Int32.ofInt (s_ : Int)))] [] _ _ _
      by_cases sf_ : sp_fit (c.2.2.1 ++ [(e % (s_ : Int), (s_ : Int))])
      rotate_left
      · 
        refine hs 7 _ rfl _ _ _ _ _ _ _ rfl ?_
        refine hs 8 _ rfl _ _ _ _ _ _ _ _ _ (xj_.1) rfl rfl ?_
        refine hs 9 _ rfl _ _ _ _ _ _ _ rfl ?_
        refine hs 10 _ rfl _ _ _ _ _ _ _ rfl ?_
        refine zw_c (hs 11 _ rfl) (a := [.ref (r 4), .int (Int32.ofInt e), .int (Int32.ofInt (s_ : Int))]) (st := []) rfl rfl (Nat.le_of_ble_eq_true rfl) ⟨_, _, _, rfl, jg_, rfl⟩ (Nat.zero_le _) (Nat.zero_le _) (zj_admits_M g jg_ ji_.flag ji_.1 w6_ ji_.2.2.1.1 ji_.2.2.1.2 (by omega) (by omega) (by omega) (by omega) (fun y_ => absurd (fi_.mp y_) sf_) (fun _ => ?_))
        show S 22 [some (.ref x), some (.int (Int32.ofInt e)), some (.int (Int32.ofInt (s_ : Int)))] [.int (Int32.ofInt (0 : Int))] _ _ _
        refine hs 12 _ rfl _ _ _ _ _ _ (fun zq => absurd (hd_c1z (c := 1) (by omega) (by omega) zq) (by omega : ¬ ((0 : Int) ≠ 0))) (fun _ => ?_)
        refine hs 13 _ rfl _ _ _ _ _ _ _ rfl ?_
        exact hs 14 _ rfl _ _ _ _ _ ⟨_, rfl, by decide, by decide⟩ (Nat.zero_le _) (Nat.zero_le _) (hP0 c1_ c2_ sf_ _ (zc_fr.jn f1_) xj_)
      · 
        refine hs 7 _ rfl _ _ _ _ _ _ _ rfl ?_
        refine hs 8 _ rfl _ _ _ _ _ _ _ _ _ (xj_.1) rfl rfl ?_
        refine hs 9 _ rfl _ _ _ _ _ _ _ rfl ?_
        refine hs 10 _ rfl _ _ _ _ _ _ _ rfl ?_
        refine zw_c (hs 11 _ rfl) (a := [.ref (r 4), .int (Int32.ofInt e), .int (Int32.ofInt (s_ : Int))]) (st := []) rfl rfl (Nat.le_of_ble_eq_true rfl) ⟨_, _, _, rfl, jg_, rfl⟩ (Nat.zero_le _) (Nat.zero_le _) (zj_admits_M g jg_ ji_.flag ji_.1 w6_ ji_.2.2.1.1 ji_.2.2.1.2 (by omega) (by omega) (by omega) (by omega) (fun _ => ?_) (fun y_ => absurd (fi_.mpr sf_) y_))
        show S 22 [some (.ref x), some (.int (Int32.ofInt e)), some (.int (Int32.ofInt (s_ : Int)))] [.int (Int32.ofInt (1 : Int))] _ _ _
        refine hs 12 _ rfl _ _ _ _ _ _ (fun _ => ?_) (fun zq => absurd (hd_c1t (c := 1) (by omega) (by omega) (by omega : (1 : Int) ≠ 0)) zq)
        refine hs 15 _ rfl _ _ _ _ _ _ _ rfl ?_
        refine hs 16 _ rfl _ _ _ _ _ _ _ rfl ?_
        refine hs 17 _ rfl _ _ _ _ _ _ _ rfl ?_
        refine zw_c (hs 18 _ rfl) (a := [.ref x, .int (Int32.ofInt e), .int (Int32.ofInt (s_ : Int))]) (st := []) rfl rfl (Nat.le_of_ble_eq_true rfl) ⟨_, _, _, rfl, xj_.1, rfl⟩ (Nat.zero_le _) (Nat.zero_le _) (zc_addRowX_M g xj_ c1_.1 c1_.2.1 c1_.2.2 c2_ fun h9_ f9_ x9_ => ?_)
        show S 33 [some (.ref x), some (.int (Int32.ofInt e)), some (.int (Int32.ofInt (s_ : Int)))] [.int (Int32.ofInt (c.2.2.1.length : Int))] _ _ _
        refine hs 19 _ rfl _ _ _ _ _ _ _ rfl ?_
        refine hs 20 _ rfl _ _ _ _ _ _ _ rfl ?_
        exact hs 21 _ rfl _ _ _ _ _ ⟨_, rfl, by decide, by decide⟩ (Nat.zero_le _) (Nat.zero_le _) (hP c1_ c2_ sf_ _ ((zc_fr.jn f1_).tr f9_) x9_)
end
section
/-! TWO CONTRACTS OF ONE CALL: what both say, of one run -/
theorem zb_both {l : Launch} {x : MethodName} {S : Spec} {P : Array Value → State → Prop} {K : Program → Env → List Frame → State → Array Value → Prop} {Q1 Q2 : Array Value → State → Outcome → State → Prop} (h1 : MetFree l x S P K Q1) (h2 : MetFree l x S P K Q2) : MetFree l x S P K (fun a s o t => Q1 a s o t ∧ Q2 a s o t) := by
  intro p e he hf hc s m args below hs ha hP hK
  obtain ⟨n1_, o1_, w1_, r1_, e1_, q1_⟩ := h1 p e he hf hc s m args below hs ha hP hK
  obtain ⟨n2_, o2_, w2_, r2_, e2_, q2_⟩ := h2 p e he hf hc s m args below hs ha hP hK
  have hn_ : n1_ = n2_ := by
    rcases Nat.lt_trichotomy n1_ n2_ with c_ | c_ | c_
    · exact absurd (w2_ n1_ c_) e1_.not_within
    · exact c_
    · exact absurd (w1_ n2_ c_) e2_.not_within
  subst hn_
  have ho_ := e1_.outcome_unique e2_
  subst ho_
  exact ⟨n1_, o1_, w1_, r1_, e1_, q1_, q2_⟩
/-- two pictures of one heap -/
def zb_er (G : am_G) (k k2 : List am_C) : Prop := ∃ H : Heap, am_H G k H ∧ am_H G k2 H ∧ am_kt G H
/-- two pictures of one outcome -/
def zb_o (G : am_G) (o o2 : am_O) : Prop := match o, o2 with
  | .inl v, .inl v2 => v.map (am_rv G) = v2.map (am_rv G)
  | .inr _, .inr _ => True
  | _, _ => False
theorem zb_and {l : Launch} {G : am_G} {y : MethodName} {cw : Cond} {fr lo mc ms : Nat} {a : List Value} {h : List am_C} {P1 P2 : am_O → List am_C → Prop} (h1 : am_M l G y cw fr lo mc ms a h P1) (h2 : am_M l G y cw fr lo mc ms a h P2) : am_M l G y cw fr lo mc ms a h (fun o k => P1 o k ∧ ∃ (o2 : am_O) (k2 : List am_C), P2 o2 k2 ∧ zb_o G o o2 ∧ zb_er G k k2) := by
  have hb_ := zb_both h1 h2
  intro p e he hf hc s m args below hs ha hP hK
  obtain ⟨n_, o_, w_, r_, e_, q1_, q2_⟩ := hb_ p e he hf hc s m args below hs ha hP hK
  have kt_ : ∀ t : State, va_F (am_A G) s t → am_kt G t.heap := fun t ft => by
    have hk_ := hP.2.2
    exact hk_.2.1.kept (fun q hq => ft.2 q (Nat.lt_of_lt_of_le hq hk_.2.2.1.1) (fun z => by unfold am_A at z; omega))
  refine ⟨n_, o_, w_, r_, e_, ?_⟩
  rcases q1_ with ⟨⟨v1_, k1_, a1_, a2_, a3_, a4_⟩, a5_⟩ | ⟨q_, a1_, a2_⟩
  · rcases q2_ with ⟨⟨v2_, k2_, b1_, b2_, b3_, b4_⟩, b5_⟩ | ⟨q9_, b1_, b2_⟩
    · refine Or.inl ⟨⟨v1_, k1_, a1_, ⟨a2_, .inl v2_, k2_, b2_, ?_, _, a3_, b3_, kt_ _ a4_⟩, a3_, a4_⟩, a5_⟩
      rw [a1_] at b1_
      exact Outcome.returned.inj b1_
    · rw [a1_] at b1_
      cases b1_
  · rcases q2_ with ⟨⟨v2_, k2_, b1_, b2_, b3_, b4_⟩, b5_⟩ | ⟨q9_, b1_, b2_⟩
    · rw [a1_] at b1_
      cases b1_
    · obtain ⟨E_, ce_, L_, ⟨k1_, x1_, x2_, x3_⟩, a3_⟩ := a2_
      obtain ⟨E2_, ce2_, L2_, ⟨k2_, y1_, y2_, y3_⟩, -⟩ := b2_
      exact Or.inr ⟨q_, a1_, E_, ce_, L_, ⟨k1_, ⟨x1_, .inr E2_, k2_, y1_, trivial, _, x2_, y2_, kt_ _ x3_⟩, x2_, x3_⟩, a3_⟩
theorem zb_er.len {G : am_G} {k k2 : List am_C} (e : zb_er G k k2) : k2.length = k.length := by
  obtain ⟨H_, a_, b_, -⟩ := e
  have a1_ := a_.1
  have b1_ := b_.1
  omega
/-- the same cell in both pictures: what lies in it -/
theorem zb_er.cell {G : am_G} {k k2 : List am_C} (e : zb_er G k k2) {p t t2 : Nat} {vs vs2 : List Value} (hp : 1000 ≤ p) (h1 : am_g G k p = some (t, vs)) (h2 : am_g G k2 p = some (t2, vs2)) (ht : t2 % 100 = t % 100) (h62 : t % 100 < 62) : vs2.length = vs.length ∧ ∀ (j : Nat) (v v2 : Value), vs[j]? = some v → vs2[j]? = some v2 → am_rv G v2 = am_rv G v := by
  obtain ⟨H_, a_, b_, -⟩ := e
  obtain ⟨c_, c1_, c2_, -⟩ := am_cellD a_ hp h1
  obtain ⟨d_, d1_, d2_, -⟩ := am_cellD b_ hp h2
  rw [c1_] at d1_
  cases d1_
  obtain ⟨-, -, u1_, u2_⟩ := c2_
  obtain ⟨-, -, w1_, w2_⟩ := d2_
  dsimp only at u1_ u2_ w1_ w2_
  rw [ht] at w1_ w2_
  by_cases h5_ : t % 100 < 50
  · obtain ⟨r1_, x1_, x2_, -, x3_⟩ := u1_ h5_
    obtain ⟨r2_, y1_, y2_, -, y3_⟩ := w1_ h5_
    rw [x1_] at y1_
    cases y1_
    refine ⟨y2_.symm.trans x2_, fun j v v2 hv hv2 => ?_⟩
    have z_ := (y3_ j v2 hv2).symm.trans (x3_ j v hv)
    exact Option.some.inj z_
  · obtain ⟨-, x2_, x3_⟩ := u2_ (by omega) h62
    obtain ⟨-, y2_, y3_⟩ := w2_ (by omega) h62
    refine ⟨y2_.symm.trans x2_, fun j v v2 hv hv2 => ?_⟩
    have z_ := (y3_ j v2 hv2).symm.trans (x3_ j v hv)
    exact Option.some.inj z_
theorem zb_rvi {G : am_G} {v : Value} {x : Int32} (h : am_rv G v = am_rv G (.int x)) : v = .int x := by
  cases v <;> first | exact h | cases h
theorem zb_rvl {G : am_G} {v : Value} {x : Int64} (h : am_rv G v = am_rv G (.long x)) : v = .long x := by
  cases v <;> first | exact h | cases h
theorem zb_rvn {G : am_G} {v : Value} (h : am_rv G v = am_rv G .null) : v = .null := by
  cases v <;> first | exact h | cases h
/-- a reference to a cell made since: the same in both, where it leads somewhere -/
theorem zb_rvr {G : am_G} {H : Heap} (hk : am_kt G H) {v : Value} {n : Nat} (hn : 1000 ≤ n) (h : am_rv G v = am_rv G (.ref n)) (hv : ∀ q : Nat, v = .ref q → q < 1000 → ∃ c : am_C, G.2.2.2.2[q]? = some c ∧ c.1 % 100 < 62) : v = .ref n := by
  cases v with
  | ref q =>
    have e_ : am_ad G q = am_ad G n := Value.ref.inj h
    by_cases c_ : q < 1000
    · obtain ⟨d_, d1_, d2_⟩ := hv q rfl c_
      have l_ := ((hk q d_ d1_).2 d2_).1
      have g_ := am_ad_ge (G := G) hn
      have q_ : am_ad G q = G.2.2.1 q := by unfold am_ad; rw [if_pos c_]
      omega
    · unfold am_ad at e_
      rw [if_neg c_, if_neg (by omega)] at e_
      have f_ : G.2.2.2.1 + (q - 1000) = G.2.2.2.1 + (n - 1000) := e_
      have f2_ : q - 1000 = n - 1000 := Nat.add_left_cancel f_
      have z_ : q = n := by
        have a_ : q - 1000 + 1000 = n - 1000 + 1000 := congrArg (· + 1000) f2_
        rw [Nat.sub_add_cancel (Nat.not_lt.mp c_), Nat.sub_add_cancel hn] at a_
        exact a_
      rw [z_]
  | _ => cases h
end
section
/-! THE REFERENCE'S NUMBERS, TO BE WALKED BY HAND -/
def gt_yJ9_max_7cf53_X : ck_TB := ([], [], [], [], [], [], [], [], ([], [], [], []), [], [], [], 0)
def ge_yJ9_max_7cf53_X : ck_E := (gT, [], (([], [], [], 0, []), ((0, []), (0, [])), [], [], ([], [], [], 0, []), []), 2, [(0, (0, 3, 0, 0, 1, 0, [])), (1, (0, 3, 1, 0, 2, 0, [])), (2, (2, 2, 0, 0, 5, 9, [])), (5, (0, 3, 0, 0, 6, 0, [])), (6, (3, 0, 0, 0, 0, 10, [])), (9, (0, 3, 1, 0, 10, 0, [])), (10, (14, 0, 0, 0, 0, 0, []))], [], [], [], [])
theorem gd_yJ9_max_7cf53_X : ck_dec prog_32_method_65_code gt_yJ9_max_7cf53_X ge_yJ9_max_7cf53_X.2.2.2.2.1 = true := by decide +kernel
theorem gh_yJ9_max_7cf53_X {l : Launch} {G : am_G} {X : ck_XT} (g : gM l G X) {a : List Value} {h : List am_C} {mc ms : Nat} {Post : am_O → List am_C → Prop} (hay : (am_lay a).length ≤ 2) (H : ∀ (S : ck_SS) (SX : Nat → ck_SX), ck_hs G S SX Post mc ms (ck_cms []) ge_yJ9_max_7cf53_X → (∀ pc, ck_sR G S pc) → ck_hw S → zw_hx SX Post mc ms → S 0 (am_ent a 2) [] h 0 0) : am_M l G yJ9_max_7cf53 (.code yJ9_max_7cf53 prog_32_method_65_code 2 (some .int)) 1 20 mc ms a h Post :=
  zw_handX (E := ge_yJ9_max_7cf53_X) (tb := gt_yJ9_max_7cf53_X) (init := false) (cm := (ck_cms [])) g.1.1 (by decide +kernel) rfl gd_yJ9_max_7cf53_X ⟨(List.forall_mem_nil _), (List.forall_mem_nil _), (List.forall_mem_nil _), (List.forall_mem_nil _), (List.forall_mem_nil _), (List.forall_mem_nil _), (List.forall_mem_nil _), (List.forall_mem_nil _)⟩ (List.forall_mem_nil _) (fun h => nomatch h) ⟨_, rfl, rfl⟩ (by decide) (by decide) g_oi g_ar
    (fun s hk _ => (List.forall_mem_nil _)) (fun s hk => (List.forall_mem_nil _))
    (List.forall_mem_nil _) (List.forall_mem_nil _) (List.forall_mem_nil _) (List.forall_mem_nil _)
    (List.forall_mem_nil _) hay H
def gt_yX12_isZero_X : ck_TB := ([], [], [], [(15, 17, 1)], [], [], [], [], ([], [], [], []), [], [], [], 1)
def ge_yX12_isZero_X : ck_E := (gT, [], (([], [], [], 0, []), ((0, []), (0, [])), [], [], ([], [], [], 0, []), []), 1, [(0, (0, 5, 0, 0, 1, 0, [])), (1, (7, 17, 1, 0, 4, 0, [])), (4, (11, 0, 0, 0, 5, 0, [])), (5, (1, 1, 0, 0, 8, 12, [])), (8, (0, 0, 0, 1, 9, 0, [])), (9, (3, 0, 0, 0, 0, 13, [])), (12, (0, 0, 0, 0, 13, 0, [])), (13, (14, 0, 0, 1, 0, 0, []))], [], [], [], [])
theorem gd_yX12_isZero_X : ck_dec prog_15_method_3_code gt_yX12_isZero_X ge_yX12_isZero_X.2.2.2.2.1 = true := by decide +kernel
theorem gh_yX12_isZero_X {l : Launch} {G : am_G} {X : ck_XT} (g : gM l G X) {a : List Value} {h : List am_C} {mc ms : Nat} {Post : am_O → List am_C → Prop} (hay : (am_lay a).length ≤ 1) (H : ∀ (S : ck_SS) (SX : Nat → ck_SX), ck_hs G S SX Post mc ms (ck_cms []) ge_yX12_isZero_X → (∀ pc, ck_sR G S pc) → ck_hw S → zw_hx SX Post mc ms → S 0 (am_ent a 1) [] h 0 0) : am_M l G yX12_isZero (.code yX12_isZero prog_15_method_3_code 1 (some .boolean)) 1 20 mc ms a h Post :=
  zw_handX (E := ge_yX12_isZero_X) (tb := gt_yX12_isZero_X) (init := false) (cm := (ck_cms [])) g.1.1 (by decide +kernel) rfl gd_yX12_isZero_X ⟨(List.forall_mem_nil _), (List.forall_mem_nil _), (List.forall_mem_nil _), (List.forall_mem_cons.mpr ⟨⟨⟨_, _, _, rfl, Or.inl w1658⟩, by decide, _, _, g_fd17_1⟩, (List.forall_mem_nil _)⟩), (List.forall_mem_nil _), (List.forall_mem_nil _), (List.forall_mem_nil _), (List.forall_mem_nil _)⟩ (List.forall_mem_nil _) (fun h => nomatch h) ⟨_, rfl, rfl⟩ (by decide) (by decide) g_oi g_ar
    (fun s hk _ => (List.forall_mem_nil _)) (fun s hk => (List.forall_mem_nil _))
    (List.forall_mem_nil _) (List.forall_mem_nil _) (List.forall_mem_nil _) (List.forall_mem_nil _)
    (List.forall_mem_nil _) hay H
def gt_yX12_sign_X : ck_TB := ([], [], [], [(9, 17, 0)], [], [], [], [], ([(24, 0)], [], [], []), [], [], [], 0)
def ge_yX12_sign_X : ck_E := (gT, [], (([], [], [], 0, []), ((0, []), (0, [])), [], [], ([], [], [], 0, []), []), 1, [(0, (0, 5, 0, 0, 1, 0, [])), (1, (16, 0, 0, 0, 4, 0, [])), (4, (1, 0, 0, 0, 7, 11, [])), (7, (0, 0, 0, 0, 8, 0, [])), (8, (3, 0, 0, 0, 0, 23, [])), (11, (0, 5, 0, 0, 12, 0, [])), (12, (7, 17, 0, 0, 15, 0, [])), (15, (1, 0, 0, 0, 18, 22, [])), (18, (0, 0, 0, (-1), 19, 0, [])), (19, (3, 0, 0, 0, 0, 23, [])), (22, (0, 0, 0, 1, 23, 0, [])), (23, (14, 0, 0, 0, 0, 0, []))], [(some 17, 1, [])], [], [], [])
theorem gd_yX12_sign_X : ck_dec prog_15_method_4_code gt_yX12_sign_X ge_yX12_sign_X.2.2.2.2.1 = true := by decide +kernel
theorem gh_yX12_sign_X {l : Launch} {G : am_G} {X : ck_XT} (g : gM l G X) {a : List Value} {h : List am_C} {mc ms : Nat} {Post : am_O → List am_C → Prop} (hay : (am_lay a).length ≤ 1) (H : ∀ (S : ck_SS) (SX : Nat → ck_SX), ck_hs G S SX Post mc ms (ck_cms [am_cm l G yX12_isZero (.code yX12_isZero prog_15_method_3_code 1 (some .boolean)) 1 20]) ge_yX12_sign_X → (∀ pc, ck_sR G S pc) → ck_hw S → zw_hx SX Post mc ms → S 0 (am_ent a 1) [] h 0 0) : am_M l G yX12_sign (.code yX12_sign prog_15_method_4_code 1 (some .int)) 2 40 mc ms a h Post :=
  zw_handX (E := ge_yX12_sign_X) (tb := gt_yX12_sign_X) (init := false) (cm := (ck_cms [am_cm l G yX12_isZero (.code yX12_isZero prog_15_method_3_code 1 (some .boolean)) 1 20])) g.1.1 (by decide +kernel) rfl gd_yX12_sign_X ⟨(List.forall_mem_nil _), (List.forall_mem_nil _), (List.forall_mem_nil _), (List.forall_mem_cons.mpr ⟨⟨⟨_, _, _, rfl, Or.inl w1656⟩, by decide, _, _, g_fd17_0⟩, (List.forall_mem_nil _)⟩), (List.forall_mem_nil _), (List.forall_mem_nil _), (List.forall_mem_nil _), (List.forall_mem_nil _)⟩ (List.forall_mem_nil _) (fun h => nomatch h) ⟨_, rfl, rfl⟩ (by decide) (by decide) g_oi g_ar
    (fun s hk _ => (List.forall_mem_nil _)) (fun s hk => (List.forall_mem_nil _))
    (List.forall_mem_cons.mpr ⟨(ck_kV g_y_yX12_isZero w1930 w1931 w1932 (T := TX12) (N := 2) rfl (by decide) (by decide) (by decide)), (List.forall_mem_nil _)⟩) (List.forall_mem_nil _) (List.forall_mem_nil _) (List.forall_mem_nil _)
    (List.forall_mem_nil _) hay H
def gt_yX12_many_X : ck_TB := ([], [], [], [(15, 17, 1)], [], [], [], [], ([(24, 0)], [], [], []), [], [], [], 0)
def ge_yX12_many_X : ck_E := (gT, [], (([], [], [], 0, []), ((0, []), (0, [])), [], [], ([], [], [], 0, []), []), 1, [(0, (0, 5, 0, 0, 1, 0, [])), (1, (16, 0, 0, 0, 4, 0, [])), (4, (1, 0, 0, 0, 7, 11, [])), (7, (0, 0, 0, 1, 8, 0, [])), (8, (3, 0, 0, 0, 0, 16, [])), (11, (0, 5, 0, 0, 12, 0, [])), (12, (7, 17, 1, 0, 15, 0, [])), (15, (11, 0, 0, 0, 16, 0, [])), (16, (14, 0, 0, 0, 0, 0, []))], [(some 17, 1, [])], [], [], [])
theorem gd_yX12_many_X : ck_dec prog_15_method_5_code gt_yX12_many_X ge_yX12_many_X.2.2.2.2.1 = true := by decide +kernel
theorem gh_yX12_many_X {l : Launch} {G : am_G} {X : ck_XT} (g : gM l G X) {a : List Value} {h : List am_C} {mc ms : Nat} {Post : am_O → List am_C → Prop} (hay : (am_lay a).length ≤ 1) (H : ∀ (S : ck_SS) (SX : Nat → ck_SX), ck_hs G S SX Post mc ms (ck_cms [am_cm l G yX12_isZero (.code yX12_isZero prog_15_method_3_code 1 (some .boolean)) 1 20]) ge_yX12_many_X → (∀ pc, ck_sR G S pc) → ck_hw S → zw_hx SX Post mc ms → S 0 (am_ent a 1) [] h 0 0) : am_M l G yX12_many (.code yX12_many prog_15_method_5_code 1 (some .int)) 2 40 mc ms a h Post :=
  zw_handX (E := ge_yX12_many_X) (tb := gt_yX12_many_X) (init := false) (cm := (ck_cms [am_cm l G yX12_isZero (.code yX12_isZero prog_15_method_3_code 1 (some .boolean)) 1 20])) g.1.1 (by decide +kernel) rfl gd_yX12_many_X ⟨(List.forall_mem_nil _), (List.forall_mem_nil _), (List.forall_mem_nil _), (List.forall_mem_cons.mpr ⟨⟨⟨_, _, _, rfl, Or.inl w1658⟩, by decide, _, _, g_fd17_1⟩, (List.forall_mem_nil _)⟩), (List.forall_mem_nil _), (List.forall_mem_nil _), (List.forall_mem_nil _), (List.forall_mem_nil _)⟩ (List.forall_mem_nil _) (fun h => nomatch h) ⟨_, rfl, rfl⟩ (by decide) (by decide) g_oi g_ar
    (fun s hk _ => (List.forall_mem_nil _)) (fun s hk => (List.forall_mem_nil _))
    (List.forall_mem_cons.mpr ⟨(ck_kV g_y_yX12_isZero w1930 w1931 w1932 (T := TX12) (N := 2) rfl (by decide) (by decide) (by decide)), (List.forall_mem_nil _)⟩) (List.forall_mem_nil _) (List.forall_mem_nil _) (List.forall_mem_nil _)
    (List.forall_mem_nil _) hay H
def gt_yX12_turned_X : ck_TB := ([], [], [], [(9, 17, 0), (15, 17, 1)], [], [(10, 17, [0, 2])], [], [], ([], [(21, 0)], [], []), [], [], [], 4)
def ge_yX12_turned_X : ck_E := (gT, [], (([], [], [], 0, []), ((0, []), (0, [])), [], [], ([], [], [], 0, []), []), 1, [(0, (9, 17, 17, 0, 3, 0, [(0, 0), (0, 2)])), (3, (0, 12, 0, 0, 4, 0, [])), (4, (0, 5, 0, 0, 5, 0, [])), (5, (7, 17, 0, 0, 8, 0, [])), (8, (1, 1, 0, 0, 11, 15, [])), (11, (0, 0, 0, 1, 12, 0, [])), (12, (3, 0, 0, 0, 0, 16, [])), (15, (0, 0, 0, 0, 16, 0, [])), (16, (0, 5, 0, 0, 17, 0, [])), (17, (7, 17, 1, 0, 20, 0, [])), (20, (16, 0, 0, 0, 23, 0, [])), (23, (14, 0, 0, 4, 0, 0, []))], [(some 17, 3, [])], [], [], [])
theorem gd_yX12_turned_X : ck_dec prog_15_method_6_code gt_yX12_turned_X ge_yX12_turned_X.2.2.2.2.1 = true := by decide +kernel
theorem gh_yX12_turned_X {l : Launch} {G : am_G} {X : ck_XT} (g : gM l G X) {a : List Value} {h : List am_C} {mc ms : Nat} {Post : am_O → List am_C → Prop} (hay : (am_lay a).length ≤ 1) (H : ∀ (S : ck_SS) (SX : Nat → ck_SX), ck_hs G S SX Post mc ms (ck_cms [am_cn l G yX12_init (.code yX12_init prog_15_method_1_code 5 none) 1 20]) ge_yX12_turned_X → (∀ pc, ck_sR G S pc) → ck_hw S → zw_hx SX Post mc ms → S 0 (am_ent a 1) [] h 0 0) : am_M l G yX12_turned (.code yX12_turned prog_15_method_6_code 1 (some (.object "ClockhouseModel$Num"))) 2 44 mc ms a h Post :=
  zw_handX (E := ge_yX12_turned_X) (tb := gt_yX12_turned_X) (init := false) (cm := (ck_cms [am_cn l G yX12_init (.code yX12_init prog_15_method_1_code 5 none) 1 20])) g.1.1 (by decide +kernel) rfl gd_yX12_turned_X ⟨(List.forall_mem_nil _), (List.forall_mem_nil _), (List.forall_mem_nil _), (List.forall_mem_cons.mpr ⟨⟨⟨_, _, _, rfl, Or.inl w1656⟩, by decide, _, _, g_fd17_0⟩, (List.forall_mem_cons.mpr ⟨⟨⟨_, _, _, rfl, Or.inl w1658⟩, by decide, _, _, g_fd17_1⟩, (List.forall_mem_nil _)⟩)⟩), (List.forall_mem_cons.mpr ⟨⟨_, _, _, g_nw17, rfl, w1650, by decide⟩, (List.forall_mem_nil _)⟩), (List.forall_mem_nil _), (List.forall_mem_nil _), (List.forall_mem_nil _)⟩ (List.forall_mem_nil _) (fun h => nomatch h) ⟨_, rfl, Or.inl ⟨_, rfl⟩⟩ (by decide) (by decide) g_oi g_ar
    (fun s hk _ => (List.forall_mem_nil _)) (fun s hk => (List.forall_mem_nil _))
    (List.forall_mem_nil _) (List.forall_mem_cons.mpr ⟨(ck_kI g_y_yX12_init w1652 w1653 rfl (by decide) (by decide)), (List.forall_mem_nil _)⟩) (List.forall_mem_nil _) (List.forall_mem_nil _)
    (List.forall_mem_nil _) hay H
def gt_yX12_compare_X : ck_TB := ([], [], [], [], [], [], [], [], ([], [], [], []), [], [], [], 0)
def ge_yX12_compare_X : ck_E := (gT, [], (([], [], [], 0, []), ((0, []), (0, [])), [], [], ([], [], [], 0, []), []), 3, [(0, (0, 5, 0, 0, 1, 0, [])), (1, (11, 0, 0, 0, 2, 0, [])), (2, (0, 5, 1, 0, 3, 0, [])), (3, (11, 0, 0, 0, 4, 0, [])), (4, (2, 0, 0, 0, 7, 20, [])), (7, (0, 5, 0, 0, 8, 0, [])), (8, (11, 0, 0, 0, 9, 0, [])), (9, (0, 5, 1, 0, 10, 0, [])), (10, (11, 0, 0, 0, 11, 0, [])), (11, (2, 3, 0, 0, 14, 18, [])), (14, (0, 0, 0, (-1), 15, 0, [])), (15, (3, 0, 0, 0, 0, 19, [])), (18, (0, 0, 0, 1, 19, 0, [])), (19, (14, 0, 0, 0, 0, 0, [])), (20, (0, 5, 0, 0, 21, 0, [])), (21, (11, 0, 0, 0, 22, 0, [])), (22, (0, 0, 0, 1, 23, 0, [])), (23, (0, 15, 1, 0, 24, 0, [])), (24, (0, 6, 2, 0, 25, 0, [])), (25, (0, 3, 2, 0, 26, 0, [])), (26, (1, 2, 0, 0, 29, 59, [])), (29, (0, 5, 0, 0, 30, 0, [])), (30, (0, 3, 2, 0, 31, 0, [])), (31, (12, 50, 50, 0, 32, 0, [])), (32, (0, 5, 1, 0, 33, 0, [])), (33, (0, 3, 2, 0, 34, 0, [])), (34, (12, 50, 50, 0, 35, 0, [])), (35, (2, 0, 0, 0, 38, 53, [])), (38, (0, 5, 0, 0, 39, 0, [])), (39, (0, 3, 2, 0, 40, 0, [])), (40, (12, 50, 50, 0, 41, 0, [])), (41, (0, 5, 1, 0, 42, 0, [])), (42, (0, 3, 2, 0, 43, 0, [])), (43, (12, 50, 50, 0, 44, 0, [])), (44, (2, 3, 0, 0, 47, 51, [])), (47, (0, 0, 0, (-1), 48, 0, [])), (48, (3, 0, 0, 0, 0, 52, [])), (51, (0, 0, 0, 1, 52, 0, [])), (52, (14, 0, 0, 0, 0, 0, [])), (53, (0, 9, 2, (-1), 56, 0, [])), (56, (3, 0, 0, 0, 0, 25, [])), (59, (0, 0, 0, 0, 60, 0, [])), (60, (14, 0, 0, 0, 0, 0, []))], [], [], [], [])
theorem gd_yX12_compare_X : ck_dec prog_15_method_8_code gt_yX12_compare_X ge_yX12_compare_X.2.2.2.2.1 = true := by decide +kernel
theorem gh_yX12_compare_X {l : Launch} {G : am_G} {X : ck_XT} (g : gM l G X) {a : List Value} {h : List am_C} {mc ms : Nat} {Post : am_O → List am_C → Prop} (hay : (am_lay a).length ≤ 3) (H : ∀ (S : ck_SS) (SX : Nat → ck_SX), ck_hs G S SX Post mc ms (ck_cms []) ge_yX12_compare_X → (∀ pc, ck_sR G S pc) → ck_hw S → zw_hx SX Post mc ms → S 0 (am_ent a 3) [] h 0 0) : am_M l G yX12_compare (.code yX12_compare prog_15_method_8_code 3 (some .int)) 1 20 mc ms a h Post :=
  zw_handX (E := ge_yX12_compare_X) (tb := gt_yX12_compare_X) (init := false) (cm := (ck_cms [])) g.1.1 (by decide +kernel) rfl gd_yX12_compare_X ⟨(List.forall_mem_nil _), (List.forall_mem_nil _), (List.forall_mem_nil _), (List.forall_mem_nil _), (List.forall_mem_nil _), (List.forall_mem_nil _), (List.forall_mem_nil _), (List.forall_mem_nil _)⟩ (List.forall_mem_nil _) (fun h => nomatch h) ⟨_, rfl, rfl⟩ (by decide) (by decide) g_oi g_ar
    (fun s hk _ => (List.forall_mem_nil _)) (fun s hk => (List.forall_mem_nil _))
    (List.forall_mem_nil _) (List.forall_mem_nil _) (List.forall_mem_nil _) (List.forall_mem_nil _)
    (List.forall_mem_nil _) hay H
def gt_yX12_mod__X : ck_TB := ([], [], [], [(9, 17, 0), (15, 17, 1)], [], [], [], [], ([], [], [], []), [], [], [], 0)
def ge_yX12_mod__X : ck_E := (gT, [], (([], [], [], 0, []), ((0, []), (0, [])), [], [], ([], [], [], 0, []), []), 4, [(0, (0, 0, 0, 0, 1, 0, [])), (1, (0, 6, 2, 0, 2, 0, [])), (2, (0, 5, 0, 0, 3, 0, [])), (3, (7, 17, 1, 0, 6, 0, [])), (6, (11, 0, 0, 0, 7, 0, [])), (7, (0, 0, 0, 1, 8, 0, [])), (8, (0, 15, 1, 0, 9, 0, [])), (9, (0, 6, 3, 0, 10, 0, [])), (10, (0, 3, 3, 0, 11, 0, [])), (11, (1, 2, 0, 0, 14, 34, [])), (14, (0, 3, 2, 0, 15, 0, [])), (15, (0, 0, 0, 10, 17, 0, [])), (17, (0, 15, 2, 0, 18, 0, [])), (18, (0, 5, 0, 0, 19, 0, [])), (19, (7, 17, 1, 0, 22, 0, [])), (22, (0, 3, 3, 0, 23, 0, [])), (23, (12, 50, 50, 0, 24, 0, [])), (24, (0, 15, 0, 0, 25, 0, [])), (25, (0, 3, 1, 0, 26, 0, [])), (26, (0, 15, 4, 0, 27, 0, [])), (27, (0, 6, 2, 0, 28, 0, [])), (28, (0, 9, 3, (-1), 31, 0, [])), (31, (3, 0, 0, 0, 0, 10, [])), (34, (0, 5, 0, 0, 35, 0, [])), (35, (7, 17, 0, 0, 38, 0, [])), (38, (1, 0, 0, 0, 41, 51, [])), (41, (0, 3, 2, 0, 42, 0, [])), (42, (1, 5, 0, 0, 45, 51, [])), (45, (0, 3, 1, 0, 46, 0, [])), (46, (0, 3, 2, 0, 47, 0, [])), (47, (0, 15, 1, 0, 48, 0, [])), (48, (3, 0, 0, 0, 0, 52, [])), (51, (0, 3, 2, 0, 52, 0, [])), (52, (14, 0, 0, 0, 0, 0, []))], [], [], [], [])
theorem gd_yX12_mod__X : ck_dec prog_15_method_19_code gt_yX12_mod__X ge_yX12_mod__X.2.2.2.2.1 = true := by decide +kernel
theorem gh_yX12_mod__X {l : Launch} {G : am_G} {X : ck_XT} (g : gM l G X) {a : List Value} {h : List am_C} {mc ms : Nat} {Post : am_O → List am_C → Prop} (hay : (am_lay a).length ≤ 4) (H : ∀ (S : ck_SS) (SX : Nat → ck_SX), ck_hs G S SX Post mc ms (ck_cms []) ge_yX12_mod__X → (∀ pc, ck_sR G S pc) → ck_hw S → zw_hx SX Post mc ms → S 0 (am_ent a 4) [] h 0 0) : am_M l G yX12_mod_ (.code yX12_mod_ prog_15_method_19_code 4 (some .int)) 1 20 mc ms a h Post :=
  zw_handX (E := ge_yX12_mod__X) (tb := gt_yX12_mod__X) (init := false) (cm := (ck_cms [])) g.1.1 (by decide +kernel) rfl gd_yX12_mod__X ⟨(List.forall_mem_nil _), (List.forall_mem_nil _), (List.forall_mem_nil _), (List.forall_mem_cons.mpr ⟨⟨⟨_, _, _, rfl, Or.inl w1656⟩, by decide, _, _, g_fd17_0⟩, (List.forall_mem_cons.mpr ⟨⟨⟨_, _, _, rfl, Or.inl w1658⟩, by decide, _, _, g_fd17_1⟩, (List.forall_mem_nil _)⟩)⟩), (List.forall_mem_nil _), (List.forall_mem_nil _), (List.forall_mem_nil _), (List.forall_mem_nil _)⟩ (List.forall_mem_nil _) (fun h => nomatch h) ⟨_, rfl, rfl⟩ (by decide) (by decide) g_oi g_ar
    (fun s hk _ => (List.forall_mem_nil _)) (fun s hk => (List.forall_mem_nil _))
    (List.forall_mem_nil _) (List.forall_mem_nil _) (List.forall_mem_nil _) (List.forall_mem_nil _)
    (List.forall_mem_nil _) hay H
def gt_yX12_joined_X : ck_TB := ([], [], [], [], [], [], [], [], ([], [], [(44, 0)], []), [], [], [], 4)
def ge_yX12_joined_X : ck_E := (gT, [], (([], [], [], 0, []), ((0, []), (0, [])), [], [], ([], [], [], 0, []), []), 7, [(0, (0, 5, 0, 0, 1, 0, [])), (1, (11, 0, 0, 0, 2, 0, [])), (2, (0, 5, 1, 0, 3, 0, [])), (3, (11, 0, 0, 0, 4, 0, [])), (4, (16, 0, 0, 0, 7, 0, [])), (7, (0, 0, 0, 1, 8, 0, [])), (8, (0, 15, 0, 0, 9, 0, [])), (9, (10, 50, 50, 0, 11, 0, [])), (11, (0, 8, 3, 0, 12, 0, [])), (12, (0, 0, 0, 0, 13, 0, [])), (13, (0, 6, 4, 0, 15, 0, [])), (15, (0, 0, 0, 0, 16, 0, [])), (16, (0, 6, 5, 0, 18, 0, [])), (18, (0, 3, 5, 0, 20, 0, [])), (20, (0, 5, 3, 0, 21, 0, [])), (21, (11, 0, 0, 0, 22, 0, [])), (22, (2, 3, 0, 0, 25, 107, [])), (25, (0, 3, 4, 0, 27, 0, [])), (27, (0, 3, 5, 0, 29, 0, [])), (29, (0, 5, 0, 0, 30, 0, [])), (30, (11, 0, 0, 0, 31, 0, [])), (31, (2, 3, 0, 0, 34, 41, [])), (34, (0, 5, 0, 0, 35, 0, [])), (35, (0, 3, 5, 0, 37, 0, [])), (37, (12, 50, 50, 0, 38, 0, [])), (38, (3, 0, 0, 0, 0, 42, [])), (41, (0, 0, 0, 0, 42, 0, [])), (42, (0, 15, 0, 0, 43, 0, [])), (43, (0, 3, 2, 0, 44, 0, [])), (44, (0, 3, 5, 0, 46, 0, [])), (46, (0, 5, 1, 0, 47, 0, [])), (47, (11, 0, 0, 0, 48, 0, [])), (48, (2, 3, 0, 0, 51, 58, [])), (51, (0, 5, 1, 0, 52, 0, [])), (52, (0, 3, 5, 0, 54, 0, [])), (54, (12, 50, 50, 0, 55, 0, [])), (55, (3, 0, 0, 0, 0, 59, [])), (58, (0, 0, 0, 0, 59, 0, [])), (59, (0, 15, 2, 0, 60, 0, [])), (60, (0, 15, 0, 0, 61, 0, [])), (61, (0, 6, 6, 0, 63, 0, [])), (63, (0, 3, 6, 0, 65, 0, [])), (65, (1, 3, 0, 0, 68, 72, [])), (68, (0, 0, 0, (-1), 69, 0, [])), (69, (3, 0, 0, 0, 0, 77, [])), (72, (0, 3, 6, 0, 74, 0, [])), (74, (0, 0, 0, 10, 76, 0, [])), (76, (0, 15, 3, 0, 77, 0, [])), (77, (0, 6, 4, 0, 79, 0, [])), (79, (0, 5, 3, 0, 80, 0, [])), (80, (0, 3, 5, 0, 82, 0, [])), (82, (0, 3, 6, 0, 84, 0, [])), (84, (1, 3, 0, 0, 87, 95, [])), (87, (0, 3, 6, 0, 89, 0, [])), (89, (0, 0, 0, 10, 91, 0, [])), (91, (0, 15, 0, 0, 92, 0, [])), (92, (3, 0, 0, 0, 0, 100, [])), (95, (0, 3, 6, 0, 97, 0, [])), (97, (0, 0, 0, 10, 99, 0, [])), (99, (0, 15, 4, 0, 100, 0, [])), (100, (13, 50, 50, 0, 101, 0, [])), (101, (0, 9, 5, 1, 104, 0, [])), (104, (3, 0, 0, 0, 0, 18, [])), (107, (0, 5, 3, 0, 108, 0, [])), (108, (14, 0, 0, 4, 0, 0, []))], [(none, 2, [])], [], [], [])
theorem gd_yX12_joined_X : ck_dec prog_15_method_9_code gt_yX12_joined_X ge_yX12_joined_X.2.2.2.2.1 = true := by decide +kernel
theorem gh_yX12_joined_X {l : Launch} {G : am_G} {X : ck_XT} (g : gM l G X) {a : List Value} {h : List am_C} {mc ms : Nat} {Post : am_O → List am_C → Prop} (hay : (am_lay a).length ≤ 7) (H : ∀ (S : ck_SS) (SX : Nat → ck_SX), ck_hs G S SX Post mc ms (ck_cms [am_cm l G yJ9_max_7cf53 (.code yJ9_max_7cf53 prog_32_method_65_code 2 (some .int)) 1 20]) ge_yX12_joined_X → (∀ pc, ck_sR G S pc) → ck_hw S → zw_hx SX Post mc ms → S 0 (am_ent a 7) [] h 0 0) : am_M l G yX12_joined (.code yX12_joined prog_15_method_9_code 7 (some (.array .int))) 2 41 mc ms a h Post :=
  zw_handX (E := ge_yX12_joined_X) (tb := gt_yX12_joined_X) (init := false) (cm := (ck_cms [am_cm l G yJ9_max_7cf53 (.code yJ9_max_7cf53 prog_32_method_65_code 2 (some .int)) 1 20])) g.1.1 (by decide +kernel) rfl gd_yX12_joined_X ⟨(List.forall_mem_nil _), (List.forall_mem_nil _), (List.forall_mem_nil _), (List.forall_mem_nil _), (List.forall_mem_nil _), (List.forall_mem_nil _), (List.forall_mem_nil _), (List.forall_mem_nil _)⟩ (List.forall_mem_nil _) (fun h => nomatch h) ⟨_, rfl, Or.inr ⟨_, rfl⟩⟩ (by decide) (by decide) g_oi g_ar
    (fun s hk _ => (List.forall_mem_nil _)) (fun s hk => (List.forall_mem_nil _))
    (List.forall_mem_nil _) (List.forall_mem_nil _) (List.forall_mem_cons.mpr ⟨(ck_kS g_y_yJ9_max_7cf53 w1951 w516 (by decide) (by decide)), (List.forall_mem_nil _)⟩) (List.forall_mem_nil _)
    (List.forall_mem_nil _) hay H
def gt_yX12_plus_X : ck_TB := ([], [], [], [(9, 17, 0), (15, 17, 1)], [], [(10, 17, [0, 2])], [], [], ([], [(21, 1)], [(50, 0), (54, 2)], []), [], [], [], 4)
def ge_yX12_plus_X : ck_E := (gT, [], (([], [], [], 0, []), ((0, []), (0, [])), [], [], ([], [], [], 0, []), []), 2, [(0, (0, 5, 0, 0, 1, 0, [])), (1, (7, 17, 0, 0, 4, 0, [])), (4, (0, 5, 1, 0, 5, 0, [])), (5, (7, 17, 0, 0, 8, 0, [])), (8, (2, 1, 0, 0, 11, 35, [])), (11, (9, 17, 17, 0, 14, 0, [(0, 0), (0, 2)])), (14, (0, 12, 0, 0, 15, 0, [])), (15, (0, 5, 0, 0, 16, 0, [])), (16, (7, 17, 0, 0, 19, 0, [])), (19, (0, 5, 0, 0, 20, 0, [])), (20, (7, 17, 1, 0, 23, 0, [])), (23, (0, 5, 1, 0, 24, 0, [])), (24, (7, 17, 1, 0, 27, 0, [])), (27, (0, 0, 0, 1, 28, 0, [])), (28, (16, 0, 0, 0, 31, 0, [])), (31, (16, 1, 0, 0, 34, 0, [])), (34, (14, 0, 0, 4, 0, 0, [])), (35, (0, 5, 0, 0, 36, 0, [])), (36, (7, 17, 1, 0, 39, 0, [])), (39, (0, 5, 1, 0, 40, 0, [])), (40, (7, 17, 1, 0, 43, 0, [])), (43, (16, 2, 0, 0, 46, 0, [])), (46, (1, 2, 0, 0, 49, 75, [])), (49, (9, 17, 17, 0, 52, 0, [(0, 0), (0, 2)])), (52, (0, 12, 0, 0, 53, 0, [])), (53, (0, 5, 0, 0, 54, 0, [])), (54, (7, 17, 0, 0, 57, 0, [])), (57, (0, 5, 0, 0, 58, 0, [])), (58, (7, 17, 1, 0, 61, 0, [])), (61, (0, 5, 1, 0, 62, 0, [])), (62, (7, 17, 1, 0, 65, 0, [])), (65, (0, 0, 0, (-1), 66, 0, [])), (66, (16, 0, 0, 0, 69, 0, [])), (69, (16, 1, 0, 0, 72, 0, [])), (72, (3, 0, 0, 0, 0, 98, [])), (75, (9, 17, 17, 0, 78, 0, [(0, 0), (0, 2)])), (78, (0, 12, 0, 0, 79, 0, [])), (79, (0, 5, 1, 0, 80, 0, [])), (80, (7, 17, 0, 0, 83, 0, [])), (83, (0, 5, 1, 0, 84, 0, [])), (84, (7, 17, 1, 0, 87, 0, [])), (87, (0, 5, 0, 0, 88, 0, [])), (88, (7, 17, 1, 0, 91, 0, [])), (91, (0, 0, 0, (-1), 92, 0, [])), (92, (16, 0, 0, 0, 95, 0, [])), (95, (16, 1, 0, 0, 98, 0, [])), (98, (14, 0, 0, 4, 0, 0, []))], [(none, 3, []), (some 17, 3, []), (none, 2, [])], [], [], [])
theorem gd_yX12_plus_X : ck_dec prog_15_method_10_code gt_yX12_plus_X ge_yX12_plus_X.2.2.2.2.1 = true := by decide +kernel
theorem gh_yX12_plus_X {l : Launch} {G : am_G} {X : ck_XT} (g : gM l G X) {a : List Value} {h : List am_C} {mc ms : Nat} {Post : am_O → List am_C → Prop} (hay : (am_lay a).length ≤ 2) (H : ∀ (S : ck_SS) (SX : Nat → ck_SX), ck_hs G S SX Post mc ms (ck_cms [am_cm l G yX12_joined (.code yX12_joined prog_15_method_9_code 7 (some (.array .int))) 2 41, am_cn l G yX12_init (.code yX12_init prog_15_method_1_code 5 none) 1 20, am_cm l G yX12_compare (.code yX12_compare prog_15_method_8_code 3 (some .int)) 1 20]) ge_yX12_plus_X → (∀ pc, ck_sR G S pc) → ck_hw S → zw_hx SX Post mc ms → S 0 (am_ent a 2) [] h 0 0) : am_M l G yX12_plus (.code yX12_plus prog_15_method_10_code 2 (some (.object "ClockhouseModel$Num"))) 3 67 mc ms a h Post :=
  zw_handX (E := ge_yX12_plus_X) (tb := gt_yX12_plus_X) (init := false) (cm := (ck_cms [am_cm l G yX12_joined (.code yX12_joined prog_15_method_9_code 7 (some (.array .int))) 2 41, am_cn l G yX12_init (.code yX12_init prog_15_method_1_code 5 none) 1 20, am_cm l G yX12_compare (.code yX12_compare prog_15_method_8_code 3 (some .int)) 1 20])) g.1.1 (by decide +kernel) rfl gd_yX12_plus_X ⟨(List.forall_mem_nil _), (List.forall_mem_nil _), (List.forall_mem_nil _), (List.forall_mem_cons.mpr ⟨⟨⟨_, _, _, rfl, Or.inl w1656⟩, by decide, _, _, g_fd17_0⟩, (List.forall_mem_cons.mpr ⟨⟨⟨_, _, _, rfl, Or.inl w1658⟩, by decide, _, _, g_fd17_1⟩, (List.forall_mem_nil _)⟩)⟩), (List.forall_mem_cons.mpr ⟨⟨_, _, _, g_nw17, rfl, w1650, by decide⟩, (List.forall_mem_nil _)⟩), (List.forall_mem_nil _), (List.forall_mem_nil _), (List.forall_mem_nil _)⟩ (List.forall_mem_nil _) (fun h => nomatch h) ⟨_, rfl, Or.inl ⟨_, rfl⟩⟩ (by decide) (by decide) g_oi g_ar
    (fun s hk _ => (List.forall_mem_nil _)) (fun s hk => (List.forall_mem_nil _))
    (List.forall_mem_nil _) (List.forall_mem_cons.mpr ⟨(ck_kI g_y_yX12_init w1652 w1653 rfl (by decide) (by decide)), (List.forall_mem_nil _)⟩) (List.forall_mem_cons.mpr ⟨(ck_kS g_y_yX12_joined w1948 w1949 (by decide) (by decide)), (List.forall_mem_cons.mpr ⟨(ck_kS g_y_yX12_compare w1952 w1953 (by decide) (by decide)), (List.forall_mem_nil _)⟩)⟩) (List.forall_mem_nil _)
    (List.forall_mem_nil _) hay H
def gt_yX12_times_X : ck_TB := ([], [], [], [(9, 17, 0), (15, 17, 1)], [], [(10, 17, [0, 2])], [], [], ([], [(21, 0)], [], []), [], [], [], 4)
def ge_yX12_times_X : ck_E := (gT, [], (([], [], [], 0, []), ((0, []), (0, [])), [], [], ([], [], [], 0, []), []), 7, [(0, (0, 5, 0, 0, 1, 0, [])), (1, (7, 17, 1, 0, 4, 0, [])), (4, (11, 0, 0, 0, 5, 0, [])), (5, (0, 5, 1, 0, 6, 0, [])), (6, (7, 17, 1, 0, 9, 0, [])), (9, (11, 0, 0, 0, 10, 0, [])), (10, (0, 15, 0, 0, 11, 0, [])), (11, (0, 0, 0, 1, 12, 0, [])), (12, (0, 15, 0, 0, 13, 0, [])), (13, (10, 50, 50, 0, 15, 0, [])), (15, (0, 8, 2, 0, 16, 0, [])), (16, (0, 0, 0, 0, 17, 0, [])), (17, (0, 6, 3, 0, 18, 0, [])), (18, (0, 3, 3, 0, 19, 0, [])), (19, (0, 5, 0, 0, 20, 0, [])), (20, (7, 17, 1, 0, 23, 0, [])), (23, (11, 0, 0, 0, 24, 0, [])), (24, (2, 3, 0, 0, 27, 118, [])), (27, (0, 0, 0, 0, 28, 0, [])), (28, (0, 6, 4, 0, 30, 0, [])), (30, (0, 0, 0, 0, 31, 0, [])), (31, (0, 6, 5, 0, 33, 0, [])), (33, (0, 3, 5, 0, 35, 0, [])), (35, (0, 5, 1, 0, 36, 0, [])), (36, (7, 17, 1, 0, 39, 0, [])), (39, (11, 0, 0, 0, 40, 0, [])), (40, (2, 2, 0, 0, 43, 48, [])), (43, (0, 3, 4, 0, 45, 0, [])), (45, (1, 5, 0, 0, 48, 112, [])), (48, (0, 5, 2, 0, 49, 0, [])), (49, (0, 3, 3, 0, 50, 0, [])), (50, (0, 3, 5, 0, 52, 0, [])), (52, (0, 15, 0, 0, 53, 0, [])), (53, (12, 50, 50, 0, 54, 0, [])), (54, (0, 3, 4, 0, 56, 0, [])), (56, (0, 15, 0, 0, 57, 0, [])), (57, (0, 3, 5, 0, 59, 0, [])), (59, (0, 5, 1, 0, 60, 0, [])), (60, (7, 17, 1, 0, 63, 0, [])), (63, (11, 0, 0, 0, 64, 0, [])), (64, (2, 3, 0, 0, 67, 84, [])), (67, (0, 5, 0, 0, 68, 0, [])), (68, (7, 17, 1, 0, 71, 0, [])), (71, (0, 3, 3, 0, 72, 0, [])), (72, (12, 50, 50, 0, 73, 0, [])), (73, (0, 5, 1, 0, 74, 0, [])), (74, (7, 17, 1, 0, 77, 0, [])), (77, (0, 3, 5, 0, 79, 0, [])), (79, (12, 50, 50, 0, 80, 0, [])), (80, (0, 15, 2, 0, 81, 0, [])), (81, (3, 0, 0, 0, 0, 85, [])), (84, (0, 0, 0, 0, 85, 0, [])), (85, (0, 15, 0, 0, 86, 0, [])), (86, (0, 6, 6, 0, 88, 0, [])), (88, (0, 5, 2, 0, 89, 0, [])), (89, (0, 3, 3, 0, 90, 0, [])), (90, (0, 3, 5, 0, 92, 0, [])), (92, (0, 15, 0, 0, 93, 0, [])), (93, (0, 3, 6, 0, 95, 0, [])), (95, (0, 0, 0, 10, 97, 0, [])), (97, (0, 15, 4, 0, 98, 0, [])), (98, (13, 50, 50, 0, 99, 0, [])), (99, (0, 3, 6, 0, 101, 0, [])), (101, (0, 0, 0, 10, 103, 0, [])), (103, (0, 15, 3, 0, 104, 0, [])), (104, (0, 6, 4, 0, 106, 0, [])), (106, (0, 9, 5, 1, 109, 0, [])), (109, (3, 0, 0, 0, 0, 33, [])), (112, (0, 9, 3, 1, 115, 0, [])), (115, (3, 0, 0, 0, 0, 18, [])), (118, (9, 17, 17, 0, 121, 0, [(0, 0), (0, 2)])), (121, (0, 12, 0, 0, 122, 0, [])), (122, (0, 5, 0, 0, 123, 0, [])), (123, (7, 17, 0, 0, 126, 0, [])), (126, (0, 5, 1, 0, 127, 0, [])), (127, (7, 17, 0, 0, 130, 0, [])), (130, (2, 0, 0, 0, 133, 137, [])), (133, (0, 0, 0, 1, 134, 0, [])), (134, (3, 0, 0, 0, 0, 138, [])), (137, (0, 0, 0, 0, 138, 0, [])), (138, (0, 5, 2, 0, 139, 0, [])), (139, (16, 0, 0, 0, 142, 0, [])), (142, (14, 0, 0, 4, 0, 0, []))], [(some 17, 3, [])], [], [], [])
theorem gd_yX12_times_X : ck_dec prog_15_method_11_code gt_yX12_times_X ge_yX12_times_X.2.2.2.2.1 = true := by decide +kernel
theorem gh_yX12_times_X {l : Launch} {G : am_G} {X : ck_XT} (g : gM l G X) {a : List Value} {h : List am_C} {mc ms : Nat} {Post : am_O → List am_C → Prop} (hay : (am_lay a).length ≤ 7) (H : ∀ (S : ck_SS) (SX : Nat → ck_SX), ck_hs G S SX Post mc ms (ck_cms [am_cn l G yX12_init (.code yX12_init prog_15_method_1_code 5 none) 1 20]) ge_yX12_times_X → (∀ pc, ck_sR G S pc) → ck_hw S → zw_hx SX Post mc ms → S 0 (am_ent a 7) [] h 0 0) : am_M l G yX12_times (.code yX12_times prog_15_method_11_code 7 (some (.object "ClockhouseModel$Num"))) 2 44 mc ms a h Post :=
  zw_handX (E := ge_yX12_times_X) (tb := gt_yX12_times_X) (init := false) (cm := (ck_cms [am_cn l G yX12_init (.code yX12_init prog_15_method_1_code 5 none) 1 20])) g.1.1 (by decide +kernel) rfl gd_yX12_times_X ⟨(List.forall_mem_nil _), (List.forall_mem_nil _), (List.forall_mem_nil _), (List.forall_mem_cons.mpr ⟨⟨⟨_, _, _, rfl, Or.inl w1656⟩, by decide, _, _, g_fd17_0⟩, (List.forall_mem_cons.mpr ⟨⟨⟨_, _, _, rfl, Or.inl w1658⟩, by decide, _, _, g_fd17_1⟩, (List.forall_mem_nil _)⟩)⟩), (List.forall_mem_cons.mpr ⟨⟨_, _, _, g_nw17, rfl, w1650, by decide⟩, (List.forall_mem_nil _)⟩), (List.forall_mem_nil _), (List.forall_mem_nil _), (List.forall_mem_nil _)⟩ (List.forall_mem_nil _) (fun h => nomatch h) ⟨_, rfl, Or.inl ⟨_, rfl⟩⟩ (by decide) (by decide) g_oi g_ar
    (fun s hk _ => (List.forall_mem_nil _)) (fun s hk => (List.forall_mem_nil _))
    (List.forall_mem_nil _) (List.forall_mem_cons.mpr ⟨(ck_kI g_y_yX12_init w1652 w1653 rfl (by decide) (by decide)), (List.forall_mem_nil _)⟩) (List.forall_mem_nil _) (List.forall_mem_nil _)
    (List.forall_mem_nil _) hay H
def gt_yX12_of_X : ck_TB := ([], [(19, 10)], [], [], [], [(10, 17, [0, 2])], [], [], ([], [(21, 0)], [], []), [], [], [], 4)
def ge_yX12_of_X : ck_E := (gT, [], (([], [], [], 0, []), ((0, []), (0, [])), [], [], ([], [], [], 0, []), []), 6, [(0, (0, 0, 0, 20, 2, 0, [])), (2, (10, 50, 50, 0, 4, 0, [])), (4, (0, 8, 2, 0, 5, 0, [])), (5, (0, 4, 0, 0, 6, 0, [])), (6, (0, 7, 3, 0, 7, 0, [])), (7, (0, 0, 0, 0, 8, 0, [])), (8, (0, 6, 5, 0, 10, 0, [])), (10, (0, 3, 5, 0, 12, 0, [])), (12, (0, 0, 0, 20, 14, 0, [])), (14, (2, 3, 0, 0, 17, 55, [])), (17, (0, 5, 2, 0, 18, 0, [])), (18, (0, 3, 5, 0, 20, 0, [])), (20, (0, 4, 3, 0, 21, 0, [])), (21, (0, 1, 0, 10, 24, 0, [])), (24, (0, 16, 4, 0, 25, 0, [])), (25, (0, 20, 0, 0, 26, 0, [])), (26, (13, 50, 50, 0, 27, 0, [])), (27, (0, 5, 2, 0, 28, 0, [])), (28, (0, 3, 5, 0, 30, 0, [])), (30, (12, 50, 50, 0, 31, 0, [])), (31, (1, 3, 0, 0, 34, 43, [])), (34, (0, 5, 2, 0, 35, 0, [])), (35, (0, 3, 5, 0, 37, 0, [])), (37, (0, 5, 2, 0, 38, 0, [])), (38, (0, 3, 5, 0, 40, 0, [])), (40, (12, 50, 50, 0, 41, 0, [])), (41, (0, 17, 0, 0, 42, 0, [])), (42, (13, 50, 50, 0, 43, 0, [])), (43, (0, 4, 3, 0, 44, 0, [])), (44, (0, 1, 0, 10, 47, 0, [])), (47, (0, 16, 3, 0, 48, 0, [])), (48, (0, 7, 3, 0, 49, 0, [])), (49, (0, 9, 5, 1, 52, 0, [])), (52, (3, 0, 0, 0, 0, 10, [])), (55, (9, 17, 17, 0, 58, 0, [(0, 0), (0, 2)])), (58, (0, 12, 0, 0, 59, 0, [])), (59, (0, 4, 0, 0, 60, 0, [])), (60, (0, 1, 0, 0, 61, 0, [])), (61, (0, 21, 0, 0, 62, 0, [])), (62, (1, 3, 0, 0, 65, 69, [])), (65, (0, 0, 0, 1, 66, 0, [])), (66, (3, 0, 0, 0, 0, 70, [])), (69, (0, 0, 0, 0, 70, 0, [])), (70, (0, 5, 2, 0, 71, 0, [])), (71, (16, 0, 0, 0, 74, 0, [])), (74, (14, 0, 0, 4, 0, 0, []))], [(some 17, 3, [])], [], [], [])
theorem gd_yX12_of_X : ck_dec prog_15_method_2_code gt_yX12_of_X ge_yX12_of_X.2.2.2.2.1 = true := by decide +kernel
theorem gh_yX12_of_X {l : Launch} {G : am_G} {X : ck_XT} (g : gM l G X) {a : List Value} {h : List am_C} {mc ms : Nat} {Post : am_O → List am_C → Prop} (hay : (am_lay a).length ≤ 6) (H : ∀ (S : ck_SS) (SX : Nat → ck_SX), ck_hs G S SX Post mc ms (ck_cms [am_cn l G yX12_init (.code yX12_init prog_15_method_1_code 5 none) 1 20]) ge_yX12_of_X → (∀ pc, ck_sR G S pc) → ck_hw S → zw_hx SX Post mc ms → S 0 (am_ent a 6) [] h 0 0) : am_M l G yX12_of (.code yX12_of prog_15_method_2_code 6 (some (.object "ClockhouseModel$Num"))) 2 44 mc ms a h Post :=
  zw_handX (E := ge_yX12_of_X) (tb := gt_yX12_of_X) (init := false) (cm := (ck_cms [am_cn l G yX12_init (.code yX12_init prog_15_method_1_code 5 none) 1 20])) g.1.1 (by decide +kernel) rfl gd_yX12_of_X ⟨(List.forall_mem_nil _), (List.forall_mem_cons.mpr ⟨ck_csl (by decide +kernel) w1649, (List.forall_mem_nil _)⟩), (List.forall_mem_nil _), (List.forall_mem_nil _), (List.forall_mem_cons.mpr ⟨⟨_, _, _, g_nw17, rfl, w1650, by decide⟩, (List.forall_mem_nil _)⟩), (List.forall_mem_nil _), (List.forall_mem_nil _), (List.forall_mem_nil _)⟩ (List.forall_mem_nil _) (fun h => nomatch h) ⟨_, rfl, Or.inl ⟨_, rfl⟩⟩ (by decide) (by decide) g_oi g_ar
    (fun s hk _ => (List.forall_mem_nil _)) (fun s hk => (List.forall_mem_nil _))
    (List.forall_mem_nil _) (List.forall_mem_cons.mpr ⟨(ck_kI g_y_yX12_init w1652 w1653 rfl (by decide) (by decide)), (List.forall_mem_nil _)⟩) (List.forall_mem_nil _) (List.forall_mem_nil _)
    (List.forall_mem_nil _) hay H
end
section
/-! THE REFERENCE'S NUMBERS, EXACTLY -/
/-- what was there stays, the heap grows -/
def zg (G : am_G) (h h' : List am_C) : Prop := h.length ≤ h'.length ∧ ∀ (p : Nat) (c : am_C), am_g G h p = some c → am_g G h' p = some c
theorem zg.rf {G : am_G} {h : List am_C} : zg G h h := ⟨Nat.le_refl _, fun _ _ e => e⟩
theorem zg.tr {G : am_G} {h h' h2 : List am_C} (a : zg G h h') (b : zg G h' h2) : zg G h h2 := ⟨Nat.le_trans a.1 b.1, fun p c e => b.2 p c (a.2 p c e)⟩
theorem zg_lt {G : am_G} {h : List am_C} {q : Nat} {c : am_C} (hg : am_g G h q = some c) : q < 1000 + h.length := by
  by_cases c_ : 1000 ≤ q
  · have := am_g_lt c_ hg
    omega
  · omega
/-- a cell that is new is written -/
theorem zg.w {G : am_G} {h h' h2 : List am_C} {q : Nat} {c : am_C} (a : zg G h h') (w : hd_w G h' h2 q c) (hq : 1000 + h.length ≤ q) : zg G h h2 := ⟨by rw [w.1]; exact a.1, fun p d e => (w.ne (by have := zg_lt e; omega)).trans (a.2 p d e)⟩
theorem zg.i {G : am_G} {h h' h2 : List am_C} {q : Nat} (a : zg G h h') (hl : h'.length ≤ h2.length) (hq : 1000 + h.length ≤ q) (f : ∀ (p : Nat) (c : am_C), p ≠ q → am_g G h' p = some c → am_g G h2 p = some c) : zg G h h2 := ⟨Nat.le_trans a.1 hl, fun p d e => f p d (by have := zg_lt e; omega) (a.2 p d e)⟩
theorem zw_W {S : ck_SS} {G : am_G} {Rc Rs pc nx ci t m k n : Nat} {ds : List Nat} {vs : List Value} {h : List am_C} {L : List (Option Value)} {st : List Value} (H : ck_sW S Rc Rs pc nx ci ds) (ht : t % 100 = ci) (hv : ds.map ck_d0 = vs) (hm : ds.length = m) (hk : k + 1 ≤ Rc) (hn : n + m ≤ Rs) (kk : ∀ (h' : List am_C) (a : Nat), a = 1000 + h.length → h'.length = h.length + 1 → zg G h h' → am_g G h' a = some (t, vs) → S nx L (.ref a :: st) h' (k + 1) (n + m)) : S pc L st h k n := by
  subst hv
  subst hm
  exact H t L st h k n ht hk hn (kk _ _ rfl (by rw [List.length_append]; rfl) ⟨by rw [List.length_append]; omega, fun p c hg => hd_old hg⟩ hd_new)
theorem zw_E {S : ck_SS} {G : am_G} {Rc Rs pc nx ci t N k n : Nat} {e : Int} {h : List am_C} {L : List (Option Value)} {st : List Value} (H : ck_sE S Rc Rs pc nx ci 0) (ht : t % 100 = ci) (he : e = (N : Int)) (hN : N ≤ 1000000) (hk : k + 1 ≤ Rc) (hn : n + N ≤ Rs) (kk : ∀ (h' : List am_C) (a : Nat), a = 1000 + h.length → h'.length = h.length + 1 → zg G h h' → am_g G h' a = some (t, hd_r (List.replicate N 0)) → S nx L (.ref a :: st) h' (k + 1) (n + N)) : S pc L (.int (Int32.ofInt e) :: st) h k n := by
  subst he
  refine H t L st h (Int32.ofInt (N : Int)) N k n ht (hd_oi (by omega) (by omega)) hN hk hn ?_
  rw [hd_r0]
  exact kk _ _ rfl (by rw [List.length_append]; rfl) ⟨by rw [List.length_append]; omega, fun p c hg => hd_old hg⟩ hd_new
/-- what a row of digits and a sign stand for -/
def zn_is (ds : List Int) (b z : Int) : Prop := hd_d ds ∧ hd_pl ds ds.length ∧ (b = 0 ∨ b = 1) ∧ (b = 1 → 0 < ds.length) ∧ z = (if b = 1 then -(hd_v ds) else hd_v ds)
def zn_N (G : am_G) (h : List am_C) (q : Nat) (z : Int) : Prop := ∃ (t d td : Nat) (b : Int) (ds : List Int), am_g G h q = some (t, [.int (Int32.ofInt b), .ref d]) ∧ t % 100 = 17 ∧ am_g G h d = some (td, hd_r ds) ∧ td % 100 = 50 ∧ zn_is ds b z
theorem zn_N.g {G : am_G} {h h' : List am_C} {q : Nat} {z : Int} (a : zn_N G h q z) (f : zg G h h') : zn_N G h' q z := by
  obtain ⟨t_, d_, td_, b_, ds_, a1_, a2_, a3_, a4_, a5_⟩ := a
  exact ⟨t_, d_, td_, b_, ds_, f.2 _ _ a1_, a2_, f.2 _ _ a3_, a4_, a5_⟩
theorem zn_is.zero {ds : List Int} {b z : Int} (h : zn_is ds b z) : z = 0 ↔ ds.length = 0 := by
  obtain ⟨h1_, h2_, h3_, h4_, h5_⟩ := h
  have nn_ := hd_v_nn h1_
  constructor
  · intro z0_
    apply Nat.eq_zero_of_not_pos
    intro p_
    have := h2_.pos h1_ p_
    rcases h3_ with c_ | c_
    · rw [if_neg (by omega)] at h5_; omega
    · rw [if_pos c_] at h5_; omega
  · intro l_
    rw [if_neg (fun y_ => by have := h4_ y_; omega), List.length_eq_zero_iff.mp l_] at h5_
    exact h5_
theorem zn_is.sgn {ds : List Int} {b z : Int} (h : zn_is ds b z) : (b = 1 ↔ z < 0) := by
  obtain ⟨h1_, h2_, h3_, h4_, h5_⟩ := h
  have nn_ := hd_v_nn h1_
  constructor
  · intro c_
    have := h2_.pos h1_ (h4_ c_)
    rw [if_pos c_] at h5_
    omega
  · intro c_
    rcases h3_ with d_ | d_
    · rw [if_neg (by omega)] at h5_; omega
    · exact d_
theorem zn_is.abs {ds : List Int} {b z : Int} (h : zn_is ds b z) : (z.natAbs : Int) = hd_v ds := by
  obtain ⟨h1_, h2_, h3_, h4_, h5_⟩ := h
  have nn_ := hd_v_nn h1_
  rcases h3_ with d_ | d_
  · rw [if_neg (by omega)] at h5_; omega
  · rw [if_pos d_] at h5_; omega
/-- what a new number is made of -/
theorem zn_is.mk {ds : List Int} {b : Int} {n : Nat} (hd : hd_d ds) (hb : b = 0 ∨ b = 1) (hn : hd_pl ds n) : zn_is (ds.take n) (if b = 1 ∧ 0 < n then 1 else 0) (if b = 1 then -(hd_v ds) else hd_v ds) := by
  have l_ : (ds.take n).length = n := by rw [List.length_take]; exact Nat.min_eq_left hn.1
  have v_ := hn.take (Nat.le_refl n)
  refine ⟨hd.take n, ⟨Nat.le_refl _, fun j d hj he => ?_, fun h0 => ?_⟩, ?_, ?_, ?_⟩
  · rw [List.getElem?_eq_none hj] at he
    cases he
  · rw [l_] at h0 ⊢
    obtain ⟨d_, e1_, e2_⟩ := hn.2.2 h0
    exact ⟨d_, by rw [List.getElem?_take_of_lt (by omega)]; exact e1_, e2_⟩
  · by_cases c_ : b = 1 ∧ 0 < n
    · rw [if_pos c_]; exact Or.inr rfl
    · rw [if_neg c_]; exact Or.inl rfl
  · intro y_
    rw [l_]
    by_cases c_ : b = 1 ∧ 0 < n
    · exact c_.2
    · rw [if_neg c_] at y_; omega
  · rw [v_]
    by_cases c_ : b = 1 ∧ 0 < n
    · rw [if_pos c_, if_pos c_.1, if_pos rfl]
    · rw [if_neg c_]
      by_cases b_ : b = 1
      · have n0_ : n = 0 := by
          apply Nat.eq_zero_of_not_pos
          intro y_
          exact c_ ⟨b_, y_⟩
        have z_ : hd_v ds = 0 := by
          rw [← v_, n0_, List.take_zero]
          rfl
        rw [z_, if_pos b_, if_neg (by decide)]
        rfl
      · rw [if_neg b_, if_neg (by decide)]
set_option maxRecDepth 100000 in
set_option maxHeartbeats 4000000 in
theorem zn_init_M {l : Launch} {G : am_G} {X : ck_XT} (g : gM l G X) {q0 qd t0 td : Nat} {x0 x1 : Value} {b : Int} {ds : List Int} {h : List am_C} (hq : 1000 ≤ q0) (hb : b = 0 ∨ b = 1) (h0 : t0 % 100 = 17) (h1 : td % 100 = 50) (hl : ds.length ≤ 1000) (hd : hd_d ds) (g0 : am_g G h q0 = some (t0, [x0, x1])) (g1 : am_g G h qd = some (td, hd_r ds)) {mc ms : Nat} (hmc : 1 ≤ mc) (hms : ds.length ≤ ms) {Post : am_O → List am_C → Prop}
    (hP : ∀ (h' : List am_C) (d n : Nat), hd_pl ds n → d = 1000 + h.length → h'.length = h.length + 1 → am_g G h' q0 = some (t0, [.int (Int32.ofInt (if b = 1 ∧ 0 < n then 1 else 0)), .ref d]) → am_g G h' d = some (50, hd_r (ds.take n)) → (∀ (p : Nat) (c : am_C), p ≠ q0 → am_g G h p = some c → am_g G h' p = some c) → Post (.inl none) h') :
    am_M l G yX12_init (.code yX12_init prog_15_method_1_code 5 none) 1 20 mc ms [.ref q0, .int (Int32.ofInt b), .ref qd] h Post := by
  have h2 : 50 % 100 = 50 := rfl
  have h0' := h0
  refine gh_yX12_init_H g.1 (Nat.le_of_ble_eq_true rfl) fun S SX hs hr hw => ?_
  have hqd : qd ≠ q0 := by
    rintro rfl
    rw [g0] at g1
    have := (Prod.mk.inj (Option.some.inj g1)).1
    omega
  refine hr 0 _ _ _ _ _ q0 t0 t0 _ g0 hq (by omega) ?_
  have hw0 := hd_w.s (c := (t0, [x0, x1])) hq g0
  have k0 := hw0.at
  have k1 := (hw0.ne hqd).trans g1
  have hlen := hw0.1
  have H39 : ∀ (n : Nat) (v : Int), hd_pl ds n → 0 ≤ v → v ≤ 1 → v = (if b = 1 ∧ 0 < n then 1 else 0) → S 39 [some (.ref q0), some (.int (Int32.ofInt b)), some (.ref qd), some (.int (Int32.ofInt (n : Int))), none] [.int (Int32.ofInt v), .ref q0] (am_s h q0 (t0, [x0, x1])) 0 0 := by
    intro n v hn hv1 hv2 hv3_
    have hnl := hn.1
    have hv : ck_fv 1 (.int (Int32.ofInt v)) := ⟨_, rfl, by rw [hd_oi (by omega) (by omega)]; exact hv1, by rw [hd_oi (by omega) (by omega)]; exact hv2⟩
    refine hs 23 _ rfl _ _ _ _ _ _ _ _ _ hq k0 (by omega) hv ?_
    rw [show [x0, x1].set 0 (.int (Int32.ofInt v)) = [.int (Int32.ofInt v), x1] from rfl]
    have w2 := hd_w.s (c := (t0, [.int (Int32.ofInt v), x1])) hq k0
    have hl2 : (am_s (am_s h q0 (t0, [x0, x1])) q0 (t0, [.int (Int32.ofInt v), x1])).length = h.length := by rw [am_s_len, am_s_len]
    have hne : q0 ≠ 1000 + h.length := hd_neq g0
    have hnd : qd ≠ 1000 + h.length := hd_neq g1
    refine hs 24 _ rfl _ _ _ _ _ _ _ rfl ?_
    refine hs 25 _ rfl _ _ _ _ _ _ _ rfl ?_
    refine hs 26 _ rfl 50 _ _ _ _ n _ _ h2 (hd_oi (by omega) (by omega)) (by omega) (by omega) (by omega) ?_
    rw [show Int.toNat 0 = 0 from rfl]
    have j2 := hd_old (c := (50, List.replicate n (ck_d0 0))) w2.at
    refine hs 27 _ rfl _ _ _ _ _ _ _ _ _ hq j2 (by omega) (Or.inl ⟨_, rfl⟩) ?_
    rw [show ∀ u : Value, [.int (Int32.ofInt v), x1].set 1 u = [.int (Int32.ofInt v), u] from fun _ => rfl]
    refine hs 28 _ rfl _ _ _ _ _ _ _ rfl ?_
    refine hs 29 _ rfl _ _ _ _ _ _ _ rfl ?_
    have w4 := hd_w.s (c := (t0, [.int (Int32.ofInt v), .ref (1000 + (am_s (am_s h q0 (t0, [x0, x1])) q0 (t0, [.int (Int32.ofInt v), x1])).length)])) hq j2
    refine hd_init_l2 hs (qn := 1000 + (am_s (am_s h q0 (t0, [x0, x1])) q0 (t0, [.int (Int32.ofInt v), x1])).length) (by omega) h0' h1 h2 hnl hl (by rw [hl2]; exact hne) (by rw [hl2]; exact hnd) n 0 _ none (by omega) w4.at ?_ ?_ fun L h' hh => ?_
    · rw [w4.ne hqd, am_g_new, if_neg (by rw [hl2]; exact hnd), w2.ne hqd]; exact k1
    · rw [w4.ne (by rw [hl2]; exact fun z => hne z.symm), am_g_new, if_pos rfl, hd_r0]; rfl
    · have e : h' = am_s (h ++ [(50, hd_r (ds.take n))]) q0 (t0, [.int (Int32.ofInt v), .ref (1000 + h.length)]) := hd_eq fun p => by
        rw [hh.2 p, w4.2 p, am_g_new, w2.2 p, hw0.2 p, am_g_s hq (by rw [List.length_append]; have := am_g_lt hq g0; omega), am_g_new, hl2]
        by_cases e1 : p = q0
        · rw [if_pos e1, if_pos e1, if_neg (by rw [e1]; exact hne)]
        · by_cases e2 : p = 1000 + h.length
          · rw [if_pos e2, if_neg e1, if_pos e2]
          · rw [if_neg e2, if_neg e1, if_neg e2, if_neg e1, if_neg e1, if_neg e1, if_neg e2]
      rw [e]
      exact hs 42 _ rfl _ _ _ _ (by omega) (by omega) (by
        have wF_ := hd_w.s (c := (t0, [.int (Int32.ofInt v), .ref (1000 + h.length)])) hq (hd_old (c := (50, hd_r (ds.take n))) g0)
        rw [hv3_] at wF_ ⊢
        exact hP _ _ n hn rfl (wF_.1.trans (by rw [List.length_append]; rfl)) wF_.at ((wF_.ne (Ne.symm hne)).trans hd_new) fun p c hp hg => (wF_.ne hp).trans (hd_old hg))
  refine hs 0 _ rfl _ _ _ _ _ _ _ rfl ?_
  refine hs 1 _ rfl _ _ _ _ _ _ rfl (Nat.le_of_ble_eq_true rfl) ?_
  refine hs 2 _ rfl _ _ _ _ _ _ _ rfl ?_
  refine hd_Ln (hs 3 _ rfl) k1 h1 ?_
  refine hs 4 _ rfl _ _ _ _ _ _ _ rfl ?_
  refine hd_init_l1 hs h1 hl hd k1 (fun n hn => ?_) ds.length (Nat.le_refl _) fun j d hj he => by rw [List.getElem?_eq_none hj] at he; cases he
  have hnl := hn.1
  by_cases hb0 : b = 0
  · subst hb0
    refine hs 15 _ rfl _ _ _ _ _ _ _ rfl ?_
    refine hs 16 _ rfl _ _ _ _ _ _ _ rfl ?_
    refine hs 17 _ rfl _ _ _ _ _ _ (fun _ => ?_) (fun zq => absurd (hd_c1t (c := 0) (by omega) (by omega) (by omega : (0 : Int) = 0)) zq)
    refine hs 22 _ rfl _ _ _ _ _ _ _ rfl ?_
    exact H39 n 0 hn (by decide) (by decide) (by rw [if_neg (fun y_ => absurd y_.1 (by decide))])
  · by_cases hn0 : n = 0
    · subst hn0
      refine hs 15 _ rfl _ _ _ _ _ _ _ rfl ?_
      refine hs 16 _ rfl _ _ _ _ _ _ _ rfl ?_
      refine hs 17 _ rfl _ _ _ _ _ _ (fun zq => absurd (hd_c1z (c := 0) (by omega) (by omega) zq) (by omega : ¬ (b = 0))) (fun _ => ?_)
      refine hs 18 _ rfl _ _ _ _ _ _ _ rfl ?_
      refine hs 19 _ rfl _ _ _ _ _ _ (fun _ => ?_) (fun zq => absurd (hd_c1t (c := 5) (by omega) (by omega) (by omega : ((0 : Nat) : Int) ≤ 0)) zq)
      refine hs 22 _ rfl _ _ _ _ _ _ _ rfl ?_
      exact H39 0 0 hn (by decide) (by decide) (by rw [if_neg (fun y_ => absurd y_.2 (by decide))])
    · 
      refine hs 15 _ rfl _ _ _ _ _ _ _ rfl ?_
      refine hs 16 _ rfl _ _ _ _ _ _ _ rfl ?_
      refine hs 17 _ rfl _ _ _ _ _ _ (fun zq => absurd (hd_c1z (c := 0) (by omega) (by omega) zq) (by omega : ¬ (b = 0))) (fun _ => ?_)
      refine hs 18 _ rfl _ _ _ _ _ _ _ rfl ?_
      refine hs 19 _ rfl _ _ _ _ _ _ (fun zq => absurd (hd_c1z (c := 5) (by omega) (by omega) zq) (by omega : ¬ ((n : Int) ≤ 0))) (fun _ => ?_)
      refine hs 20 _ rfl _ _ _ _ _ _ _ rfl ?_
      refine hs 21 _ rfl _ _ _ _ _ ?_
      exact H39 n 1 hn (by decide) (by decide) (by rw [if_pos ⟨by omega, by omega⟩])
/-- a number is made: the answer of what ends with it -/
theorem zn_N.mk {G : am_G} {h' : List am_C} {q0 d t0 n : Nat} {b z : Int} {ds : List Int} (h0 : t0 % 100 = 17) (hd : hd_d ds) (hb : b = 0 ∨ b = 1) (hn : hd_pl ds n) (a1 : am_g G h' q0 = some (t0, [.int (Int32.ofInt (if b = 1 ∧ 0 < n then 1 else 0)), .ref d])) (a2 : am_g G h' d = some (50, hd_r (ds.take n))) (hz : (if b = 1 then -(hd_v ds) else hd_v ds) = z) : zn_N G h' q0 z := by
  subst hz
  exact ⟨t0, d, 50, _, _, a1, h0, a2, rfl, zn_is.mk hd hb hn⟩
set_option maxHeartbeats 4000000 in
theorem zn_isZero_M {l : Launch} {G : am_G} {X : ck_XT} (g : gM l G X)  {q t d td : Nat} {b z : Int} {ds : List Int} {h : List am_C} (hg : am_g G h q = some (t, [.int (Int32.ofInt b), .ref d])) (ht : t % 100 = 17) (hgd : am_g G h d = some (td, hd_r ds)) (htd : td % 100 = 50) (hi : zn_is ds b z) (hl : ds.length ≤ 1000) {mc ms : Nat} {Post : am_O → List am_C → Prop}
    (hP1 : z = 0 → Post (.inl (some (.int (Int32.ofInt 1)))) h) (hP0 : z ≠ 0 → Post (.inl (some (.int (Int32.ofInt 0)))) h) :
    am_M l G yX12_isZero (.code yX12_isZero prog_15_method_3_code 1 (some .boolean)) 1 20 mc ms [.ref q] h Post := by
  refine gh_yX12_isZero_X g (Nat.le_of_ble_eq_true rfl) fun S SX hs hr hw hx => ?_
  have rv : ∀ x : Int32, ck_fv 0 (.int x) := fun x => ⟨_, rfl⟩
  by_cases z_ : ds.length = 0
  · 
    refine hs 0 _ rfl _ _ _ _ _ _ _ rfl ?_
    refine hs 1 _ rfl _ _ _ _ _ _ _ _ _ (hg) ht rfl ?_
    refine hd_Ln (hs 2 _ rfl) (hgd) htd ?_
    refine hs 3 _ rfl _ _ _ _ _ _ (fun zq => absurd (hd_c1z (c := 1) (by omega) (by omega) zq) (by omega : ¬ ((ds.length : Int) ≠ 0))) (fun _ => ?_)
    refine hs 4 _ rfl _ _ _ _ _ _ _ rfl ?_
    refine hs 5 _ rfl _ _ _ _ _ ?_
    exact hs 7 _ rfl _ _ _ _ _ ⟨_, rfl, by decide, by decide⟩ (Nat.zero_le _) (Nat.zero_le _) (hP1 (hi.zero.mpr z_))
  · 
    refine hs 0 _ rfl _ _ _ _ _ _ _ rfl ?_
    refine hs 1 _ rfl _ _ _ _ _ _ _ _ _ (hg) ht rfl ?_
    refine hd_Ln (hs 2 _ rfl) (hgd) htd ?_
    refine hs 3 _ rfl _ _ _ _ _ _ (fun _ => ?_) (fun zq => absurd (hd_c1t (c := 1) (by omega) (by omega) (by omega : (ds.length : Int) ≠ 0)) zq)
    refine hs 6 _ rfl _ _ _ _ _ _ _ rfl ?_
    exact hs 7 _ rfl _ _ _ _ _ ⟨_, rfl, by decide, by decide⟩ (Nat.zero_le _) (Nat.zero_le _) (hP0 fun y_ => z_ (hi.zero.mp y_))
set_option maxHeartbeats 4000000 in
theorem zn_sign_M {l : Launch} {G : am_G} {X : ck_XT} (g : gM l G X)  {q t d td : Nat} {b z : Int} {ds : List Int} {h : List am_C} (hg : am_g G h q = some (t, [.int (Int32.ofInt b), .ref d])) (ht : t % 100 = 17) (hgd : am_g G h d = some (td, hd_r ds)) (htd : td % 100 = 50) (hi : zn_is ds b z) (hl : ds.length ≤ 1000) {mc ms : Nat} {Post : am_O → List am_C → Prop}
    (hP : Post (.inl (some (.int (Int32.ofInt z.sign)))) h) :
    am_M l G yX12_sign (.code yX12_sign prog_15_method_4_code 1 (some .int)) 2 40 mc ms [.ref q] h Post := by
  refine gh_yX12_sign_X g (Nat.le_of_ble_eq_true rfl) fun S SX hs hr hw hx => ?_
  have rv : ∀ x : Int32, ck_fv 0 (.int x) := fun x => ⟨_, rfl⟩
  by_cases z_ : z = 0
  · 
    refine hs 0 _ rfl _ _ _ _ _ _ _ rfl ?_
    refine zw_c (hs 1 _ rfl) (a := [.ref q]) (st := []) rfl rfl (Nat.le_of_ble_eq_true rfl) ⟨_, _, _, rfl, (hg), ht⟩ (Nat.zero_le _) (Nat.zero_le _) (zn_isZero_M g hg ht hgd htd hi hl (fun _ => ?_) (fun y_ => absurd z_ y_))
    show S 4 [some (.ref q)] [.int (Int32.ofInt (1 : Int))] _ _ _
    refine hs 2 _ rfl _ _ _ _ _ _ (fun zq => absurd (hd_c1z (c := 0) (by omega) (by omega) zq) (by omega : ¬ ((1 : Int) = 0))) (fun _ => ?_)
    refine hs 3 _ rfl _ _ _ _ _ _ _ rfl ?_
    refine hs 4 _ rfl _ _ _ _ _ ?_
    exact hs 11 _ rfl _ _ _ _ _ (rv _) (Nat.zero_le _) (Nat.zero_le _) (by rw [z_] at hP; exact hP)
  · by_cases c_ : b = 1
    · 
      refine hs 0 _ rfl _ _ _ _ _ _ _ rfl ?_
      refine zw_c (hs 1 _ rfl) (a := [.ref q]) (st := []) rfl rfl (Nat.le_of_ble_eq_true rfl) ⟨_, _, _, rfl, (hg), ht⟩ (Nat.zero_le _) (Nat.zero_le _) (zn_isZero_M g hg ht hgd htd hi hl (fun y_ => absurd y_ z_) (fun _ => ?_))
      show S 4 [some (.ref q)] [.int (Int32.ofInt (0 : Int))] _ _ _
      refine hs 2 _ rfl _ _ _ _ _ _ (fun _ => ?_) (fun zq => absurd (hd_c1t (c := 0) (by omega) (by omega) (by omega : (0 : Int) = 0)) zq)
      refine hs 5 _ rfl _ _ _ _ _ _ _ rfl ?_
      refine hs 6 _ rfl _ _ _ _ _ _ _ _ _ (hg) ht rfl ?_
      refine hs 7 _ rfl _ _ _ _ _ _ (fun zq => absurd (hd_c1z (c := 0) (by omega) (by omega) zq) (by omega : ¬ (b = 0))) (fun _ => ?_)
      refine hs 8 _ rfl _ _ _ _ _ _ _ rfl ?_
      refine hs 9 _ rfl _ _ _ _ _ ?_
      exact hs 11 _ rfl _ _ _ _ _ (rv _) (Nat.zero_le _) (Nat.zero_le _) (by rw [Int.sign_eq_neg_one_of_neg (hi.sgn.mp c_)] at hP; exact hP)
    · have b0_ : b = 0 := by
        rcases hi.2.2.1 with y_ | y_
        · exact y_
        · exact absurd y_ c_
      refine hs 0 _ rfl _ _ _ _ _ _ _ rfl ?_
      refine zw_c (hs 1 _ rfl) (a := [.ref q]) (st := []) rfl rfl (Nat.le_of_ble_eq_true rfl) ⟨_, _, _, rfl, (hg), ht⟩ (Nat.zero_le _) (Nat.zero_le _) (zn_isZero_M g hg ht hgd htd hi hl (fun y_ => absurd y_ z_) (fun _ => ?_))
      show S 4 [some (.ref q)] [.int (Int32.ofInt (0 : Int))] _ _ _
      refine hs 2 _ rfl _ _ _ _ _ _ (fun _ => ?_) (fun zq => absurd (hd_c1t (c := 0) (by omega) (by omega) (by omega : (0 : Int) = 0)) zq)
      refine hs 5 _ rfl _ _ _ _ _ _ _ rfl ?_
      refine hs 6 _ rfl _ _ _ _ _ _ _ _ _ (hg) ht rfl ?_
      refine hs 7 _ rfl _ _ _ _ _ _ (fun _ => ?_) (fun zq => absurd (hd_c1t (c := 0) (by omega) (by omega) (by omega : b = 0)) zq)
      refine hs 10 _ rfl _ _ _ _ _ _ _ rfl ?_
      exact hs 11 _ rfl _ _ _ _ _ (rv _) (Nat.zero_le _) (Nat.zero_le _) (by rw [Int.sign_eq_one_of_pos (show 0 < z by have := hi.sgn; omega)] at hP; exact hP)
set_option maxHeartbeats 4000000 in
theorem zn_many_M {l : Launch} {G : am_G} {X : ck_XT} (g : gM l G X)  {q t d td : Nat} {b z : Int} {ds : List Int} {h : List am_C} (hg : am_g G h q = some (t, [.int (Int32.ofInt b), .ref d])) (ht : t % 100 = 17) (hgd : am_g G h d = some (td, hd_r ds)) (htd : td % 100 = 50) (hi : zn_is ds b z) (hl : ds.length ≤ 1000) {mc ms : Nat} {Post : am_O → List am_C → Prop}
    (hP : Post (.inl (some (.int (Int32.ofInt ((if ds.length = 0 then 1 else ds.length : Nat) : Int))))) h) :
    am_M l G yX12_many (.code yX12_many prog_15_method_5_code 1 (some .int)) 2 40 mc ms [.ref q] h Post := by
  refine gh_yX12_many_X g (Nat.le_of_ble_eq_true rfl) fun S SX hs hr hw hx => ?_
  have rv : ∀ x : Int32, ck_fv 0 (.int x) := fun x => ⟨_, rfl⟩
  by_cases z_ : z = 0
  · 
    refine hs 0 _ rfl _ _ _ _ _ _ _ rfl ?_
    refine zw_c (hs 1 _ rfl) (a := [.ref q]) (st := []) rfl rfl (Nat.le_of_ble_eq_true rfl) ⟨_, _, _, rfl, (hg), ht⟩ (Nat.zero_le _) (Nat.zero_le _) (zn_isZero_M g hg ht hgd htd hi hl (fun _ => ?_) (fun y_ => absurd z_ y_))
    show S 4 [some (.ref q)] [.int (Int32.ofInt (1 : Int))] _ _ _
    refine hs 2 _ rfl _ _ _ _ _ _ (fun zq => absurd (hd_c1z (c := 0) (by omega) (by omega) zq) (by omega : ¬ ((1 : Int) = 0))) (fun _ => ?_)
    refine hs 3 _ rfl _ _ _ _ _ _ _ rfl ?_
    refine hs 4 _ rfl _ _ _ _ _ ?_
    exact hs 8 _ rfl _ _ _ _ _ (rv _) (Nat.zero_le _) (Nat.zero_le _) (by rw [if_pos (hi.zero.mp z_)] at hP; exact hP)
  · 
    refine hs 0 _ rfl _ _ _ _ _ _ _ rfl ?_
    refine zw_c (hs 1 _ rfl) (a := [.ref q]) (st := []) rfl rfl (Nat.le_of_ble_eq_true rfl) ⟨_, _, _, rfl, (hg), ht⟩ (Nat.zero_le _) (Nat.zero_le _) (zn_isZero_M g hg ht hgd htd hi hl (fun y_ => absurd y_ z_) (fun _ => ?_))
    show S 4 [some (.ref q)] [.int (Int32.ofInt (0 : Int))] _ _ _
    refine hs 2 _ rfl _ _ _ _ _ _ (fun _ => ?_) (fun zq => absurd (hd_c1t (c := 0) (by omega) (by omega) (by omega : (0 : Int) = 0)) zq)
    refine hs 5 _ rfl _ _ _ _ _ _ _ rfl ?_
    refine hs 6 _ rfl _ _ _ _ _ _ _ _ _ (hg) ht rfl ?_
    refine hd_Ln (hs 7 _ rfl) (hgd) htd ?_
    exact hs 8 _ rfl _ _ _ _ _ (rv _) (Nat.zero_le _) (Nat.zero_le _) (by rw [if_neg (fun y_ => z_ (hi.zero.mpr y_))] at hP; exact hP)
set_option maxHeartbeats 4000000 in
theorem zn_turned_M {l : Launch} {G : am_G} {X : ck_XT} (g : gM l G X)  {q t d td : Nat} {b z : Int} {ds : List Int} {h : List am_C} (hg : am_g G h q = some (t, [.int (Int32.ofInt b), .ref d])) (ht : t % 100 = 17) (hgd : am_g G h d = some (td, hd_r ds)) (htd : td % 100 = 50) (hi : zn_is ds b z) (hl : ds.length ≤ 1000) {mc ms : Nat} {Post : am_O → List am_C → Prop}
    (hmc : 2 ≤ mc) (hms : 2 + ds.length ≤ ms)
    (hP : ∀ (h' : List am_C) (p : Nat), zg G h h' → zn_N G h' p (-z) → Post (.inl (some (.ref p))) h') :
    am_M l G yX12_turned (.code yX12_turned prog_15_method_6_code 1 (some (.object "ClockhouseModel$Num"))) 2 44 mc ms [.ref q] h Post := by
  refine gh_yX12_turned_X g (Nat.le_of_ble_eq_true rfl) fun S SX hs hr hw hx => ?_
  have rv : ∀ x : Int32, ck_fv 0 (.int x) := fun x => ⟨_, rfl⟩
  have lq_ := zg_lt hg
  by_cases c_ : b = 1
  · 
    refine zw_W (G := G) (hs 0 _ rfl) (t := 17) (vs := [.int 0, .null]) (m := 2) rfl rfl rfl (by omega) (by omega) fun hz95 az96 ez97 lz98 gz99 cz100 => ?_
    refine hs 1 _ rfl _ _ _ _ _ _ _ rfl ?_
    refine hs 2 _ rfl _ _ _ _ _ _ _ rfl ?_
    refine hs 3 _ rfl _ _ _ _ _ _ _ _ _ ((gz99.2 _ _ hg)) ht rfl ?_
    refine hs 4 _ rfl _ _ _ _ _ _ (fun _ => ?_) (fun zq => absurd (hd_c1t (c := 1) (by omega) (by omega) (by omega : b ≠ 0)) zq)
    refine hs 7 _ rfl _ _ _ _ _ _ _ rfl ?_
    refine hs 8 _ rfl _ _ _ _ _ _ _ rfl ?_
    refine hs 9 _ rfl _ _ _ _ _ _ _ _ _ ((gz99.2 _ _ hg)) ht rfl ?_
    refine zw_cmn (hs 10 _ rfl) (a := [.ref az96, .int (Int32.ofInt (0 : Int)), .ref d]) (st := [.ref az96]) 1 ds.length rfl rfl (Nat.le_of_ble_eq_true rfl) ⟨_, _, _, rfl, (cz100), rfl⟩ (by omega) (by omega) (⟨zn_init_M g (ds := ds) (by omega) (Or.inl rfl) rfl htd hl hi.1 (cz100) ((gz99.2 _ _ hgd)) (by decide) (Nat.le_refl _) fun hi1_ d1_ n1_ p1_ e1_ l1_ a1_ a2_ f1_ => ?_, fun _ _ h9 => h9⟩)
    show S 23 [some (.ref q)] [.ref az96] _ _ _
    exact hs 11 _ rfl _ _ _ _ _ (Or.inl ⟨_, rfl⟩) (by omega) (by omega) (hP _ _ (zg.i gz99 (by omega) (by omega) f1_) (zn_N.mk rfl hi.1 (Or.inl rfl) p1_ a1_ a2_ (by rw [if_neg (by decide), hi.2.2.2.2, if_pos c_, Int.neg_neg])))
  · have b0_ : b = 0 := by
      rcases hi.2.2.1 with y_ | y_
      · exact y_
      · exact absurd y_ c_
    refine zw_W (G := G) (hs 0 _ rfl) (t := 17) (vs := [.int 0, .null]) (m := 2) rfl rfl rfl (by omega) (by omega) fun hz101 az102 ez103 lz104 gz105 cz106 => ?_
    refine hs 1 _ rfl _ _ _ _ _ _ _ rfl ?_
    refine hs 2 _ rfl _ _ _ _ _ _ _ rfl ?_
    refine hs 3 _ rfl _ _ _ _ _ _ _ _ _ ((gz105.2 _ _ hg)) ht rfl ?_
    refine hs 4 _ rfl _ _ _ _ _ _ (fun zq => absurd (hd_c1z (c := 1) (by omega) (by omega) zq) (by omega : ¬ (b ≠ 0))) (fun _ => ?_)
    refine hs 5 _ rfl _ _ _ _ _ _ _ rfl ?_
    refine hs 6 _ rfl _ _ _ _ _ ?_
    refine hs 8 _ rfl _ _ _ _ _ _ _ rfl ?_
    refine hs 9 _ rfl _ _ _ _ _ _ _ _ _ ((gz105.2 _ _ hg)) ht rfl ?_
    refine zw_cmn (hs 10 _ rfl) (a := [.ref az102, .int (Int32.ofInt (1 : Int)), .ref d]) (st := [.ref az102]) 1 ds.length rfl rfl (Nat.le_of_ble_eq_true rfl) ⟨_, _, _, rfl, (cz106), rfl⟩ (by omega) (by omega) (⟨zn_init_M g (ds := ds) (by omega) (Or.inr rfl) rfl htd hl hi.1 (cz106) ((gz105.2 _ _ hgd)) (by decide) (Nat.le_refl _) fun hi1_ d1_ n1_ p1_ e1_ l1_ a1_ a2_ f1_ => ?_, fun _ _ h9 => h9⟩)
    show S 23 [some (.ref q)] [.ref az102] _ _ _
    exact hs 11 _ rfl _ _ _ _ _ (Or.inl ⟨_, rfl⟩) (by omega) (by omega) (hP _ _ (zg.i gz105 (by omega) (by omega) f1_) (zn_N.mk rfl hi.1 (Or.inr rfl) p1_ a1_ a2_ (by rw [if_pos rfl, hi.2.2.2.2, if_neg c_])))
set_option maxHeartbeats 4000000 in
theorem zn_compare_M {l : Launch} {G : am_G} {X : ck_XT} (g : gM l G X) {p q tp tq : Nat} {A B : List Int} {h : List am_C} (hgp : am_g G h p = some (tp, hd_r A)) (htp : tp % 100 = 50) (hgq : am_g G h q = some (tq, hd_r B)) (htq : tq % 100 = 50) (hda : hd_d A) (hdb : hd_d B) (hpa : hd_pl A A.length) (hpb : hd_pl B B.length) (hla : A.length ≤ 1000) (hlb : B.length ≤ 1000) {mc ms : Nat} {Post : am_O → List am_C → Prop}
    (hP : ∀ c : Int, (-1 ≤ c ∧ c ≤ 1) → ((c < 0 ∧ hd_v A < hd_v B) ∨ (c = 0 ∧ hd_v A = hd_v B) ∨ (0 < c ∧ hd_v B < hd_v A)) → Post (.inl (some (.int (Int32.ofInt c)))) h) :
    am_M l G yX12_compare (.code yX12_compare prog_15_method_8_code 3 (some .int)) 1 20 mc ms [.ref p, .ref q] h Post := by
  refine gh_yX12_compare_X g (Nat.le_of_ble_eq_true rfl) fun S SX hs hr hw hx => ?_
  have rv : ∀ x : Int32, ck_fv 0 (.int x) := fun x => ⟨_, rfl⟩
  by_cases c_ : A.length < B.length
  · 
    refine hs 0 _ rfl _ _ _ _ _ _ _ rfl ?_
    refine hd_Ln (hs 1 _ rfl) (hgp) htp ?_
    refine hs 2 _ rfl _ _ _ _ _ _ _ rfl ?_
    refine hd_Ln (hs 3 _ rfl) (hgq) htq ?_
    refine hs 4 _ rfl _ _ _ _ _ _ _ (fun zq => absurd (hd_c2z (c := 0) (by omega) (by omega) (by omega) (by omega) zq) (by omega : ¬ (((A.length : Int) - (B.length : Int)) = 0))) (fun _ => ?_)
    refine hs 5 _ rfl _ _ _ _ _ _ _ rfl ?_
    refine hd_Ln (hs 6 _ rfl) (hgp) htp ?_
    refine hs 7 _ rfl _ _ _ _ _ _ _ rfl ?_
    refine hd_Ln (hs 8 _ rfl) (hgq) htq ?_
    refine hs 9 _ rfl _ _ _ _ _ _ _ (fun zq => absurd (hd_c2z (c := 3) (by omega) (by omega) (by omega) (by omega) zq) (by omega : ¬ (0 ≤ ((A.length : Int) - (B.length : Int))))) (fun _ => ?_)
    refine hs 10 _ rfl _ _ _ _ _ _ _ rfl ?_
    refine hs 11 _ rfl _ _ _ _ _ ?_
    exact hs 13 _ rfl _ _ _ _ _ (rv _) (Nat.zero_le _) (Nat.zero_le _) (hP _ ⟨by decide, by decide⟩ (Or.inl ⟨by omega, hpa.less hpb hda hdb c_⟩))
  · by_cases c2_ : B.length < A.length
    · 
      refine hs 0 _ rfl _ _ _ _ _ _ _ rfl ?_
      refine hd_Ln (hs 1 _ rfl) (hgp) htp ?_
      refine hs 2 _ rfl _ _ _ _ _ _ _ rfl ?_
      refine hd_Ln (hs 3 _ rfl) (hgq) htq ?_
      refine hs 4 _ rfl _ _ _ _ _ _ _ (fun zq => absurd (hd_c2z (c := 0) (by omega) (by omega) (by omega) (by omega) zq) (by omega : ¬ (((A.length : Int) - (B.length : Int)) = 0))) (fun _ => ?_)
      refine hs 5 _ rfl _ _ _ _ _ _ _ rfl ?_
      refine hd_Ln (hs 6 _ rfl) (hgp) htp ?_
      refine hs 7 _ rfl _ _ _ _ _ _ _ rfl ?_
      refine hd_Ln (hs 8 _ rfl) (hgq) htq ?_
      refine hs 9 _ rfl _ _ _ _ _ _ _ (fun _ => ?_) (fun zq => absurd (hd_c2t (c := 3) (by omega) (by omega) (by omega) (by omega) (by omega : 0 ≤ ((A.length : Int) - (B.length : Int)))) zq)
      refine hs 12 _ rfl _ _ _ _ _ _ _ rfl ?_
      exact hs 13 _ rfl _ _ _ _ _ (rv _) (Nat.zero_le _) (Nat.zero_le _) (hP _ ⟨by decide, by decide⟩ (Or.inr (Or.inr ⟨by omega, hpb.less hpa hdb hda c2_⟩)))
    · have loop_ : ∀ (k_ : Nat), k_ ≤ A.length → A.drop k_ = B.drop k_ → S 25 [some (.ref p), some (.ref q), some (.int (Int32.ofInt ((k_ : Int) - (1 : Int))))] [] h 0 0 := by
        intro k_
        induction k_ with
        | zero =>
          intro hk_ dr_
          rw [List.drop_zero, List.drop_zero] at dr_
          have kz_ : (((0 : Nat) : Int) - (1 : Int)) < 0 := by omega
          refine hs 19 _ rfl _ _ _ _ _ _ _ rfl ?_
          refine hs 20 _ rfl _ _ _ _ _ _ (fun _ => ?_) (fun zq => absurd (hd_c1t (c := 2) (by omega) (by omega) (by omega : (((0 : Nat) : Int) - (1 : Int)) < 0)) zq)
          refine hs 41 _ rfl _ _ _ _ _ _ _ rfl ?_
          exact hs 42 _ rfl _ _ _ _ _ (rv _) (Nat.zero_le _) (Nat.zero_le _) (hP _ ⟨by decide, by decide⟩ (Or.inr (Or.inl ⟨rfl, by rw [dr_]⟩)))
        | succ k_ ih_ =>
          intro hk_ dr_
          obtain ⟨a_, ga_⟩ : ∃ a_ : Int, A[k_]? = some a_ := ⟨_, List.getElem?_eq_getElem (by omega)⟩
          obtain ⟨b_, gb_⟩ : ∃ b_ : Int, B[k_]? = some b_ := ⟨_, List.getElem?_eq_getElem (by omega)⟩
          have da_ := hda.at ga_
          have db_ := hdb.at gb_
          rw [show (((k_ + 1 : Nat) : Int) - (1 : Int)) = ((k_ : Int) + (1 : Int) - (1 : Int)) by omega]
          rcases Int.lt_trichotomy a_ b_ with e_ | e_ | e_
          · 
            refine hs 19 _ rfl _ _ _ _ _ _ _ rfl ?_
            refine hs 20 _ rfl _ _ _ _ _ _ (fun zq => absurd (hd_c1z (c := 2) (by omega) (by omega) zq) (by omega : ¬ (((k_ : Int) + (1 : Int) - (1 : Int)) < 0))) (fun _ => ?_)
            refine hs 21 _ rfl _ _ _ _ _ _ _ rfl ?_
            refine hs 22 _ rfl _ _ _ _ _ _ _ rfl ?_
            refine hd_A (hs 23 _ rfl) (by decide) (by decide) (hgp) htp (j := k_) (by omega) (by omega) ga_ ?_
            refine hs 24 _ rfl _ _ _ _ _ _ _ rfl ?_
            refine hs 25 _ rfl _ _ _ _ _ _ _ rfl ?_
            refine hd_A (hs 26 _ rfl) (by decide) (by decide) (hgq) htq (j := k_) (by omega) (by omega) gb_ ?_
            refine hs 27 _ rfl _ _ _ _ _ _ _ (fun zq => absurd (hd_c2z (c := 0) (by omega) (by omega) (by omega) (by omega) zq) (by omega : ¬ ((a_ - b_) = 0))) (fun _ => ?_)
            refine hs 28 _ rfl _ _ _ _ _ _ _ rfl ?_
            refine hs 29 _ rfl _ _ _ _ _ _ _ rfl ?_
            refine hd_A (hs 30 _ rfl) (by decide) (by decide) (hgp) htp (j := k_) (by omega) (by omega) ga_ ?_
            refine hs 31 _ rfl _ _ _ _ _ _ _ rfl ?_
            refine hs 32 _ rfl _ _ _ _ _ _ _ rfl ?_
            refine hd_A (hs 33 _ rfl) (by decide) (by decide) (hgq) htq (j := k_) (by omega) (by omega) gb_ ?_
            refine hs 34 _ rfl _ _ _ _ _ _ _ (fun zq => absurd (hd_c2z (c := 3) (by omega) (by omega) (by omega) (by omega) zq) (by omega : ¬ (0 ≤ (a_ - b_)))) (fun _ => ?_)
            refine hs 35 _ rfl _ _ _ _ _ _ _ rfl ?_
            refine hs 36 _ rfl _ _ _ _ _ ?_
            exact hs 38 _ rfl _ _ _ _ _ (rv _) (Nat.zero_le _) (Nat.zero_le _) (hP _ ⟨by decide, by decide⟩ (Or.inl ⟨by omega, hd_cmp hda hdb ga_ gb_ dr_ e_⟩))
          · 
            refine hs 19 _ rfl _ _ _ _ _ _ _ rfl ?_
            refine hs 20 _ rfl _ _ _ _ _ _ (fun zq => absurd (hd_c1z (c := 2) (by omega) (by omega) zq) (by omega : ¬ (((k_ : Int) + (1 : Int) - (1 : Int)) < 0))) (fun _ => ?_)
            refine hs 21 _ rfl _ _ _ _ _ _ _ rfl ?_
            refine hs 22 _ rfl _ _ _ _ _ _ _ rfl ?_
            refine hd_A (hs 23 _ rfl) (by decide) (by decide) (hgp) htp (j := k_) (by omega) (by omega) ga_ ?_
            refine hs 24 _ rfl _ _ _ _ _ _ _ rfl ?_
            refine hs 25 _ rfl _ _ _ _ _ _ _ rfl ?_
            refine hd_A (hs 26 _ rfl) (by decide) (by decide) (hgq) htq (j := k_) (by omega) (by omega) gb_ ?_
            refine hs 27 _ rfl _ _ _ _ _ _ _ (fun _ => ?_) (fun zq => absurd (hd_c2t (c := 0) (by omega) (by omega) (by omega) (by omega) (by omega : (a_ - b_) = 0)) zq)
            refine hs 39 _ rfl _ _ _ _ _ _ _ (hd_inc rfl) ?_
            refine hs 40 _ rfl _ _ _ _ _ ?_
            rw [show ((k_ : Int) + (1 : Int) - (1 : Int) + (-1 : Int)) = ((k_ : Int) - (1 : Int)) by omega]
            refine ih_ (by omega) ?_
            rw [List.drop_eq_getElem_cons (show k_ < A.length by omega), List.drop_eq_getElem_cons (show k_ < B.length by omega), dr_]
            have a2_ := List.getElem?_eq_getElem (show k_ < A.length by omega)
            have b2_ := List.getElem?_eq_getElem (show k_ < B.length by omega)
            rw [ga_] at a2_
            rw [gb_] at b2_
            rw [← Option.some.inj a2_, ← Option.some.inj b2_, e_]
          · 
            refine hs 19 _ rfl _ _ _ _ _ _ _ rfl ?_
            refine hs 20 _ rfl _ _ _ _ _ _ (fun zq => absurd (hd_c1z (c := 2) (by omega) (by omega) zq) (by omega : ¬ (((k_ : Int) + (1 : Int) - (1 : Int)) < 0))) (fun _ => ?_)
            refine hs 21 _ rfl _ _ _ _ _ _ _ rfl ?_
            refine hs 22 _ rfl _ _ _ _ _ _ _ rfl ?_
            refine hd_A (hs 23 _ rfl) (by decide) (by decide) (hgp) htp (j := k_) (by omega) (by omega) ga_ ?_
            refine hs 24 _ rfl _ _ _ _ _ _ _ rfl ?_
            refine hs 25 _ rfl _ _ _ _ _ _ _ rfl ?_
            refine hd_A (hs 26 _ rfl) (by decide) (by decide) (hgq) htq (j := k_) (by omega) (by omega) gb_ ?_
            refine hs 27 _ rfl _ _ _ _ _ _ _ (fun zq => absurd (hd_c2z (c := 0) (by omega) (by omega) (by omega) (by omega) zq) (by omega : ¬ ((a_ - b_) = 0))) (fun _ => ?_)
            refine hs 28 _ rfl _ _ _ _ _ _ _ rfl ?_
            refine hs 29 _ rfl _ _ _ _ _ _ _ rfl ?_
            refine hd_A (hs 30 _ rfl) (by decide) (by decide) (hgp) htp (j := k_) (by omega) (by omega) ga_ ?_
            refine hs 31 _ rfl _ _ _ _ _ _ _ rfl ?_
            refine hs 32 _ rfl _ _ _ _ _ _ _ rfl ?_
            refine hd_A (hs 33 _ rfl) (by decide) (by decide) (hgq) htq (j := k_) (by omega) (by omega) gb_ ?_
            refine hs 34 _ rfl _ _ _ _ _ _ _ (fun _ => ?_) (fun zq => absurd (hd_c2t (c := 3) (by omega) (by omega) (by omega) (by omega) (by omega : 0 ≤ (a_ - b_))) zq)
            refine hs 37 _ rfl _ _ _ _ _ _ _ rfl ?_
            exact hs 38 _ rfl _ _ _ _ _ (rv _) (Nat.zero_le _) (Nat.zero_le _) (hP _ ⟨by decide, by decide⟩ (Or.inr (Or.inr ⟨by omega, hd_cmp hdb hda gb_ ga_ dr_.symm e_⟩)))
      refine hs 0 _ rfl _ _ _ _ _ _ _ rfl ?_
      refine hd_Ln (hs 1 _ rfl) (hgp) htp ?_
      refine hs 2 _ rfl _ _ _ _ _ _ _ rfl ?_
      refine hd_Ln (hs 3 _ rfl) (hgq) htq ?_
      refine hs 4 _ rfl _ _ _ _ _ _ _ (fun _ => ?_) (fun zq => absurd (hd_c2t (c := 0) (by omega) (by omega) (by omega) (by omega) (by omega : ((A.length : Int) - (B.length : Int)) = 0)) zq)
      refine hs 14 _ rfl _ _ _ _ _ _ _ rfl ?_
      refine hd_Ln (hs 15 _ rfl) (hgp) htp ?_
      refine hs 16 _ rfl _ _ _ _ _ _ _ rfl ?_
      refine hs 17 _ rfl _ _ _ _ _ _ _ hd_sub ?_
      refine hs 18 _ rfl _ _ _ _ _ _ _ rfl ?_
      exact loop_ A.length (Nat.le_refl _) (by rw [List.drop_of_length_le (Nat.le_refl _), List.drop_of_length_le (by omega)])
theorem zn_mstep {v m d : Int} : (v % m * 10 + d) % m = (d + 10 * v) % m := by
  rw [Int.add_emod, Int.mul_emod, Int.emod_emod, ← Int.mul_emod, ← Int.add_emod, Int.add_comm, Int.mul_comm]
theorem zn_mneg {v m l_ : Int} (hm : 0 < m) (e : l_ = v % m) (h0 : 0 < l_) : (-v) % m = m - l_ := by
  have h1_ := Int.emod_lt_of_pos v hm
  have h2_ := Int.mul_ediv_add_emod v m
  have a_ : -v = (m - l_) + m * (-(v / m) - 1) := by
    rw [Int.mul_sub, Int.mul_neg, Int.mul_one, e]
    omega
  rw [a_, Int.add_mul_emod_self_left]
  exact Int.emod_eq_of_lt (by omega) (by omega)
theorem zn_mneg0 {v m l_ : Int} (hm : 0 < m) (e : l_ = v % m) (h0 : l_ = 0) : (-v) % m = l_ := by
  have a_ : m ∣ v := Int.dvd_of_emod_eq_zero (by omega)
  rw [h0]
  exact Int.emod_eq_zero_of_dvd (Int.dvd_neg.mpr a_)
set_option maxHeartbeats 4000000 in
theorem zn_mod_M {l : Launch} {G : am_G} {X : ck_XT} (g : gM l G X)  {q t d td m : Nat} {b z : Int} {ds : List Int} {h : List am_C} (hg : am_g G h q = some (t, [.int (Int32.ofInt b), .ref d])) (ht : t % 100 = 17) (hgd : am_g G h d = some (td, hd_r ds)) (htd : td % 100 = 50) (hi : zn_is ds b z) (hl : ds.length ≤ 1000) (hm : 1 ≤ m) (hm2 : m ≤ 1000) {mc ms : Nat} {Post : am_O → List am_C → Prop}
    (hP : Post (.inl (some (.int (Int32.ofInt (z % (m : Int)))))) h) :
    am_M l G yX12_mod_ (.code yX12_mod_ prog_15_method_19_code 4 (some .int)) 1 20 mc ms [.ref q, .int (Int32.ofInt (m : Int))] h Post := by
  refine gh_yX12_mod__X g (Nat.le_of_ble_eq_true rfl) fun S SX hs hr hw hx => ?_
  have rv : ∀ x : Int32, ck_fv 0 (.int x) := fun x => ⟨_, rfl⟩
  have hm1 : (0 : Int) < (m : Int) := by omega
  have zv_ := hi.2.2.2.2
  have fin_ : ∀ (lf_ : Int) (w_ : Option Value), lf_ = hd_v ds % (m : Int) → S 34 [some (.ref q), some (.int (Int32.ofInt (m : Int))), some (.int (Int32.ofInt lf_)), w_] [] h 0 0 := by
    intro lf_ w_ e_
    have l0_ := Int.emod_nonneg (hd_v ds) (b := (m : Int)) (by omega)
    have l1_ := Int.emod_lt_of_pos (hd_v ds) hm1
    by_cases c_ : b = 1
    · rw [if_pos c_] at zv_
      rw [zv_] at hP
      by_cases c2_ : 0 < lf_
      · 
        refine hs 23 _ rfl _ _ _ _ _ _ _ rfl ?_
        refine hs 24 _ rfl _ _ _ _ _ _ _ _ _ (hg) ht rfl ?_
        refine hs 25 _ rfl _ _ _ _ _ _ (fun zq => absurd (hd_c1z (c := 0) (by omega) (by omega) zq) (by omega : ¬ (b = 0))) (fun _ => ?_)
        refine hs 26 _ rfl _ _ _ _ _ _ _ rfl ?_
        refine hs 27 _ rfl _ _ _ _ _ _ (fun zq => absurd (hd_c1z (c := 5) (by omega) (by omega) zq) (by omega : ¬ (lf_ ≤ 0))) (fun _ => ?_)
        refine hs 28 _ rfl _ _ _ _ _ _ _ rfl ?_
        refine hs 29 _ rfl _ _ _ _ _ _ _ rfl ?_
        refine hs 30 _ rfl _ _ _ _ _ _ _ hd_sub ?_
        refine hs 31 _ rfl _ _ _ _ _ ?_
        exact hs 33 _ rfl _ _ _ _ _ (rv _) (Nat.zero_le _) (Nat.zero_le _) (by rw [zn_mneg hm1 e_ c2_] at hP; exact hP)
      · 
        refine hs 23 _ rfl _ _ _ _ _ _ _ rfl ?_
        refine hs 24 _ rfl _ _ _ _ _ _ _ _ _ (hg) ht rfl ?_
        refine hs 25 _ rfl _ _ _ _ _ _ (fun zq => absurd (hd_c1z (c := 0) (by omega) (by omega) zq) (by omega : ¬ (b = 0))) (fun _ => ?_)
        refine hs 26 _ rfl _ _ _ _ _ _ _ rfl ?_
        refine hs 27 _ rfl _ _ _ _ _ _ (fun _ => ?_) (fun zq => absurd (hd_c1t (c := 5) (by omega) (by omega) (by omega : lf_ ≤ 0)) zq)
        refine hs 32 _ rfl _ _ _ _ _ _ _ rfl ?_
        exact hs 33 _ rfl _ _ _ _ _ (rv _) (Nat.zero_le _) (Nat.zero_le _) (by rw [zn_mneg0 hm1 e_ (by omega)] at hP; exact hP)
    · have b0_ : b = 0 := by
        rcases hi.2.2.1 with y_ | y_
        · exact y_
        · exact absurd y_ c_
      rw [if_neg c_] at zv_
      rw [zv_] at hP
      refine hs 23 _ rfl _ _ _ _ _ _ _ rfl ?_
      refine hs 24 _ rfl _ _ _ _ _ _ _ _ _ (hg) ht rfl ?_
      refine hs 25 _ rfl _ _ _ _ _ _ (fun _ => ?_) (fun zq => absurd (hd_c1t (c := 0) (by omega) (by omega) (by omega : b = 0)) zq)
      refine hs 32 _ rfl _ _ _ _ _ _ _ rfl ?_
      exact hs 33 _ rfl _ _ _ _ _ (rv _) (Nat.zero_le _) (Nat.zero_le _) (by rw [e_]; exact hP)
  have loop_ : ∀ (k_ : Nat) (lf_ : Int), k_ ≤ ds.length → lf_ = hd_v (ds.drop k_) % (m : Int) → S 10 [some (.ref q), some (.int (Int32.ofInt (m : Int))), some (.int (Int32.ofInt lf_)), some (.int (Int32.ofInt ((k_ : Int) - (1 : Int))))] [] h 0 0 := by
    intro k_
    induction k_ with
    | zero =>
      intro lf_ hk_ e_
      rw [List.drop_zero] at e_
      refine hs 8 _ rfl _ _ _ _ _ _ _ rfl ?_
      refine hs 9 _ rfl _ _ _ _ _ _ (fun _ => ?_) (fun zq => absurd (hd_c1t (c := 2) (by omega) (by omega) (by omega : (((0 : Nat) : Int) - (1 : Int)) < 0)) zq)
      exact fin_ lf_ _ e_
    | succ k_ ih_ =>
      intro lf_ hk_ e_
      obtain ⟨a_, ga_⟩ : ∃ a_ : Int, ds[k_]? = some a_ := ⟨_, List.getElem?_eq_getElem (by omega)⟩
      have da_ := hi.1.at ga_
      have l0_ := Int.emod_nonneg (hd_v (ds.drop (k_ + 1))) (b := (m : Int)) (by omega)
      have l1_ := Int.emod_lt_of_pos (hd_v (ds.drop (k_ + 1))) hm1
      rw [show (((k_ + 1 : Nat) : Int) - (1 : Int)) = ((k_ : Int) + (1 : Int) - (1 : Int)) by omega]
      refine hs 8 _ rfl _ _ _ _ _ _ _ rfl ?_
      refine hs 9 _ rfl _ _ _ _ _ _ (fun zq => absurd (hd_c1z (c := 2) (by omega) (by omega) zq) (by omega : ¬ (((k_ : Int) + (1 : Int) - (1 : Int)) < 0))) (fun _ => ?_)
      refine hs 10 _ rfl _ _ _ _ _ _ _ rfl ?_
      refine hs 11 _ rfl _ _ _ _ _ _ _ rfl ?_
      refine hs 12 _ rfl _ _ _ _ _ _ _ hd_mul ?_
      refine hs 13 _ rfl _ _ _ _ _ _ _ rfl ?_
      refine hs 14 _ rfl _ _ _ _ _ _ _ _ _ (hg) ht rfl ?_
      refine hs 15 _ rfl _ _ _ _ _ _ _ rfl ?_
      refine hd_A (hs 16 _ rfl) (by decide) (by decide) (hgd) htd (j := k_) (by omega) (by omega) ga_ ?_
      refine hs 17 _ rfl _ _ _ _ _ _ _ hd_add ?_
      refine hs 18 _ rfl _ _ _ _ _ _ _ rfl ?_
      refine hs 19 _ rfl _ _ _ _ _ _ _ (hd_rem (by omega) (by omega) (by omega) (by omega)) ?_
      refine hs 20 _ rfl _ _ _ _ _ _ _ rfl ?_
      refine hs 21 _ rfl _ _ _ _ _ _ _ (hd_inc rfl) ?_
      refine hs 22 _ rfl _ _ _ _ _ ?_
      rw [show ((k_ : Int) + (1 : Int) - (1 : Int) + (-1 : Int)) = ((k_ : Int) - (1 : Int)) by omega]
      refine ih_ _ (by omega) ?_
      have a2_ := List.getElem?_eq_getElem (show k_ < ds.length by omega)
      rw [ga_] at a2_
      rw [List.drop_eq_getElem_cons (show k_ < ds.length by omega), ← Option.some.inj a2_, e_, zn_mstep]
      rfl
  refine hs 0 _ rfl _ _ _ _ _ _ _ rfl ?_
  refine hs 1 _ rfl _ _ _ _ _ _ _ rfl ?_
  refine hs 2 _ rfl _ _ _ _ _ _ _ rfl ?_
  refine hs 3 _ rfl _ _ _ _ _ _ _ _ _ (hg) ht rfl ?_
  refine hd_Ln (hs 4 _ rfl) (hgd) htd ?_
  refine hs 5 _ rfl _ _ _ _ _ _ _ rfl ?_
  refine hs 6 _ rfl _ _ _ _ _ _ _ hd_sub ?_
  refine hs 7 _ rfl _ _ _ _ _ _ _ rfl ?_
  exact loop_ ds.length 0 (Nat.le_refl _) (by rw [List.drop_of_length_le (Nat.le_refl _)]; exact (Int.zero_emod _).symm)
end
section
/-! THE REFERENCE'S NUMBERS: sums -/
set_option maxHeartbeats 4000000 in
theorem zn_max_M {l : Launch} {G : am_G} {X : ck_XT} (g : gM l G X) {a_ b_ M : Nat} {h : List am_C} (h1 : a_ ≤ M) (h2 : b_ ≤ M) (h3 : M = a_ ∨ M = b_) (h4 : M ≤ 1000) {mc ms : Nat} {Post : am_O → List am_C → Prop} (hP : Post (.inl (some (.int (Int32.ofInt (M : Int))))) h) :
    am_M l G yJ9_max_7cf53 (.code yJ9_max_7cf53 prog_32_method_65_code 2 (some .int)) 1 20 mc ms [.int (Int32.ofInt (a_ : Int)), .int (Int32.ofInt (b_ : Int))] h Post := by
  refine gh_yJ9_max_7cf53_X g (Nat.le_of_ble_eq_true rfl) fun S SX hs hr hw hx => ?_
  have rv : ∀ x : Int32, ck_fv 0 (.int x) := fun x => ⟨_, rfl⟩
  by_cases c_ : a_ < b_
  · 
    refine hs 0 _ rfl _ _ _ _ _ _ _ rfl ?_
    refine hs 1 _ rfl _ _ _ _ _ _ _ rfl ?_
    refine hs 2 _ rfl _ _ _ _ _ _ _ (fun _ => ?_) (fun zq => absurd (hd_c2t (c := 2) (by omega) (by omega) (by omega) (by omega) (by omega : ((a_ : Int) - (b_ : Int)) < 0)) zq)
    refine hs 5 _ rfl _ _ _ _ _ _ _ rfl ?_
    exact hs 6 _ rfl _ _ _ _ _ (rv _) (Nat.zero_le _) (Nat.zero_le _) (by rw [show b_ = M by omega]; exact hP)
  · 
    refine hs 0 _ rfl _ _ _ _ _ _ _ rfl ?_
    refine hs 1 _ rfl _ _ _ _ _ _ _ rfl ?_
    refine hs 2 _ rfl _ _ _ _ _ _ _ (fun zq => absurd (hd_c2z (c := 2) (by omega) (by omega) (by omega) (by omega) zq) (by omega : ¬ (((a_ : Int) - (b_ : Int)) < 0))) (fun _ => ?_)
    refine hs 3 _ rfl _ _ _ _ _ _ _ rfl ?_
    refine hs 4 _ rfl _ _ _ _ _ ?_
    exact hs 6 _ rfl _ _ _ _ _ (rv _) (Nat.zero_le _) (Nat.zero_le _) (by rw [show a_ = M by omega]; exact hP)
theorem zk_h1 {B : List Int} {k : Nat} (h : k < B.length) : B[k]? = some ((B.drop k).headD 0) := by
  rw [List.drop_eq_getElem_cons h, List.getElem?_eq_getElem h]
  rfl
theorem zk_h0 {B : List Int} {k : Nat} (h : B.length ≤ k) : (B.drop k).headD 0 = 0 := by
  rw [List.drop_of_length_le h]
  rfl
theorem zk_R {A : List Int} {N k : Nat} (hA : A.length ≤ N) (hk : k < N) : (A ++ List.replicate (N - A.length) 0).drop k = (A.drop k).headD 0 :: (A ++ List.replicate (N - A.length) 0).drop (k + 1) := by
  have l_ : (A ++ List.replicate (N - A.length) (0 : Int)).length = N := by
    rw [List.length_append, List.length_replicate]
    omega
  have g_ : (A ++ List.replicate (N - A.length) (0 : Int))[k]? = some ((A.drop k).headD 0) := by
    by_cases c_ : k < A.length
    · rw [List.getElem?_append_left c_]
      exact zk_h1 c_
    · rw [List.getElem?_append_right (by omega), List.getElem?_replicate_of_lt (by omega), zk_h0 (by omega)]
  have k_ : k < (A ++ List.replicate (N - A.length) (0 : Int)).length := by
    rw [l_]
    exact hk
  rw [List.drop_eq_getElem_cons k_]
  have e_ := List.getElem?_eq_getElem k_
  rw [g_] at e_
  rw [← Option.some.inj e_]
theorem zk_step {by_ o a b t : Int} {R B : List Int} {k : Nat} (hR : R.drop k = a :: R.drop (k + 1)) (hb : (B.drop k).headD 0 = b) (ht : a + o + by_ * b = t) : hd_chg by_ o (R.drop k) (B.drop k) = (if t < 0 then t + 10 else t % 10) :: hd_chg by_ (if t < 0 then -1 else t / 10) (R.drop (k + 1)) (B.drop (k + 1)) := by
  rw [hR]
  conv => lhs; unfold hd_chg
  rw [hb, ht, List.tail_drop]
theorem zk_cons {l u : List Int} {d : Int} {k : Nat} (h : l.drop k = d :: u) : l[k]? = some d ∧ l.drop (k + 1) = u := by
  constructor
  · have e_ : (l.drop k)[0]? = some d := by rw [h]; rfl
    rw [List.getElem?_drop] at e_
    exact e_
  · rw [← List.tail_drop, h]
    rfl
theorem zk_addE {L : List (Option Value)} {st : List Value} {v x y z : Int} (e : x + y = z) : ck_cf 15 0 v L (.int (Int32.ofInt y) :: .int (Int32.ofInt x) :: st) = some (L, .int (Int32.ofInt z) :: st) := by
  rw [← e]
  exact hd_add
theorem zk_pad {A : List Int} {m : Nat} : hd_v (A ++ List.replicate m 0) = hd_v A := by
  rw [hd_v_app, hd_v_zero (ds := List.replicate m 0) (fun d hd => List.eq_of_mem_replicate hd), Int.mul_zero, Int.add_zero]
theorem zk_padd {A : List Int} {m : Nat} (h : hd_d A) : hd_d (A ++ List.replicate m 0) := h.app fun d hd => by
  rw [List.eq_of_mem_replicate hd]
  decide
/-- what is joined -/
theorem zk_res {by_ : Int} {A B : List Int} {M : Nat} (hby : by_ = 1 ∨ by_ = -1) (hA : hd_d A) (hB : hd_d B) (h1 : A.length ≤ M) (h2 : B.length ≤ M) : hd_d (hd_chg by_ 0 (A ++ List.replicate (M + 1 - A.length) 0) B) ∧ (hd_chg by_ 0 (A ++ List.replicate (M + 1 - A.length) 0) B).length = M + 1 ∧ (by_ = 1 → hd_v (hd_chg by_ 0 (A ++ List.replicate (M + 1 - A.length) 0) B) = hd_v A + hd_v B) ∧ (by_ = -1 → hd_v B ≤ hd_v A → hd_v (hd_chg by_ 0 (A ++ List.replicate (M + 1 - A.length) 0) B) = hd_v A - hd_v B) := by
  have hR_ := zk_padd (m := M + 1 - A.length) hA
  have l_ : (A ++ List.replicate (M + 1 - A.length) (0 : Int)).length = M + 1 := by
    rw [List.length_append, List.length_replicate]
    omega
  have bo_ : hd_bo by_ 0 := by
    rcases hby with c_ | c_
    · exact Or.inl ⟨c_, by decide, by decide⟩
    · exact Or.inr ⟨c_, by decide, by decide⟩
  obtain ⟨r1_, r2_, c_, r3_⟩ := hd_chg_ok hR_ hB bo_
  have t_ : B.take (A ++ List.replicate (M + 1 - A.length) (0 : Int)).length = B := List.take_of_length_le (by omega)
  rw [l_] at r2_
  refine ⟨r1_, r2_, fun e_ => ?_, fun e_ hle_ => ?_⟩
  · rw [t_, zk_pad, l_, e_, Int.one_mul, Int.zero_add] at r3_
    rw [e_] at r1_ r2_
    have a1_ := hd_v_nn r1_
    have a2_ := hd_v_lt r1_
    rw [r2_] at a2_
    have b1_ := hd_v_nn hA
    have b2_ := hd_v_lt hA
    have b3_ := hd_pow h1
    have d1_ := hd_v_nn hB
    have d2_ := hd_v_lt hB
    have d3_ := hd_pow h2
    have p_ : (10 : Int) ^ (M + 1) = 10 ^ M * 10 := Int.pow_succ _ _
    have s_ : hd_v A + hd_v B < 10 ^ (M + 1) := by
      rw [p_]
      generalize (10 : Int) ^ M = x_ at *
      generalize (10 : Int) ^ A.length = y_ at *
      generalize (10 : Int) ^ B.length = w_ at *
      omega
    rw [e_]
    have m1_ := Int.emod_eq_of_lt a1_ a2_
    have m2_ := Int.emod_eq_of_lt (show 0 ≤ hd_v A + hd_v B by omega) s_
    rw [← m1_, ← m2_, ← r3_, Int.add_mul_emod_self_left]
  · have z_ := hd_chg_sub hR_ hB (by rw [t_, zk_pad]; exact hle_)
    rw [t_, zk_pad] at z_
    rw [e_]
    exact z_
set_option maxHeartbeats 4000000 in
theorem zn_joined_M {l : Launch} {G : am_G} {X : ck_XT} (g : gM l G X) {p q tp tq M : Nat} {by_ : Int} {A B : List Int} {h : List am_C} (hgp : am_g G h p = some (tp, hd_r A)) (htp : tp % 100 = 50) (hgq : am_g G h q = some (tq, hd_r B)) (htq : tq % 100 = 50) (hda : hd_d A) (hdb : hd_d B) (hby : by_ = 1 ∨ by_ = -1) (hM1 : A.length ≤ M) (hM2 : B.length ≤ M) (hM3 : M = A.length ∨ M = B.length) (hM4 : M ≤ 900) {mc ms : Nat} {Post : am_O → List am_C → Prop}
    (hmc : 1 ≤ mc) (hms : M + 1 ≤ ms)
    (hP : ∀ (h' : List am_C) (d : Nat) (res : List Int), zg G h h' → am_g G h' d = some (50, hd_r res) → res.length = M + 1 → res = hd_chg by_ 0 (A ++ List.replicate (M + 1 - A.length) 0) B → Post (.inl (some (.ref d))) h') :
    am_M l G yX12_joined (.code yX12_joined prog_15_method_9_code 7 (some (.array .int))) 2 41 mc ms [.ref p, .ref q, .int (Int32.ofInt by_)] h Post := by
  refine gh_yX12_joined_X g (Nat.le_of_ble_eq_true rfl) fun S SX hs hr hw hx => ?_
  have rv : ∀ x : Int32, ck_fv 0 (.int x) := fun x => ⟨_, rfl⟩
  obtain ⟨x1_, x2_, -, -⟩ := zk_res hby hda hdb hM1 hM2
  obtain ⟨R_, hR_⟩ : ∃ R_ : List Int, R_ = A ++ List.replicate (M + 1 - A.length) 0 := ⟨_, rfl⟩
  rw [← hR_] at x1_ x2_ hP
  obtain ⟨res_, hres_⟩ : ∃ res_ : List Int, res_ = hd_chg by_ 0 R_ B := ⟨_, rfl⟩
  rw [← hres_] at x1_ x2_ hP
  have loop_ : ∀ (m_ k_ : Nat) (o_ : Int) (h1_ : List am_C) (a_ : Nat) (w_ : Option Value) (md_ : List Int), k_ + m_ = M + 1 → 1000 + h.length ≤ a_ → zg G h h1_ → md_ = res_.take k_ ++ List.replicate (M + 1 - k_) 0 → md_.length = M + 1 → am_g G h1_ a_ = some (50, hd_r md_) → res_.drop k_ = hd_chg by_ o_ (R_.drop k_) (B.drop k_) → hd_bo by_ o_ → S 18 [some (.ref p), some (.ref q), some (.int (Int32.ofInt by_)), some (.ref a_), some (.int (Int32.ofInt o_)), some (.int (Int32.ofInt (k_ : Int))), w_] [] h1_ (0 + 1) (0 + (M + 1)) := by
    intro m_
    induction m_ with
    | zero =>
      intro k_ o_ h1_ a_ w_ md_ hk_ ha_ f1_ hmd_ hml_ g1_ hdr_ hbo_
      have hend_ : md_ = res_ := by
        rw [hmd_, List.take_of_length_le (by omega), show M + 1 - k_ = 0 by omega]
        exact List.append_nil _
      refine hs 13 _ rfl _ _ _ _ _ _ _ rfl ?_
      refine hs 14 _ rfl _ _ _ _ _ _ _ rfl ?_
      refine hd_Ln (hs 15 _ rfl) (g1_) rfl ?_
      refine hs 16 _ rfl _ _ _ _ _ _ _ (fun _ => ?_) (fun zq => absurd (hd_c2t (c := 3) (by omega) (by omega) (by omega) (by omega) (by omega : 0 ≤ ((k_ : Int) - (md_.length : Int)))) zq)
      refine hs 63 _ rfl _ _ _ _ _ _ _ rfl ?_
      exact hs 64 _ rfl _ _ _ _ _ (Or.inl ⟨_, rfl⟩) (by omega) (by omega) (hP _ _ _ f1_ g1_ hml_ hend_)
    | succ m_ ih_ =>
      intro k_ o_ h1_ a_ w_ md_ hk_ ha_ f1_ hmd_ hml_ g1_ hdr_ hbo_
      obtain ⟨a9_, ha9_⟩ : ∃ a9_ : Int, (A.drop k_).headD 0 = a9_ := ⟨_, rfl⟩
      obtain ⟨b9_, hb9_⟩ : ∃ b9_ : Int, (B.drop k_).headD 0 = b9_ := ⟨_, rfl⟩
      have a9b_ : 0 ≤ a9_ ∧ a9_ ≤ 9 := by rw [← ha9_]; exact hd_head (hda.drop k_)
      have b9b_ : 0 ≤ b9_ ∧ b9_ ≤ 9 := by rw [← hb9_]; exact hd_head (hdb.drop k_)
      have hRk_ : R_.drop k_ = a9_ :: R_.drop (k_ + 1) := by rw [hR_, ← ha9_]; exact zk_R (by omega) (by omega)
      obtain ⟨hh1_, hh2_⟩ := hbo_.here a9b_ b9b_
      obtain ⟨t_, htt_⟩ : ∃ t_ : Int, a9_ + o_ + by_ * b9_ = t_ := ⟨_, rfl⟩
      have ht_ : o_ + a9_ + by_ * b9_ = t_ := by rw [← htt_, Int.add_comm o_ a9_]
      rw [zk_step hRk_ hb9_ htt_] at hdr_
      obtain ⟨hr_, hn_⟩ := zk_cons hdr_
      rw [htt_] at hh1_ hh2_
      have hob_ : -1 ≤ o_ ∧ o_ ≤ 1 := by
        rcases hbo_ with y_ | y_ <;> omega
      have f59_ : ∀ w_ : Option Value, S 59 [some (.ref p), some (.ref q), some (.int (Int32.ofInt by_)), some (.ref a_), some (.int (Int32.ofInt o_)), some (.int (Int32.ofInt (k_ : Int))), w_] [.int (Int32.ofInt b9_), .int (Int32.ofInt by_), .int (Int32.ofInt (o_ + a9_))] h1_ (0 + 1) (0 + (M + 1)) := by
        intro w_
        by_cases t0_ : t_ < 0
        · rw [if_pos t0_] at hr_ hn_ hh2_
          refine hs 38 _ rfl _ _ _ _ _ _ _ hd_mul ?_
          refine hs 39 _ rfl _ _ _ _ _ _ _ (zk_addE ht_) ?_
          refine hs 40 _ rfl _ _ _ _ _ _ _ rfl ?_
          refine hs 41 _ rfl _ _ _ _ _ _ _ rfl ?_
          refine hs 42 _ rfl _ _ _ _ _ _ (fun zq => absurd (hd_c1z (c := 3) (by omega) (by omega) zq) (by omega : ¬ (0 ≤ t_))) (fun _ => ?_)
          refine hs 43 _ rfl _ _ _ _ _ _ _ rfl ?_
          refine hs 44 _ rfl _ _ _ _ _ ?_
          refine hs 48 _ rfl _ _ _ _ _ _ _ rfl ?_
          refine hs 49 _ rfl _ _ _ _ _ _ _ rfl ?_
          refine hs 50 _ rfl _ _ _ _ _ _ _ rfl ?_
          refine hs 51 _ rfl _ _ _ _ _ _ _ rfl ?_
          refine hs 52 _ rfl _ _ _ _ _ _ (fun zq => absurd (hd_c1z (c := 3) (by omega) (by omega) zq) (by omega : ¬ (0 ≤ t_))) (fun _ => ?_)
          refine hs 53 _ rfl _ _ _ _ _ _ _ rfl ?_
          refine hs 54 _ rfl _ _ _ _ _ _ _ rfl ?_
          refine hs 55 _ rfl _ _ _ _ _ _ _ hd_add ?_
          refine hs 56 _ rfl _ _ _ _ _ ?_
          refine zw_B (hs 60 _ rfl) (by decide) (by decide) (by omega) (g1_) rfl (j := k_) (by omega) (by omega) (by omega) fun hz107 wz108 => ?_
          refine hs 61 _ rfl _ _ _ _ _ _ _ (hd_inc rfl) ?_
          refine hs 62 _ rfl _ _ _ _ _ ?_
          rw [show ((k_ : Int) + (1 : Int)) = ((k_ + 1 : Nat) : Int) by omega]
          exact ih_ (k_ + 1) _ _ a_ _ _ (by omega) ha_ (f1_.w wz108 ha_) (by rw [hmd_]; exact hd_fill hr_ (by omega)) (by rw [List.length_set]; exact hml_) wz108.at hn_ hh2_
        · rw [if_neg t0_] at hr_ hn_ hh2_
          refine hs 38 _ rfl _ _ _ _ _ _ _ hd_mul ?_
          refine hs 39 _ rfl _ _ _ _ _ _ _ (zk_addE ht_) ?_
          refine hs 40 _ rfl _ _ _ _ _ _ _ rfl ?_
          refine hs 41 _ rfl _ _ _ _ _ _ _ rfl ?_
          refine hs 42 _ rfl _ _ _ _ _ _ (fun _ => ?_) (fun zq => absurd (hd_c1t (c := 3) (by omega) (by omega) (by omega : 0 ≤ t_)) zq)
          refine hs 45 _ rfl _ _ _ _ _ _ _ rfl ?_
          refine hs 46 _ rfl _ _ _ _ _ _ _ rfl ?_
          refine hs 47 _ rfl _ _ _ _ _ _ _ (hd_div (by omega) (by omega) (by omega) (by omega)) ?_
          refine hs 48 _ rfl _ _ _ _ _ _ _ rfl ?_
          refine hs 49 _ rfl _ _ _ _ _ _ _ rfl ?_
          refine hs 50 _ rfl _ _ _ _ _ _ _ rfl ?_
          refine hs 51 _ rfl _ _ _ _ _ _ _ rfl ?_
          refine hs 52 _ rfl _ _ _ _ _ _ (fun _ => ?_) (fun zq => absurd (hd_c1t (c := 3) (by omega) (by omega) (by omega : 0 ≤ t_)) zq)
          refine hs 57 _ rfl _ _ _ _ _ _ _ rfl ?_
          refine hs 58 _ rfl _ _ _ _ _ _ _ rfl ?_
          refine hs 59 _ rfl _ _ _ _ _ _ _ (hd_rem (by omega) (by omega) (by omega) (by omega)) ?_
          refine zw_B (hs 60 _ rfl) (by decide) (by decide) (by omega) (g1_) rfl (j := k_) (by omega) (by omega) (by omega) fun hz109 wz110 => ?_
          refine hs 61 _ rfl _ _ _ _ _ _ _ (hd_inc rfl) ?_
          refine hs 62 _ rfl _ _ _ _ _ ?_
          rw [show ((k_ : Int) + (1 : Int)) = ((k_ + 1 : Nat) : Int) by omega]
          exact ih_ (k_ + 1) _ _ a_ _ _ (by omega) ha_ (f1_.w wz110 ha_) (by rw [hmd_]; exact hd_fill hr_ (by omega)) (by rw [List.length_set]; exact hml_) wz110.at hn_ hh2_
      have f42_ : ∀ w_ : Option Value, S 42 [some (.ref p), some (.ref q), some (.int (Int32.ofInt by_)), some (.ref a_), some (.int (Int32.ofInt o_)), some (.int (Int32.ofInt (k_ : Int))), w_] [.int (Int32.ofInt a9_), .int (Int32.ofInt o_)] h1_ (0 + 1) (0 + (M + 1)) := by
        intro w_
        by_cases cb_ : k_ < B.length
        · have gb_ : B[k_]? = some b9_ := by rw [← hb9_]; exact zk_h1 cb_
          refine hs 27 _ rfl _ _ _ _ _ _ _ hd_add ?_
          refine hs 28 _ rfl _ _ _ _ _ _ _ rfl ?_
          refine hs 29 _ rfl _ _ _ _ _ _ _ rfl ?_
          refine hs 30 _ rfl _ _ _ _ _ _ _ rfl ?_
          refine hd_Ln (hs 31 _ rfl) ((f1_.2 _ _ hgq)) htq ?_
          refine hs 32 _ rfl _ _ _ _ _ _ _ (fun zq => absurd (hd_c2z (c := 3) (by omega) (by omega) (by omega) (by omega) zq) (by omega : ¬ (0 ≤ ((k_ : Int) - (B.length : Int))))) (fun _ => ?_)
          refine hs 33 _ rfl _ _ _ _ _ _ _ rfl ?_
          refine hs 34 _ rfl _ _ _ _ _ _ _ rfl ?_
          refine hd_A (hs 35 _ rfl) (by decide) (by decide) ((f1_.2 _ _ hgq)) htq (j := k_) (by omega) (by omega) gb_ ?_
          refine hs 36 _ rfl _ _ _ _ _ ?_
          exact f59_ w_
        · have b0_ : b9_ = 0 := by rw [← hb9_]; exact zk_h0 (by omega)
          rw [b0_] at f59_
          refine hs 27 _ rfl _ _ _ _ _ _ _ hd_add ?_
          refine hs 28 _ rfl _ _ _ _ _ _ _ rfl ?_
          refine hs 29 _ rfl _ _ _ _ _ _ _ rfl ?_
          refine hs 30 _ rfl _ _ _ _ _ _ _ rfl ?_
          refine hd_Ln (hs 31 _ rfl) ((f1_.2 _ _ hgq)) htq ?_
          refine hs 32 _ rfl _ _ _ _ _ _ _ (fun _ => ?_) (fun zq => absurd (hd_c2t (c := 3) (by omega) (by omega) (by omega) (by omega) (by omega : 0 ≤ ((k_ : Int) - (B.length : Int)))) zq)
          refine hs 37 _ rfl _ _ _ _ _ _ _ rfl ?_
          exact f59_ w_
      by_cases ca_ : k_ < A.length
      · have ga_ : A[k_]? = some a9_ := by rw [← ha9_]; exact zk_h1 ca_
        refine hs 13 _ rfl _ _ _ _ _ _ _ rfl ?_
        refine hs 14 _ rfl _ _ _ _ _ _ _ rfl ?_
        refine hd_Ln (hs 15 _ rfl) (g1_) rfl ?_
        refine hs 16 _ rfl _ _ _ _ _ _ _ (fun zq => absurd (hd_c2z (c := 3) (by omega) (by omega) (by omega) (by omega) zq) (by omega : ¬ (0 ≤ ((k_ : Int) - (md_.length : Int))))) (fun _ => ?_)
        refine hs 17 _ rfl _ _ _ _ _ _ _ rfl ?_
        refine hs 18 _ rfl _ _ _ _ _ _ _ rfl ?_
        refine hs 19 _ rfl _ _ _ _ _ _ _ rfl ?_
        refine hd_Ln (hs 20 _ rfl) ((f1_.2 _ _ hgp)) htp ?_
        refine hs 21 _ rfl _ _ _ _ _ _ _ (fun zq => absurd (hd_c2z (c := 3) (by omega) (by omega) (by omega) (by omega) zq) (by omega : ¬ (0 ≤ ((k_ : Int) - (A.length : Int))))) (fun _ => ?_)
        refine hs 22 _ rfl _ _ _ _ _ _ _ rfl ?_
        refine hs 23 _ rfl _ _ _ _ _ _ _ rfl ?_
        refine hd_A (hs 24 _ rfl) (by decide) (by decide) ((f1_.2 _ _ hgp)) htp (j := k_) (by omega) (by omega) ga_ ?_
        refine hs 25 _ rfl _ _ _ _ _ ?_
        exact f42_ w_
      · have a0_ : a9_ = 0 := by rw [← ha9_]; exact zk_h0 (by omega)
        rw [a0_] at f42_
        refine hs 13 _ rfl _ _ _ _ _ _ _ rfl ?_
        refine hs 14 _ rfl _ _ _ _ _ _ _ rfl ?_
        refine hd_Ln (hs 15 _ rfl) (g1_) rfl ?_
        refine hs 16 _ rfl _ _ _ _ _ _ _ (fun zq => absurd (hd_c2z (c := 3) (by omega) (by omega) (by omega) (by omega) zq) (by omega : ¬ (0 ≤ ((k_ : Int) - (md_.length : Int))))) (fun _ => ?_)
        refine hs 17 _ rfl _ _ _ _ _ _ _ rfl ?_
        refine hs 18 _ rfl _ _ _ _ _ _ _ rfl ?_
        refine hs 19 _ rfl _ _ _ _ _ _ _ rfl ?_
        refine hd_Ln (hs 20 _ rfl) ((f1_.2 _ _ hgp)) htp ?_
        refine hs 21 _ rfl _ _ _ _ _ _ _ (fun _ => ?_) (fun zq => absurd (hd_c2t (c := 3) (by omega) (by omega) (by omega) (by omega) (by omega : 0 ≤ ((k_ : Int) - (A.length : Int)))) zq)
        refine hs 26 _ rfl _ _ _ _ _ _ _ rfl ?_
        exact f42_ w_
  refine hs 0 _ rfl _ _ _ _ _ _ _ rfl ?_
  refine hd_Ln (hs 1 _ rfl) (hgp) htp ?_
  refine hs 2 _ rfl _ _ _ _ _ _ _ rfl ?_
  refine hd_Ln (hs 3 _ rfl) (hgq) htq ?_
  refine zw_c (hs 4 _ rfl) (a := [.int (Int32.ofInt (A.length : Int)), .int (Int32.ofInt (B.length : Int))]) (st := []) rfl rfl (Nat.le_of_ble_eq_true rfl) trivial (Nat.zero_le _) (Nat.zero_le _) (zn_max_M g (M := M) hM1 hM2 hM3 (by omega) ?_)
  show S 7 [some (.ref p), some (.ref q), some (.int (Int32.ofInt by_)), none, none, none, none] [.int (Int32.ofInt (M : Int))] _ _ _
  refine hs 5 _ rfl _ _ _ _ _ _ _ rfl ?_
  refine hs 6 _ rfl _ _ _ _ _ _ _ hd_add ?_
  refine zw_E (G := G) (hs 7 _ rfl) (t := 50) (N := (M + 1)) rfl (by omega) (by omega) (by omega) (by omega) fun hz111 az112 ez113 lz114 gz115 cz116 => ?_
  refine hs 8 _ rfl _ _ _ _ _ _ _ rfl ?_
  refine hs 9 _ rfl _ _ _ _ _ _ _ rfl ?_
  refine hs 10 _ rfl _ _ _ _ _ _ _ rfl ?_
  refine hs 11 _ rfl _ _ _ _ _ _ _ rfl ?_
  refine hs 12 _ rfl _ _ _ _ _ _ _ rfl ?_
  refine loop_ (M + 1) 0 0 _ az112 _ _ (by omega) (by omega) gz115 ?_ List.length_replicate (by first | exact cz116 | assumption) ?_ ?_
  · rw [List.take_zero]
    rfl
  · rw [List.drop_zero, List.drop_zero, List.drop_zero]
    exact hres_
  · rcases hby with y_ | y_
    · exact Or.inl ⟨y_, by decide, by decide⟩
    · exact Or.inr ⟨y_, by decide, by decide⟩
end
