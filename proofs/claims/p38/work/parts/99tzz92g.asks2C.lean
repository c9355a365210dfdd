/-! SOLUTIONS, ORDERS, ROOTS: WHAT IS ASKED -/
def sp_r31 (e e2 : Int) (T : sp_T) (a : Int) : Prop := sp_jm T (fun v => v = ((sk_n (sk_s (sp_md T e).toNat (sp_md T e2).toNat T.1.1.toNat) T.1.1.toNat : Nat) : Int)) a
def sp_r34 (e e2 : Int) (T : sp_T) (a : Int) : Prop := sp_jm T (fun v => sk_o (sp_md T e).toNat T.1.1.toNat v) a
def sp_r39 (e e2 : Int) (T : sp_T) (a : Int) : Prop := sp_jm T (fun v => v = ((sk_n (sk_r (sp_md T e).toNat T.1.1.toNat) T.1.1.toNat : Nat) : Int)) a
def sp_q31 (e e2 : Int) (T : sp_T) (a th : Int) (T' : sp_T) : Prop := sp_q T (sp_s1 e ∧ sp_s1 e2) (sp_r31 e e2 T) a th T'
def sp_q34 (e e2 : Int) (T : sp_T) (a th : Int) (T' : sp_T) : Prop := sp_q T (sp_s1 e) (sp_r34 e e2 T) a th T'
def sp_q39 (e e2 : Int) (T : sp_T) (a th : Int) (T' : sp_T) : Prop := sp_q T (sp_s1 e) (sp_r39 e e2 T) a th T'
section SPQ2
variable {e e2 a th a2 th2 : Int} {T T' T2 : sp_T}
theorem sp_q31.fn (h1 : sp_q31 e e2 T a th T') (h2 : sp_q31 e e2 T a2 th2 T2) : sp_al a th T' a2 th2 T2 := sp_q.fn (fun v w y_ z_ => sp_jm.fn (fun v w y_ z_ => y_.trans z_.symm) y_ z_) h1 h2
theorem sp_q34.fn (h1 : sp_q34 e e2 T a th T') (h2 : sp_q34 e e2 T a2 th2 T2) : sp_al a th T' a2 th2 T2 := sp_q.fn (fun v w y_ z_ => sp_jm.fn (fun v w y_ z_ => sk_o.fn y_ z_) y_ z_) h1 h2
theorem sp_q39.fn (h1 : sp_q39 e e2 T a th T') (h2 : sp_q39 e e2 T a2 th2 T2) : sp_al a th T' a2 th2 T2 := sp_q.fn (fun v w y_ z_ => sp_jm.fn (fun v w y_ z_ => y_.trans z_.symm) y_ z_) h1 h2
theorem sp_r31.bd (hk : sp_ok T.1) (h : sp_r31 e e2 T a) : -9 ≤ a ∧ a ≤ 1000 := sp_jm.bd hk (fun hp hr => by
  have d_ := hk.1
  have l_ := sk_n.le (sk_s (sp_md T e).toNat (sp_md T e2).toNat T.1.1.toNat) T.1.1.toNat
  have hr_ : a = ((sk_n (sk_s (sp_md T e).toNat (sp_md T e2).toNat T.1.1.toNat) T.1.1.toNat : Nat) : Int) := hr
  omega) h
theorem sp_r34.bd (hk : sp_ok T.1) (h : sp_r34 e e2 T a) : -9 ≤ a ∧ a ≤ 1000 := sp_jm.bd hk (fun hp hr => by
  have d_ := hk.1
  have l_ := sk_o.bd hr
  omega) h
theorem sp_r39.bd (hk : sp_ok T.1) (h : sp_r39 e e2 T a) : -9 ≤ a ∧ a ≤ 1000 := sp_jm.bd hk (fun hp hr => by
  have d_ := hk.1
  have l_ := sk_n.le (sk_r (sp_md T e).toNat T.1.1.toNat) T.1.1.toNat
  have hr_ : a = ((sk_n (sk_r (sp_md T e).toNat T.1.1.toNat) T.1.1.toNat : Nat) : Int) := hr
  omega) h
end SPQ2
theorem sk_solE_M {l : Launch} {G : am_G} {X : ck_XT} (g : gM l G X) {a b m : Int} {h : List am_C} (ha : 0 ≤ a) (ka : a < m) (hb : 0 ≤ b) (kb : b < m) (hm : m ≤ 400) {mc ms : Nat} {Post : am_O → List am_C → Prop} (hP : Post (.inl (some (.int (Int32.ofInt ((sk_n (sk_s a.toNat b.toNat m.toNat) m.toNat : Nat) : Int))))) h) :
    am_M l G yX7_countSolutions (.code yX7_countSolutions prog_9_method_6_code 5 (some .int)) 1 20 mc ms [.int (Int32.ofInt a), .int (Int32.ofInt b), .int (Int32.ofInt m)] h Post := by
  obtain ⟨A_, rfl⟩ : ∃ x_ : Nat, a = (x_ : Int) := ⟨a.toNat, by omega⟩
  obtain ⟨B_, rfl⟩ : ∃ x_ : Nat, b = (x_ : Int) := ⟨b.toNat, by omega⟩
  obtain ⟨M_, rfl⟩ : ∃ x_ : Nat, m = (x_ : Int) := ⟨m.toNat, by omega⟩
  exact sk_sol_M g (by omega) (by omega) (by omega) hP
theorem sk_rootsE_M {l : Launch} {G : am_G} {X : ck_XT} (g : gM l G X) {a m : Int} {h : List am_C} (ha : 0 ≤ a) (ka : a < m) (hm : m ≤ 400) {mc ms : Nat} {Post : am_O → List am_C → Prop} (hP : Post (.inl (some (.int (Int32.ofInt ((sk_n (sk_r a.toNat m.toNat) m.toNat : Nat) : Int))))) h) :
    am_M l G yX7_countRoots (.code yX7_countRoots prog_9_method_10_code 4 (some .int)) 1 20 mc ms [.int (Int32.ofInt a), .int (Int32.ofInt m)] h Post := by
  obtain ⟨A_, rfl⟩ : ∃ x_ : Nat, a = (x_ : Int) := ⟨a.toNat, by omega⟩
  obtain ⟨M_, rfl⟩ : ∃ x_ : Nat, m = (x_ : Int) := ⟨m.toNat, by omega⟩
  exact sk_roots_M g (by omega) (by omega) hP
theorem sk_orderE_M {l : Launch} {G : am_G} {X : ck_XT} (g : gM l G X) {a m : Int} {h : List am_C} (ha : 0 ≤ a) (ka : a < m) (hm : m ≤ 400) {mc ms : Nat} {Post : am_O → List am_C → Prop} (hP : ∀ v : Int, sk_o a.toNat m.toNat v → Post (.inl (some (.int (Int32.ofInt v)))) h) :
    am_M l G yX7_orderOf (.code yX7_orderOf prog_9_method_9_code 4 (some .int)) 1 20 mc ms [.int (Int32.ofInt a), .int (Int32.ofInt m)] h Post := by
  obtain ⟨A_, rfl⟩ : ∃ x_ : Nat, a = (x_ : Int) := ⟨a.toNat, by omega⟩
  obtain ⟨M_, rfl⟩ : ∃ x_ : Nat, m = (x_ : Int) := ⟨m.toNat, by omega⟩
  exact sk_order_M g (by omega) (by omega) hP
theorem zk_rootsE_M {l : Launch} {G : am_G} {X : ck_XT} (g : gM l G X) {a m : Int} {h : List am_C} (ha : 0 ≤ a) (ka : a < m) (hm : m ≤ 400) {mc ms : Nat} {Post : am_O → List am_C → Prop} (hP : Post (.inl (some (.int (Int32.ofInt ((sk_n (sk_r a.toNat m.toNat) m.toNat : Nat) : Int))))) h) :
    am_M l G yX14_rooted (.code yX14_rooted prog_14_method_70_code 4 (some .int)) 1 20 mc ms [.int (Int32.ofInt a), .int (Int32.ofInt m)] h Post := by
  obtain ⟨A_, rfl⟩ : ∃ x_ : Nat, a = (x_ : Int) := ⟨a.toNat, by omega⟩
  obtain ⟨M_, rfl⟩ : ∃ x_ : Nat, m = (x_ : Int) := ⟨m.toNat, by omega⟩
  exact zk_roots_M g (by omega) (by omega) hP
theorem zk_solE_M {l : Launch} {G : am_G} {X : ck_XT} (g : gM l G X) {o : Nat → Nat} {x tx now qw : Nat} {th j m k : Int} {c : sp_S} {P : List sp_S} {h : List am_C} (hX : zm_x G h o x tx now qw th j m k c P) (hok : sp_ok c) {a b : Int} (ha : 0 ≤ a) (ka : a < c.1) (hb : 0 ≤ b) (kb : b < c.1) {mc ms : Nat} {Post : am_O → List am_C → Prop} (hP : Post (.inl (some (.int (Int32.ofInt ((sk_n (sk_s a.toNat b.toNat c.1.toNat) c.1.toNat : Nat) : Int))))) h) :
    am_M l G yX14_solved (.code yX14_solved prog_14_method_54_code 5 (some .int)) 1 20 mc ms [.ref x, .int (Int32.ofInt a), .int (Int32.ofInt b)] h Post := by
  obtain ⟨A_, rfl⟩ : ∃ x_ : Nat, a = (x_ : Int) := ⟨a.toNat, by omega⟩
  obtain ⟨B_, rfl⟩ : ∃ x_ : Nat, b = (x_ : Int) := ⟨b.toNat, by omega⟩
  have okd_ := hok.1
  exact zk_sol_M g hX (M_ := c.1.toNat) (by omega) (by omega) (by omega) (by omega) hP
theorem zk_orderE_M {l : Launch} {G : am_G} {X : ck_XT} (g : gM l G X) {o : Nat → Nat} {x tx now qw : Nat} {th j m k : Int} {c : sp_S} {P : List sp_S} {h : List am_C} (hX : zm_x G h o x tx now qw th j m k c P) (hok : sp_ok c) {a : Int} (ha : 0 ≤ a) (ka : a < c.1) {mc ms : Nat} {Post : am_O → List am_C → Prop} (hP : ∀ v : Int, sk_o a.toNat c.1.toNat v → Post (.inl (some (.int (Int32.ofInt v)))) h) :
    am_M l G yX14_orderOf (.code yX14_orderOf prog_14_method_61_code 4 (some .int)) 1 20 mc ms [.ref x, .int (Int32.ofInt a)] h Post := by
  obtain ⟨A_, rfl⟩ : ∃ x_ : Nat, a = (x_ : Int) := ⟨a.toNat, by omega⟩
  have okd_ := hok.1
  exact zk_order_M g hX (M_ := c.1.toNat) (by omega) (by omega) (by omega) hP
set_option maxHeartbeats 4000000 in
theorem zc_qroots_M {l : Launch} {G : am_G} {X : ck_XT} (g : gM l G X) {x : Nat} {r : Nat → Nat} {jj mm kk : Int} {c : sp_S} {R : Nat → sp_S} {old cnt : Nat} {h : List am_C} (hX : zc_x G h x r jj mm kk c R old cnt) {e : Int} (he1 : -2147483648 ≤ e) (he2 : e ≤ 2147483647) {e2 : Int} {mc ms : Nat} {Post : am_O → List am_C → Prop} (hmc : 1 ≤ mc) (hms : 6 ≤ ms)
    (hP : (0 ≤ e ∧ e < 6) → ∀ a : Int, sp_r39 e e2 (c, zc_l R old cnt, jj, mm, kk) a → Post (.inl (some (.int (Int32.ofInt a)))) h)
    (hX2 : ¬ ((0 ≤ e ∧ e < 6)) → Post (.inr "java/lang/IndexOutOfBoundsException") (h ++ [(99, [])])) :
    am_M l G yX10_roots (.code yX10_roots prog_1_method_39_code 3 (some .int)) 7 111 mc ms [.ref x, .int (Int32.ofInt e)] h Post := by
  have hx9_ := hX.2.2.2.2.2.2.2
  by_cases c1_ : 0 ≤ e ∧ e < 6
  rotate_left
  · 
    refine gh_yX10_roots_X g (Nat.le_of_ble_eq_true rfl) fun S SX hs hr hw hx => ?_
    have rv : ∀ x : Int32, ck_fv 0 (.int x) := fun x => ⟨_, rfl⟩
    refine hs 0 _ rfl _ _ _ _ _ _ _ rfl ?_
    refine hs 1 _ rfl _ _ _ _ _ _ _ rfl ?_
    exact zw_cm (hs 2 _ rfl) (a := [.ref x, .int (Int32.ofInt e)]) (st := []) 1 6 rfl rfl (Nat.le_of_ble_eq_true rfl) ⟨_, _, _, rfl, (hX.1), rfl⟩ (by omega) (by omega) (zc_numAtX_M g hX he1 he2 (by omega) (by decide) (by decide) (hx _ _ _ _ _ _ (by omega) (by omega) (hX2 c1_)))
  · have hP_ := hP c1_
    obtain ⟨i, rfl⟩ : ∃ i : Nat, e = (i : Int) := ⟨e.toNat, by omega⟩
    have hi : i < 6 := by omega
    obtain ⟨ny_, sy_, ly_, y1_, y2_, y3_⟩ := hX.2.1.n hi
    refine gh_yX10_roots_X g (Nat.le_of_ble_eq_true rfl) fun S SX hs hr hw hx => ?_
    have rv : ∀ x : Int32, ck_fv 0 (.int x) := fun x => ⟨_, rfl⟩
    have hb_ := hX.2.2.1.1
    by_cases cj_ : c.1 ≤ 0
    · 
      refine hs 0 _ rfl _ _ _ _ _ _ _ rfl ?_
      refine hs 1 _ rfl _ _ _ _ _ _ _ rfl ?_
      refine zw_c (hs 2 _ rfl) (a := [.ref x, .int (Int32.ofInt (i : Int))]) (st := []) rfl rfl (Nat.le_of_ble_eq_true rfl) ⟨_, _, _, rfl, hX.1, rfl⟩ (by omega) (by omega) (zc_numAt_M g hX (i := i) rfl hi ?_)
      show S 5 [some (.ref x), some (.int (Int32.ofInt (i : Int))), none] [.ref (x + 1 + 5 + 2 * i)] _ _ _
      refine hs 3 _ rfl _ _ _ _ _ _ _ rfl ?_
      refine hs 4 _ rfl _ _ _ _ _ _ _ rfl ?_
      refine zw_c (hs 5 _ rfl) (a := [.ref x]) (st := []) rfl rfl (Nat.le_of_ble_eq_true rfl) ⟨_, _, _, rfl, hX.1, rfl⟩ (by omega) (by omega) (zc_jam_M g hX (fun _ => ?_) (fun y_ => absurd y_ (by omega)))
      show S 10 [some (.ref x), some (.int (Int32.ofInt (i : Int))), some (.ref (x + 1 + 5 + 2 * i))] [.int (Int32.ofInt (1 : Int))] _ _ _
      refine hs 6 _ rfl _ _ _ _ _ _ (fun zq => absurd (hd_c1z (c := 0) (by omega) (by omega) zq) (by omega : ¬ ((1 : Int) = 0))) (fun _ => ?_)
      refine hs 7 _ rfl _ _ _ _ _ _ _ rfl ?_
      refine hs 8 _ rfl _ _ _ _ _ ?_
      exact hs 18 _ rfl _ _ _ _ _ (rv _) (Nat.zero_le _) (Nat.zero_le _) (hP_ _ (Or.inl ⟨cj_, rfl⟩))
    · have r1_ := Int.emod_nonneg (c.2.1.getD i 0) (b := c.1) (by omega)
      have r2_ := Int.emod_lt_of_pos (c.2.1.getD i 0) (b := c.1) (by omega)
      refine hs 0 _ rfl _ _ _ _ _ _ _ rfl ?_
      refine hs 1 _ rfl _ _ _ _ _ _ _ rfl ?_
      refine zw_c (hs 2 _ rfl) (a := [.ref x, .int (Int32.ofInt (i : Int))]) (st := []) rfl rfl (Nat.le_of_ble_eq_true rfl) ⟨_, _, _, rfl, hX.1, rfl⟩ (by omega) (by omega) (zc_numAt_M g hX (i := i) rfl hi ?_)
      show S 5 [some (.ref x), some (.int (Int32.ofInt (i : Int))), none] [.ref (x + 1 + 5 + 2 * i)] _ _ _
      refine hs 3 _ rfl _ _ _ _ _ _ _ rfl ?_
      refine hs 4 _ rfl _ _ _ _ _ _ _ rfl ?_
      refine zw_c (hs 5 _ rfl) (a := [.ref x]) (st := []) rfl rfl (Nat.le_of_ble_eq_true rfl) ⟨_, _, _, rfl, hX.1, rfl⟩ (by omega) (by omega) (zc_jam_M g hX (fun y_ => absurd y_ (by omega)) (fun _ => ?_))
      show S 10 [some (.ref x), some (.int (Int32.ofInt (i : Int))), some (.ref (x + 1 + 5 + 2 * i))] [.int (Int32.ofInt (0 : Int))] _ _ _
      refine hs 6 _ rfl _ _ _ _ _ _ (fun _ => ?_) (fun zq => absurd (hd_c1t (c := 0) (by omega) (by omega) (by omega : (0 : Int) = 0)) zq)
      refine hs 9 _ rfl _ _ _ _ _ _ _ rfl ?_
      refine hs 10 _ rfl _ _ _ _ _ _ _ rfl ?_
      refine hs 11 _ rfl _ _ _ _ _ _ _ _ _ (hX.1) rfl rfl ?_
      refine hs 12 _ rfl _ _ _ _ _ _ _ _ _ (hX.2.1.d) rfl rfl ?_
      refine zw_c (hs 13 _ rfl) (a := [.ref (x + 1 + 5 + 2 * i), .int (Int32.ofInt c.1)]) (st := []) rfl rfl (Nat.le_of_ble_eq_true rfl) ⟨_, _, _, rfl, y1_, rfl⟩ (by omega) (by omega) (sb_restE_M g y1_ rfl y2_ rfl y3_ (by omega) (by omega) ?_)
      show S 29 [some (.ref x), some (.int (Int32.ofInt (i : Int))), some (.ref (x + 1 + 5 + 2 * i))] [.int (Int32.ofInt ((c.2.1.getD i 0) % c.1))] _ _ _
      refine hs 14 _ rfl _ _ _ _ _ _ _ rfl ?_
      refine hs 15 _ rfl _ _ _ _ _ _ _ _ _ (hX.1) rfl rfl ?_
      refine hs 16 _ rfl _ _ _ _ _ _ _ _ _ (hX.2.1.d) rfl rfl ?_
      refine zw_c (hs 17 _ rfl) (a := [.int (Int32.ofInt ((c.2.1.getD i 0) % c.1)), .int (Int32.ofInt c.1)]) (st := []) rfl rfl (Nat.le_of_ble_eq_true rfl) trivial (by omega) (by omega) (sk_rootsE_M g r1_ r2_ (by omega) ?_)
      show S 39 [some (.ref x), some (.int (Int32.ofInt (i : Int))), some (.ref (x + 1 + 5 + 2 * i))] [.int (Int32.ofInt ((sk_n (sk_r (c.2.1.getD i 0 % c.1).toNat c.1.toNat) c.1.toNat : Nat) : Int))] _ _ _
      exact hs 18 _ rfl _ _ _ _ _ (rv _) (Nat.zero_le _) (Nat.zero_le _) (hP_ _ (Or.inr ⟨by show 0 < c.1; omega, rfl⟩))
set_option maxHeartbeats 4000000 in
theorem zc_qorder_M {l : Launch} {G : am_G} {X : ck_XT} (g : gM l G X) {x : Nat} {r : Nat → Nat} {jj mm kk : Int} {c : sp_S} {R : Nat → sp_S} {old cnt : Nat} {h : List am_C} (hX : zc_x G h x r jj mm kk c R old cnt) {e : Int} (he1 : -2147483648 ≤ e) (he2 : e ≤ 2147483647) {e2 : Int} {mc ms : Nat} {Post : am_O → List am_C → Prop} (hmc : 1 ≤ mc) (hms : 6 ≤ ms)
    (hP : (0 ≤ e ∧ e < 6) → ∀ a : Int, sp_r34 e e2 (c, zc_l R old cnt, jj, mm, kk) a → Post (.inl (some (.int (Int32.ofInt a)))) h)
    (hX2 : ¬ ((0 ≤ e ∧ e < 6)) → Post (.inr "java/lang/IndexOutOfBoundsException") (h ++ [(99, [])])) :
    am_M l G yX10_order (.code yX10_order prog_1_method_34_code 3 (some .int)) 7 111 mc ms [.ref x, .int (Int32.ofInt e)] h Post := by
  have hx9_ := hX.2.2.2.2.2.2.2
  by_cases c1_ : 0 ≤ e ∧ e < 6
  rotate_left
  · 
    refine gh_yX10_order_X g (Nat.le_of_ble_eq_true rfl) fun S SX hs hr hw hx => ?_
    have rv : ∀ x : Int32, ck_fv 0 (.int x) := fun x => ⟨_, rfl⟩
    refine hs 0 _ rfl _ _ _ _ _ _ _ rfl ?_
    refine hs 1 _ rfl _ _ _ _ _ _ _ rfl ?_
    exact zw_cm (hs 2 _ rfl) (a := [.ref x, .int (Int32.ofInt e)]) (st := []) 1 6 rfl rfl (Nat.le_of_ble_eq_true rfl) ⟨_, _, _, rfl, (hX.1), rfl⟩ (by omega) (by omega) (zc_numAtX_M g hX he1 he2 (by omega) (by decide) (by decide) (hx _ _ _ _ _ _ (by omega) (by omega) (hX2 c1_)))
  · have hP_ := hP c1_
    obtain ⟨i, rfl⟩ : ∃ i : Nat, e = (i : Int) := ⟨e.toNat, by omega⟩
    have hi : i < 6 := by omega
    obtain ⟨ny_, sy_, ly_, y1_, y2_, y3_⟩ := hX.2.1.n hi
    refine gh_yX10_order_X g (Nat.le_of_ble_eq_true rfl) fun S SX hs hr hw hx => ?_
    have rv : ∀ x : Int32, ck_fv 0 (.int x) := fun x => ⟨_, rfl⟩
    have hb_ := hX.2.2.1.1
    by_cases cj_ : c.1 ≤ 0
    · 
      refine hs 0 _ rfl _ _ _ _ _ _ _ rfl ?_
      refine hs 1 _ rfl _ _ _ _ _ _ _ rfl ?_
      refine zw_c (hs 2 _ rfl) (a := [.ref x, .int (Int32.ofInt (i : Int))]) (st := []) rfl rfl (Nat.le_of_ble_eq_true rfl) ⟨_, _, _, rfl, hX.1, rfl⟩ (by omega) (by omega) (zc_numAt_M g hX (i := i) rfl hi ?_)
      show S 5 [some (.ref x), some (.int (Int32.ofInt (i : Int))), none] [.ref (x + 1 + 5 + 2 * i)] _ _ _
      refine hs 3 _ rfl _ _ _ _ _ _ _ rfl ?_
      refine hs 4 _ rfl _ _ _ _ _ _ _ rfl ?_
      refine zw_c (hs 5 _ rfl) (a := [.ref x]) (st := []) rfl rfl (Nat.le_of_ble_eq_true rfl) ⟨_, _, _, rfl, hX.1, rfl⟩ (by omega) (by omega) (zc_jam_M g hX (fun _ => ?_) (fun y_ => absurd y_ (by omega)))
      show S 10 [some (.ref x), some (.int (Int32.ofInt (i : Int))), some (.ref (x + 1 + 5 + 2 * i))] [.int (Int32.ofInt (1 : Int))] _ _ _
      refine hs 6 _ rfl _ _ _ _ _ _ (fun zq => absurd (hd_c1z (c := 0) (by omega) (by omega) zq) (by omega : ¬ ((1 : Int) = 0))) (fun _ => ?_)
      refine hs 7 _ rfl _ _ _ _ _ _ _ rfl ?_
      refine hs 8 _ rfl _ _ _ _ _ ?_
      exact hs 18 _ rfl _ _ _ _ _ (rv _) (Nat.zero_le _) (Nat.zero_le _) (hP_ _ (Or.inl ⟨cj_, rfl⟩))
    · have r1_ := Int.emod_nonneg (c.2.1.getD i 0) (b := c.1) (by omega)
      have r2_ := Int.emod_lt_of_pos (c.2.1.getD i 0) (b := c.1) (by omega)
      refine hs 0 _ rfl _ _ _ _ _ _ _ rfl ?_
      refine hs 1 _ rfl _ _ _ _ _ _ _ rfl ?_
      refine zw_c (hs 2 _ rfl) (a := [.ref x, .int (Int32.ofInt (i : Int))]) (st := []) rfl rfl (Nat.le_of_ble_eq_true rfl) ⟨_, _, _, rfl, hX.1, rfl⟩ (by omega) (by omega) (zc_numAt_M g hX (i := i) rfl hi ?_)
      show S 5 [some (.ref x), some (.int (Int32.ofInt (i : Int))), none] [.ref (x + 1 + 5 + 2 * i)] _ _ _
      refine hs 3 _ rfl _ _ _ _ _ _ _ rfl ?_
      refine hs 4 _ rfl _ _ _ _ _ _ _ rfl ?_
      refine zw_c (hs 5 _ rfl) (a := [.ref x]) (st := []) rfl rfl (Nat.le_of_ble_eq_true rfl) ⟨_, _, _, rfl, hX.1, rfl⟩ (by omega) (by omega) (zc_jam_M g hX (fun y_ => absurd y_ (by omega)) (fun _ => ?_))
      show S 10 [some (.ref x), some (.int (Int32.ofInt (i : Int))), some (.ref (x + 1 + 5 + 2 * i))] [.int (Int32.ofInt (0 : Int))] _ _ _
      refine hs 6 _ rfl _ _ _ _ _ _ (fun _ => ?_) (fun zq => absurd (hd_c1t (c := 0) (by omega) (by omega) (by omega : (0 : Int) = 0)) zq)
      refine hs 9 _ rfl _ _ _ _ _ _ _ rfl ?_
      refine hs 10 _ rfl _ _ _ _ _ _ _ rfl ?_
      refine hs 11 _ rfl _ _ _ _ _ _ _ _ _ (hX.1) rfl rfl ?_
      refine hs 12 _ rfl _ _ _ _ _ _ _ _ _ (hX.2.1.d) rfl rfl ?_
      refine zw_c (hs 13 _ rfl) (a := [.ref (x + 1 + 5 + 2 * i), .int (Int32.ofInt c.1)]) (st := []) rfl rfl (Nat.le_of_ble_eq_true rfl) ⟨_, _, _, rfl, y1_, rfl⟩ (by omega) (by omega) (sb_restE_M g y1_ rfl y2_ rfl y3_ (by omega) (by omega) ?_)
      show S 29 [some (.ref x), some (.int (Int32.ofInt (i : Int))), some (.ref (x + 1 + 5 + 2 * i))] [.int (Int32.ofInt ((c.2.1.getD i 0) % c.1))] _ _ _
      refine hs 14 _ rfl _ _ _ _ _ _ _ rfl ?_
      refine hs 15 _ rfl _ _ _ _ _ _ _ _ _ (hX.1) rfl rfl ?_
      refine hs 16 _ rfl _ _ _ _ _ _ _ _ _ (hX.2.1.d) rfl rfl ?_
      refine zw_c (hs 17 _ rfl) (a := [.int (Int32.ofInt ((c.2.1.getD i 0) % c.1)), .int (Int32.ofInt c.1)]) (st := []) rfl rfl (Nat.le_of_ble_eq_true rfl) trivial (by omega) (by omega) (sk_orderE_M g r1_ r2_ (by omega) (fun v_ hv_ => ?_))
      show S 39 [some (.ref x), some (.int (Int32.ofInt (i : Int))), some (.ref (x + 1 + 5 + 2 * i))] [.int (Int32.ofInt v_)] _ _ _
      exact hs 18 _ rfl _ _ _ _ _ (rv _) (Nat.zero_le _) (Nat.zero_le _) (hP_ _ (Or.inr ⟨by show 0 < c.1; omega, hv_⟩))
set_option maxHeartbeats 4000000 in
theorem zc_qsolutions_M {l : Launch} {G : am_G} {X : ck_XT} (g : gM l G X) {x : Nat} {r : Nat → Nat} {jj mm kk : Int} {c : sp_S} {R : Nat → sp_S} {old cnt : Nat} {h : List am_C} (hX : zc_x G h x r jj mm kk c R old cnt) {e : Int} (he1 : -2147483648 ≤ e) (he2 : e ≤ 2147483647) {e2 : Int} (hf1 : -2147483648 ≤ e2) (hf2 : e2 ≤ 2147483647) {mc ms : Nat} {Post : am_O → List am_C → Prop} (hmc : 1 ≤ mc) (hms : 6 ≤ ms)
    (hP : ((0 ≤ e ∧ e < 6) ∧ (0 ≤ e2 ∧ e2 < 6)) → ∀ a : Int, sp_r31 e e2 (c, zc_l R old cnt, jj, mm, kk) a → Post (.inl (some (.int (Int32.ofInt a)))) h)
    (hX2 : ¬ (((0 ≤ e ∧ e < 6) ∧ (0 ≤ e2 ∧ e2 < 6))) → Post (.inr "java/lang/IndexOutOfBoundsException") (h ++ [(99, [])])) :
    am_M l G yX10_solutions (.code yX10_solutions prog_1_method_31_code 6 (some .int)) 7 111 mc ms [.ref x, .int (Int32.ofInt e), .int (Int32.ofInt e2)] h Post := by
  have hx9_ := hX.2.2.2.2.2.2.2
  by_cases c1_ : (0 ≤ e ∧ e < 6) ∧ (0 ≤ e2 ∧ e2 < 6)
  rotate_left
  · by_cases c2_ : 0 ≤ e ∧ e < 6
    · obtain ⟨i, rfl⟩ : ∃ i : Nat, e = (i : Int) := ⟨e.toNat, by omega⟩
      have hi : i < 6 := by omega
      refine gh_yX10_solutions_X g (Nat.le_of_ble_eq_true rfl) fun S SX hs hr hw hx => ?_
      have rv : ∀ x : Int32, ck_fv 0 (.int x) := fun x => ⟨_, rfl⟩
      refine hs 0 _ rfl _ _ _ _ _ _ _ rfl ?_
      refine hs 1 _ rfl _ _ _ _ _ _ _ rfl ?_
      refine zw_c (hs 2 _ rfl) (a := [.ref x, .int (Int32.ofInt (i : Int))]) (st := []) rfl rfl (Nat.le_of_ble_eq_true rfl) ⟨_, _, _, rfl, hX.1, rfl⟩ (by omega) (by omega) (zc_numAt_M g hX (i := i) rfl hi ?_)
      show S 5 [some (.ref x), some (.int (Int32.ofInt (i : Int))), some (.int (Int32.ofInt e2)), none, none, none] [.ref (x + 1 + 5 + 2 * i)] _ _ _
      refine hs 3 _ rfl _ _ _ _ _ _ _ rfl ?_
      refine hs 4 _ rfl _ _ _ _ _ _ _ rfl ?_
      refine hs 5 _ rfl _ _ _ _ _ _ _ rfl ?_
      exact zw_cm (hs 6 _ rfl) (a := [.ref x, .int (Int32.ofInt e2)]) (st := []) 1 6 rfl rfl (Nat.le_of_ble_eq_true rfl) ⟨_, _, _, rfl, (hX.1), rfl⟩ (by omega) (by omega) (zc_numAtX_M g hX hf1 hf2 (by omega) (by decide) (by decide) (hx _ _ _ _ _ _ (by omega) (by omega) (hX2 c1_)))
    · 
      refine gh_yX10_solutions_X g (Nat.le_of_ble_eq_true rfl) fun S SX hs hr hw hx => ?_
      have rv : ∀ x : Int32, ck_fv 0 (.int x) := fun x => ⟨_, rfl⟩
      refine hs 0 _ rfl _ _ _ _ _ _ _ rfl ?_
      refine hs 1 _ rfl _ _ _ _ _ _ _ rfl ?_
      exact zw_cm (hs 2 _ rfl) (a := [.ref x, .int (Int32.ofInt e)]) (st := []) 1 6 rfl rfl (Nat.le_of_ble_eq_true rfl) ⟨_, _, _, rfl, (hX.1), rfl⟩ (by omega) (by omega) (zc_numAtX_M g hX he1 he2 (by omega) (by decide) (by decide) (hx _ _ _ _ _ _ (by omega) (by omega) (hX2 c1_)))
  · have hP_ := hP c1_
    obtain ⟨i, rfl⟩ : ∃ i : Nat, e = (i : Int) := ⟨e.toNat, by omega⟩
    obtain ⟨i2, rfl⟩ : ∃ i : Nat, e2 = (i : Int) := ⟨e2.toNat, by omega⟩
    have hi : i < 6 := by omega
    have hi2 : i2 < 6 := by omega
    obtain ⟨ny_, sy_, ly_, y1_, y2_, y3_⟩ := hX.2.1.n hi
    obtain ⟨nz_, sz_, lz_, z1_, z2_, z3_⟩ := hX.2.1.n hi2
    refine gh_yX10_solutions_X g (Nat.le_of_ble_eq_true rfl) fun S SX hs hr hw hx => ?_
    have rv : ∀ x : Int32, ck_fv 0 (.int x) := fun x => ⟨_, rfl⟩
    have hb_ := hX.2.2.1.1
    by_cases cj_ : c.1 ≤ 0
    · 
      refine hs 0 _ rfl _ _ _ _ _ _ _ rfl ?_
      refine hs 1 _ rfl _ _ _ _ _ _ _ rfl ?_
      refine zw_c (hs 2 _ rfl) (a := [.ref x, .int (Int32.ofInt (i : Int))]) (st := []) rfl rfl (Nat.le_of_ble_eq_true rfl) ⟨_, _, _, rfl, hX.1, rfl⟩ (by omega) (by omega) (zc_numAt_M g hX (i := i) rfl hi ?_)
      show S 5 [some (.ref x), some (.int (Int32.ofInt (i : Int))), some (.int (Int32.ofInt (i2 : Int))), none, none, none] [.ref (x + 1 + 5 + 2 * i)] _ _ _
      refine hs 3 _ rfl _ _ _ _ _ _ _ rfl ?_
      refine hs 4 _ rfl _ _ _ _ _ _ _ rfl ?_
      refine hs 5 _ rfl _ _ _ _ _ _ _ rfl ?_
      refine zw_c (hs 6 _ rfl) (a := [.ref x, .int (Int32.ofInt (i2 : Int))]) (st := []) rfl rfl (Nat.le_of_ble_eq_true rfl) ⟨_, _, _, rfl, hX.1, rfl⟩ (by omega) (by omega) (zc_numAt_M g hX (i := i2) rfl hi2 ?_)
      show S 11 [some (.ref x), some (.int (Int32.ofInt (i : Int))), some (.int (Int32.ofInt (i2 : Int))), some (.ref (x + 1 + 5 + 2 * i)), none, none] [.ref (x + 1 + 5 + 2 * i2)] _ _ _
      refine hs 7 _ rfl _ _ _ _ _ _ _ rfl ?_
      refine hs 8 _ rfl _ _ _ _ _ _ _ rfl ?_
      refine hs 9 _ rfl _ _ _ _ _ _ _ _ _ (hX.1) rfl rfl ?_
      refine hs 10 _ rfl _ _ _ _ _ _ _ _ _ (hX.2.1.d) rfl rfl ?_
      refine hs 11 _ rfl _ _ _ _ _ _ _ rfl ?_
      refine hs 12 _ rfl _ _ _ _ _ _ _ rfl ?_
      refine zw_c (hs 13 _ rfl) (a := [.ref x]) (st := []) rfl rfl (Nat.le_of_ble_eq_true rfl) ⟨_, _, _, rfl, hX.1, rfl⟩ (by omega) (by omega) (zc_jam_M g hX (fun _ => ?_) (fun y_ => absurd y_ (by omega)))
      show S 26 [some (.ref x), some (.int (Int32.ofInt (i : Int))), some (.int (Int32.ofInt (i2 : Int))), some (.ref (x + 1 + 5 + 2 * i)), some (.ref (x + 1 + 5 + 2 * i2)), some (.int (Int32.ofInt c.1))] [.int (Int32.ofInt (1 : Int))] _ _ _
      refine hs 14 _ rfl _ _ _ _ _ _ (fun zq => absurd (hd_c1z (c := 0) (by omega) (by omega) zq) (by omega : ¬ ((1 : Int) = 0))) (fun _ => ?_)
      refine hs 15 _ rfl _ _ _ _ _ _ _ rfl ?_
      refine hs 16 _ rfl _ _ _ _ _ ?_
      exact hs 25 _ rfl _ _ _ _ _ (rv _) (Nat.zero_le _) (Nat.zero_le _) (hP_ _ (Or.inl ⟨cj_, rfl⟩))
    · have r1_ := Int.emod_nonneg (c.2.1.getD i 0) (b := c.1) (by omega)
      have r2_ := Int.emod_lt_of_pos (c.2.1.getD i 0) (b := c.1) (by omega)
      have q1_ := Int.emod_nonneg (c.2.1.getD i2 0) (b := c.1) (by omega)
      have q2_ := Int.emod_lt_of_pos (c.2.1.getD i2 0) (b := c.1) (by omega)
      refine hs 0 _ rfl _ _ _ _ _ _ _ rfl ?_
      refine hs 1 _ rfl _ _ _ _ _ _ _ rfl ?_
      refine zw_c (hs 2 _ rfl) (a := [.ref x, .int (Int32.ofInt (i : Int))]) (st := []) rfl rfl (Nat.le_of_ble_eq_true rfl) ⟨_, _, _, rfl, hX.1, rfl⟩ (by omega) (by omega) (zc_numAt_M g hX (i := i) rfl hi ?_)
      show S 5 [some (.ref x), some (.int (Int32.ofInt (i : Int))), some (.int (Int32.ofInt (i2 : Int))), none, none, none] [.ref (x + 1 + 5 + 2 * i)] _ _ _
      refine hs 3 _ rfl _ _ _ _ _ _ _ rfl ?_
      refine hs 4 _ rfl _ _ _ _ _ _ _ rfl ?_
      refine hs 5 _ rfl _ _ _ _ _ _ _ rfl ?_
      refine zw_c (hs 6 _ rfl) (a := [.ref x, .int (Int32.ofInt (i2 : Int))]) (st := []) rfl rfl (Nat.le_of_ble_eq_true rfl) ⟨_, _, _, rfl, hX.1, rfl⟩ (by omega) (by omega) (zc_numAt_M g hX (i := i2) rfl hi2 ?_)
      show S 11 [some (.ref x), some (.int (Int32.ofInt (i : Int))), some (.int (Int32.ofInt (i2 : Int))), some (.ref (x + 1 + 5 + 2 * i)), none, none] [.ref (x + 1 + 5 + 2 * i2)] _ _ _
      refine hs 7 _ rfl _ _ _ _ _ _ _ rfl ?_
      refine hs 8 _ rfl _ _ _ _ _ _ _ rfl ?_
      refine hs 9 _ rfl _ _ _ _ _ _ _ _ _ (hX.1) rfl rfl ?_
      refine hs 10 _ rfl _ _ _ _ _ _ _ _ _ (hX.2.1.d) rfl rfl ?_
      refine hs 11 _ rfl _ _ _ _ _ _ _ rfl ?_
      refine hs 12 _ rfl _ _ _ _ _ _ _ rfl ?_
      refine zw_c (hs 13 _ rfl) (a := [.ref x]) (st := []) rfl rfl (Nat.le_of_ble_eq_true rfl) ⟨_, _, _, rfl, hX.1, rfl⟩ (by omega) (by omega) (zc_jam_M g hX (fun y_ => absurd y_ (by omega)) (fun _ => ?_))
      show S 26 [some (.ref x), some (.int (Int32.ofInt (i : Int))), some (.int (Int32.ofInt (i2 : Int))), some (.ref (x + 1 + 5 + 2 * i)), some (.ref (x + 1 + 5 + 2 * i2)), some (.int (Int32.ofInt c.1))] [.int (Int32.ofInt (0 : Int))] _ _ _
      refine hs 14 _ rfl _ _ _ _ _ _ (fun _ => ?_) (fun zq => absurd (hd_c1t (c := 0) (by omega) (by omega) (by omega : (0 : Int) = 0)) zq)
      refine hs 17 _ rfl _ _ _ _ _ _ _ rfl ?_
      refine hs 18 _ rfl _ _ _ _ _ _ _ rfl ?_
      refine zw_c (hs 19 _ rfl) (a := [.ref (x + 1 + 5 + 2 * i), .int (Int32.ofInt c.1)]) (st := []) rfl rfl (Nat.le_of_ble_eq_true rfl) ⟨_, _, _, rfl, y1_, rfl⟩ (by omega) (by omega) (sb_restE_M g y1_ rfl y2_ rfl y3_ (by omega) (by omega) ?_)
      show S 40 [some (.ref x), some (.int (Int32.ofInt (i : Int))), some (.int (Int32.ofInt (i2 : Int))), some (.ref (x + 1 + 5 + 2 * i)), some (.ref (x + 1 + 5 + 2 * i2)), some (.int (Int32.ofInt c.1))] [.int (Int32.ofInt (c.2.1.getD i 0 % c.1))] _ _ _
      refine hs 20 _ rfl _ _ _ _ _ _ _ rfl ?_
      refine hs 21 _ rfl _ _ _ _ _ _ _ rfl ?_
      refine zw_c (hs 22 _ rfl) (a := [.ref (x + 1 + 5 + 2 * i2), .int (Int32.ofInt c.1)]) (st := [.int (Int32.ofInt (c.2.1.getD i 0 % c.1))]) rfl rfl (Nat.le_of_ble_eq_true rfl) ⟨_, _, _, rfl, z1_, rfl⟩ (by omega) (by omega) (sb_restE_M g z1_ rfl z2_ rfl z3_ (by omega) (by omega) ?_)
      show S 47 [some (.ref x), some (.int (Int32.ofInt (i : Int))), some (.int (Int32.ofInt (i2 : Int))), some (.ref (x + 1 + 5 + 2 * i)), some (.ref (x + 1 + 5 + 2 * i2)), some (.int (Int32.ofInt c.1))] [.int (Int32.ofInt (c.2.1.getD i2 0 % c.1)), .int (Int32.ofInt (c.2.1.getD i 0 % c.1))] _ _ _
      refine hs 23 _ rfl _ _ _ _ _ _ _ rfl ?_
      refine zw_c (hs 24 _ rfl) (a := [.int (Int32.ofInt (c.2.1.getD i 0 % c.1)), .int (Int32.ofInt (c.2.1.getD i2 0 % c.1)), .int (Int32.ofInt c.1)]) (st := []) rfl rfl (Nat.le_of_ble_eq_true rfl) trivial (by omega) (by omega) (sk_solE_M g r1_ r2_ q1_ q2_ (by omega) ?_)
      show S 52 [some (.ref x), some (.int (Int32.ofInt (i : Int))), some (.int (Int32.ofInt (i2 : Int))), some (.ref (x + 1 + 5 + 2 * i)), some (.ref (x + 1 + 5 + 2 * i2)), some (.int (Int32.ofInt c.1))] [.int (Int32.ofInt ((sk_n (sk_s (c.2.1.getD i 0 % c.1).toNat (c.2.1.getD i2 0 % c.1).toNat c.1.toNat) c.1.toNat : Nat) : Int))] _ _ _
      exact hs 25 _ rfl _ _ _ _ _ (rv _) (Nat.zero_le _) (Nat.zero_le _) (hP_ _ (Or.inr ⟨by show 0 < c.1; omega, rfl⟩))
