/-! WHAT IS ASKED, AND ITS ANSWER -/
def sp_q (T : sp_T) (ok : Prop) (R : Int → Prop) (a th : Int) (T' : sp_T) : Prop := T' = T ∧ ((ok ∧ th = 0 ∧ R a) ∨ (¬ ok ∧ th = 1))
theorem sp_q.fn {T T' T2 : sp_T} {ok : Prop} {R : Int → Prop} {a th a2 th2 : Int} (hR : ∀ v w, R v → R w → v = w) (h1 : sp_q T ok R a th T') (h2 : sp_q T ok R a2 th2 T2) : sp_al a th T' a2 th2 T2 := by
  obtain ⟨e1_, c1_⟩ := h1
  obtain ⟨e2_, c2_⟩ := h2
  rcases c1_ with ⟨a1_, a2_, a3_⟩ | ⟨a1_, a2_⟩
  · rcases c2_ with ⟨b1_, b2_, b3_⟩ | ⟨b1_, b2_⟩
    · exact ⟨a2_.trans b2_.symm, e1_.trans e2_.symm, fun _ => hR _ _ a3_ b3_⟩
    · exact absurd a1_ b1_
  · rcases c2_ with ⟨b1_, b2_, b3_⟩ | ⟨b1_, b2_⟩
    · exact absurd b1_ a1_
    · exact ⟨a2_.trans b2_.symm, e1_.trans e2_.symm, fun z_ => by omega⟩
def sp_jm (T : sp_T) (R : Int → Prop) (a : Int) : Prop := (T.1.1 ≤ 0 ∧ a = -9) ∨ (0 < T.1.1 ∧ R a)
theorem sp_jm.fn {T : sp_T} {R : Int → Prop} (hR : ∀ v w, R v → R w → v = w) {v w : Int} (h1 : sp_jm T R v) (h2 : sp_jm T R w) : v = w := by
  rcases h1 with ⟨a1_, a2_⟩ | ⟨a1_, a2_⟩
  · rcases h2 with ⟨b1_, b2_⟩ | ⟨b1_, b2_⟩
    · rw [a2_, b2_]
    · omega
  · rcases h2 with ⟨b1_, b2_⟩ | ⟨b1_, b2_⟩
    · omega
    · exact hR _ _ a2_ b2_
def sp_r21 (e e2 : Int) (T : sp_T) (a : Int) : Prop := ∃ d : Nat, a = (d : Int) ∧ zc_dg ((sp_at T e).natAbs : Int) d
def sp_r27 (e e2 : Int) (T : sp_T) (a : Int) : Prop := sp_jm T (fun v => v = sp_md T e) a
def sp_r28 (e e2 : Int) (T : sp_T) (a : Int) : Prop := sp_jm T (fun v => v = ((Nat.gcd (sp_md T e).toNat T.1.1.toNat : Nat) : Int)) a
def sp_r29 (e e2 : Int) (T : sp_T) (a : Int) : Prop := sp_jm T (fun v => zc_pw (sp_md T e).toNat T.1.1.toNat (sp_at T e2) v) a
def sp_r30 (e e2 : Int) (T : sp_T) (a : Int) : Prop := sp_jm T (fun v => sm_inv (sp_md T e).toNat T.1.1.toNat v) a
def sp_q21 (e e2 : Int) (T : sp_T) (a th : Int) (T' : sp_T) : Prop := sp_q T (sp_s1 e) (sp_r21 e e2 T) a th T'
def sp_q27 (e e2 : Int) (T : sp_T) (a th : Int) (T' : sp_T) : Prop := sp_q T (sp_s1 e) (sp_r27 e e2 T) a th T'
def sp_q28 (e e2 : Int) (T : sp_T) (a th : Int) (T' : sp_T) : Prop := sp_q T (sp_s1 e) (sp_r28 e e2 T) a th T'
def sp_q29 (e e2 : Int) (T : sp_T) (a th : Int) (T' : sp_T) : Prop := sp_q T (sp_s1 e ∧ sp_s1 e2) (sp_r29 e e2 T) a th T'
def sp_q30 (e e2 : Int) (T : sp_T) (a th : Int) (T' : sp_T) : Prop := sp_q T (sp_s1 e) (sp_r30 e e2 T) a th T'
section SPQ
variable {e e2 a th a2 th2 : Int} {T T' T2 : sp_T}
theorem sp_q21.fn (h1 : sp_q21 e e2 T a th T') (h2 : sp_q21 e e2 T a2 th2 T2) : sp_al a th T' a2 th2 T2 := sp_q.fn (fun v w ⟨d_, y1_, y2_⟩ ⟨d2_, z1_, z2_⟩ => by rw [y1_, z1_, zc_dg.fn y2_ z2_]) h1 h2
theorem sp_q27.fn (h1 : sp_q27 e e2 T a th T') (h2 : sp_q27 e e2 T a2 th2 T2) : sp_al a th T' a2 th2 T2 := sp_q.fn (fun v w y_ z_ => sp_jm.fn (fun v w y_ z_ => y_.trans z_.symm) y_ z_) h1 h2
theorem sp_q28.fn (h1 : sp_q28 e e2 T a th T') (h2 : sp_q28 e e2 T a2 th2 T2) : sp_al a th T' a2 th2 T2 := sp_q.fn (fun v w y_ z_ => sp_jm.fn (fun v w y_ z_ => y_.trans z_.symm) y_ z_) h1 h2
theorem sp_q29.fn (h1 : sp_q29 e e2 T a th T') (h2 : sp_q29 e e2 T a2 th2 T2) : sp_al a th T' a2 th2 T2 := sp_q.fn (fun v w y_ z_ => sp_jm.fn (fun v w y_ z_ => zc_pw.fn y_ z_) y_ z_) h1 h2
theorem sp_q30.fn (h1 : sp_q30 e e2 T a th T') (h2 : sp_q30 e e2 T a2 th2 T2) : sp_al a th T' a2 th2 T2 := sp_q.fn (fun v w y_ z_ => sp_jm.fn (fun v w y_ z_ => sm_inv.fn y_ z_) y_ z_) h1 h2
end SPQ
set_option maxHeartbeats 4000000 in
theorem zc_qmod_M {l : Launch} {G : am_G} {X : ck_XT} (g : gM l G X) {x : Nat} {r : Nat → Nat} {jj mm kk : Int} {c : sp_S} {R : Nat → sp_S} {old cnt : Nat} {h : List am_C} (hX : zc_x G h x r jj mm kk c R old cnt) {e : Int} (he1 : -2147483648 ≤ e) (he2 : e ≤ 2147483647) {e2 : Int} {mc ms : Nat} {Post : am_O → List am_C → Prop} (hmc : 1 ≤ mc) (hms : 6 ≤ ms)
    (hP : (0 ≤ e ∧ e < 6) → ∀ a : Int, sp_r27 e e2 (c, zc_l R old cnt, jj, mm, kk) a → Post (.inl (some (.int (Int32.ofInt a)))) h)
    (hX2 : ¬ ((0 ≤ e ∧ e < 6)) → Post (.inr "java/lang/IndexOutOfBoundsException") (h ++ [(99, [])])) :
    am_M l G yX10_mod (.code yX10_mod prog_1_method_27_code 3 (some .int)) 7 111 mc ms [.ref x, .int (Int32.ofInt e)] h Post := by
  have hx9_ := hX.2.2.2.2.2.2.2
  by_cases c1_ : 0 ≤ e ∧ e < 6
  rotate_left
  · 
    refine gh_yX10_mod_X g (Nat.le_of_ble_eq_true rfl) fun S SX hs hr hw hx => ?_
    have rv : ∀ x : Int32, ck_fv 0 (.int x) := fun x => ⟨_, rfl⟩
    refine hs 0 _ rfl _ _ _ _ _ _ _ rfl ?_
    refine hs 1 _ rfl _ _ _ _ _ _ _ rfl ?_
    exact zw_cm (hs 2 _ rfl) (a := [.ref x, .int (Int32.ofInt e)]) (st := []) 1 6 rfl rfl (Nat.le_of_ble_eq_true rfl) ⟨_, _, _, rfl, (hX.1), rfl⟩ (by omega) (by omega) (zc_numAtX_M g hX he1 he2 (by omega) (by decide) (by decide) (hx _ _ _ _ _ _ (by omega) (by omega) (hX2 c1_)))
  · have hP_ := hP c1_
    exact zc_mod_M g hX (i := e.toNat) (by omega) (by omega) (fun y_ => hP_ _ (Or.inl ⟨y_, rfl⟩)) (fun y_ => hP_ _ (Or.inr ⟨y_, rfl⟩))
set_option maxHeartbeats 4000000 in
theorem zc_qinverse_M {l : Launch} {G : am_G} {X : ck_XT} (g : gM l G X) {x : Nat} {r : Nat → Nat} {jj mm kk : Int} {c : sp_S} {R : Nat → sp_S} {old cnt : Nat} {h : List am_C} (hX : zc_x G h x r jj mm kk c R old cnt) {e : Int} (he1 : -2147483648 ≤ e) (he2 : e ≤ 2147483647) {e2 : Int} {mc ms : Nat} {Post : am_O → List am_C → Prop} (hmc : 1 ≤ mc) (hms : 6 ≤ ms)
    (hP : (0 ≤ e ∧ e < 6) → ∀ a : Int, sp_r30 e e2 (c, zc_l R old cnt, jj, mm, kk) a → Post (.inl (some (.int (Int32.ofInt a)))) h)
    (hX2 : ¬ ((0 ≤ e ∧ e < 6)) → Post (.inr "java/lang/IndexOutOfBoundsException") (h ++ [(99, [])])) :
    am_M l G yX10_inverse (.code yX10_inverse prog_1_method_30_code 3 (some .int)) 7 111 mc ms [.ref x, .int (Int32.ofInt e)] h Post := by
  have hx9_ := hX.2.2.2.2.2.2.2
  by_cases c1_ : 0 ≤ e ∧ e < 6
  rotate_left
  · 
    refine gh_yX10_inverse_X g (Nat.le_of_ble_eq_true rfl) fun S SX hs hr hw hx => ?_
    have rv : ∀ x : Int32, ck_fv 0 (.int x) := fun x => ⟨_, rfl⟩
    refine hs 0 _ rfl _ _ _ _ _ _ _ rfl ?_
    refine hs 1 _ rfl _ _ _ _ _ _ _ rfl ?_
    exact zw_cm (hs 2 _ rfl) (a := [.ref x, .int (Int32.ofInt e)]) (st := []) 1 6 rfl rfl (Nat.le_of_ble_eq_true rfl) ⟨_, _, _, rfl, (hX.1), rfl⟩ (by omega) (by omega) (zc_numAtX_M g hX he1 he2 (by omega) (by decide) (by decide) (hx _ _ _ _ _ _ (by omega) (by omega) (hX2 c1_)))
  · have hP_ := hP c1_
    exact zc_inv_M g hX (i := e.toNat) (by omega) (by omega) (fun y_ => hP_ _ (Or.inl ⟨y_, rfl⟩)) (fun y_ v_ hv_ => hP_ _ (Or.inr ⟨y_, hv_⟩))
set_option maxHeartbeats 4000000 in
theorem zc_qdigits_M {l : Launch} {G : am_G} {X : ck_XT} (g : gM l G X) {x : Nat} {r : Nat → Nat} {jj mm kk : Int} {c : sp_S} {R : Nat → sp_S} {old cnt : Nat} {h : List am_C} (hX : zc_x G h x r jj mm kk c R old cnt) {e : Int} (he1 : -2147483648 ≤ e) (he2 : e ≤ 2147483647) {e2 : Int} {mc ms : Nat} {Post : am_O → List am_C → Prop} (hmc : 1 ≤ mc) (hms : 6 ≤ ms)
    (hP : (0 ≤ e ∧ e < 6) → ∀ a : Int, sp_r21 e e2 (c, zc_l R old cnt, jj, mm, kk) a → Post (.inl (some (.int (Int32.ofInt a)))) h)
    (hX2 : ¬ ((0 ≤ e ∧ e < 6)) → Post (.inr "java/lang/IndexOutOfBoundsException") (h ++ [(99, [])])) :
    am_M l G yX10_digits (.code yX10_digits prog_1_method_21_code 2 (some .int)) 7 111 mc ms [.ref x, .int (Int32.ofInt e)] h Post := by
  have hx9_ := hX.2.2.2.2.2.2.2
  by_cases c1_ : 0 ≤ e ∧ e < 6
  rotate_left
  · 
    refine gh_yX10_digits_X g (Nat.le_of_ble_eq_true rfl) fun S SX hs hr hw hx => ?_
    have rv : ∀ x : Int32, ck_fv 0 (.int x) := fun x => ⟨_, rfl⟩
    refine hs 0 _ rfl _ _ _ _ _ _ _ rfl ?_
    refine hs 1 _ rfl _ _ _ _ _ _ _ rfl ?_
    exact zw_cm (hs 2 _ rfl) (a := [.ref x, .int (Int32.ofInt e)]) (st := []) 1 6 rfl rfl (Nat.le_of_ble_eq_true rfl) ⟨_, _, _, rfl, (hX.1), rfl⟩ (by omega) (by omega) (zc_numAtX_M g hX he1 he2 (by omega) (by decide) (by decide) (hx _ _ _ _ _ _ (by omega) (by omega) (hX2 c1_)))
  · have hP_ := hP c1_
    obtain ⟨i, rfl⟩ : ∃ i : Nat, e = (i : Int) := ⟨e.toNat, by omega⟩
    have hi : i < 6 := by omega
    obtain ⟨ny_, sy_, ly_, y1_, y2_, y3_⟩ := hX.2.1.n hi
    refine gh_yX10_digits_X g (Nat.le_of_ble_eq_true rfl) fun S SX hs hr hw hx => ?_
    have rv : ∀ x : Int32, ck_fv 0 (.int x) := fun x => ⟨_, rfl⟩
    refine hs 0 _ rfl _ _ _ _ _ _ _ rfl ?_
    refine hs 1 _ rfl _ _ _ _ _ _ _ rfl ?_
    refine zw_c (hs 2 _ rfl) (a := [.ref x, .int (Int32.ofInt (i : Int))]) (st := []) rfl rfl (Nat.le_of_ble_eq_true rfl) ⟨_, _, _, rfl, hX.1, rfl⟩ (by omega) (by omega) (zc_numAt_M g hX (i := i) rfl hi ?_)
    show S 5 [some (.ref x), some (.int (Int32.ofInt (i : Int)))] [.ref (x + 1 + 5 + 2 * i)] _ _ _
    refine zw_c (hs 3 _ rfl) (a := [.ref (x + 1 + 5 + 2 * i)]) (st := []) rfl rfl (Nat.le_of_ble_eq_true rfl) ⟨_, _, _, rfl, y1_, rfl⟩ (by omega) (by omega) (sb_dig_M g (by omega) (by omega) (by omega) y1_ rfl y2_ rfl y3_.1 y3_.2.1 fun d_ hd_ => ?_)
    show S 8 [some (.ref x), some (.int (Int32.ofInt (i : Int)))] [.int (Int32.ofInt (d_ : Int))] _ _ _
    exact hs 4 _ rfl _ _ _ _ _ (rv _) (Nat.zero_le _) (Nat.zero_le _) (hP_ _ ⟨d_, rfl, by rw [show sp_at (c, zc_l R old cnt, jj, mm, kk) (i : Int) = c.2.1.getD i 0 from rfl, y3_.abs]; exact hd_⟩)
theorem sm_commonE_M {l : Launch} {G : am_G} {X : ck_XT} (g : gM l G X) {a m : Int} {h : List am_C} (ha : 0 ≤ a) (ha2 : a < m) (hm : m ≤ 999) {mc ms : Nat} {Post : am_O → List am_C → Prop} (hP : Post (.inl (some (.int (Int32.ofInt ((Nat.gcd a.toNat m.toNat : Nat) : Int))))) h) :
    am_M l G yX7_commonOf (.code yX7_commonOf prog_9_method_2_code 6 (some .int)) 1 20 mc ms [.int (Int32.ofInt a), .int (Int32.ofInt m)] h Post := by
  obtain ⟨x_, rfl⟩ : ∃ x_ : Nat, a = (x_ : Int) := ⟨a.toNat, by omega⟩
  obtain ⟨y_, rfl⟩ : ∃ y_ : Nat, m = (y_ : Int) := ⟨m.toNat, by omega⟩
  exact sm_common_M g (by omega) (by omega) hP
set_option maxHeartbeats 4000000 in
theorem zc_qgcd_M {l : Launch} {G : am_G} {X : ck_XT} (g : gM l G X) {x : Nat} {r : Nat → Nat} {jj mm kk : Int} {c : sp_S} {R : Nat → sp_S} {old cnt : Nat} {h : List am_C} (hX : zc_x G h x r jj mm kk c R old cnt) {e : Int} (he1 : -2147483648 ≤ e) (he2 : e ≤ 2147483647) {e2 : Int} {mc ms : Nat} {Post : am_O → List am_C → Prop} (hmc : 1 ≤ mc) (hms : 6 ≤ ms)
    (hP : (0 ≤ e ∧ e < 6) → ∀ a : Int, sp_r28 e e2 (c, zc_l R old cnt, jj, mm, kk) a → Post (.inl (some (.int (Int32.ofInt a)))) h)
    (hX2 : ¬ ((0 ≤ e ∧ e < 6)) → Post (.inr "java/lang/IndexOutOfBoundsException") (h ++ [(99, [])])) :
    am_M l G yX10_gcd (.code yX10_gcd prog_1_method_28_code 3 (some .int)) 7 111 mc ms [.ref x, .int (Int32.ofInt e)] h Post := by
  have hx9_ := hX.2.2.2.2.2.2.2
  by_cases c1_ : 0 ≤ e ∧ e < 6
  rotate_left
  · 
    refine gh_yX10_gcd_X g (Nat.le_of_ble_eq_true rfl) fun S SX hs hr hw hx => ?_
    have rv : ∀ x : Int32, ck_fv 0 (.int x) := fun x => ⟨_, rfl⟩
    refine hs 0 _ rfl _ _ _ _ _ _ _ rfl ?_
    refine hs 1 _ rfl _ _ _ _ _ _ _ rfl ?_
    exact zw_cm (hs 2 _ rfl) (a := [.ref x, .int (Int32.ofInt e)]) (st := []) 1 6 rfl rfl (Nat.le_of_ble_eq_true rfl) ⟨_, _, _, rfl, (hX.1), rfl⟩ (by omega) (by omega) (zc_numAtX_M g hX he1 he2 (by omega) (by decide) (by decide) (hx _ _ _ _ _ _ (by omega) (by omega) (hX2 c1_)))
  · have hP_ := hP c1_
    obtain ⟨i, rfl⟩ : ∃ i : Nat, e = (i : Int) := ⟨e.toNat, by omega⟩
    have hi : i < 6 := by omega
    obtain ⟨ny_, sy_, ly_, y1_, y2_, y3_⟩ := hX.2.1.n hi
    refine gh_yX10_gcd_X g (Nat.le_of_ble_eq_true rfl) fun S SX hs hr hw hx => ?_
    have rv : ∀ x : Int32, ck_fv 0 (.int x) := fun x => ⟨_, rfl⟩
    have hb_ := hX.2.2.1.1
    by_cases cj_ : c.1 ≤ 0
    · 
      refine hs 0 _ rfl _ _ _ _ _ _ _ rfl ?_
      refine hs 1 _ rfl _ _ _ _ _ _ _ rfl ?_
      refine zw_c (hs 2 _ rfl) (a := [.ref x, .int (Int32.ofInt (i : Int))]) (st := []) rfl rfl (Nat.le_of_ble_eq_true rfl) ⟨_, _, _, rfl, hX.1, rfl⟩ (by omega) (by omega) (zc_numAt_M g hX (i := i) rfl hi ?_)
      show S 5 [some (.ref x), some (.int (Int32.ofInt (i : Int))), none] [.ref (x + 1 + 5 + 2 * i)] _ _ _
      refine hs 3 _ rfl _ _ _ _ _ _ _ rfl ?_
      refine hs 4 _ rfl _ _ _ _ _ _ _ rfl ?_
      refine zw_c (hs 5 _ rfl) (a := [.ref x]) (st := []) rfl rfl (Nat.le_of_ble_eq_true rfl) ⟨_, _, _, rfl, hX.1, rfl⟩ (by omega) (by omega) (zc_jam_M g hX (fun _ => ?_) (fun y_ => absurd y_ (by omega)))
      show S 10 [some (.ref x), some (.int (Int32.ofInt (i : Int))), some (.ref (x + 1 + 5 + 2 * i))] [.int (Int32.ofInt (1 : Int))] _ _ _
      refine hs 6 _ rfl _ _ _ _ _ _ (fun zq => absurd (hd_c1z (c := 0) (by omega) (by omega) zq) (by omega : ¬ ((1 : Int) = 0))) (fun _ => ?_)
      refine hs 7 _ rfl _ _ _ _ _ _ _ rfl ?_
      refine hs 8 _ rfl _ _ _ _ _ ?_
      exact hs 18 _ rfl _ _ _ _ _ (rv _) (Nat.zero_le _) (Nat.zero_le _) (hP_ _ (Or.inl ⟨cj_, rfl⟩))
    · have r1_ := Int.emod_nonneg (c.2.1.getD i 0) (b := c.1) (by omega)
      have r2_ := Int.emod_lt_of_pos (c.2.1.getD i 0) (b := c.1) (by omega)
      refine hs 0 _ rfl _ _ _ _ _ _ _ rfl ?_
      refine hs 1 _ rfl _ _ _ _ _ _ _ rfl ?_
      refine zw_c (hs 2 _ rfl) (a := [.ref x, .int (Int32.ofInt (i : Int))]) (st := []) rfl rfl (Nat.le_of_ble_eq_true rfl) ⟨_, _, _, rfl, hX.1, rfl⟩ (by omega) (by omega) (zc_numAt_M g hX (i := i) rfl hi ?_)
      show S 5 [some (.ref x), some (.int (Int32.ofInt (i : Int))), none] [.ref (x + 1 + 5 + 2 * i)] _ _ _
      refine hs 3 _ rfl _ _ _ _ _ _ _ rfl ?_
      refine hs 4 _ rfl _ _ _ _ _ _ _ rfl ?_
      refine zw_c (hs 5 _ rfl) (a := [.ref x]) (st := []) rfl rfl (Nat.le_of_ble_eq_true rfl) ⟨_, _, _, rfl, hX.1, rfl⟩ (by omega) (by omega) (zc_jam_M g hX (fun y_ => absurd y_ (by omega)) (fun _ => ?_))
      show S 10 [some (.ref x), some (.int (Int32.ofInt (i : Int))), some (.ref (x + 1 + 5 + 2 * i))] [.int (Int32.ofInt (0 : Int))] _ _ _
      refine hs 6 _ rfl _ _ _ _ _ _ (fun _ => ?_) (fun zq => absurd (hd_c1t (c := 0) (by omega) (by omega) (by omega : (0 : Int) = 0)) zq)
      refine hs 9 _ rfl _ _ _ _ _ _ _ rfl ?_
      refine hs 10 _ rfl _ _ _ _ _ _ _ rfl ?_
      refine hs 11 _ rfl _ _ _ _ _ _ _ _ _ (hX.1) rfl rfl ?_
      refine hs 12 _ rfl _ _ _ _ _ _ _ _ _ (hX.2.1.d) rfl rfl ?_
      refine zw_c (hs 13 _ rfl) (a := [.ref (x + 1 + 5 + 2 * i), .int (Int32.ofInt c.1)]) (st := []) rfl rfl (Nat.le_of_ble_eq_true rfl) ⟨_, _, _, rfl, y1_, rfl⟩ (by omega) (by omega) (sb_restE_M g y1_ rfl y2_ rfl y3_ (by omega) (by omega) ?_)
      show S 29 [some (.ref x), some (.int (Int32.ofInt (i : Int))), some (.ref (x + 1 + 5 + 2 * i))] [.int (Int32.ofInt ((c.2.1.getD i 0) % c.1))] _ _ _
      refine hs 14 _ rfl _ _ _ _ _ _ _ rfl ?_
      refine hs 15 _ rfl _ _ _ _ _ _ _ _ _ (hX.1) rfl rfl ?_
      refine hs 16 _ rfl _ _ _ _ _ _ _ _ _ (hX.2.1.d) rfl rfl ?_
      refine zw_c (hs 17 _ rfl) (a := [.int (Int32.ofInt ((c.2.1.getD i 0) % c.1)), .int (Int32.ofInt c.1)]) (st := []) rfl rfl (Nat.le_of_ble_eq_true rfl) trivial (by omega) (by omega) (sm_commonE_M g r1_ r2_ (by omega) ?_)
      show S 39 [some (.ref x), some (.int (Int32.ofInt (i : Int))), some (.ref (x + 1 + 5 + 2 * i))] [.int (Int32.ofInt ((Nat.gcd (c.2.1.getD i 0 % c.1).toNat c.1.toNat : Nat) : Int))] _ _ _
      exact hs 18 _ rfl _ _ _ _ _ (rv _) (Nat.zero_le _) (Nat.zero_le _) (hP_ _ (Or.inr ⟨by show 0 < c.1; omega, rfl⟩))
set_option maxHeartbeats 4000000 in
theorem zc_qpower_M {l : Launch} {G : am_G} {X : ck_XT} (g : gM l G X) {x : Nat} {r : Nat → Nat} {jj mm kk : Int} {c : sp_S} {R : Nat → sp_S} {old cnt : Nat} {h : List am_C} (hX : zc_x G h x r jj mm kk c R old cnt) {e : Int} (he1 : -2147483648 ≤ e) (he2 : e ≤ 2147483647) {e2 : Int} (hf1 : -2147483648 ≤ e2) (hf2 : e2 ≤ 2147483647) {mc ms : Nat} {Post : am_O → List am_C → Prop} (hmc : 1 ≤ mc) (hms : 6 ≤ ms)
    (hP : ((0 ≤ e ∧ e < 6) ∧ (0 ≤ e2 ∧ e2 < 6)) → ∀ a : Int, sp_r29 e e2 (c, zc_l R old cnt, jj, mm, kk) a → Post (.inl (some (.int (Int32.ofInt a)))) h)
    (hX2 : ¬ (((0 ≤ e ∧ e < 6) ∧ (0 ≤ e2 ∧ e2 < 6))) → Post (.inr "java/lang/IndexOutOfBoundsException") (h ++ [(99, [])])) :
    am_M l G yX10_power (.code yX10_power prog_1_method_29_code 5 (some .int)) 7 111 mc ms [.ref x, .int (Int32.ofInt e), .int (Int32.ofInt e2)] h Post := by
  have hx9_ := hX.2.2.2.2.2.2.2
  by_cases c1_ : (0 ≤ e ∧ e < 6) ∧ (0 ≤ e2 ∧ e2 < 6)
  rotate_left
  · by_cases c2_ : 0 ≤ e ∧ e < 6
    · exact zc_powX_M g hX (i := e.toNat) (by omega) (by omega) hf1 hf2 (by omega) hmc hms (hX2 c1_)
    · 
      refine gh_yX10_power_X g (Nat.le_of_ble_eq_true rfl) fun S SX hs hr hw hx => ?_
      have rv : ∀ x : Int32, ck_fv 0 (.int x) := fun x => ⟨_, rfl⟩
      refine hs 0 _ rfl _ _ _ _ _ _ _ rfl ?_
      refine hs 1 _ rfl _ _ _ _ _ _ _ rfl ?_
      exact zw_cm (hs 2 _ rfl) (a := [.ref x, .int (Int32.ofInt e)]) (st := []) 1 6 rfl rfl (Nat.le_of_ble_eq_true rfl) ⟨_, _, _, rfl, (hX.1), rfl⟩ (by omega) (by omega) (zc_numAtX_M g hX he1 he2 (by omega) (by decide) (by decide) (hx _ _ _ _ _ _ (by omega) (by omega) (hX2 c1_)))
  · have hP_ := hP c1_
    exact zc_pow_M g hX (i := e.toNat) (by omega) (by omega) (i2 := e2.toNat) (by omega) (by omega) (fun y_ => hP_ _ (Or.inl ⟨y_, rfl⟩)) (fun y_ v_ hv_ => hP_ _ (Or.inr ⟨y_, hv_⟩))
