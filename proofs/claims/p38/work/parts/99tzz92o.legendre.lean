/-! LEGENDRE'S SIGN -/
def sp_r42 (e e2 : Int) (T : sp_T) (a : Int) : Prop := sp_jm T (fun v => v = sk_lg (sp_md T e).toNat T.1.1) a
def sp_q42 (e e2 : Int) (T : sp_T) (a th : Int) (T' : sp_T) : Prop := sp_q T (sp_s1 e) (sp_r42 e e2 T) a th T'
theorem sp_q42.fn {e e2 a th a2 th2 : Int} {T T' T2 : sp_T} (h1 : sp_q42 e e2 T a th T') (h2 : sp_q42 e e2 T a2 th2 T2) : sp_al a th T' a2 th2 T2 := sp_q.fn (fun v w y_ z_ => sp_jm.fn (fun v w y_ z_ => y_.trans z_.symm) y_ z_) h1 h2
theorem sp_r42.bd {e e2 a : Int} {T : sp_T} (hk : sp_ok T.1) (h : sp_r42 e e2 T a) : -9 ≤ a ∧ a ≤ 1000 := sp_jm.bd hk (fun hp hr => by
  have hr_ : a = sk_lg (sp_md T e).toNat T.1.1 := hr
  rw [hr_]
  exact sk_lg.bd _ _) h
set_option maxHeartbeats 4000000 in
theorem sk_odd_M {l : Launch} {G : am_G} {X : ck_XT} (g : gM l G X) {m : Int} {h : List am_C} (hm1 : -9 ≤ m) (hm2 : m ≤ 400) {mc ms : Nat} {Post : am_O → List am_C → Prop} (hY : 2 < m ∧ sk_pr m.toNat = true → Post (.inl (some (.int (Int32.ofInt 1)))) h) (hN : ¬ (2 < m ∧ sk_pr m.toNat = true) → Post (.inl (some (.int (Int32.ofInt 0)))) h) :
    am_M l G yX7_oddPrimeHolds (.code yX7_oddPrimeHolds prog_9_method_13_code 1 (some .boolean)) 2 41 mc ms [.int (Int32.ofInt m)] h Post := by
  refine gh_yX7_oddPrimeHolds_X g (Nat.le_of_ble_eq_true rfl) fun S SX hs hr hw hx => ?_
  have rv : ∀ x : Int32, ck_fv 0 (.int x) := fun x => ⟨_, rfl⟩
  by_cases c1_ : m ≤ 2
  · 
    refine hs 0 _ rfl _ _ _ _ _ _ _ rfl ?_
    refine hs 1 _ rfl _ _ _ _ _ _ _ rfl ?_
    refine hs 2 _ rfl _ _ _ _ _ _ _ (fun _ => ?_) (fun zq => absurd (hd_c2t (c := 5) (by omega) (by omega) (by omega) (by omega) (by omega : (m - (2 : Int)) ≤ 0)) zq)
    refine hs 8 _ rfl _ _ _ _ _ _ _ rfl ?_
    exact hs 9 _ rfl _ _ _ _ _ ⟨_, rfl, by decide, by decide⟩ (Nat.zero_le _) (Nat.zero_le _) (hN fun y_ => by have := y_.1; omega)
  · by_cases y_ : sk_pr m.toNat = true
    · 
      refine hs 0 _ rfl _ _ _ _ _ _ _ rfl ?_
      refine hs 1 _ rfl _ _ _ _ _ _ _ rfl ?_
      refine hs 2 _ rfl _ _ _ _ _ _ _ (fun zq => absurd (hd_c2z (c := 5) (by omega) (by omega) (by omega) (by omega) zq) (by omega : ¬ ((m - (2 : Int)) ≤ 0))) (fun _ => ?_)
      refine hs 3 _ rfl _ _ _ _ _ _ _ rfl ?_
      refine zw_c (hs 4 _ rfl) (a := [.int (Int32.ofInt m)]) (st := []) rfl rfl (Nat.le_of_ble_eq_true rfl) trivial (by omega) (by omega) (sk_prime_M g hm1 hm2 (fun _ => ?_) (fun w_ => absurd ⟨by omega, y_⟩ w_))
      show S 9 [some (.int (Int32.ofInt m))] [.int (Int32.ofInt (1 : Int))] _ _ _
      refine hs 5 _ rfl _ _ _ _ _ _ (fun zq => absurd (hd_c1z (c := 0) (by omega) (by omega) zq) (by omega : ¬ ((1 : Int) = 0))) (fun _ => ?_)
      refine hs 6 _ rfl _ _ _ _ _ _ _ rfl ?_
      refine hs 7 _ rfl _ _ _ _ _ ?_
      exact hs 9 _ rfl _ _ _ _ _ ⟨_, rfl, by decide, by decide⟩ (Nat.zero_le _) (Nat.zero_le _) (hY ⟨by omega, y_⟩)
    · 
      refine hs 0 _ rfl _ _ _ _ _ _ _ rfl ?_
      refine hs 1 _ rfl _ _ _ _ _ _ _ rfl ?_
      refine hs 2 _ rfl _ _ _ _ _ _ _ (fun zq => absurd (hd_c2z (c := 5) (by omega) (by omega) (by omega) (by omega) zq) (by omega : ¬ ((m - (2 : Int)) ≤ 0))) (fun _ => ?_)
      refine hs 3 _ rfl _ _ _ _ _ _ _ rfl ?_
      refine zw_c (hs 4 _ rfl) (a := [.int (Int32.ofInt m)]) (st := []) rfl rfl (Nat.le_of_ble_eq_true rfl) trivial (by omega) (by omega) (sk_prime_M g hm1 hm2 (fun w_ => absurd w_.2 y_) (fun _ => ?_))
      show S 9 [some (.int (Int32.ofInt m))] [.int (Int32.ofInt (0 : Int))] _ _ _
      refine hs 5 _ rfl _ _ _ _ _ _ (fun _ => ?_) (fun zq => absurd (hd_c1t (c := 0) (by omega) (by omega) (by omega : (0 : Int) = 0)) zq)
      refine hs 8 _ rfl _ _ _ _ _ _ _ rfl ?_
      exact hs 9 _ rfl _ _ _ _ _ ⟨_, rfl, by decide, by decide⟩ (Nat.zero_le _) (Nat.zero_le _) (hN fun w_ => absurd w_.2 y_)
set_option maxHeartbeats 4000000 in
theorem sk_leg_M {l : Launch} {G : am_G} {X : ck_XT} (g : gM l G X) {A_ M_ : Nat} (ha : A_ < M_) (hm : M_ ≤ 400) {h : List am_C} {mc ms : Nat} {Post : am_O → List am_C → Prop} (hP : Post (.inl (some (.int (Int32.ofInt (sk_lv A_ M_))))) h) :
    am_M l G yX7_legendreOf (.code yX7_legendreOf prog_9_method_14_code 2 (some .int)) 2 44 mc ms [.int (Int32.ofInt (A_ : Int)), .int (Int32.ofInt (M_ : Int))] h Post := by
  refine gh_yX7_legendreOf_X g (Nat.le_of_ble_eq_true rfl) fun S SX hs hr hw hx => ?_
  have rv : ∀ x : Int32, ck_fv 0 (.int x) := fun x => ⟨_, rfl⟩
  by_cases c1_ : A_ = 0
  · rw [show sk_lv A_ M_ = 0 by unfold sk_lv; rw [if_pos c1_]] at hP
    refine hs 0 _ rfl _ _ _ _ _ _ _ rfl ?_
    refine hs 1 _ rfl _ _ _ _ _ _ (fun zq => absurd (hd_c1z (c := 1) (by omega) (by omega) zq) (by omega : ¬ ((A_ : Int) ≠ 0))) (fun _ => ?_)
    refine hs 2 _ rfl _ _ _ _ _ _ _ rfl ?_
    exact hs 3 _ rfl _ _ _ _ _ (rv _) (Nat.zero_le _) (Nat.zero_le _) hP
  · by_cases c2_ : sk_n (sk_r A_ M_) M_ = 0
    · rw [show sk_lv A_ M_ = -1 by unfold sk_lv; rw [if_neg c1_, if_pos c2_]] at hP
      refine hs 0 _ rfl _ _ _ _ _ _ _ rfl ?_
      refine hs 1 _ rfl _ _ _ _ _ _ (fun _ => ?_) (fun zq => absurd (hd_c1t (c := 1) (by omega) (by omega) (by omega : (A_ : Int) ≠ 0)) zq)
      refine hs 4 _ rfl _ _ _ _ _ _ _ rfl ?_
      refine hs 5 _ rfl _ _ _ _ _ _ _ rfl ?_
      refine hs 6 _ rfl _ _ _ _ _ _ _ rfl ?_
      refine zw_c (hs 7 _ rfl) (a := [.int (Int32.ofInt (A_ : Int)), .int (Int32.ofInt (M_ : Int)), .int (Int32.ofInt (0 : Int))]) (st := []) rfl rfl (Nat.le_of_ble_eq_true rfl) trivial (by omega) (by omega) (sk_rootAt_M g ha hm (pl_ := 0) (by decide) (by decide) (fun v_ hv_ => ?_))
      have vz_ := hv_.z
      have vb_ := hv_.bd
      show S 12 [some (.int (Int32.ofInt (A_ : Int))), some (.int (Int32.ofInt (M_ : Int)))] [.int (Int32.ofInt v_)] _ _ _
      refine hs 8 _ rfl _ _ _ _ _ _ _ rfl ?_
      refine hs 9 _ rfl _ _ _ _ _ _ _ (fun zq => absurd (hd_c2z (c := 1) (by omega) (by omega) (by omega) (by omega) zq) (by omega : ¬ ((v_ - (-1 : Int)) ≠ 0))) (fun _ => ?_)
      refine hs 10 _ rfl _ _ _ _ _ _ _ rfl ?_
      refine hs 11 _ rfl _ _ _ _ _ ?_
      exact hs 13 _ rfl _ _ _ _ _ (rv _) (Nat.zero_le _) (Nat.zero_le _) hP
    · rw [show sk_lv A_ M_ = 1 by unfold sk_lv; rw [if_neg c1_, if_neg c2_]] at hP
      refine hs 0 _ rfl _ _ _ _ _ _ _ rfl ?_
      refine hs 1 _ rfl _ _ _ _ _ _ (fun _ => ?_) (fun zq => absurd (hd_c1t (c := 1) (by omega) (by omega) (by omega : (A_ : Int) ≠ 0)) zq)
      refine hs 4 _ rfl _ _ _ _ _ _ _ rfl ?_
      refine hs 5 _ rfl _ _ _ _ _ _ _ rfl ?_
      refine hs 6 _ rfl _ _ _ _ _ _ _ rfl ?_
      refine zw_c (hs 7 _ rfl) (a := [.int (Int32.ofInt (A_ : Int)), .int (Int32.ofInt (M_ : Int)), .int (Int32.ofInt (0 : Int))]) (st := []) rfl rfl (Nat.le_of_ble_eq_true rfl) trivial (by omega) (by omega) (sk_rootAt_M g ha hm (pl_ := 0) (by decide) (by decide) (fun v_ hv_ => ?_))
      have vz_ := hv_.z
      have vb_ := hv_.bd
      show S 12 [some (.int (Int32.ofInt (A_ : Int))), some (.int (Int32.ofInt (M_ : Int)))] [.int (Int32.ofInt v_)] _ _ _
      refine hs 8 _ rfl _ _ _ _ _ _ _ rfl ?_
      refine hs 9 _ rfl _ _ _ _ _ _ _ (fun _ => ?_) (fun zq => absurd (hd_c2t (c := 1) (by omega) (by omega) (by omega) (by omega) (by omega : (v_ - (-1 : Int)) ≠ 0)) zq)
      refine hs 12 _ rfl _ _ _ _ _ _ _ rfl ?_
      exact hs 13 _ rfl _ _ _ _ _ (rv _) (Nat.zero_le _) (Nat.zero_le _) hP
set_option maxHeartbeats 4000000 in
theorem zk_leg_M {l : Launch} {G : am_G} {X : ck_XT} (g : gM l G X) {A_ M_ : Nat} (ha : A_ < M_) (hm : M_ ≤ 400) {h : List am_C} {mc ms : Nat} {Post : am_O → List am_C → Prop} (hP : Post (.inl (some (.int (Int32.ofInt (sk_lv A_ M_))))) h) :
    am_M l G yX14_legendreOf (.code yX14_legendreOf prog_14_method_77_code 2 (some .int)) 2 43 mc ms [.int (Int32.ofInt (A_ : Int)), .int (Int32.ofInt (M_ : Int))] h Post := by
  refine gh_yX14_legendreOf_X g (Nat.le_of_ble_eq_true rfl) fun S SX hs hr hw hx => ?_
  have rv : ∀ x : Int32, ck_fv 0 (.int x) := fun x => ⟨_, rfl⟩
  have l9_ := sk_n.le (sk_r A_ M_) M_
  by_cases c1_ : A_ = 0
  · rw [show sk_lv A_ M_ = 0 by unfold sk_lv; rw [if_pos c1_]] at hP
    refine hs 0 _ rfl _ _ _ _ _ _ _ rfl ?_
    refine hs 1 _ rfl _ _ _ _ _ _ _ rfl ?_
    refine hs 2 _ rfl _ _ _ _ _ _ _ (zt_remq (Nat.mod_eq_of_lt ha) (by omega) (by omega) (by omega)) ?_
    refine hs 3 _ rfl _ _ _ _ _ _ (fun zq => absurd (hd_c1z (c := 1) (by omega) (by omega) zq) (by omega : ¬ ((A_ : Int) ≠ 0))) (fun _ => ?_)
    refine hs 4 _ rfl _ _ _ _ _ _ _ rfl ?_
    refine hs 5 _ rfl _ _ _ _ _ ?_
    exact hs 15 _ rfl _ _ _ _ _ (rv _) (Nat.zero_le _) (Nat.zero_le _) hP
  · by_cases c2_ : sk_n (sk_r A_ M_) M_ = 0
    · rw [show sk_lv A_ M_ = -1 by unfold sk_lv; rw [if_neg c1_, if_pos c2_]] at hP
      refine hs 0 _ rfl _ _ _ _ _ _ _ rfl ?_
      refine hs 1 _ rfl _ _ _ _ _ _ _ rfl ?_
      refine hs 2 _ rfl _ _ _ _ _ _ _ (zt_remq (Nat.mod_eq_of_lt ha) (by omega) (by omega) (by omega)) ?_
      refine hs 3 _ rfl _ _ _ _ _ _ (fun _ => ?_) (fun zq => absurd (hd_c1t (c := 1) (by omega) (by omega) (by omega : (A_ : Int) ≠ 0)) zq)
      refine hs 6 _ rfl _ _ _ _ _ _ _ rfl ?_
      refine hs 7 _ rfl _ _ _ _ _ _ _ rfl ?_
      refine hs 8 _ rfl _ _ _ _ _ _ _ (zt_remq (Nat.mod_eq_of_lt ha) (by omega) (by omega) (by omega)) ?_
      refine hs 9 _ rfl _ _ _ _ _ _ _ rfl ?_
      refine zw_c (hs 10 _ rfl) (a := [.int (Int32.ofInt (A_ : Int)), .int (Int32.ofInt (M_ : Int))]) (st := []) rfl rfl (Nat.le_of_ble_eq_true rfl) trivial (by omega) (by omega) (zk_roots_M g ha hm ?_)
      show S 17 [some (.int (Int32.ofInt (A_ : Int))), some (.int (Int32.ofInt (M_ : Int)))] [.int (Int32.ofInt ((sk_n (sk_r A_ M_) M_ : Nat) : Int))] _ _ _
      refine hs 11 _ rfl _ _ _ _ _ _ (fun zq => absurd (hd_c1z (c := 1) (by omega) (by omega) zq) (by omega : ¬ (((sk_n (sk_r A_ M_) M_ : Nat) : Int) ≠ 0))) (fun _ => ?_)
      refine hs 12 _ rfl _ _ _ _ _ _ _ rfl ?_
      refine hs 13 _ rfl _ _ _ _ _ ?_
      exact hs 15 _ rfl _ _ _ _ _ (rv _) (Nat.zero_le _) (Nat.zero_le _) hP
    · rw [show sk_lv A_ M_ = 1 by unfold sk_lv; rw [if_neg c1_, if_neg c2_]] at hP
      refine hs 0 _ rfl _ _ _ _ _ _ _ rfl ?_
      refine hs 1 _ rfl _ _ _ _ _ _ _ rfl ?_
      refine hs 2 _ rfl _ _ _ _ _ _ _ (zt_remq (Nat.mod_eq_of_lt ha) (by omega) (by omega) (by omega)) ?_
      refine hs 3 _ rfl _ _ _ _ _ _ (fun _ => ?_) (fun zq => absurd (hd_c1t (c := 1) (by omega) (by omega) (by omega : (A_ : Int) ≠ 0)) zq)
      refine hs 6 _ rfl _ _ _ _ _ _ _ rfl ?_
      refine hs 7 _ rfl _ _ _ _ _ _ _ rfl ?_
      refine hs 8 _ rfl _ _ _ _ _ _ _ (zt_remq (Nat.mod_eq_of_lt ha) (by omega) (by omega) (by omega)) ?_
      refine hs 9 _ rfl _ _ _ _ _ _ _ rfl ?_
      refine zw_c (hs 10 _ rfl) (a := [.int (Int32.ofInt (A_ : Int)), .int (Int32.ofInt (M_ : Int))]) (st := []) rfl rfl (Nat.le_of_ble_eq_true rfl) trivial (by omega) (by omega) (zk_roots_M g ha hm ?_)
      show S 17 [some (.int (Int32.ofInt (A_ : Int))), some (.int (Int32.ofInt (M_ : Int)))] [.int (Int32.ofInt ((sk_n (sk_r A_ M_) M_ : Nat) : Int))] _ _ _
      refine hs 11 _ rfl _ _ _ _ _ _ (fun _ => ?_) (fun zq => absurd (hd_c1t (c := 1) (by omega) (by omega) (by omega : ((sk_n (sk_r A_ M_) M_ : Nat) : Int) ≠ 0)) zq)
      refine hs 14 _ rfl _ _ _ _ _ _ _ rfl ?_
      exact hs 15 _ rfl _ _ _ _ _ (rv _) (Nat.zero_le _) (Nat.zero_le _) hP
theorem sk_legE_M {l : Launch} {G : am_G} {X : ck_XT} (g : gM l G X) {a m : Int} {h : List am_C} (ha : 0 ≤ a) (ka : a < m) (hm : m ≤ 400) {mc ms : Nat} {Post : am_O → List am_C → Prop} (hP : Post (.inl (some (.int (Int32.ofInt (sk_lv a.toNat m.toNat))))) h) :
    am_M l G yX7_legendreOf (.code yX7_legendreOf prog_9_method_14_code 2 (some .int)) 2 44 mc ms [.int (Int32.ofInt a), .int (Int32.ofInt m)] h Post := by
  obtain ⟨A_, rfl⟩ : ∃ x_ : Nat, a = (x_ : Int) := ⟨a.toNat, by omega⟩
  obtain ⟨M_, rfl⟩ : ∃ x_ : Nat, m = (x_ : Int) := ⟨m.toNat, by omega⟩
  exact sk_leg_M g (by omega) (by omega) hP
theorem zk_legE_M {l : Launch} {G : am_G} {X : ck_XT} (g : gM l G X) {a m : Int} {h : List am_C} (ha : 0 ≤ a) (ka : a < m) (hm : m ≤ 400) {mc ms : Nat} {Post : am_O → List am_C → Prop} (hP : Post (.inl (some (.int (Int32.ofInt (sk_lv a.toNat m.toNat))))) h) :
    am_M l G yX14_legendreOf (.code yX14_legendreOf prog_14_method_77_code 2 (some .int)) 2 43 mc ms [.int (Int32.ofInt a), .int (Int32.ofInt m)] h Post := by
  obtain ⟨A_, rfl⟩ : ∃ x_ : Nat, a = (x_ : Int) := ⟨a.toNat, by omega⟩
  obtain ⟨M_, rfl⟩ : ∃ x_ : Nat, m = (x_ : Int) := ⟨m.toNat, by omega⟩
  exact zk_leg_M g (by omega) (by omega) hP
set_option maxHeartbeats 4000000 in
theorem zc_qlegendre_M {l : Launch} {G : am_G} {X : ck_XT} (g : gM l G X) {x : Nat} {r : Nat → Nat} {jj mm kk : Int} {c : sp_S} {R : Nat → sp_S} {old cnt : Nat} {h : List am_C} (hX : zc_x G h x r jj mm kk c R old cnt) {e : Int} (he1 : -2147483648 ≤ e) (he2 : e ≤ 2147483647) {e2 : Int} {mc ms : Nat} {Post : am_O → List am_C → Prop} (hmc : 1 ≤ mc) (hms : 6 ≤ ms)
    (hP : (0 ≤ e ∧ e < 6) → ∀ a : Int, sp_r42 e e2 (c, zc_l R old cnt, jj, mm, kk) a → Post (.inl (some (.int (Int32.ofInt a)))) h)
    (hX2 : ¬ ((0 ≤ e ∧ e < 6)) → Post (.inr "java/lang/IndexOutOfBoundsException") (h ++ [(99, [])])) :
    am_M l G yX10_legendre (.code yX10_legendre prog_1_method_42_code 3 (some .int)) 7 111 mc ms [.ref x, .int (Int32.ofInt e)] h Post := by
  have hx9_ := hX.2.2.2.2.2.2.2
  by_cases c1_ : 0 ≤ e ∧ e < 6
  rotate_left
  · 
    refine gh_yX10_legendre_X g (Nat.le_of_ble_eq_true rfl) fun S SX hs hr hw hx => ?_
    have rv : ∀ x : Int32, ck_fv 0 (.int x) := fun x => ⟨_, rfl⟩
    refine hs 0 _ rfl _ _ _ _ _ _ _ rfl ?_
    refine hs 1 _ rfl _ _ _ _ _ _ _ rfl ?_
    exact zw_cm (hs 2 _ rfl) (a := [.ref x, .int (Int32.ofInt e)]) (st := []) 1 6 rfl rfl (Nat.le_of_ble_eq_true rfl) ⟨_, _, _, rfl, (hX.1), rfl⟩ (by omega) (by omega) (zc_numAtX_M g hX he1 he2 (by omega) (by decide) (by decide) (hx _ _ _ _ _ _ (by omega) (by omega) (hX2 c1_)))
  · have hP_ := hP c1_
    obtain ⟨i, rfl⟩ : ∃ i : Nat, e = (i : Int) := ⟨e.toNat, by omega⟩
    have hi : i < 6 := by omega
    obtain ⟨ny_, sy_, ly_, y1_, y2_, y3_⟩ := hX.2.1.n hi
    refine gh_yX10_legendre_X g (Nat.le_of_ble_eq_true rfl) fun S SX hs hr hw hx => ?_
    have rv : ∀ x : Int32, ck_fv 0 (.int x) := fun x => ⟨_, rfl⟩
    have hb_ := hX.2.2.1.1
    by_cases cj_ : c.1 ≤ 0
    · 
      refine hs 0 _ rfl _ _ _ _ _ _ _ rfl ?_
      refine hs 1 _ rfl _ _ _ _ _ _ _ rfl ?_
      refine zw_c (hs 2 _ rfl) (a := [.ref x, .int (Int32.ofInt (i : Int))]) (st := []) rfl rfl (Nat.le_of_ble_eq_true rfl) ⟨_, _, _, rfl, hX.1, rfl⟩ (by omega) (by omega) (zc_numAt_M g hX (i := i) rfl hi ?_)
      show S 5 [some (.ref x), some (.int (Int32.ofInt (i : Int))), none] [.ref (x + 1 + 5 + 2 * i)] _ _ _
      refine hs 3 _ rfl _ _ _ _ _ _ _ rfl ?_
      refine hs 4 _ rfl _ _ _ _ _ _ _ rfl ?_
      refine zw_c (hs 5 _ rfl) (a := [.ref x]) (st := []) rfl rfl (Nat.le_of_ble_eq_true rfl) ⟨_, _, _, rfl, hX.1, rfl⟩ (by omega) (by omega) (zc_jam_M g hX (fun _ => ?_) (fun y_ => absurd y_ (by omega)))
      show S 10 [some (.ref x), some (.int (Int32.ofInt (i : Int))), some (.ref (x + 1 + 5 + 2 * i))] [.int (Int32.ofInt (1 : Int))] _ _ _
      refine hs 6 _ rfl _ _ _ _ _ _ (fun zq => absurd (hd_c1z (c := 0) (by omega) (by omega) zq) (by omega : ¬ ((1 : Int) = 0))) (fun _ => ?_)
      refine hs 7 _ rfl _ _ _ _ _ _ _ rfl ?_
      exact hs 8 _ rfl _ _ _ _ _ (rv _) (Nat.zero_le _) (Nat.zero_le _) (hP_ _ (Or.inl ⟨cj_, rfl⟩))
    · have r1_ := Int.emod_nonneg (c.2.1.getD i 0) (b := c.1) (by omega)
      have r2_ := Int.emod_lt_of_pos (c.2.1.getD i 0) (b := c.1) (by omega)
      by_cases y_ : 2 < c.1 ∧ sk_pr c.1.toNat = true
      rotate_left
      · have lg_ : (-8 : Int) = sk_lg (c.2.1.getD i 0 % c.1).toNat c.1 := by unfold sk_lg; rw [if_neg y_]
        refine hs 0 _ rfl _ _ _ _ _ _ _ rfl ?_
        refine hs 1 _ rfl _ _ _ _ _ _ _ rfl ?_
        refine zw_c (hs 2 _ rfl) (a := [.ref x, .int (Int32.ofInt (i : Int))]) (st := []) rfl rfl (Nat.le_of_ble_eq_true rfl) ⟨_, _, _, rfl, hX.1, rfl⟩ (by omega) (by omega) (zc_numAt_M g hX (i := i) rfl hi ?_)
        show S 5 [some (.ref x), some (.int (Int32.ofInt (i : Int))), none] [.ref (x + 1 + 5 + 2 * i)] _ _ _
        refine hs 3 _ rfl _ _ _ _ _ _ _ rfl ?_
        refine hs 4 _ rfl _ _ _ _ _ _ _ rfl ?_
        refine zw_c (hs 5 _ rfl) (a := [.ref x]) (st := []) rfl rfl (Nat.le_of_ble_eq_true rfl) ⟨_, _, _, rfl, hX.1, rfl⟩ (by omega) (by omega) (zc_jam_M g hX (fun y_ => absurd y_ (by omega)) (fun _ => ?_))
        show S 10 [some (.ref x), some (.int (Int32.ofInt (i : Int))), some (.ref (x + 1 + 5 + 2 * i))] [.int (Int32.ofInt (0 : Int))] _ _ _
        refine hs 6 _ rfl _ _ _ _ _ _ (fun _ => ?_) (fun zq => absurd (hd_c1t (c := 0) (by omega) (by omega) (by omega : (0 : Int) = 0)) zq)
        refine hs 9 _ rfl _ _ _ _ _ _ _ rfl ?_
        refine hs 10 _ rfl _ _ _ _ _ _ _ _ _ (hX.1) rfl rfl ?_
        refine hs 11 _ rfl _ _ _ _ _ _ _ _ _ (hX.2.1.d) rfl rfl ?_
        refine zw_c (hs 12 _ rfl) (a := [.int (Int32.ofInt c.1)]) (st := []) rfl rfl (Nat.le_of_ble_eq_true rfl) trivial (by omega) (by omega) (sk_odd_M g hb_.1 hb_.2 (fun w_ => absurd w_ y_) (fun _ => ?_))
        show S 26 [some (.ref x), some (.int (Int32.ofInt (i : Int))), some (.ref (x + 1 + 5 + 2 * i))] [.int (Int32.ofInt (0 : Int))] _ _ _
        refine hs 13 _ rfl _ _ _ _ _ _ (fun zq => absurd (hd_c1z (c := 1) (by omega) (by omega) zq) (by omega : ¬ ((0 : Int) ≠ 0))) (fun _ => ?_)
        refine hs 14 _ rfl _ _ _ _ _ _ _ rfl ?_
        exact hs 15 _ rfl _ _ _ _ _ (rv _) (Nat.zero_le _) (Nat.zero_le _) (hP_ _ (Or.inr ⟨by show 0 < c.1; omega, lg_⟩))
      · have lg_ : sk_lv (c.2.1.getD i 0 % c.1).toNat c.1.toNat = sk_lg (c.2.1.getD i 0 % c.1).toNat c.1 := by unfold sk_lg; rw [if_pos y_]
        refine hs 0 _ rfl _ _ _ _ _ _ _ rfl ?_
        refine hs 1 _ rfl _ _ _ _ _ _ _ rfl ?_
        refine zw_c (hs 2 _ rfl) (a := [.ref x, .int (Int32.ofInt (i : Int))]) (st := []) rfl rfl (Nat.le_of_ble_eq_true rfl) ⟨_, _, _, rfl, hX.1, rfl⟩ (by omega) (by omega) (zc_numAt_M g hX (i := i) rfl hi ?_)
        show S 5 [some (.ref x), some (.int (Int32.ofInt (i : Int))), none] [.ref (x + 1 + 5 + 2 * i)] _ _ _
        refine hs 3 _ rfl _ _ _ _ _ _ _ rfl ?_
        refine hs 4 _ rfl _ _ _ _ _ _ _ rfl ?_
        refine zw_c (hs 5 _ rfl) (a := [.ref x]) (st := []) rfl rfl (Nat.le_of_ble_eq_true rfl) ⟨_, _, _, rfl, hX.1, rfl⟩ (by omega) (by omega) (zc_jam_M g hX (fun y_ => absurd y_ (by omega)) (fun _ => ?_))
        show S 10 [some (.ref x), some (.int (Int32.ofInt (i : Int))), some (.ref (x + 1 + 5 + 2 * i))] [.int (Int32.ofInt (0 : Int))] _ _ _
        refine hs 6 _ rfl _ _ _ _ _ _ (fun _ => ?_) (fun zq => absurd (hd_c1t (c := 0) (by omega) (by omega) (by omega : (0 : Int) = 0)) zq)
        refine hs 9 _ rfl _ _ _ _ _ _ _ rfl ?_
        refine hs 10 _ rfl _ _ _ _ _ _ _ _ _ (hX.1) rfl rfl ?_
        refine hs 11 _ rfl _ _ _ _ _ _ _ _ _ (hX.2.1.d) rfl rfl ?_
        refine zw_c (hs 12 _ rfl) (a := [.int (Int32.ofInt c.1)]) (st := []) rfl rfl (Nat.le_of_ble_eq_true rfl) trivial (by omega) (by omega) (sk_odd_M g hb_.1 hb_.2 (fun _ => ?_) (fun w_ => absurd y_ w_))
        show S 26 [some (.ref x), some (.int (Int32.ofInt (i : Int))), some (.ref (x + 1 + 5 + 2 * i))] [.int (Int32.ofInt (1 : Int))] _ _ _
        refine hs 13 _ rfl _ _ _ _ _ _ (fun _ => ?_) (fun zq => absurd (hd_c1t (c := 1) (by omega) (by omega) (by omega : (1 : Int) ≠ 0)) zq)
        refine hs 16 _ rfl _ _ _ _ _ _ _ rfl ?_
        refine hs 17 _ rfl _ _ _ _ _ _ _ rfl ?_
        refine hs 18 _ rfl _ _ _ _ _ _ _ _ _ (hX.1) rfl rfl ?_
        refine hs 19 _ rfl _ _ _ _ _ _ _ _ _ (hX.2.1.d) rfl rfl ?_
        refine zw_c (hs 20 _ rfl) (a := [.ref (x + 1 + 5 + 2 * i), .int (Int32.ofInt c.1)]) (st := []) rfl rfl (Nat.le_of_ble_eq_true rfl) ⟨_, _, _, rfl, y1_, rfl⟩ (by omega) (by omega) (sb_restE_M g y1_ rfl y2_ rfl y3_ (by omega) (by omega) ?_)
        show S 43 [some (.ref x), some (.int (Int32.ofInt (i : Int))), some (.ref (x + 1 + 5 + 2 * i))] [.int (Int32.ofInt ((c.2.1.getD i 0) % c.1))] _ _ _
        refine hs 21 _ rfl _ _ _ _ _ _ _ rfl ?_
        refine hs 22 _ rfl _ _ _ _ _ _ _ _ _ (hX.1) rfl rfl ?_
        refine hs 23 _ rfl _ _ _ _ _ _ _ _ _ (hX.2.1.d) rfl rfl ?_
        refine zw_c (hs 24 _ rfl) (a := [.int (Int32.ofInt ((c.2.1.getD i 0) % c.1)), .int (Int32.ofInt c.1)]) (st := []) rfl rfl (Nat.le_of_ble_eq_true rfl) trivial (by omega) (by omega) (sk_legE_M g r1_ r2_ (by omega) ?_)
        show S 53 [some (.ref x), some (.int (Int32.ofInt (i : Int))), some (.ref (x + 1 + 5 + 2 * i))] [.int (Int32.ofInt (sk_lv (c.2.1.getD i 0 % c.1).toNat c.1.toNat))] _ _ _
        exact hs 25 _ rfl _ _ _ _ _ (rv _) (Nat.zero_le _) (Nat.zero_le _) (hP_ _ (Or.inr ⟨by show 0 < c.1; omega, lg_⟩))
set_option maxHeartbeats 4000000 in
theorem zm_legAt_M {l : Launch} {G : am_G} {X : ck_XT} (g : gM l G X) {o : Nat → Nat} {x tx now qw : Nat} {th j m k : Int} {c : sp_S} {P : List sp_S} {h : List am_C} (hX : zm_x G h o x tx now qw th j m k c P) (hok : sp_ok c) {i : Nat} (hi : i < 6) {mc ms : Nat} {Post : am_O → List am_C → Prop}
    (hJ : c.1 ≤ 0 → Post (.inl (some (.int (Int32.ofInt (-9))))) h) (hP : 0 < c.1 → Post (.inl (some (.int (Int32.ofInt (sk_lg (c.2.1.getD i 0 % c.1).toNat c.1)))) ) h) :
    am_M l G yX14_legendreAt (.code yX14_legendreAt prog_14_method_78_code 2 (some .int)) 3 64 mc ms [.ref x, .int (Int32.ofInt (i : Int))] h Post := by
  refine gh_yX14_legendreAt_X g (Nat.le_of_ble_eq_true rfl) fun S SX hs hr hw hx => ?_
  have rv : ∀ x : Int32, ck_fv 0 (.int x) := fun x => ⟨_, rfl⟩
  obtain ⟨a1_, a2_, a3_, a4_⟩ := id hX
  obtain ⟨t_, qn_, ql_, qb_, s1_, up_⟩ := hX.dialL
  have okd_ := hok.1
  by_cases cj_ : c.1 ≤ 0
  · 
    refine hs 0 _ rfl _ _ _ _ _ _ _ rfl ?_
    refine zw_c (hs 1 _ rfl) (a := [.ref x]) (st := []) rfl rfl (Nat.le_of_ble_eq_true rfl) ⟨_, _, _, rfl, a1_, a2_.1⟩ (by omega) (by omega) (zm_jam_M g hX hok (fun y_ => ?_) (fun y_ => absurd y_ (by omega)))
    show S 4 [some (.ref x), some (.int (Int32.ofInt (i : Int)))] [.int (Int32.ofInt (1 : Int))] _ _ _
    refine hs 2 _ rfl _ _ _ _ _ _ (fun zq => absurd (hd_c1z (c := 0) (by omega) (by omega) zq) (by omega : ¬ ((1 : Int) = 0))) (fun _ => ?_)
    refine hs 3 _ rfl _ _ _ _ _ _ _ rfl ?_
    exact hs 4 _ rfl _ _ _ _ _ (rv _) (Nat.zero_le _) (Nat.zero_le _) (hJ cj_)
  · have r1_ := Int.emod_nonneg (c.2.1.getD i 0) (b := c.1) (by omega)
    have r2_ := Int.emod_lt_of_pos (c.2.1.getD i 0) (b := c.1) (by omega)
    have hP := hP (by omega)
    by_cases c2_ : c.1 = 2
    · rw [show sk_lg (c.2.1.getD i 0 % c.1).toNat c.1 = -8 by unfold sk_lg; rw [if_neg (fun w_ => by have := w_.1; omega)]] at hP
      refine hs 0 _ rfl _ _ _ _ _ _ _ rfl ?_
      refine zw_c (hs 1 _ rfl) (a := [.ref x]) (st := []) rfl rfl (Nat.le_of_ble_eq_true rfl) ⟨_, _, _, rfl, a1_, a2_.1⟩ (by omega) (by omega) (zm_jam_M g hX hok (fun y_ => absurd y_ (by omega)) (fun y_ => ?_))
      show S 4 [some (.ref x), some (.int (Int32.ofInt (i : Int)))] [.int (Int32.ofInt (0 : Int))] _ _ _
      refine hs 2 _ rfl _ _ _ _ _ _ (fun _ => ?_) (fun zq => absurd (hd_c1t (c := 0) (by omega) (by omega) (by omega : (0 : Int) = 0)) zq)
      refine hs 5 _ rfl _ _ _ _ _ _ _ rfl ?_
      refine hs 6 _ rfl _ _ _ _ _ _ _ _ _ (a1_) a2_.1 rfl ?_
      refine hs 7 _ rfl _ _ _ _ _ _ _ _ _ (s1_.1) s1_.2 rfl ?_
      refine hs 8 _ rfl _ _ _ _ _ _ _ rfl ?_
      refine hs 9 _ rfl _ _ _ _ _ _ _ (fun _ => ?_) (fun zq => absurd (hd_c2t (c := 0) (by omega) (by omega) (by omega) (by omega) (by omega : (c.1 - (2 : Int)) = 0)) zq)
      refine hs 15 _ rfl _ _ _ _ _ _ _ rfl ?_
      refine hs 16 _ rfl _ _ _ _ _ ?_
      exact hs 24 _ rfl _ _ _ _ _ (rv _) (Nat.zero_le _) (Nat.zero_le _) hP
    · by_cases pr_ : sk_pr c.1.toNat = true
      rotate_left
      · rw [show sk_lg (c.2.1.getD i 0 % c.1).toNat c.1 = -8 by unfold sk_lg; rw [if_neg (fun w_ => pr_ w_.2)]] at hP
        refine hs 0 _ rfl _ _ _ _ _ _ _ rfl ?_
        refine zw_c (hs 1 _ rfl) (a := [.ref x]) (st := []) rfl rfl (Nat.le_of_ble_eq_true rfl) ⟨_, _, _, rfl, a1_, a2_.1⟩ (by omega) (by omega) (zm_jam_M g hX hok (fun y_ => absurd y_ (by omega)) (fun y_ => ?_))
        show S 4 [some (.ref x), some (.int (Int32.ofInt (i : Int)))] [.int (Int32.ofInt (0 : Int))] _ _ _
        refine hs 2 _ rfl _ _ _ _ _ _ (fun _ => ?_) (fun zq => absurd (hd_c1t (c := 0) (by omega) (by omega) (by omega : (0 : Int) = 0)) zq)
        refine hs 5 _ rfl _ _ _ _ _ _ _ rfl ?_
        refine hs 6 _ rfl _ _ _ _ _ _ _ _ _ (a1_) a2_.1 rfl ?_
        refine hs 7 _ rfl _ _ _ _ _ _ _ _ _ (s1_.1) s1_.2 rfl ?_
        refine hs 8 _ rfl _ _ _ _ _ _ _ rfl ?_
        refine hs 9 _ rfl _ _ _ _ _ _ _ (fun zq => absurd (hd_c2z (c := 0) (by omega) (by omega) (by omega) (by omega) zq) (by omega : ¬ ((c.1 - (2 : Int)) = 0))) (fun _ => ?_)
        refine hs 10 _ rfl _ _ _ _ _ _ _ rfl ?_
        refine hs 11 _ rfl _ _ _ _ _ _ _ _ _ (a1_) a2_.1 rfl ?_
        refine hs 12 _ rfl _ _ _ _ _ _ _ _ _ (s1_.1) s1_.2 rfl ?_
        refine zw_c (hs 13 _ rfl) (a := [.int (Int32.ofInt c.1)]) (st := []) rfl rfl (Nat.le_of_ble_eq_true rfl) trivial (by omega) (by omega) (zk_prime_M g okd_.1 okd_.2 (fun w_ => absurd w_.2 pr_) (fun _ => ?_))
        show S 31 [some (.ref x), some (.int (Int32.ofInt (i : Int)))] [.int (Int32.ofInt (0 : Int))] _ _ _
        refine hs 14 _ rfl _ _ _ _ _ _ (fun zq => absurd (hd_c1z (c := 1) (by omega) (by omega) zq) (by omega : ¬ ((0 : Int) ≠ 0))) (fun _ => ?_)
        refine hs 15 _ rfl _ _ _ _ _ _ _ rfl ?_
        refine hs 16 _ rfl _ _ _ _ _ ?_
        exact hs 24 _ rfl _ _ _ _ _ (rv _) (Nat.zero_le _) (Nat.zero_le _) hP
      · have m1_ : ¬ c.1 = 1 := fun w_ => by
          rw [w_] at pr_
          exact absurd pr_ (by decide)
        rw [show sk_lg (c.2.1.getD i 0 % c.1).toNat c.1 = sk_lv (c.2.1.getD i 0 % c.1).toNat c.1.toNat by unfold sk_lg; rw [if_pos ⟨by omega, pr_⟩]] at hP
        refine hs 0 _ rfl _ _ _ _ _ _ _ rfl ?_
        refine zw_c (hs 1 _ rfl) (a := [.ref x]) (st := []) rfl rfl (Nat.le_of_ble_eq_true rfl) ⟨_, _, _, rfl, a1_, a2_.1⟩ (by omega) (by omega) (zm_jam_M g hX hok (fun y_ => absurd y_ (by omega)) (fun y_ => ?_))
        show S 4 [some (.ref x), some (.int (Int32.ofInt (i : Int)))] [.int (Int32.ofInt (0 : Int))] _ _ _
        refine hs 2 _ rfl _ _ _ _ _ _ (fun _ => ?_) (fun zq => absurd (hd_c1t (c := 0) (by omega) (by omega) (by omega : (0 : Int) = 0)) zq)
        refine hs 5 _ rfl _ _ _ _ _ _ _ rfl ?_
        refine hs 6 _ rfl _ _ _ _ _ _ _ _ _ (a1_) a2_.1 rfl ?_
        refine hs 7 _ rfl _ _ _ _ _ _ _ _ _ (s1_.1) s1_.2 rfl ?_
        refine hs 8 _ rfl _ _ _ _ _ _ _ rfl ?_
        refine hs 9 _ rfl _ _ _ _ _ _ _ (fun zq => absurd (hd_c2z (c := 0) (by omega) (by omega) (by omega) (by omega) zq) (by omega : ¬ ((c.1 - (2 : Int)) = 0))) (fun _ => ?_)
        refine hs 10 _ rfl _ _ _ _ _ _ _ rfl ?_
        refine hs 11 _ rfl _ _ _ _ _ _ _ _ _ (a1_) a2_.1 rfl ?_
        refine hs 12 _ rfl _ _ _ _ _ _ _ _ _ (s1_.1) s1_.2 rfl ?_
        refine zw_c (hs 13 _ rfl) (a := [.int (Int32.ofInt c.1)]) (st := []) rfl rfl (Nat.le_of_ble_eq_true rfl) trivial (by omega) (by omega) (zk_prime_M g okd_.1 okd_.2 (fun _ => ?_) (fun w_ => absurd ⟨by omega, pr_⟩ w_))
        show S 31 [some (.ref x), some (.int (Int32.ofInt (i : Int)))] [.int (Int32.ofInt (1 : Int))] _ _ _
        refine hs 14 _ rfl _ _ _ _ _ _ (fun _ => ?_) (fun zq => absurd (hd_c1t (c := 1) (by omega) (by omega) (by omega : (1 : Int) ≠ 0)) zq)
        refine hs 17 _ rfl _ _ _ _ _ _ _ rfl ?_
        refine hs 18 _ rfl _ _ _ _ _ _ _ rfl ?_
        refine zw_c (hs 19 _ rfl) (a := [.ref x, .int (Int32.ofInt (i : Int))]) (st := []) rfl rfl (Nat.le_of_ble_eq_true rfl) ⟨_, _, _, rfl, a1_, a2_.1⟩ (by omega) (by omega) (zm_modAt_M g hX hok rfl hi (fun y_ => absurd y_ (by omega)) (fun y_ => ?_))
        show S 44 [some (.ref x), some (.int (Int32.ofInt (i : Int)))] [.int (Int32.ofInt (c.2.1.getD i 0 % c.1))] _ _ _
        refine hs 20 _ rfl _ _ _ _ _ _ _ rfl ?_
        refine hs 21 _ rfl _ _ _ _ _ _ _ _ _ (a1_) a2_.1 rfl ?_
        refine hs 22 _ rfl _ _ _ _ _ _ _ _ _ (s1_.1) s1_.2 rfl ?_
        refine zw_c (hs 23 _ rfl) (a := [.int (Int32.ofInt (c.2.1.getD i 0 % c.1)), .int (Int32.ofInt c.1)]) (st := []) rfl rfl (Nat.le_of_ble_eq_true rfl) trivial (by omega) (by omega) (zk_legE_M g r1_ r2_ (by omega) ?_)
        show S 54 [some (.ref x), some (.int (Int32.ofInt (i : Int)))] [.int (Int32.ofInt (sk_lv (c.2.1.getD i 0 % c.1).toNat c.1.toNat))] _ _ _
        exact hs 24 _ rfl _ _ _ _ _ (rv _) (Nat.zero_le _) (Nat.zero_le _) hP
set_option maxHeartbeats 4000000 in
theorem zm_qlegendre_M {l : Launch} {G : am_G} {X : ck_XT} (g : gM l G X) {o : Nat → Nat} {x tx now qw : Nat} {th j m k : Int} {c : sp_S} {P : List sp_S} {h : List am_C} (hX : zm_x G h o x tx now qw th j m k c P) (hok : sp_ok c) {e e2 : Int} (he1 : -2147483648 ≤ e) (he2 : e ≤ 2147483647) {mc ms : Nat} {Post : am_O → List am_C → Prop}
    (hP : ∀ (a th : Int) (T' : sp_T) (h' : List am_C), sp_q42 e e2 (c, P, j, m, k) a th T' → zm_fr G h h' → zm_Y G h' x th T' → Post (.inl (some (.int (Int32.ofInt a)))) h') :
    am_M l G yX14_legendre (.code yX14_legendre prog_14_method_79_code 2 (some .int)) 4 85 mc ms [.ref x, .int (Int32.ofInt e)] h Post := by
  refine gh_yX14_legendre_X g (Nat.le_of_ble_eq_true rfl) fun S SX hs hr hw hx => ?_
  have rv : ∀ x : Int32, ck_fv 0 (.int x) := fun x => ⟨_, rfl⟩
  obtain ⟨a1_, a2_, a3_, a4_⟩ := id hX
  by_cases c1_ : sp_s1 e
  rotate_left
  · have c1b_ : ¬ (0 ≤ e ∧ e < 6) := c1_
    refine hs 0 _ rfl _ _ _ _ _ _ _ rfl ?_
    refine hs 1 _ rfl _ _ _ _ _ _ _ rfl ?_
    refine zw_c (hs 2 _ rfl) (a := [.int (Int32.ofInt e)]) (st := [.ref x]) rfl rfl (Nat.le_of_ble_eq_true rfl) trivial (by omega) (by omega) (zm_noSlot_M g (e := e) (by omega) (by omega) (fun y_ => ?_) (fun y_ => absurd y_ (by omega)))
    show S 5 [some (.ref x), some (.int (Int32.ofInt e))] [.int (Int32.ofInt (1 : Int)), .ref x] _ _ _
    refine hs 3 _ rfl _ _ _ _ _ _ _ rfl ?_
    refine zw_c (hs 4 _ rfl) (a := [.ref x, .int (Int32.ofInt (1 : Int)), .int (Int32.ofInt (1 : Int))]) (st := []) rfl rfl (Nat.le_of_ble_eq_true rfl) ⟨_, _, _, rfl, a1_, a2_.1⟩ (by omega) (by omega) (zm_start_M g hX (i_ := 1) (w_ := 1) (Or.inr rfl) (by decide) (fun y_ h2_ f2_ x2_ => ?_) (fun y_ => absurd y_ (by decide)))
    show S 9 [some (.ref x), some (.int (Int32.ofInt e))] [.int (Int32.ofInt (1 : Int))] _ _ _
    refine hs 5 _ rfl _ _ _ _ _ _ (fun zq => absurd (hd_c1z (c := 0) (by omega) (by omega) zq) (by omega : ¬ ((1 : Int) = 0))) (fun _ => ?_)
    refine hs 6 _ rfl _ _ _ _ _ _ _ rfl ?_
    refine hs 7 _ rfl _ _ _ _ _ ?_
    exact hs 11 _ rfl _ _ _ _ _ (rv _) (by omega) (by omega) (hP 0 _ _ _ ⟨rfl, Or.inr ⟨c1_, rfl⟩⟩ f2_ ⟨_, _, _, _, x2_⟩)
  · 
    obtain ⟨i, rfl⟩ : ∃ i : Nat, e = (i : Int) := ⟨e.toNat, by have := c1_.1; omega⟩
    have hi : i < 6 := by have := c1_.2; omega
    have c1b_ := c1_.1
    have c1c_ := c1_.2
    have okd_ := hok.1
    by_cases cj_ : c.1 ≤ 0
    · 
      refine hs 0 _ rfl _ _ _ _ _ _ _ rfl ?_
      refine hs 1 _ rfl _ _ _ _ _ _ _ rfl ?_
      refine zw_c (hs 2 _ rfl) (a := [.int (Int32.ofInt (i : Int))]) (st := [.ref x]) rfl rfl (Nat.le_of_ble_eq_true rfl) trivial (by omega) (by omega) (zm_noSlot_M g (e := (i : Int)) (by omega) (by omega) (fun y_ => absurd (by omega) y_) (fun y_ => ?_))
      show S 5 [some (.ref x), some (.int (Int32.ofInt (i : Int)))] [.int (Int32.ofInt (0 : Int)), .ref x] _ _ _
      refine hs 3 _ rfl _ _ _ _ _ _ _ rfl ?_
      refine zw_c (hs 4 _ rfl) (a := [.ref x, .int (Int32.ofInt (0 : Int)), .int (Int32.ofInt (1 : Int))]) (st := []) rfl rfl (Nat.le_of_ble_eq_true rfl) ⟨_, _, _, rfl, a1_, a2_.1⟩ (by omega) (by omega) (zm_start_M g hX (i_ := 0) (w_ := 1) (Or.inl rfl) (by decide) (fun y_ => absurd y_ (by decide)) (fun y_ h2_ f2_ x2_ => ?_))
      show S 9 [some (.ref x), some (.int (Int32.ofInt (i : Int)))] [.int (Int32.ofInt (0 : Int))] _ _ _
      refine hs 5 _ rfl _ _ _ _ _ _ (fun _ => ?_) (fun zq => absurd (hd_c1t (c := 0) (by omega) (by omega) (by omega : (0 : Int) = 0)) zq)
      refine hs 8 _ rfl _ _ _ _ _ _ _ rfl ?_
      refine hs 9 _ rfl _ _ _ _ _ _ _ rfl ?_
      refine zw_c (hs 10 _ rfl) (a := [.ref x, .int (Int32.ofInt (i : Int))]) (st := []) rfl rfl (Nat.le_of_ble_eq_true rfl) (zm_rc x2_) (by omega) (by omega) (zm_legAt_M g x2_ hok hi (fun y_ => ?_) (fun y_ => absurd y_ (by omega)))
      show S 21 [some (.ref x), some (.int (Int32.ofInt (i : Int)))] [.int (Int32.ofInt (-9 : Int))] _ _ _
      exact hs 11 _ rfl _ _ _ _ _ (rv _) (by omega) (by omega) (hP (-9) 0 _ _ ⟨rfl, Or.inl ⟨c1_, rfl, Or.inl ⟨cj_, rfl⟩⟩⟩ f2_ ⟨_, _, _, _, x2_⟩)
    · have cp_ : 0 < c.1 := by omega
      refine hs 0 _ rfl _ _ _ _ _ _ _ rfl ?_
      refine hs 1 _ rfl _ _ _ _ _ _ _ rfl ?_
      refine zw_c (hs 2 _ rfl) (a := [.int (Int32.ofInt (i : Int))]) (st := [.ref x]) rfl rfl (Nat.le_of_ble_eq_true rfl) trivial (by omega) (by omega) (zm_noSlot_M g (e := (i : Int)) (by omega) (by omega) (fun y_ => absurd (by omega) y_) (fun y_ => ?_))
      show S 5 [some (.ref x), some (.int (Int32.ofInt (i : Int)))] [.int (Int32.ofInt (0 : Int)), .ref x] _ _ _
      refine hs 3 _ rfl _ _ _ _ _ _ _ rfl ?_
      refine zw_c (hs 4 _ rfl) (a := [.ref x, .int (Int32.ofInt (0 : Int)), .int (Int32.ofInt (1 : Int))]) (st := []) rfl rfl (Nat.le_of_ble_eq_true rfl) ⟨_, _, _, rfl, a1_, a2_.1⟩ (by omega) (by omega) (zm_start_M g hX (i_ := 0) (w_ := 1) (Or.inl rfl) (by decide) (fun y_ => absurd y_ (by decide)) (fun y_ h2_ f2_ x2_ => ?_))
      show S 9 [some (.ref x), some (.int (Int32.ofInt (i : Int)))] [.int (Int32.ofInt (0 : Int))] _ _ _
      refine hs 5 _ rfl _ _ _ _ _ _ (fun _ => ?_) (fun zq => absurd (hd_c1t (c := 0) (by omega) (by omega) (by omega : (0 : Int) = 0)) zq)
      refine hs 8 _ rfl _ _ _ _ _ _ _ rfl ?_
      refine hs 9 _ rfl _ _ _ _ _ _ _ rfl ?_
      refine zw_c (hs 10 _ rfl) (a := [.ref x, .int (Int32.ofInt (i : Int))]) (st := []) rfl rfl (Nat.le_of_ble_eq_true rfl) (zm_rc x2_) (by omega) (by omega) (zm_legAt_M g x2_ hok hi (fun y_ => absurd y_ (by omega)) (fun y_ => ?_))
      show S 21 [some (.ref x), some (.int (Int32.ofInt (i : Int)))] [.int (Int32.ofInt (sk_lg (c.2.1.getD i 0 % c.1).toNat c.1))] _ _ _
      exact hs 11 _ rfl _ _ _ _ _ (rv _) (by omega) (by omega) (hP _ 0 _ _ ⟨rfl, Or.inl ⟨c1_, rfl, Or.inr ⟨cp_, rfl⟩⟩⟩ f2_ ⟨_, _, _, _, x2_⟩)
set_option maxHeartbeats 4000000 in
theorem zc_wqlegendre_M {l : Launch} {G : am_G} {X : ck_XT} (g : gM l G X) {x : Nat} {r : Nat → Nat} {jj mm kk : Int} {c : sp_S} {R : Nat → sp_S} {old cnt : Nat} {h : List am_C} (hX : zc_x G h x r jj mm kk c R old cnt){o : Nat} {n0 : Int64} {s0 : Value} (hO : am_g G h o = some (1016, [.long n0, s0])) (ho1 : o < x ∨ x + 228 ≤ o) (ho2 : o ≠ r 4) (ho3 : 1000 ≤ o) {e e2 : Int} (he1 : -2147483648 ≤ e) (he2 : e ≤ 2147483647) {mc ms : Nat} {Post : am_O → List am_C → Prop} (hmc : 1 ≤ mc) (hms : 6 ≤ ms)
    (hP : ∀ (a th : Int) (T' : sp_T) (h' : List am_C), sp_q42 e e2 (c, zc_l R old cnt, jj, mm, kk) a th T' → zc_of G h h' x r o → zc_Y G h' x r T' → (th = 0 → am_g G h' o = some (1016, [.long (Int64.ofInt a), s0])) → Post (.inl (some (.int (Int32.ofInt th)))) h') :
    am_M l G yL_legendre (.codeWith yL_legendre method_38_code 4 (some .int) [(0, 10, 13, 25)]) 8 133 mc ms [.ref x, .int (Int32.ofInt e), .ref o] h Post := by
  refine gh_yL_legendre_X g (Nat.le_of_ble_eq_true rfl) fun S SX hs hr hw hx => ?_
  have rv : ∀ x : Int32, ck_fv 0 (.int x) := fun x => ⟨_, rfl⟩
  have ok_ := hX.2.2.1
  have okd_ := ok_.1
  have okn_ := ok_.2.1.1
  have okr_ := ok_.2.2.1.1
  have okb_ := ok_.2.2.2.1
  have px_ := hX.2.2.2.2.2.2.2
  refine hs 0 _ rfl _ _ _ _ _ _ _ rfl ?_
  refine hs 1 _ rfl _ _ _ _ _ _ _ rfl ?_
  refine hs 2 _ rfl _ _ _ _ _ _ _ rfl ?_
  refine zw_cm (hs 3 _ rfl) (a := [.ref x, .int (Int32.ofInt e)]) (st := [.ref o]) 1 6 rfl rfl (Nat.le_of_ble_eq_true rfl) ⟨_, _, _, rfl, hX.1, rfl⟩ (by omega) (by omega) (zc_qlegendre_M g hX he1 he2 (e2 := e2) (by omega) (by omega) (fun y_ a_ r_ => ?_) (fun hn_ => ?_))
  · show S 6 [some (.ref x), some (.int (Int32.ofInt e)), some (.ref o), none] [.int (Int32.ofInt a_), .ref o] _ _ _
    have bd_ : -9 ≤ a_ ∧ a_ ≤ 1000 := sp_r42.bd (T := (c, zc_l R old cnt, jj, mm, kk)) ok_ r_
    refine hs 4 _ rfl _ _ _ _ _ _ _ (hd_i2l (by omega) (by omega)) ?_
    refine zw_U (hs 5 _ rfl) (by omega) (hO) rfl ⟨_, rfl⟩ fun hz705 wz706 => ?_
    have wz706 : hd_w G _ hz705 o (1016, [.long (Int64.ofInt a_), s0]) := wz706
    have lwz706 := wz706.1
    refine hs 6 _ rfl _ _ _ _ _ ?_
    refine hs 10 _ rfl _ _ _ _ _ _ _ rfl ?_
    exact hs 11 _ rfl _ _ _ _ _ (rv _) (by omega) (by omega) (hP a_ 0 _ _ ⟨rfl, Or.inl ⟨y_, rfl, r_⟩⟩ (zc_of.w wz706) (zc_X.out ⟨_, _, _, hX, rfl⟩ wz706 ho1 ho2) fun _ => wz706.at)
  · refine hx (_, _) (List.mem_cons.mpr (Or.inl rfl)) _ _ _ _ rfl ?_
    show S 14 _ [] _ _ _
    refine hs 8 _ rfl _ _ _ _ _ _ _ rfl ?_
    exact hs 9 _ rfl _ _ _ _ _ (rv _) (by omega) (by omega) (hP 0 1 _ _ ⟨rfl, Or.inr ⟨hn_, rfl⟩⟩ (zc_of.g zg.app1) ⟨_, _, _, hX.app, rfl⟩ fun z_ => absurd z_ (by decide))
