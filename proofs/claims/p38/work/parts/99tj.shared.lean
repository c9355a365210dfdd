/-! WHAT THE CALLS SHARE -/
set_option maxHeartbeats 4000000 in
theorem zc_numAt_M {l : Launch} {G : am_G} {X : ck_XT} (g : gM l G X) {x : Nat} {r : Nat → Nat} {jj mm kk : Int} {c : sp_S} {R : Nat → sp_S} {old cnt : Nat} {h : List am_C} (hX : zc_x G h x r jj mm kk c R old cnt) {i : Nat} {e : Int} (he : e = (i : Int)) (hi : i < 6) {mc ms : Nat} {Post : am_O → List am_C → Prop}
    (hP : Post (.inl (some (.ref (x + 1 + 5 + 2 * i)))) h) :
    am_M l G yX10_numberAt (.code yX10_numberAt prog_1_method_62_code 2 (some (.object "Clockhouse$Big"))) 6 90 mc ms [.ref x, .int (Int32.ofInt e)] h Post := by
  refine gh_yX10_numberAt_X g (Nat.le_of_ble_eq_true rfl) fun S SX hs hr hw hx => ?_
  have rv : ∀ x : Int32, ck_fv 0 (.int x) := fun x => ⟨_, rfl⟩
  refine hs 0 _ rfl _ _ _ _ _ _ _ rfl ?_
  refine hs 1 _ rfl _ _ _ _ _ _ (fun zq => absurd (hd_c1z (c := 2) (by omega) (by omega) zq) (by omega : ¬ (e < 0))) (fun _ => ?_)
  refine hs 2 _ rfl _ _ _ _ _ _ _ rfl ?_
  refine hs 3 _ rfl _ _ _ _ _ _ _ rfl ?_
  refine hs 4 _ rfl _ _ _ _ _ _ _ (fun _ => ?_) (fun zq => absurd (hd_c2t (c := 2) (by omega) (by omega) (by omega) (by omega) (by omega : (e - (6 : Int)) < 0)) zq)
  refine hs 6 _ rfl _ _ _ _ _ _ _ rfl ?_
  refine hs 7 _ rfl _ _ _ _ _ _ _ _ _ (hX.1) rfl rfl ?_
  refine hs 8 _ rfl _ _ _ _ _ _ _ _ _ (hX.2.1.d) rfl rfl ?_
  refine hs 9 _ rfl _ _ _ _ _ _ _ rfl ?_
  refine zw_Ar (hs 10 _ rfl) (hX.2.1.nr) rfl (j := i) (by omega) (by omega) (zc_rl_get (by omega)) ?_
  exact hs 11 _ rfl _ _ _ _ _ (Or.inl ⟨_, rfl⟩) (Nat.zero_le _) (Nat.zero_le _) hP
set_option maxHeartbeats 4000000 in
theorem zc_numAtX_M {l : Launch} {G : am_G} {X : ck_XT} (g : gM l G X) {x : Nat} {r : Nat → Nat} {jj mm kk : Int} {c : sp_S} {R : Nat → sp_S} {old cnt : Nat} {h : List am_C} (hX : zc_x G h x r jj mm kk c R old cnt) {e : Int} (he1 : -2147483648 ≤ e) (he2 : e ≤ 2147483647) (hi : e < 0 ∨ 6 ≤ e) {mc ms : Nat} {Post : am_O → List am_C → Prop} (hmc : 1 ≤ mc) (hms : 6 ≤ ms)
    (hP : Post (.inr "java/lang/IndexOutOfBoundsException") (h ++ [(99, [])])) :
    am_M l G yX10_numberAt (.code yX10_numberAt prog_1_method_62_code 2 (some (.object "Clockhouse$Big"))) 6 90 mc ms [.ref x, .int (Int32.ofInt e)] h Post := by
  refine gh_yX10_numberAt_X g (Nat.le_of_ble_eq_true rfl) fun S SX hs hr hw hx => ?_
  have rv : ∀ x : Int32, ck_fv 0 (.int x) := fun x => ⟨_, rfl⟩
  by_cases h0_ : e < 0
  · 
    refine hs 0 _ rfl _ _ _ _ _ _ _ rfl ?_
    refine hs 1 _ rfl _ _ _ _ _ _ (fun _ => ?_) (fun zq => absurd (hd_c1t (c := 2) (by omega) (by omega) (by omega : e < 0)) zq)
    exact hs 5 _ rfl _ _ _ _ _ rfl (Nat.le_of_ble_eq_true rfl) (by omega) (by omega) hP
  · 
    refine hs 0 _ rfl _ _ _ _ _ _ _ rfl ?_
    refine hs 1 _ rfl _ _ _ _ _ _ (fun zq => absurd (hd_c1z (c := 2) (by omega) (by omega) zq) (by omega : ¬ (e < 0))) (fun _ => ?_)
    refine hs 2 _ rfl _ _ _ _ _ _ _ rfl ?_
    refine hs 3 _ rfl _ _ _ _ _ _ _ rfl ?_
    refine hs 4 _ rfl _ _ _ _ _ _ _ (fun zq => absurd (hd_c2z (c := 2) (by omega) (by omega) (by omega) (by omega) zq) (by omega : ¬ ((e - (6 : Int)) < 0))) (fun _ => ?_)
    exact hs 5 _ rfl _ _ _ _ _ rfl (Nat.le_of_ble_eq_true rfl) (by omega) (by omega) hP
set_option maxHeartbeats 4000000 in
theorem zc_jam_M {l : Launch} {G : am_G} {X : ck_XT} (g : gM l G X) {x : Nat} {r : Nat → Nat} {jj mm kk : Int} {c : sp_S} {R : Nat → sp_S} {old cnt : Nat} {h : List am_C} (hX : zc_x G h x r jj mm kk c R old cnt) {mc ms : Nat} {Post : am_O → List am_C → Prop}
    (hP1 : c.1 ≤ 0 → Post (.inl (some (.int (Int32.ofInt 1)))) h) (hP0 : 0 < c.1 → Post (.inl (some (.int (Int32.ofInt 0)))) h) :
    am_M l G yX10_isJammed (.code yX10_isJammed prog_1_method_63_code 1 (some .boolean)) 1 20 mc ms [.ref x] h Post := by
  refine gh_yX10_isJammed_X g (Nat.le_of_ble_eq_true rfl) fun S SX hs hr hw hx => ?_
  have rv : ∀ x : Int32, ck_fv 0 (.int x) := fun x => ⟨_, rfl⟩
  have hb_ := hX.2.2.1.1
  by_cases h0_ : c.1 ≤ 0
  · 
    refine hs 0 _ rfl _ _ _ _ _ _ _ rfl ?_
    refine hs 1 _ rfl _ _ _ _ _ _ _ _ _ (hX.1) rfl rfl ?_
    refine hs 2 _ rfl _ _ _ _ _ _ _ _ _ (hX.2.1.d) rfl rfl ?_
    refine hs 3 _ rfl _ _ _ _ _ _ (fun zq => absurd (hd_c1z (c := 4) (by omega) (by omega) zq) (by omega : ¬ (0 < c.1))) (fun _ => ?_)
    refine hs 4 _ rfl _ _ _ _ _ _ _ rfl ?_
    refine hs 5 _ rfl _ _ _ _ _ ?_
    exact hs 7 _ rfl _ _ _ _ _ ⟨_, rfl, by decide, by decide⟩ (Nat.zero_le _) (Nat.zero_le _) (hP1 h0_)
  · 
    refine hs 0 _ rfl _ _ _ _ _ _ _ rfl ?_
    refine hs 1 _ rfl _ _ _ _ _ _ _ _ _ (hX.1) rfl rfl ?_
    refine hs 2 _ rfl _ _ _ _ _ _ _ _ _ (hX.2.1.d) rfl rfl ?_
    refine hs 3 _ rfl _ _ _ _ _ _ (fun _ => ?_) (fun zq => absurd (hd_c1t (c := 4) (by omega) (by omega) (by omega : 0 < c.1)) zq)
    refine hs 6 _ rfl _ _ _ _ _ _ _ rfl ?_
    exact hs 7 _ rfl _ _ _ _ _ ⟨_, rfl, by decide, by decide⟩ (Nat.zero_le _) (Nat.zero_le _) (hP0 (by omega))
set_option maxHeartbeats 4000000 in
theorem zc_needC_M {l : Launch} {G : am_G} {X : ck_XT} (g : gM l G X)  {a b : Int} {h : List am_C} (ha1 : -2147483648 ≤ a) (ha2 : a ≤ 2147483647) (hb1 : -2147483648 ≤ b) (hb2 : b ≤ 2147483647) (hc : -9999 ≤ a ∧ a ≤ 9999 ∧ 1 ≤ b ∧ b ≤ 999) {mc ms : Nat} {Post : am_O → List am_C → Prop} (hP : Post (.inl none) h) :
    am_M l G yX10_needCongruence (.code yX10_needCongruence prog_1_method_65_code 2 none) 6 90 mc ms [.int (Int32.ofInt a), .int (Int32.ofInt b)] h Post := by
  refine gh_yX10_needCongruence_X g (Nat.le_of_ble_eq_true rfl) fun S SX hs hr hw hx => ?_
  have rv : ∀ x : Int32, ck_fv 0 (.int x) := fun x => ⟨_, rfl⟩
  refine hs 0 _ rfl _ _ _ _ _ _ _ rfl ?_
  refine hs 1 _ rfl _ _ _ _ _ _ _ rfl ?_
  refine hs 2 _ rfl _ _ _ _ _ _ _ (fun zq => absurd (hd_c2z (c := 2) (by omega) (by omega) (by omega) (by omega) zq) (by omega : ¬ ((a - (-9999 : Int)) < 0))) (fun _ => ?_)
  refine hs 3 _ rfl _ _ _ _ _ _ _ rfl ?_
  refine hs 4 _ rfl _ _ _ _ _ _ _ rfl ?_
  refine hs 5 _ rfl _ _ _ _ _ _ _ (fun _ => ?_) (fun zq => absurd (hd_c2t (c := 5) (by omega) (by omega) (by omega) (by omega) (by omega : (a - (9999 : Int)) ≤ 0)) zq)
  refine hs 7 _ rfl _ _ _ _ _ _ _ rfl ?_
  refine hs 8 _ rfl _ _ _ _ _ _ _ rfl ?_
  refine hs 9 _ rfl _ _ _ _ _ _ _ (fun zq => absurd (hd_c2z (c := 2) (by omega) (by omega) (by omega) (by omega) zq) (by omega : ¬ ((b - (1 : Int)) < 0))) (fun _ => ?_)
  refine hs 10 _ rfl _ _ _ _ _ _ _ rfl ?_
  refine hs 11 _ rfl _ _ _ _ _ _ _ rfl ?_
  refine hs 12 _ rfl _ _ _ _ _ _ _ (fun _ => ?_) (fun zq => absurd (hd_c2t (c := 5) (by omega) (by omega) (by omega) (by omega) (by omega : (b - (999 : Int)) ≤ 0)) zq)
  exact hs 14 _ rfl _ _ _ _ (Nat.zero_le _) (Nat.zero_le _) hP
set_option maxHeartbeats 4000000 in
theorem zc_needCX_M {l : Launch} {G : am_G} {X : ck_XT} (g : gM l G X)  {a b : Int} {h : List am_C} (ha1 : -2147483648 ≤ a) (ha2 : a ≤ 2147483647) (hb1 : -2147483648 ≤ b) (hb2 : b ≤ 2147483647) (hc : ¬ (-9999 ≤ a ∧ a ≤ 9999 ∧ 1 ≤ b ∧ b ≤ 999)) {mc ms : Nat} {Post : am_O → List am_C → Prop} (hmc : 1 ≤ mc) (hms : 6 ≤ ms) (hP : Post (.inr "java/lang/IllegalArgumentException") (h ++ [(99, [])])) :
    am_M l G yX10_needCongruence (.code yX10_needCongruence prog_1_method_65_code 2 none) 6 90 mc ms [.int (Int32.ofInt a), .int (Int32.ofInt b)] h Post := by
  refine gh_yX10_needCongruence_X g (Nat.le_of_ble_eq_true rfl) fun S SX hs hr hw hx => ?_
  have rv : ∀ x : Int32, ck_fv 0 (.int x) := fun x => ⟨_, rfl⟩
  by_cases c1_ : a < -9999
  · 
    refine hs 0 _ rfl _ _ _ _ _ _ _ rfl ?_
    refine hs 1 _ rfl _ _ _ _ _ _ _ rfl ?_
    refine hs 2 _ rfl _ _ _ _ _ _ _ (fun _ => ?_) (fun zq => absurd (hd_c2t (c := 2) (by omega) (by omega) (by omega) (by omega) (by omega : (a - (-9999 : Int)) < 0)) zq)
    exact hs 6 _ rfl _ _ _ _ _ rfl (Nat.le_of_ble_eq_true rfl) (by omega) (by omega) hP
  · by_cases c2_ : 9999 < a
    · 
      refine hs 0 _ rfl _ _ _ _ _ _ _ rfl ?_
      refine hs 1 _ rfl _ _ _ _ _ _ _ rfl ?_
      refine hs 2 _ rfl _ _ _ _ _ _ _ (fun zq => absurd (hd_c2z (c := 2) (by omega) (by omega) (by omega) (by omega) zq) (by omega : ¬ ((a - (-9999 : Int)) < 0))) (fun _ => ?_)
      refine hs 3 _ rfl _ _ _ _ _ _ _ rfl ?_
      refine hs 4 _ rfl _ _ _ _ _ _ _ rfl ?_
      refine hs 5 _ rfl _ _ _ _ _ _ _ (fun zq => absurd (hd_c2z (c := 5) (by omega) (by omega) (by omega) (by omega) zq) (by omega : ¬ ((a - (9999 : Int)) ≤ 0))) (fun _ => ?_)
      exact hs 6 _ rfl _ _ _ _ _ rfl (Nat.le_of_ble_eq_true rfl) (by omega) (by omega) hP
    · by_cases c3_ : b < 1
      · 
        refine hs 0 _ rfl _ _ _ _ _ _ _ rfl ?_
        refine hs 1 _ rfl _ _ _ _ _ _ _ rfl ?_
        refine hs 2 _ rfl _ _ _ _ _ _ _ (fun zq => absurd (hd_c2z (c := 2) (by omega) (by omega) (by omega) (by omega) zq) (by omega : ¬ ((a - (-9999 : Int)) < 0))) (fun _ => ?_)
        refine hs 3 _ rfl _ _ _ _ _ _ _ rfl ?_
        refine hs 4 _ rfl _ _ _ _ _ _ _ rfl ?_
        refine hs 5 _ rfl _ _ _ _ _ _ _ (fun _ => ?_) (fun zq => absurd (hd_c2t (c := 5) (by omega) (by omega) (by omega) (by omega) (by omega : (a - (9999 : Int)) ≤ 0)) zq)
        refine hs 7 _ rfl _ _ _ _ _ _ _ rfl ?_
        refine hs 8 _ rfl _ _ _ _ _ _ _ rfl ?_
        refine hs 9 _ rfl _ _ _ _ _ _ _ (fun _ => ?_) (fun zq => absurd (hd_c2t (c := 2) (by omega) (by omega) (by omega) (by omega) (by omega : (b - (1 : Int)) < 0)) zq)
        exact hs 13 _ rfl _ _ _ _ _ rfl (Nat.le_of_ble_eq_true rfl) (by omega) (by omega) hP
      · 
        refine hs 0 _ rfl _ _ _ _ _ _ _ rfl ?_
        refine hs 1 _ rfl _ _ _ _ _ _ _ rfl ?_
        refine hs 2 _ rfl _ _ _ _ _ _ _ (fun zq => absurd (hd_c2z (c := 2) (by omega) (by omega) (by omega) (by omega) zq) (by omega : ¬ ((a - (-9999 : Int)) < 0))) (fun _ => ?_)
        refine hs 3 _ rfl _ _ _ _ _ _ _ rfl ?_
        refine hs 4 _ rfl _ _ _ _ _ _ _ rfl ?_
        refine hs 5 _ rfl _ _ _ _ _ _ _ (fun _ => ?_) (fun zq => absurd (hd_c2t (c := 5) (by omega) (by omega) (by omega) (by omega) (by omega : (a - (9999 : Int)) ≤ 0)) zq)
        refine hs 7 _ rfl _ _ _ _ _ _ _ rfl ?_
        refine hs 8 _ rfl _ _ _ _ _ _ _ rfl ?_
        refine hs 9 _ rfl _ _ _ _ _ _ _ (fun zq => absurd (hd_c2z (c := 2) (by omega) (by omega) (by omega) (by omega) zq) (by omega : ¬ ((b - (1 : Int)) < 0))) (fun _ => ?_)
        refine hs 10 _ rfl _ _ _ _ _ _ _ rfl ?_
        refine hs 11 _ rfl _ _ _ _ _ _ _ rfl ?_
        refine hs 12 _ rfl _ _ _ _ _ _ _ (fun zq => absurd (hd_c2z (c := 5) (by omega) (by omega) (by omega) (by omega) zq) (by omega : ¬ ((b - (999 : Int)) ≤ 0))) (fun _ => ?_)
        exact hs 13 _ rfl _ _ _ _ _ rfl (Nat.le_of_ble_eq_true rfl) (by omega) (by omega) hP
set_option maxHeartbeats 4000000 in
theorem zc_needF_M {l : Launch} {G : am_G} {X : ck_XT} (g : gM l G X) {x : Nat} {r : Nat → Nat} {jj mm kk : Int} {c : sp_S} {R : Nat → sp_S} {old cnt : Nat} {h : List am_C} (hX : zc_x G h x r jj mm kk c R old cnt) (hl : c.2.2.1.length < 6) {mc ms : Nat} {Post : am_O → List am_C → Prop} (hP : Post (.inl none) h) :
    am_M l G yX10_needFreeRow (.code yX10_needFreeRow prog_1_method_66_code 1 none) 6 90 mc ms [.ref x] h Post := by
  refine gh_yX10_needFreeRow_X g (Nat.le_of_ble_eq_true rfl) fun S SX hs hr hw hx => ?_
  have rv : ∀ x : Int32, ck_fv 0 (.int x) := fun x => ⟨_, rfl⟩
  refine hs 0 _ rfl _ _ _ _ _ _ _ rfl ?_
  refine hs 1 _ rfl _ _ _ _ _ _ _ _ _ (hX.1) rfl rfl ?_
  refine hs 2 _ rfl _ _ _ _ _ _ _ _ _ (hX.2.1.d) rfl rfl ?_
  refine hs 3 _ rfl _ _ _ _ _ _ _ rfl ?_
  refine hs 4 _ rfl _ _ _ _ _ _ _ (fun _ => ?_) (fun zq => absurd (hd_c2t (c := 2) (by omega) (by omega) (by omega) (by omega) (by omega : ((c.2.2.1.length : Int) - (6 : Int)) < 0)) zq)
  exact hs 6 _ rfl _ _ _ _ (Nat.zero_le _) (Nat.zero_le _) hP
set_option maxHeartbeats 4000000 in
theorem zc_needFX_M {l : Launch} {G : am_G} {X : ck_XT} (g : gM l G X) {x : Nat} {r : Nat → Nat} {jj mm kk : Int} {c : sp_S} {R : Nat → sp_S} {old cnt : Nat} {h : List am_C} (hX : zc_x G h x r jj mm kk c R old cnt) (hl : c.2.2.1.length = 6) {mc ms : Nat} {Post : am_O → List am_C → Prop} (hmc : 1 ≤ mc) (hms : 6 ≤ ms) (hP : Post (.inr "java/lang/IllegalStateException") (h ++ [(99, [])])) :
    am_M l G yX10_needFreeRow (.code yX10_needFreeRow prog_1_method_66_code 1 none) 6 90 mc ms [.ref x] h Post := by
  refine gh_yX10_needFreeRow_X g (Nat.le_of_ble_eq_true rfl) fun S SX hs hr hw hx => ?_
  have rv : ∀ x : Int32, ck_fv 0 (.int x) := fun x => ⟨_, rfl⟩
  refine hs 0 _ rfl _ _ _ _ _ _ _ rfl ?_
  refine hs 1 _ rfl _ _ _ _ _ _ _ _ _ (hX.1) rfl rfl ?_
  refine hs 2 _ rfl _ _ _ _ _ _ _ _ _ (hX.2.1.d) rfl rfl ?_
  refine hs 3 _ rfl _ _ _ _ _ _ _ rfl ?_
  refine hs 4 _ rfl _ _ _ _ _ _ _ (fun zq => absurd (hd_c2z (c := 2) (by omega) (by omega) (by omega) (by omega) zq) (by omega : ¬ (((c.2.2.1.length : Int) - (6 : Int)) < 0))) (fun _ => ?_)
  exact hs 5 _ rfl _ _ _ _ _ rfl (Nat.le_of_ble_eq_true rfl) (by omega) (by omega) hP
set_option maxHeartbeats 4000000 in
theorem zc_needR_M {l : Launch} {G : am_G} {X : ck_XT} (g : gM l G X) {x : Nat} {r : Nat → Nat} {jj mm kk : Int} {c : sp_S} {R : Nat → sp_S} {old cnt : Nat} {h : List am_C} (hX : zc_x G h x r jj mm kk c R old cnt) {e : Int} (he : 0 ≤ e ∧ e < (c.2.2.1.length : Int)) {mc ms : Nat} {Post : am_O → List am_C → Prop} (hP : Post (.inl none) h) :
    am_M l G yX10_needRow (.code yX10_needRow prog_1_method_67_code 2 none) 6 90 mc ms [.ref x, .int (Int32.ofInt e)] h Post := by
  refine gh_yX10_needRow_X g (Nat.le_of_ble_eq_true rfl) fun S SX hs hr hw hx => ?_
  have rv : ∀ x : Int32, ck_fv 0 (.int x) := fun x => ⟨_, rfl⟩
  have hlb_ := hX.2.2.1.2.2.1.1
  refine hs 0 _ rfl _ _ _ _ _ _ _ rfl ?_
  refine hs 1 _ rfl _ _ _ _ _ _ (fun zq => absurd (hd_c1z (c := 2) (by omega) (by omega) zq) (by omega : ¬ (e < 0))) (fun _ => ?_)
  refine hs 2 _ rfl _ _ _ _ _ _ _ rfl ?_
  refine hs 3 _ rfl _ _ _ _ _ _ _ rfl ?_
  refine hs 4 _ rfl _ _ _ _ _ _ _ _ _ (hX.1) rfl rfl ?_
  refine hs 5 _ rfl _ _ _ _ _ _ _ _ _ (hX.2.1.d) rfl rfl ?_
  refine hs 6 _ rfl _ _ _ _ _ _ _ (fun _ => ?_) (fun zq => absurd (hd_c2t (c := 2) (by omega) (by omega) (by omega) (by omega) (by omega : (e - (c.2.2.1.length : Int)) < 0)) zq)
  exact hs 8 _ rfl _ _ _ _ (Nat.zero_le _) (Nat.zero_le _) hP
set_option maxHeartbeats 4000000 in
theorem zc_needRX_M {l : Launch} {G : am_G} {X : ck_XT} (g : gM l G X) {x : Nat} {r : Nat → Nat} {jj mm kk : Int} {c : sp_S} {R : Nat → sp_S} {old cnt : Nat} {h : List am_C} (hX : zc_x G h x r jj mm kk c R old cnt) {e : Int} (he1 : -2147483648 ≤ e) (he2 : e ≤ 2147483647) (hi : ¬ (0 ≤ e ∧ e < (c.2.2.1.length : Int))) {mc ms : Nat} {Post : am_O → List am_C → Prop} (hmc : 1 ≤ mc) (hms : 6 ≤ ms) (hP : Post (.inr "java/lang/IndexOutOfBoundsException") (h ++ [(99, [])])) :
    am_M l G yX10_needRow (.code yX10_needRow prog_1_method_67_code 2 none) 6 90 mc ms [.ref x, .int (Int32.ofInt e)] h Post := by
  refine gh_yX10_needRow_X g (Nat.le_of_ble_eq_true rfl) fun S SX hs hr hw hx => ?_
  have rv : ∀ x : Int32, ck_fv 0 (.int x) := fun x => ⟨_, rfl⟩
  have hlb_ := hX.2.2.1.2.2.1.1
  by_cases h0_ : e < 0
  · 
    refine hs 0 _ rfl _ _ _ _ _ _ _ rfl ?_
    refine hs 1 _ rfl _ _ _ _ _ _ (fun _ => ?_) (fun zq => absurd (hd_c1t (c := 2) (by omega) (by omega) (by omega : e < 0)) zq)
    exact hs 7 _ rfl _ _ _ _ _ rfl (Nat.le_of_ble_eq_true rfl) (by omega) (by omega) hP
  · 
    refine hs 0 _ rfl _ _ _ _ _ _ _ rfl ?_
    refine hs 1 _ rfl _ _ _ _ _ _ (fun zq => absurd (hd_c1z (c := 2) (by omega) (by omega) zq) (by omega : ¬ (e < 0))) (fun _ => ?_)
    refine hs 2 _ rfl _ _ _ _ _ _ _ rfl ?_
    refine hs 3 _ rfl _ _ _ _ _ _ _ rfl ?_
    refine hs 4 _ rfl _ _ _ _ _ _ _ _ _ (hX.1) rfl rfl ?_
    refine hs 5 _ rfl _ _ _ _ _ _ _ _ _ (hX.2.1.d) rfl rfl ?_
    refine hs 6 _ rfl _ _ _ _ _ _ _ (fun zq => absurd (hd_c2z (c := 2) (by omega) (by omega) (by omega) (by omega) zq) (by omega : ¬ ((e - (c.2.2.1.length : Int)) < 0))) (fun _ => ?_)
    exact hs 7 _ rfl _ _ _ _ _ rfl (Nat.le_of_ble_eq_true rfl) (by omega) (by omega) hP
theorem zc_X.mk {G : am_G} {h : List am_C} {x : Nat} {r : Nat → Nat} {j m k : Int} {c : sp_S} {R : Nat → sp_S} {old cnt : Nat} {P : List sp_S} (a : zc_x G h x r j m k c R old cnt) (e : zc_l R old cnt = P) : zc_X G h x r j m k c P := ⟨R, old, cnt, a, e.symm⟩
theorem sp_ok.get {c : sp_S} (h : sp_ok c) {i : Nat} (hi : i < 6) : -1000000000000000000000000000000000000 < c.2.1.getD i 0 ∧ c.2.1.getD i 0 < 1000000000000000000000000000000000000 := by
  obtain ⟨-, ⟨h1_, h2_⟩, -⟩ := h
  exact h2_ _ (List.mem_of_getElem? (sb_ge (by omega)))
theorem sp_ok.set {c : sp_S} (h : sp_ok c) {i : Nat} {z : Int} (h1 : -1000000000000000000000000000000000000 < z) (h2 : z < 1000000000000000000000000000000000000) : sp_ok (c.1, c.2.1.set i z, c.2.2) := by
  obtain ⟨a1_, ⟨a2_, a3_⟩, a4_⟩ := h
  refine ⟨a1_, ⟨by show (c.2.1.set i z).length = 6; rw [List.length_set]; exact a2_, fun y hy => ?_⟩, a4_⟩
  rcases List.mem_or_eq_of_mem_set hy with e_ | e_
  · exact a3_ y e_
  · rw [e_]; exact ⟨h1, h2⟩
theorem zc_x.len {G : am_G} {h : List am_C} {x : Nat} {r : Nat → Nat} {j m k : Int} {c : sp_S} {R : Nat → sp_S} {old cnt : Nat} (a : zc_x G h x r j m k c R old cnt) : c.2.1.length = 6 := a.2.2.1.2.1.1
/-- a NUMBER of the state is written anew -/
theorem zc_x.num {G : am_G} {h h' : List am_C} {x : Nat} {r : Nat → Nat} {j m k : Int} {c : sp_S} {R : Nat → sp_S} {old cnt : Nat} (a : zc_x G h x r j m k c R old cnt) {i n : Nat} {s : Int} {ls : List Int} {z : Int} (hi : i < 6) (w : sb_w G h h' (x + 1 + 5 + 2 * i) (sb_c 1407 (x + 1 + 5 + 2 * i + 1) (n : Int) s) (x + 1 + 5 + 2 * i + 1) (1450, hd_r ls)) (hs : sb_is n s ls z) (h1 : -1000000000000000000000000000000000000 < z) (h2 : z < 1000000000000000000000000000000000000) : zc_x G h' x r j m k (c.1, c.2.1.set i z, c.2.2) R old cnt ∧ zw_f G h h' (x + 1) 17 := by
  have f_ : zw_f G h h' (x + 1) 17 := zw_f.w2 w (by omega) (by omega) (by omega) (by omega)
  exact ⟨a.st f_ (a.2.1.num hi a.len (fun p h1 h2 => w.ne h1 h2) ⟨n, s, ls, w.q, w.p (by omega), hs⟩) (a.2.2.1.set h1 h2), f_⟩
set_option maxHeartbeats 4000000 in
theorem zc_putRound_M {l : Launch} {G : am_G} {X : ck_XT} (g : gM l G X) {x : Nat} {r : Nat → Nat} {jj mm kk : Int} {c : sp_S} {R : Nat → sp_S} {old cnt : Nat} {h : List am_C} (hX : zc_x G h x r jj mm kk c R old cnt) {i : Nat} {v : Int} (hi : i < 6) (hv : v = -9 ∨ v = -8 ∨ 0 ≤ v) (hv2 : v ≤ 2147483647) {mc ms : Nat} {Post : am_O → List am_C → Prop}
    (hJ : v = -9 → ∀ h', zc_fr G h h' x r → zc_x G h' x r (jj + 1) mm kk c R old cnt → Post (.inl (some (.int (Int32.ofInt (-9))))) h')
    (hM : v = -8 → ∀ h', zc_fr G h h' x r → zc_x G h' x r jj (mm + 1) kk c R old cnt → Post (.inl (some (.int (Int32.ofInt (-8))))) h')
    (hP : 0 ≤ v → ∀ h', zc_fr G h h' x r → zc_X G h' x r jj mm kk (c.1, c.2.1.set i v, c.2.2) (sp_keep (zc_l R old cnt) c) → Post (.inl (some (.int (Int32.ofInt v)))) h') :
    am_M l G yX10_putRound (.code yX10_putRound prog_1_method_69_code 3 (some .int)) 5 123 mc ms [.ref x, .ref (x + 1 + 5 + 2 * i), .int (Int32.ofInt v)] h Post := by
  refine gh_yX10_putRound_X g (Nat.le_of_ble_eq_true rfl) fun S SX hs hr hw hx => ?_
  have rv : ∀ x : Int32, ck_fv 0 (.int x) := fun x => ⟨_, rfl⟩
  have hx9_ := hX.2.2.2.2.2.2.2
  rcases hv with hv1_ | hv1_ | hv1_
  · 
    refine hs 0 _ rfl _ _ _ _ _ _ _ rfl ?_
    refine hs 1 _ rfl _ _ _ _ _ _ _ rfl ?_
    refine hs 2 _ rfl _ _ _ _ _ _ _ (fun zq => absurd (hd_c2z (c := 1) (by omega) (by omega) (by omega) (by omega) zq) (by omega : ¬ ((v - (-9 : Int)) ≠ 0))) (fun _ => ?_)
    refine hs 3 _ rfl _ _ _ _ _ _ _ rfl ?_
    refine hs 4 _ rfl _ _ _ _ _ _ _ rfl ?_
    refine hs 5 _ rfl _ _ _ _ _ _ _ _ _ (hX.1) rfl rfl ?_
    refine hs 6 _ rfl _ _ _ _ _ _ _ rfl ?_
    refine hs 7 _ rfl _ _ _ _ _ _ _ hd_add ?_
    refine zw_U (hs 8 _ rfl) (by omega) (hX.1) rfl ⟨_, rfl⟩ fun hz71 wz72 => ?_
    have wz72 : hd_w G h hz71 x (1015, [.ref (x + 1), .ref (x + 18), .int (Int32.ofInt (jj + (1 : Int))), .int (Int32.ofInt mm), .int (Int32.ofInt kk), .ref (x + 224), .ref (x + 226), .ref (r 0), .ref (r 1), .ref (r 2), .ref (r 3), .ref (r 4), .ref (r 5)]) := wz72
    refine hs 9 _ rfl _ _ _ _ _ _ _ rfl ?_
    exact hs 10 _ rfl _ _ _ _ _ (rv _) (Nat.zero_le _) (Nat.zero_le _) (hJ hv1_ _ (zc_fr.of (zw_f.w (lo := x) (n := 1) wz72 (by omega) (by omega)) (by omega) (by omega)) (hX.own wz72))
  · 
    refine hs 0 _ rfl _ _ _ _ _ _ _ rfl ?_
    refine hs 1 _ rfl _ _ _ _ _ _ _ rfl ?_
    refine hs 2 _ rfl _ _ _ _ _ _ _ (fun _ => ?_) (fun zq => absurd (hd_c2t (c := 1) (by omega) (by omega) (by omega) (by omega) (by omega : (v - (-9 : Int)) ≠ 0)) zq)
    refine hs 11 _ rfl _ _ _ _ _ _ _ rfl ?_
    refine hs 12 _ rfl _ _ _ _ _ _ _ rfl ?_
    refine hs 13 _ rfl _ _ _ _ _ _ _ (fun zq => absurd (hd_c2z (c := 1) (by omega) (by omega) (by omega) (by omega) zq) (by omega : ¬ ((v - (-8 : Int)) ≠ 0))) (fun _ => ?_)
    refine hs 14 _ rfl _ _ _ _ _ _ _ rfl ?_
    refine hs 15 _ rfl _ _ _ _ _ _ _ rfl ?_
    refine hs 16 _ rfl _ _ _ _ _ _ _ _ _ (hX.1) rfl rfl ?_
    refine hs 17 _ rfl _ _ _ _ _ _ _ rfl ?_
    refine hs 18 _ rfl _ _ _ _ _ _ _ hd_add ?_
    refine zw_U (hs 19 _ rfl) (by omega) (hX.1) rfl ⟨_, rfl⟩ fun hz73 wz74 => ?_
    have wz74 : hd_w G h hz73 x (1015, [.ref (x + 1), .ref (x + 18), .int (Int32.ofInt jj), .int (Int32.ofInt (mm + (1 : Int))), .int (Int32.ofInt kk), .ref (x + 224), .ref (x + 226), .ref (r 0), .ref (r 1), .ref (r 2), .ref (r 3), .ref (r 4), .ref (r 5)]) := wz74
    refine hs 20 _ rfl _ _ _ _ _ _ _ rfl ?_
    exact hs 21 _ rfl _ _ _ _ _ (rv _) (Nat.zero_le _) (Nat.zero_le _) (hM hv1_ _ (zc_fr.of (zw_f.w (lo := x) (n := 1) wz74 (by omega) (by omega)) (by omega) (by omega)) (hX.own wz74))
  · 
    refine hs 0 _ rfl _ _ _ _ _ _ _ rfl ?_
    refine hs 1 _ rfl _ _ _ _ _ _ _ rfl ?_
    refine hs 2 _ rfl _ _ _ _ _ _ _ (fun _ => ?_) (fun zq => absurd (hd_c2t (c := 1) (by omega) (by omega) (by omega) (by omega) (by omega : (v - (-9 : Int)) ≠ 0)) zq)
    refine hs 11 _ rfl _ _ _ _ _ _ _ rfl ?_
    refine hs 12 _ rfl _ _ _ _ _ _ _ rfl ?_
    refine hs 13 _ rfl _ _ _ _ _ _ _ (fun _ => ?_) (fun zq => absurd (hd_c2t (c := 1) (by omega) (by omega) (by omega) (by omega) (by omega : (v - (-8 : Int)) ≠ 0)) zq)
    refine hs 22 _ rfl _ _ _ _ _ _ _ rfl ?_
    refine hs 23 _ rfl _ _ _ _ _ _ _ _ _ (hX.1) rfl rfl ?_
    refine hs 24 _ rfl _ _ _ _ _ _ _ rfl ?_
    refine hs 25 _ rfl _ _ _ _ _ _ _ _ _ (hX.1) rfl rfl ?_
    refine zw_c (hs 26 _ rfl) (a := [.ref (x + 18), .ref (x + 1)]) (st := []) rfl rfl (Nat.le_of_ble_eq_true rfl) ⟨_, _, _, rfl, hX.2.2.2.1.1, rfl⟩ (Nat.zero_le _) (Nat.zero_le _) (zc_keep_M g (p := x + 18) (s := x + 1) (by omega) (by omega) hX.2.2.2.1 hX.2.1 hX.2.2.1 fun hk1_ ok1_ ck1_ fk1_ pk1_ e11_ e21_ => ?_)
    have xk1_ := hX.past fk1_ pk1_
    have lk1_ := zc_l_keep (R := R) (c := c) hX.2.2.2.1.2.2.2.1 hX.2.2.2.1.2.2.2.2 e11_ e21_
    show S 49 [some (.ref x), some (.ref (x + 1 + 5 + 2 * i)), some (.int (Int32.ofInt v))] [] _ _ _
    obtain ⟨ny_, sy_, ly_, y1_, y2_, y3_⟩ := xk1_.2.1.n hi
    refine hs 27 _ rfl _ _ _ _ _ _ _ rfl ?_
    refine hs 28 _ rfl _ _ _ _ _ _ _ rfl ?_
    refine hs 29 _ rfl _ _ _ _ _ _ _ (hd_i2l (by omega) (by omega)) ?_
    refine zw_c (hs 30 _ rfl) (a := [.ref (x + 1 + 5 + 2 * i), .long (Int64.ofInt v)]) (st := []) rfl rfl (Nat.le_of_ble_eq_true rfl) ⟨_, _, _, rfl, y1_, rfl⟩ (Nat.zero_le _) (Nat.zero_le _) (sb_blong_M g (by omega) (by omega) (by omega) y1_ rfl y2_ rfl y3_.1.1 (by omega) (by omega) fun hb_ nb_ sb1_ lb_ wb_ ib_ => ?_)
    show S 55 [some (.ref x), some (.ref (x + 1 + 5 + 2 * i)), some (.int (Int32.ofInt v))] [] _ _ _
    refine hs 31 _ rfl _ _ _ _ _ _ _ rfl ?_
    obtain ⟨xb_, fb_⟩ := xk1_.num hi wb_ ib_ (by omega) (by omega)
    exact hs 32 _ rfl _ _ _ _ _ (rv _) (Nat.zero_le _) (Nat.zero_le _) (hP hv1_ _ ((zc_fr.of fk1_ (by omega) (by omega)).tr (zc_fr.of fb_ (by omega) (by omega))) (zc_X.mk xb_ lk1_))
theorem sp_ok.row {c : sp_S} (h : sp_ok c) (hl : c.2.2.1.length < 6) {r z : Int} (hz : 1 ≤ z ∧ z ≤ 999) (hr : 0 ≤ r ∧ r < z) : sp_ok (c.1, c.2.1, c.2.2.1 ++ [(r, z)], c.2.2.2) := by
  obtain ⟨a1_, a2_, ⟨a3_, a4_⟩, a5_⟩ := h
  refine ⟨a1_, a2_, ⟨by show (c.2.2.1 ++ [(r, z)]).length ≤ 6; rw [List.length_append, List.length_singleton]; omega, fun p hp => ?_⟩, a5_⟩
  rcases List.mem_append.mp hp with e_ | e_
  · exact a4_ p e_
  · cases List.mem_singleton.mp e_
    exact ⟨hz.1, hz.2, hr.1, hr.2⟩
set_option maxHeartbeats 4000000 in
theorem zc_addRowX_M {l : Launch} {G : am_G} {X : ck_XT} (g : gM l G X) {x : Nat} {r : Nat → Nat} {jj mm kk : Int} {c : sp_S} {R : Nat → sp_S} {old cnt : Nat} {h : List am_C} (hX : zc_x G h x r jj mm kk c R old cnt) {rest size : Int} (hr1 : -9999 ≤ rest) (hr2 : rest ≤ 9999) (hz_ : 1 ≤ size ∧ size ≤ 999) (hl : c.2.2.1.length < 6) {mc ms : Nat} {Post : am_O → List am_C → Prop}
    (hP : ∀ h', zc_fr G h h' x r → zc_X G h' x r jj mm kk (c.1, c.2.1, c.2.2.1 ++ [(rest % size, size)], c.2.2.2) (sp_keep (zc_l R old cnt) c) → Post (.inl (some (.int (Int32.ofInt (c.2.2.1.length : Int))))) h') :
    am_M l G yX10_addRow (.code yX10_addRow prog_1_method_70_code 3 (some .int)) 5 123 mc ms [.ref x, .int (Int32.ofInt rest), .int (Int32.ofInt size)] h Post := by
  refine gh_yX10_addRow_X g (Nat.le_of_ble_eq_true rfl) fun S SX hs hr hw hx => ?_
  have rv : ∀ x : Int32, ck_fv 0 (.int x) := fun x => ⟨_, rfl⟩
  have hx9_ := hX.2.2.2.2.2.2.2
  refine hs 0 _ rfl _ _ _ _ _ _ _ rfl ?_
  refine hs 1 _ rfl _ _ _ _ _ _ _ _ _ (hX.1) rfl rfl ?_
  refine hs 2 _ rfl _ _ _ _ _ _ _ rfl ?_
  refine hs 3 _ rfl _ _ _ _ _ _ _ _ _ (hX.1) rfl rfl ?_
  refine zw_c (hs 4 _ rfl) (a := [.ref (x + 18), .ref (x + 1)]) (st := []) rfl rfl (Nat.le_of_ble_eq_true rfl) ⟨_, _, _, rfl, hX.2.2.2.1.1, rfl⟩ (Nat.zero_le _) (Nat.zero_le _) (zc_keep_M g (p := x + 18) (s := x + 1) (by omega) (by omega) hX.2.2.2.1 hX.2.1 hX.2.2.1 fun hk2_ ok2_ ck2_ fk2_ pk2_ e12_ e22_ => ?_)
  have xk2_ := hX.past fk2_ pk2_
  have lk2_ := zc_l_keep (R := R) (c := c) hX.2.2.2.1.2.2.2.1 hX.2.2.2.1.2.2.2.2 e12_ e22_
  show S 11 [some (.ref x), some (.int (Int32.ofInt rest)), some (.int (Int32.ofInt size))] [] _ _ _
  refine hs 5 _ rfl _ _ _ _ _ _ _ rfl ?_
  refine hs 6 _ rfl _ _ _ _ _ _ _ _ _ (xk2_.1) rfl rfl ?_
  refine hs 7 _ rfl _ _ _ _ _ _ _ rfl ?_
  refine hs 8 _ rfl _ _ _ _ _ _ _ rfl ?_
  refine zw_c (hs 9 _ rfl) (a := [.ref (x + 1), .int (Int32.ofInt rest), .int (Int32.ofInt size)]) (st := []) rfl rfl (Nat.le_of_ble_eq_true rfl) ⟨_, _, _, rfl, xk2_.2.1.d, rfl⟩ (Nat.zero_le _) (Nat.zero_le _) (zc_addRow_M g (by omega) xk2_.2.1 (by omega) (by omega) hz_ hl fun ha_ fa_ na_ => ?_)
  show S 20 [some (.ref x), some (.int (Int32.ofInt rest)), some (.int (Int32.ofInt size))] [] _ _ _
  have xa_ := xk2_.st fa_ na_ (hX.2.2.1.row hl hz_ ⟨Int.emod_nonneg _ (by omega), Int.emod_lt_of_pos _ (by omega)⟩)
  refine hs 10 _ rfl _ _ _ _ _ _ _ rfl ?_
  refine hs 11 _ rfl _ _ _ _ _ _ _ _ _ (xa_.1) rfl rfl ?_
  refine hs 12 _ rfl _ _ _ _ _ _ _ _ _ (xa_.2.1.d) rfl rfl ?_
  refine hs 13 _ rfl _ _ _ _ _ _ _ rfl ?_
  refine hs 14 _ rfl _ _ _ _ _ _ _ hd_sub ?_
  refine hs 15 _ rfl _ _ _ _ _ (rv _) (Nat.zero_le _) (Nat.zero_le _) ?_
  have e_ : (((c.2.2.1 ++ [(rest % size, size)]).length : Int) - (1 : Int)) = (c.2.2.1.length : Int) := by rw [List.length_append, List.length_singleton]; omega
  show Post (.inl (some (.int (Int32.ofInt (((c.2.2.1 ++ [(rest % size, size)]).length : Int) - (1 : Int)))))) _
  rw [e_]
  exact hP _ ((zc_fr.of fk2_ (by omega) (by omega)).tr (zc_fr.of fa_ (by omega) (by omega))) (zc_X.mk xa_ lk2_)
theorem sb_restE_M {l : Launch} {G : am_G} {X : ck_XT} (g : gM l G X) {q p t tp n : Nat} {ls : List Int} {sg z e : Int} {h : List am_C} (hg : am_g G h q = some (sb_c t p (n : Int) sg)) (ht : t % 100 = 7) (hgp : am_g G h p = some (tp, hd_r ls)) (htp : tp % 100 = 50) (hi : sb_is n sg ls z) (hm : 1 ≤ e) (hm2 : e ≤ 1000) {mc ms : Nat} {Post : am_O → List am_C → Prop} (hP : Post (.inl (some (.int (Int32.ofInt (z % e))))) h) :
    am_M l G yX0_restBy (.code yX0_restBy prog_2_method_15_code 5 (some .int)) 2 41 mc ms [.ref q, .int (Int32.ofInt e)] h Post := by
  obtain ⟨m_, rfl⟩ : ∃ m_ : Nat, e = (m_ : Int) := ⟨e.toNat, by omega⟩
  exact sb_rest_M g hg ht hgp htp hi (by omega) (by omega) hP
theorem sm_invertE_M {l : Launch} {G : am_G} {X : ck_XT} (g : gM l G X) {a m : Int} {h : List am_C} (ha : 0 ≤ a) (ha2 : a < m) (hm : m ≤ 999) {mc ms : Nat} {Post : am_O → List am_C → Prop} (hP : ∀ z : Int, sm_inv a.toNat m.toNat z → Post (.inl (some (.int (Int32.ofInt z)))) h) :
    am_M l G yX7_invert (.code yX7_invert prog_9_method_3_code 10 (some .int)) 1 20 mc ms [.int (Int32.ofInt a), .int (Int32.ofInt m)] h Post := by
  obtain ⟨a_, rfl⟩ : ∃ a_ : Nat, a = (a_ : Int) := ⟨a.toNat, by omega⟩
  obtain ⟨m_, rfl⟩ : ∃ m_ : Nat, m = (m_ : Int) := ⟨m.toNat, by omega⟩
  exact sm_invert_M g (by omega) (by omega) hP
/-- a power: the number a on the dial m, the exponent e -/
def zc_pw (a m : Nat) (e z : Int) : Prop := (e < 0 ∧ Nat.gcd a m ≠ 1 ∧ z = -8) ∨ ((e < 0 → Nat.gcd a m = 1) ∧ ∃ f : Nat, f < m ∧ (e < 0 → (a : Int) * (f : Int) % m = 1 % m) ∧ (¬ e < 0 → f = a) ∧ z = ((f ^ e.natAbs % m : Nat) : Int))
theorem zc_pw.of {a m n : Nat} {sg e z : Int} {ls : List Int} (hi : sb_is n sg ls e) (h : sm_pw a m sg (sb_v ls) z) : zc_pw a m e z := by
  obtain ⟨hd_, -, rfl, hs_, h0_⟩ := hi
  have hn_ := sb_a.nn hd_.2
  have e1_ : sg < 0 ↔ sg * sb_v ls < 0 := by
    rcases hs_ with c_ | c_ | c_
    · rw [c_]
      constructor
      · intro _
        have : ¬ sb_v ls = 0 := fun y_ => by have := h0_.mpr y_; omega
        omega
      · intro _; decide
    · rw [c_, Int.zero_mul]
    · rw [c_, Int.one_mul]; omega
  have e2_ : ∀ f : Nat, f ^ (sb_v ls).toNat % m = f ^ (sg * sb_v ls).natAbs % m := fun f => by
    rcases hs_ with c_ | c_ | c_
    · rw [c_, show (-1 * sb_v ls).natAbs = (sb_v ls).toNat by omega]
    · rw [c_, h0_.mp c_]; rfl
    · rw [c_, Int.one_mul, show (sb_v ls).natAbs = (sb_v ls).toNat by omega]
  rcases h with ⟨b1_, b2_, b3_⟩ | ⟨b1_, f_, b2_, b3_, b4_, b5_⟩
  · exact Or.inl ⟨e1_.mp b1_, b2_, b3_⟩
  · exact Or.inr ⟨fun y_ => b1_ (e1_.mpr y_), f_, b2_, fun y_ => b3_ (e1_.mpr y_), fun y_ => b4_ (fun w_ => y_ (e1_.mp w_)), by rw [b5_, e2_]⟩
theorem sm_powE_M {l : Launch} {G : am_G} {X : ck_XT} (g : gM l G X) {q p t tp n : Nat} {ls : List Int} {sg z a m : Int} {h : List am_C} (ha : 0 ≤ a) (ha2 : a < m) (hm2 : m ≤ 999) (hg : am_g G h q = some (sb_c t p (n : Int) sg)) (ht : t % 100 = 7) (hgp : am_g G h p = some (tp, hd_r ls)) (htp : tp % 100 = 50) (hi : sb_is n sg ls z) {mc ms : Nat} {Post : am_O → List am_C → Prop} (hP : ∀ y : Int, zc_pw a.toNat m.toNat z y → Post (.inl (some (.int (Int32.ofInt y)))) h) :
    am_M l G yX7_raise (.code yX7_raise prog_9_method_5_code 6 (some .int)) 2 49 mc ms [.int (Int32.ofInt a), .ref q, .int (Int32.ofInt m)] h Post := by
  obtain ⟨a_, rfl⟩ : ∃ a_ : Nat, a = (a_ : Int) := ⟨a.toNat, by omega⟩
  obtain ⟨m_, rfl⟩ : ∃ m_ : Nat, m = (m_ : Int) := ⟨m.toNat, by omega⟩
  exact sm_pow_M g (by omega) (by omega) hg ht hgp htp hi fun y_ hy_ => hP y_ (zc_pw.of hi hy_)
set_option maxHeartbeats 4000000 in
theorem zc_mod_M {l : Launch} {G : am_G} {X : ck_XT} (g : gM l G X) {x : Nat} {r : Nat → Nat} {jj mm kk : Int} {c : sp_S} {R : Nat → sp_S} {old cnt : Nat} {h : List am_C} (hX : zc_x G h x r jj mm kk c R old cnt) {i : Nat} {e : Int} (he : e = (i : Int)) (hi : i < 6) {mc ms : Nat} {Post : am_O → List am_C → Prop}
    (hJ : c.1 ≤ 0 → Post (.inl (some (.int (Int32.ofInt (-9))))) h) (hP : 0 < c.1 → Post (.inl (some (.int (Int32.ofInt (c.2.1.getD i 0 % c.1))))) h) :
    am_M l G yX10_mod (.code yX10_mod prog_1_method_27_code 3 (some .int)) 7 111 mc ms [.ref x, .int (Int32.ofInt e)] h Post := by
  refine gh_yX10_mod_X g (Nat.le_of_ble_eq_true rfl) fun S SX hs hr hw hx => ?_
  have rv : ∀ x : Int32, ck_fv 0 (.int x) := fun x => ⟨_, rfl⟩
  have hb_ := hX.2.2.1.1
  by_cases h0_ : c.1 ≤ 0
  · 
    refine hs 0 _ rfl _ _ _ _ _ _ _ rfl ?_
    refine hs 1 _ rfl _ _ _ _ _ _ _ rfl ?_
    refine zw_c (hs 2 _ rfl) (a := [.ref x, .int (Int32.ofInt e)]) (st := []) rfl rfl (Nat.le_of_ble_eq_true rfl) ⟨_, _, _, rfl, hX.1, rfl⟩ (Nat.zero_le _) (Nat.zero_le _) (zc_numAt_M g hX (i := i) he hi ?_)
    show S 5 [some (.ref x), some (.int (Int32.ofInt e)), none] [.ref (x + 1 + 5 + 2 * i)] _ _ _
    refine hs 3 _ rfl _ _ _ _ _ _ _ rfl ?_
    refine hs 4 _ rfl _ _ _ _ _ _ _ rfl ?_
    refine zw_c (hs 5 _ rfl) (a := [.ref x]) (st := []) rfl rfl (Nat.le_of_ble_eq_true rfl) ⟨_, _, _, rfl, hX.1, rfl⟩ (Nat.zero_le _) (Nat.zero_le _) (zc_jam_M g hX (fun _ => ?_) (fun y_ => absurd y_ (by omega)))
    show S 10 [some (.ref x), some (.int (Int32.ofInt e)), some (.ref (x + 1 + 5 + 2 * i))] [.int (Int32.ofInt (1 : Int))] _ _ _
    refine hs 6 _ rfl _ _ _ _ _ _ (fun zq => absurd (hd_c1z (c := 0) (by omega) (by omega) zq) (by omega : ¬ ((1 : Int) = 0))) (fun _ => ?_)
    refine hs 7 _ rfl _ _ _ _ _ _ _ rfl ?_
    refine hs 8 _ rfl _ _ _ _ _ ?_
    exact hs 14 _ rfl _ _ _ _ _ (rv _) (Nat.zero_le _) (Nat.zero_le _) (hJ h0_)
  · obtain ⟨ny_, sy_, ly_, y1_, y2_, y3_⟩ := hX.2.1.n hi
    refine hs 0 _ rfl _ _ _ _ _ _ _ rfl ?_
    refine hs 1 _ rfl _ _ _ _ _ _ _ rfl ?_
    refine zw_c (hs 2 _ rfl) (a := [.ref x, .int (Int32.ofInt e)]) (st := []) rfl rfl (Nat.le_of_ble_eq_true rfl) ⟨_, _, _, rfl, hX.1, rfl⟩ (Nat.zero_le _) (Nat.zero_le _) (zc_numAt_M g hX (i := i) he hi ?_)
    show S 5 [some (.ref x), some (.int (Int32.ofInt e)), none] [.ref (x + 1 + 5 + 2 * i)] _ _ _
    refine hs 3 _ rfl _ _ _ _ _ _ _ rfl ?_
    refine hs 4 _ rfl _ _ _ _ _ _ _ rfl ?_
    refine zw_c (hs 5 _ rfl) (a := [.ref x]) (st := []) rfl rfl (Nat.le_of_ble_eq_true rfl) ⟨_, _, _, rfl, hX.1, rfl⟩ (Nat.zero_le _) (Nat.zero_le _) (zc_jam_M g hX (fun y_ => absurd y_ (by omega)) (fun _ => ?_))
    show S 10 [some (.ref x), some (.int (Int32.ofInt e)), some (.ref (x + 1 + 5 + 2 * i))] [.int (Int32.ofInt (0 : Int))] _ _ _
    refine hs 6 _ rfl _ _ _ _ _ _ (fun _ => ?_) (fun zq => absurd (hd_c1t (c := 0) (by omega) (by omega) (by omega : (0 : Int) = 0)) zq)
    refine hs 9 _ rfl _ _ _ _ _ _ _ rfl ?_
    refine hs 10 _ rfl _ _ _ _ _ _ _ rfl ?_
    refine hs 11 _ rfl _ _ _ _ _ _ _ _ _ (hX.1) rfl rfl ?_
    refine hs 12 _ rfl _ _ _ _ _ _ _ _ _ (hX.2.1.d) rfl rfl ?_
    refine zw_c (hs 13 _ rfl) (a := [.ref (x + 1 + 5 + 2 * i), .int (Int32.ofInt c.1)]) (st := []) rfl rfl (Nat.le_of_ble_eq_true rfl) ⟨_, _, _, rfl, y1_, rfl⟩ (Nat.zero_le _) (Nat.zero_le _) (sb_restE_M g y1_ rfl y2_ rfl y3_ (by omega) (by omega) ?_)
    show S 29 [some (.ref x), some (.int (Int32.ofInt e)), some (.ref (x + 1 + 5 + 2 * i))] [.int (Int32.ofInt ((c.2.1.getD i 0) % c.1))] _ _ _
    exact hs 14 _ rfl _ _ _ _ _ (rv _) (Nat.zero_le _) (Nat.zero_le _) (hP (by omega))
set_option maxHeartbeats 4000000 in
theorem zc_inv_M {l : Launch} {G : am_G} {X : ck_XT} (g : gM l G X) {x : Nat} {r : Nat → Nat} {jj mm kk : Int} {c : sp_S} {R : Nat → sp_S} {old cnt : Nat} {h : List am_C} (hX : zc_x G h x r jj mm kk c R old cnt) {i : Nat} {e : Int} (he : e = (i : Int)) (hi : i < 6) {mc ms : Nat} {Post : am_O → List am_C → Prop}
    (hJ : c.1 ≤ 0 → Post (.inl (some (.int (Int32.ofInt (-9))))) h) (hP : 0 < c.1 → ∀ v : Int, sm_inv (c.2.1.getD i 0 % c.1).toNat c.1.toNat v → Post (.inl (some (.int (Int32.ofInt v)))) h) :
    am_M l G yX10_inverse (.code yX10_inverse prog_1_method_30_code 3 (some .int)) 7 111 mc ms [.ref x, .int (Int32.ofInt e)] h Post := by
  refine gh_yX10_inverse_X g (Nat.le_of_ble_eq_true rfl) fun S SX hs hr hw hx => ?_
  have rv : ∀ x : Int32, ck_fv 0 (.int x) := fun x => ⟨_, rfl⟩
  have hb_ := hX.2.2.1.1
  by_cases h0_ : c.1 ≤ 0
  · 
    refine hs 0 _ rfl _ _ _ _ _ _ _ rfl ?_
    refine hs 1 _ rfl _ _ _ _ _ _ _ rfl ?_
    refine zw_c (hs 2 _ rfl) (a := [.ref x, .int (Int32.ofInt e)]) (st := []) rfl rfl (Nat.le_of_ble_eq_true rfl) ⟨_, _, _, rfl, hX.1, rfl⟩ (Nat.zero_le _) (Nat.zero_le _) (zc_numAt_M g hX (i := i) he hi ?_)
    show S 5 [some (.ref x), some (.int (Int32.ofInt e)), none] [.ref (x + 1 + 5 + 2 * i)] _ _ _
    refine hs 3 _ rfl _ _ _ _ _ _ _ rfl ?_
    refine hs 4 _ rfl _ _ _ _ _ _ _ rfl ?_
    refine zw_c (hs 5 _ rfl) (a := [.ref x]) (st := []) rfl rfl (Nat.le_of_ble_eq_true rfl) ⟨_, _, _, rfl, hX.1, rfl⟩ (Nat.zero_le _) (Nat.zero_le _) (zc_jam_M g hX (fun _ => ?_) (fun y_ => absurd y_ (by omega)))
    show S 10 [some (.ref x), some (.int (Int32.ofInt e)), some (.ref (x + 1 + 5 + 2 * i))] [.int (Int32.ofInt (1 : Int))] _ _ _
    refine hs 6 _ rfl _ _ _ _ _ _ (fun zq => absurd (hd_c1z (c := 0) (by omega) (by omega) zq) (by omega : ¬ ((1 : Int) = 0))) (fun _ => ?_)
    refine hs 7 _ rfl _ _ _ _ _ _ _ rfl ?_
    refine hs 8 _ rfl _ _ _ _ _ ?_
    exact hs 18 _ rfl _ _ _ _ _ (rv _) (Nat.zero_le _) (Nat.zero_le _) (hJ h0_)
  · obtain ⟨ny_, sy_, ly_, y1_, y2_, y3_⟩ := hX.2.1.n hi
    have r1_ := Int.emod_nonneg (c.2.1.getD i 0) (b := c.1) (by omega)
    have r2_ := Int.emod_lt_of_pos (c.2.1.getD i 0) (b := c.1) (by omega)
    refine hs 0 _ rfl _ _ _ _ _ _ _ rfl ?_
    refine hs 1 _ rfl _ _ _ _ _ _ _ rfl ?_
    refine zw_c (hs 2 _ rfl) (a := [.ref x, .int (Int32.ofInt e)]) (st := []) rfl rfl (Nat.le_of_ble_eq_true rfl) ⟨_, _, _, rfl, hX.1, rfl⟩ (Nat.zero_le _) (Nat.zero_le _) (zc_numAt_M g hX (i := i) he hi ?_)
    show S 5 [some (.ref x), some (.int (Int32.ofInt e)), none] [.ref (x + 1 + 5 + 2 * i)] _ _ _
    refine hs 3 _ rfl _ _ _ _ _ _ _ rfl ?_
    refine hs 4 _ rfl _ _ _ _ _ _ _ rfl ?_
    refine zw_c (hs 5 _ rfl) (a := [.ref x]) (st := []) rfl rfl (Nat.le_of_ble_eq_true rfl) ⟨_, _, _, rfl, hX.1, rfl⟩ (Nat.zero_le _) (Nat.zero_le _) (zc_jam_M g hX (fun y_ => absurd y_ (by omega)) (fun _ => ?_))
    show S 10 [some (.ref x), some (.int (Int32.ofInt e)), some (.ref (x + 1 + 5 + 2 * i))] [.int (Int32.ofInt (0 : Int))] _ _ _
    refine hs 6 _ rfl _ _ _ _ _ _ (fun _ => ?_) (fun zq => absurd (hd_c1t (c := 0) (by omega) (by omega) (by omega : (0 : Int) = 0)) zq)
    refine hs 9 _ rfl _ _ _ _ _ _ _ rfl ?_
    refine hs 10 _ rfl _ _ _ _ _ _ _ rfl ?_
    refine hs 11 _ rfl _ _ _ _ _ _ _ _ _ (hX.1) rfl rfl ?_
    refine hs 12 _ rfl _ _ _ _ _ _ _ _ _ (hX.2.1.d) rfl rfl ?_
    refine zw_c (hs 13 _ rfl) (a := [.ref (x + 1 + 5 + 2 * i), .int (Int32.ofInt c.1)]) (st := []) rfl rfl (Nat.le_of_ble_eq_true rfl) ⟨_, _, _, rfl, y1_, rfl⟩ (Nat.zero_le _) (Nat.zero_le _) (sb_restE_M g y1_ rfl y2_ rfl y3_ (by omega) (by omega) ?_)
    show S 29 [some (.ref x), some (.int (Int32.ofInt e)), some (.ref (x + 1 + 5 + 2 * i))] [.int (Int32.ofInt ((c.2.1.getD i 0) % c.1))] _ _ _
    refine hs 14 _ rfl _ _ _ _ _ _ _ rfl ?_
    refine hs 15 _ rfl _ _ _ _ _ _ _ _ _ (hX.1) rfl rfl ?_
    refine hs 16 _ rfl _ _ _ _ _ _ _ _ _ (hX.2.1.d) rfl rfl ?_
    refine zw_c (hs 17 _ rfl) (a := [.int (Int32.ofInt ((c.2.1.getD i 0) % c.1)), .int (Int32.ofInt c.1)]) (st := []) rfl rfl (Nat.le_of_ble_eq_true rfl) trivial (Nat.zero_le _) (Nat.zero_le _) (sm_invertE_M g r1_ r2_ (by omega) fun v_ hv_ => ?_)
    show S 39 [some (.ref x), some (.int (Int32.ofInt e)), some (.ref (x + 1 + 5 + 2 * i))] [.int (Int32.ofInt v_)] _ _ _
    exact hs 18 _ rfl _ _ _ _ _ (rv _) (Nat.zero_le _) (Nat.zero_le _) (hP (by omega) _ hv_)
set_option maxHeartbeats 4000000 in
theorem zc_pow_M {l : Launch} {G : am_G} {X : ck_XT} (g : gM l G X) {x : Nat} {r : Nat → Nat} {jj mm kk : Int} {c : sp_S} {R : Nat → sp_S} {old cnt : Nat} {h : List am_C} (hX : zc_x G h x r jj mm kk c R old cnt) {i : Nat} {e : Int} (he : e = (i : Int)) (hi : i < 6)  {i2 : Nat} {e2 : Int} (he2 : e2 = (i2 : Int)) (hi2 : i2 < 6) {mc ms : Nat} {Post : am_O → List am_C → Prop}
    (hJ : c.1 ≤ 0 → Post (.inl (some (.int (Int32.ofInt (-9))))) h) (hP : 0 < c.1 → ∀ v : Int, zc_pw (c.2.1.getD i 0 % c.1).toNat c.1.toNat (c.2.1.getD i2 0) v → Post (.inl (some (.int (Int32.ofInt v)))) h) :
    am_M l G yX10_power (.code yX10_power prog_1_method_29_code 5 (some .int)) 7 111 mc ms [.ref x, .int (Int32.ofInt e), .int (Int32.ofInt e2)] h Post := by
  refine gh_yX10_power_X g (Nat.le_of_ble_eq_true rfl) fun S SX hs hr hw hx => ?_
  have rv : ∀ x : Int32, ck_fv 0 (.int x) := fun x => ⟨_, rfl⟩
  have hb_ := hX.2.2.1.1
  by_cases h0_ : c.1 ≤ 0
  · 
    refine hs 0 _ rfl _ _ _ _ _ _ _ rfl ?_
    refine hs 1 _ rfl _ _ _ _ _ _ _ rfl ?_
    refine zw_c (hs 2 _ rfl) (a := [.ref x, .int (Int32.ofInt e)]) (st := []) rfl rfl (Nat.le_of_ble_eq_true rfl) ⟨_, _, _, rfl, hX.1, rfl⟩ (Nat.zero_le _) (Nat.zero_le _) (zc_numAt_M g hX (i := i) he hi ?_)
    show S 5 [some (.ref x), some (.int (Int32.ofInt e)), some (.int (Int32.ofInt e2)), none, none] [.ref (x + 1 + 5 + 2 * i)] _ _ _
    refine hs 3 _ rfl _ _ _ _ _ _ _ rfl ?_
    refine hs 4 _ rfl _ _ _ _ _ _ _ rfl ?_
    refine hs 5 _ rfl _ _ _ _ _ _ _ rfl ?_
    refine zw_c (hs 6 _ rfl) (a := [.ref x, .int (Int32.ofInt e2)]) (st := []) rfl rfl (Nat.le_of_ble_eq_true rfl) ⟨_, _, _, rfl, hX.1, rfl⟩ (Nat.zero_le _) (Nat.zero_le _) (zc_numAt_M g hX (i := i2) he2 hi2 ?_)
    show S 11 [some (.ref x), some (.int (Int32.ofInt e)), some (.int (Int32.ofInt e2)), some (.ref (x + 1 + 5 + 2 * i)), none] [.ref (x + 1 + 5 + 2 * i2)] _ _ _
    refine hs 7 _ rfl _ _ _ _ _ _ _ rfl ?_
    refine hs 8 _ rfl _ _ _ _ _ _ _ rfl ?_
    refine zw_c (hs 9 _ rfl) (a := [.ref x]) (st := []) rfl rfl (Nat.le_of_ble_eq_true rfl) ⟨_, _, _, rfl, hX.1, rfl⟩ (Nat.zero_le _) (Nat.zero_le _) (zc_jam_M g hX (fun _ => ?_) (fun y_ => absurd y_ (by omega)))
    show S 17 [some (.ref x), some (.int (Int32.ofInt e)), some (.int (Int32.ofInt e2)), some (.ref (x + 1 + 5 + 2 * i)), some (.ref (x + 1 + 5 + 2 * i2))] [.int (Int32.ofInt (1 : Int))] _ _ _
    refine hs 10 _ rfl _ _ _ _ _ _ (fun zq => absurd (hd_c1z (c := 0) (by omega) (by omega) zq) (by omega : ¬ ((1 : Int) = 0))) (fun _ => ?_)
    refine hs 11 _ rfl _ _ _ _ _ _ _ rfl ?_
    refine hs 12 _ rfl _ _ _ _ _ ?_
    exact hs 23 _ rfl _ _ _ _ _ (rv _) (Nat.zero_le _) (Nat.zero_le _) (hJ h0_)
  · obtain ⟨ny_, sy_, ly_, y1_, y2_, y3_⟩ := hX.2.1.n hi
    obtain ⟨nw_, sw_, lw_, w1_, w2_, w3_⟩ := hX.2.1.n hi2
    have r1_ := Int.emod_nonneg (c.2.1.getD i 0) (b := c.1) (by omega)
    have r2_ := Int.emod_lt_of_pos (c.2.1.getD i 0) (b := c.1) (by omega)
    refine hs 0 _ rfl _ _ _ _ _ _ _ rfl ?_
    refine hs 1 _ rfl _ _ _ _ _ _ _ rfl ?_
    refine zw_c (hs 2 _ rfl) (a := [.ref x, .int (Int32.ofInt e)]) (st := []) rfl rfl (Nat.le_of_ble_eq_true rfl) ⟨_, _, _, rfl, hX.1, rfl⟩ (Nat.zero_le _) (Nat.zero_le _) (zc_numAt_M g hX (i := i) he hi ?_)
    show S 5 [some (.ref x), some (.int (Int32.ofInt e)), some (.int (Int32.ofInt e2)), none, none] [.ref (x + 1 + 5 + 2 * i)] _ _ _
    refine hs 3 _ rfl _ _ _ _ _ _ _ rfl ?_
    refine hs 4 _ rfl _ _ _ _ _ _ _ rfl ?_
    refine hs 5 _ rfl _ _ _ _ _ _ _ rfl ?_
    refine zw_c (hs 6 _ rfl) (a := [.ref x, .int (Int32.ofInt e2)]) (st := []) rfl rfl (Nat.le_of_ble_eq_true rfl) ⟨_, _, _, rfl, hX.1, rfl⟩ (Nat.zero_le _) (Nat.zero_le _) (zc_numAt_M g hX (i := i2) he2 hi2 ?_)
    show S 11 [some (.ref x), some (.int (Int32.ofInt e)), some (.int (Int32.ofInt e2)), some (.ref (x + 1 + 5 + 2 * i)), none] [.ref (x + 1 + 5 + 2 * i2)] _ _ _
    refine hs 7 _ rfl _ _ _ _ _ _ _ rfl ?_
    refine hs 8 _ rfl _ _ _ _ _ _ _ rfl ?_
    refine zw_c (hs 9 _ rfl) (a := [.ref x]) (st := []) rfl rfl (Nat.le_of_ble_eq_true rfl) ⟨_, _, _, rfl, hX.1, rfl⟩ (Nat.zero_le _) (Nat.zero_le _) (zc_jam_M g hX (fun y_ => absurd y_ (by omega)) (fun _ => ?_))
    show S 17 [some (.ref x), some (.int (Int32.ofInt e)), some (.int (Int32.ofInt e2)), some (.ref (x + 1 + 5 + 2 * i)), some (.ref (x + 1 + 5 + 2 * i2))] [.int (Int32.ofInt (0 : Int))] _ _ _
    refine hs 10 _ rfl _ _ _ _ _ _ (fun _ => ?_) (fun zq => absurd (hd_c1t (c := 0) (by omega) (by omega) (by omega : (0 : Int) = 0)) zq)
    refine hs 13 _ rfl _ _ _ _ _ _ _ rfl ?_
    refine hs 14 _ rfl _ _ _ _ _ _ _ rfl ?_
    refine hs 15 _ rfl _ _ _ _ _ _ _ _ _ (hX.1) rfl rfl ?_
    refine hs 16 _ rfl _ _ _ _ _ _ _ _ _ (hX.2.1.d) rfl rfl ?_
    refine zw_c (hs 17 _ rfl) (a := [.ref (x + 1 + 5 + 2 * i), .int (Int32.ofInt c.1)]) (st := []) rfl rfl (Nat.le_of_ble_eq_true rfl) ⟨_, _, _, rfl, y1_, rfl⟩ (Nat.zero_le _) (Nat.zero_le _) (sb_restE_M g y1_ rfl y2_ rfl y3_ (by omega) (by omega) ?_)
    show S 36 [some (.ref x), some (.int (Int32.ofInt e)), some (.int (Int32.ofInt e2)), some (.ref (x + 1 + 5 + 2 * i)), some (.ref (x + 1 + 5 + 2 * i2))] [.int (Int32.ofInt ((c.2.1.getD i 0) % c.1))] _ _ _
    refine hs 18 _ rfl _ _ _ _ _ _ _ rfl ?_
    refine hs 19 _ rfl _ _ _ _ _ _ _ rfl ?_
    refine hs 20 _ rfl _ _ _ _ _ _ _ _ _ (hX.1) rfl rfl ?_
    refine hs 21 _ rfl _ _ _ _ _ _ _ _ _ (hX.2.1.d) rfl rfl ?_
    refine zw_c (hs 22 _ rfl) (a := [.int (Int32.ofInt ((c.2.1.getD i 0) % c.1)), .ref (x + 1 + 5 + 2 * i2), .int (Int32.ofInt c.1)]) (st := []) rfl rfl (Nat.le_of_ble_eq_true rfl) trivial (Nat.zero_le _) (Nat.zero_le _) (sm_powE_M g r1_ r2_ (by omega) w1_ rfl w2_ rfl w3_ fun v_ hv_ => ?_)
    show S 48 [some (.ref x), some (.int (Int32.ofInt e)), some (.int (Int32.ofInt e2)), some (.ref (x + 1 + 5 + 2 * i)), some (.ref (x + 1 + 5 + 2 * i2))] [.int (Int32.ofInt v_)] _ _ _
    exact hs 23 _ rfl _ _ _ _ _ (rv _) (Nat.zero_le _) (Nat.zero_le _) (hP (by omega) _ hv_)
