/-! ASKS OF THE LAW, THEIR ANSWERS TOLD -/
theorem cx_digits {l : Launch} {G : am_G} (g : gM l G li_X) : ck_Con (cv_clw G sp_q21 1 (am_cn l G yL_digits (.codeWith yL_digits method_20_code 4 (some .int) [(0, 10, 13, 25)]) 8 132)) G li_X gT gc_yL_digits_a :=
  cv_clw_n (cv_clw_ok (C := 1) (S := 6) (gm_yL_digits_a g.1) rfl rfl rfl (fun x out r T i1 i2 h2 R old cnt n0 s0 hx hp ho o1 o2 o3 => by
    obtain ⟨c_, P_, j_, m_, k_⟩ := T
    have hp_ : P_ = zc_l R old cnt := hp
    subst hp_
    have a_ : ([.ref x, .int i1, .ref out] : List Value) = [.ref x, .int (Int32.ofInt i1.toInt), .ref out] := by rw [Int32.ofInt_toInt]
    show am_M l G _ _ _ _ _ _ [.ref x, .int i1, .ref out] h2 _
    rw [a_]
    exact zc_wqdigits_M g hx ho o1 o2 o3 (e := i1.toInt) (e2 := i2.toInt) (li_i32 i1).1 (li_i32 i1).2 (by decide) (by decide) (fun a th T2 h3 d f Y z => ⟨a, th, T2, d, f, Y, z, rfl⟩))) rfl
theorem cy_digits {l : Launch} {G : am_G} (g : gM l G li_X) : ck_Con (cv_rew G sp_q21 1 (am_cm l G yX14_digits (.code yX14_digits prog_14_method_42_code 2 (some .int)) 3 64)) G li_X gT gc_yX14_digits_a :=
  cv_rew_ok (C := 0) (S := 0) (gm_yX14_digits_a g) rfl rfl rfl sp_q21.fn (fun m T i1 i2 h2 o tx now qw th hx hk h12 => by
    obtain ⟨c_, P_, j_, m_, k_⟩ := T
    have a_ : ([.ref m, .int i1] : List Value) = [.ref m, .int (Int32.ofInt i1.toInt)] := by rw [Int32.ofInt_toInt]
    show am_M l G _ _ _ _ _ _ [.ref m, .int i1] h2 _
    rw [a_]
    exact zm_qdigits_M g hx hk (e := i1.toInt) (e2 := i2.toInt) (li_i32 i1).1 (li_i32 i1).2 (fun a th2 T2 h3 d f Y => ⟨a, th2, T2, d, f, Y, rfl⟩))
theorem cx_mod {l : Launch} {G : am_G} (g : gM l G li_X) : ck_Con (cv_clw G sp_q27 1 (am_cn l G yL_mod (.codeWith yL_mod method_25_code 4 (some .int) [(0, 10, 13, 25)]) 8 133)) G li_X gT gc_yL_mod_a :=
  cv_clw_n (cv_clw_ok (C := 1) (S := 6) (gm_yL_mod_a g.1) rfl rfl rfl (fun x out r T i1 i2 h2 R old cnt n0 s0 hx hp ho o1 o2 o3 => by
    obtain ⟨c_, P_, j_, m_, k_⟩ := T
    have hp_ : P_ = zc_l R old cnt := hp
    subst hp_
    have a_ : ([.ref x, .int i1, .ref out] : List Value) = [.ref x, .int (Int32.ofInt i1.toInt), .ref out] := by rw [Int32.ofInt_toInt]
    show am_M l G _ _ _ _ _ _ [.ref x, .int i1, .ref out] h2 _
    rw [a_]
    exact zc_wqmod_M g hx ho o1 o2 o3 (e := i1.toInt) (e2 := i2.toInt) (li_i32 i1).1 (li_i32 i1).2 (by decide) (by decide) (fun a th T2 h3 d f Y z => ⟨a, th, T2, d, f, Y, z, rfl⟩))) rfl
theorem cy_mod {l : Launch} {G : am_G} (g : gM l G li_X) : ck_Con (cv_rew G sp_q27 1 (am_cm l G yX14_mod (.code yX14_mod prog_14_method_49_code 2 (some .int)) 3 64)) G li_X gT gc_yX14_mod_a :=
  cv_rew_ok (C := 0) (S := 0) (gm_yX14_mod_a g) rfl rfl rfl sp_q27.fn (fun m T i1 i2 h2 o tx now qw th hx hk h12 => by
    obtain ⟨c_, P_, j_, m_, k_⟩ := T
    have a_ : ([.ref m, .int i1] : List Value) = [.ref m, .int (Int32.ofInt i1.toInt)] := by rw [Int32.ofInt_toInt]
    show am_M l G _ _ _ _ _ _ [.ref m, .int i1] h2 _
    rw [a_]
    exact zm_qmod_M g hx hk (e := i1.toInt) (e2 := i2.toInt) (li_i32 i1).1 (li_i32 i1).2 (fun a th2 T2 h3 d f Y => ⟨a, th2, T2, d, f, Y, rfl⟩))
theorem cx_gcd {l : Launch} {G : am_G} (g : gM l G li_X) : ck_Con (cv_clw G sp_q28 1 (am_cn l G yL_gcd (.codeWith yL_gcd method_26_code 4 (some .int) [(0, 10, 13, 25)]) 8 133)) G li_X gT gc_yL_gcd_a :=
  cv_clw_n (cv_clw_ok (C := 1) (S := 6) (gm_yL_gcd_a g.1) rfl rfl rfl (fun x out r T i1 i2 h2 R old cnt n0 s0 hx hp ho o1 o2 o3 => by
    obtain ⟨c_, P_, j_, m_, k_⟩ := T
    have hp_ : P_ = zc_l R old cnt := hp
    subst hp_
    have a_ : ([.ref x, .int i1, .ref out] : List Value) = [.ref x, .int (Int32.ofInt i1.toInt), .ref out] := by rw [Int32.ofInt_toInt]
    show am_M l G _ _ _ _ _ _ [.ref x, .int i1, .ref out] h2 _
    rw [a_]
    exact zc_wqgcd_M g hx ho o1 o2 o3 (e := i1.toInt) (e2 := i2.toInt) (li_i32 i1).1 (li_i32 i1).2 (by decide) (by decide) (fun a th T2 h3 d f Y z => ⟨a, th, T2, d, f, Y, z, rfl⟩))) rfl
theorem cy_gcd {l : Launch} {G : am_G} (g : gM l G li_X) : ck_Con (cv_rew G sp_q28 1 (am_cm l G yX14_gcd (.code yX14_gcd prog_14_method_51_code 2 (some .int)) 4 85)) G li_X gT gc_yX14_gcd_a :=
  cv_rew_ok (C := 0) (S := 0) (gm_yX14_gcd_a g) rfl rfl rfl sp_q28.fn (fun m T i1 i2 h2 o tx now qw th hx hk h12 => by
    obtain ⟨c_, P_, j_, m_, k_⟩ := T
    have a_ : ([.ref m, .int i1] : List Value) = [.ref m, .int (Int32.ofInt i1.toInt)] := by rw [Int32.ofInt_toInt]
    show am_M l G _ _ _ _ _ _ [.ref m, .int i1] h2 _
    rw [a_]
    exact zm_qgcd_M g hx hk (e := i1.toInt) (e2 := i2.toInt) (li_i32 i1).1 (li_i32 i1).2 (fun a th2 T2 h3 d f Y => ⟨a, th2, T2, d, f, Y, rfl⟩))
theorem cx_power {l : Launch} {G : am_G} (g : gM l G li_X) : ck_Con (cv_clw G sp_q29 2 (am_cn l G yL_power (.codeWith yL_power method_27_code 5 (some .int) [(0, 11, 14, 25)]) 8 135)) G li_X gT gc_yL_power_a :=
  cv_clw_n (cv_clw_ok (C := 2) (S := 12) (gm_yL_power_a g.1) rfl rfl rfl (fun x out r T i1 i2 h2 R old cnt n0 s0 hx hp ho o1 o2 o3 => by
    obtain ⟨c_, P_, j_, m_, k_⟩ := T
    have hp_ : P_ = zc_l R old cnt := hp
    subst hp_
    have a_ : ([.ref x, .int i1, .int i2, .ref out] : List Value) = [.ref x, .int (Int32.ofInt i1.toInt), .int (Int32.ofInt i2.toInt), .ref out] := by rw [Int32.ofInt_toInt, Int32.ofInt_toInt]
    show am_M l G _ _ _ _ _ _ [.ref x, .int i1, .int i2, .ref out] h2 _
    rw [a_]
    exact zc_wqpower_M g hx ho o1 o2 o3 (e := i1.toInt) (e2 := i2.toInt) (li_i32 i1).1 (li_i32 i1).2 (li_i32 i2).1 (li_i32 i2).2 (by decide) (by decide) (fun a th T2 h3 d f Y z => ⟨a, th, T2, d, f, Y, z, rfl⟩))) rfl
theorem cy_power {l : Launch} {G : am_G} (g : gM l G li_X) : ck_Con (cv_rew G sp_q29 2 (am_cm l G yX14_power (.code yX14_power prog_14_method_52_code 3 (some .int)) 5 114)) G li_X gT gc_yX14_power_a :=
  cv_rew_ok (C := 0) (S := 0) (gm_yX14_power_a g) rfl rfl rfl sp_q29.fn (fun m T i1 i2 h2 o tx now qw th hx hk h12 => by
    obtain ⟨c_, P_, j_, m_, k_⟩ := T
    have a_ : ([.ref m, .int i1, .int i2] : List Value) = [.ref m, .int (Int32.ofInt i1.toInt), .int (Int32.ofInt i2.toInt)] := by rw [Int32.ofInt_toInt, Int32.ofInt_toInt]
    show am_M l G _ _ _ _ _ _ [.ref m, .int i1, .int i2] h2 _
    rw [a_]
    exact zm_qpower_M g hx hk (e := i1.toInt) (e2 := i2.toInt) (li_i32 i1).1 (li_i32 i1).2 (li_i32 i2).1 (li_i32 i2).2 (fun a th2 T2 h3 d f Y => ⟨a, th2, T2, d, f, Y, rfl⟩))
theorem cx_inverse {l : Launch} {G : am_G} (g : gM l G li_X) : ck_Con (cv_clw G sp_q30 1 (am_cn l G yL_inverse (.codeWith yL_inverse method_28_code 4 (some .int) [(0, 10, 13, 25)]) 8 133)) G li_X gT gc_yL_inverse_a :=
  cv_clw_n (cv_clw_ok (C := 1) (S := 6) (gm_yL_inverse_a g.1) rfl rfl rfl (fun x out r T i1 i2 h2 R old cnt n0 s0 hx hp ho o1 o2 o3 => by
    obtain ⟨c_, P_, j_, m_, k_⟩ := T
    have hp_ : P_ = zc_l R old cnt := hp
    subst hp_
    have a_ : ([.ref x, .int i1, .ref out] : List Value) = [.ref x, .int (Int32.ofInt i1.toInt), .ref out] := by rw [Int32.ofInt_toInt]
    show am_M l G _ _ _ _ _ _ [.ref x, .int i1, .ref out] h2 _
    rw [a_]
    exact zc_wqinverse_M g hx ho o1 o2 o3 (e := i1.toInt) (e2 := i2.toInt) (li_i32 i1).1 (li_i32 i1).2 (by decide) (by decide) (fun a th T2 h3 d f Y z => ⟨a, th, T2, d, f, Y, z, rfl⟩))) rfl
theorem cy_inverse {l : Launch} {G : am_G} (g : gM l G li_X) : ck_Con (cv_rew G sp_q30 1 (am_cm l G yX14_inverse (.code yX14_inverse prog_14_method_53_code 2 (some .int)) 4 87)) G li_X gT gc_yX14_inverse_a :=
  cv_rew_ok (C := 0) (S := 0) (gm_yX14_inverse_a g) rfl rfl rfl sp_q30.fn (fun m T i1 i2 h2 o tx now qw th hx hk h12 => by
    obtain ⟨c_, P_, j_, m_, k_⟩ := T
    have a_ : ([.ref m, .int i1] : List Value) = [.ref m, .int (Int32.ofInt i1.toInt)] := by rw [Int32.ofInt_toInt]
    show am_M l G _ _ _ _ _ _ [.ref m, .int i1] h2 _
    rw [a_]
    exact zm_qinverse_M g hx hk (e := i1.toInt) (e2 := i2.toInt) (li_i32 i1).1 (li_i32 i1).2 (fun a th2 T2 h3 d f Y => ⟨a, th2, T2, d, f, Y, rfl⟩))
theorem cx_solutions {l : Launch} {G : am_G} (g : gM l G li_X) : ck_Con (cv_clw G sp_q31 2 (am_cn l G yL_solutions (.codeWith yL_solutions method_29_code 5 (some .int) [(0, 11, 14, 25)]) 8 136)) G li_X gT gc_yL_solutions_a :=
  cv_clw_n (cv_clw_ok (C := 2) (S := 12) (gm_yL_solutions_a g.1) rfl rfl rfl (fun x out r T i1 i2 h2 R old cnt n0 s0 hx hp ho o1 o2 o3 => by
    obtain ⟨c_, P_, j_, m_, k_⟩ := T
    have hp_ : P_ = zc_l R old cnt := hp
    subst hp_
    have a_ : ([.ref x, .int i1, .int i2, .ref out] : List Value) = [.ref x, .int (Int32.ofInt i1.toInt), .int (Int32.ofInt i2.toInt), .ref out] := by rw [Int32.ofInt_toInt, Int32.ofInt_toInt]
    show am_M l G _ _ _ _ _ _ [.ref x, .int i1, .int i2, .ref out] h2 _
    rw [a_]
    exact zc_wqsolutions_M g hx ho o1 o2 o3 (e := i1.toInt) (e2 := i2.toInt) (li_i32 i1).1 (li_i32 i1).2 (li_i32 i2).1 (li_i32 i2).2 (by decide) (by decide) (fun a th T2 h3 d f Y z => ⟨a, th, T2, d, f, Y, z, rfl⟩))) rfl
theorem cy_solutions {l : Launch} {G : am_G} (g : gM l G li_X) : ck_Con (cv_rew G sp_q31 2 (am_cm l G yX14_solutions (.code yX14_solutions prog_14_method_57_code 3 (some .int)) 4 86)) G li_X gT gc_yX14_solutions_a :=
  cv_rew_ok (C := 0) (S := 0) (gm_yX14_solutions_a g) rfl rfl rfl sp_q31.fn (fun m T i1 i2 h2 o tx now qw th hx hk h12 => by
    obtain ⟨c_, P_, j_, m_, k_⟩ := T
    have a_ : ([.ref m, .int i1, .int i2] : List Value) = [.ref m, .int (Int32.ofInt i1.toInt), .int (Int32.ofInt i2.toInt)] := by rw [Int32.ofInt_toInt, Int32.ofInt_toInt]
    show am_M l G _ _ _ _ _ _ [.ref m, .int i1, .int i2] h2 _
    rw [a_]
    exact zm_qsolutions_M g hx hk (e := i1.toInt) (e2 := i2.toInt) (li_i32 i1).1 (li_i32 i1).2 (li_i32 i2).1 (li_i32 i2).2 (fun a th2 T2 h3 d f Y => ⟨a, th2, T2, d, f, Y, rfl⟩))
theorem cx_order {l : Launch} {G : am_G} (g : gM l G li_X) : ck_Con (cv_clw G sp_q34 1 (am_cn l G yL_order (.codeWith yL_order method_31_code 4 (some .int) [(0, 10, 13, 25)]) 8 133)) G li_X gT gc_yL_order_a :=
  cv_clw_n (cv_clw_ok (C := 1) (S := 6) (gm_yL_order_a g.1) rfl rfl rfl (fun x out r T i1 i2 h2 R old cnt n0 s0 hx hp ho o1 o2 o3 => by
    obtain ⟨c_, P_, j_, m_, k_⟩ := T
    have hp_ : P_ = zc_l R old cnt := hp
    subst hp_
    have a_ : ([.ref x, .int i1, .ref out] : List Value) = [.ref x, .int (Int32.ofInt i1.toInt), .ref out] := by rw [Int32.ofInt_toInt]
    show am_M l G _ _ _ _ _ _ [.ref x, .int i1, .ref out] h2 _
    rw [a_]
    exact zc_wqorder_M g hx ho o1 o2 o3 (e := i1.toInt) (e2 := i2.toInt) (li_i32 i1).1 (li_i32 i1).2 (by decide) (by decide) (fun a th T2 h3 d f Y z => ⟨a, th, T2, d, f, Y, z, rfl⟩))) rfl
theorem cy_order {l : Launch} {G : am_G} (g : gM l G li_X) : ck_Con (cv_rew G sp_q34 1 (am_cm l G yX14_order (.code yX14_order prog_14_method_62_code 2 (some .int)) 3 64)) G li_X gT gc_yX14_order_a :=
  cv_rew_ok (C := 0) (S := 0) (gm_yX14_order_a g) rfl rfl rfl sp_q34.fn (fun m T i1 i2 h2 o tx now qw th hx hk h12 => by
    obtain ⟨c_, P_, j_, m_, k_⟩ := T
    have a_ : ([.ref m, .int i1] : List Value) = [.ref m, .int (Int32.ofInt i1.toInt)] := by rw [Int32.ofInt_toInt]
    show am_M l G _ _ _ _ _ _ [.ref m, .int i1] h2 _
    rw [a_]
    exact zm_qorder_M g hx hk (e := i1.toInt) (e2 := i2.toInt) (li_i32 i1).1 (li_i32 i1).2 (fun a th2 T2 h3 d f Y => ⟨a, th2, T2, d, f, Y, rfl⟩))
theorem cx_roots {l : Launch} {G : am_G} (g : gM l G li_X) : ck_Con (cv_clw G sp_q39 1 (am_cn l G yL_roots (.codeWith yL_roots method_36_code 4 (some .int) [(0, 10, 13, 25)]) 8 133)) G li_X gT gc_yL_roots_a :=
  cv_clw_n (cv_clw_ok (C := 1) (S := 6) (gm_yL_roots_a g.1) rfl rfl rfl (fun x out r T i1 i2 h2 R old cnt n0 s0 hx hp ho o1 o2 o3 => by
    obtain ⟨c_, P_, j_, m_, k_⟩ := T
    have hp_ : P_ = zc_l R old cnt := hp
    subst hp_
    have a_ : ([.ref x, .int i1, .ref out] : List Value) = [.ref x, .int (Int32.ofInt i1.toInt), .ref out] := by rw [Int32.ofInt_toInt]
    show am_M l G _ _ _ _ _ _ [.ref x, .int i1, .ref out] h2 _
    rw [a_]
    exact zc_wqroots_M g hx ho o1 o2 o3 (e := i1.toInt) (e2 := i2.toInt) (li_i32 i1).1 (li_i32 i1).2 (by decide) (by decide) (fun a th T2 h3 d f Y z => ⟨a, th, T2, d, f, Y, z, rfl⟩))) rfl
theorem cy_roots {l : Launch} {G : am_G} (g : gM l G li_X) : ck_Con (cv_rew G sp_q39 1 (am_cm l G yX14_roots (.code yX14_roots prog_14_method_73_code 2 (some .int)) 4 85)) G li_X gT gc_yX14_roots_a :=
  cv_rew_ok (C := 0) (S := 0) (gm_yX14_roots_a g) rfl rfl rfl sp_q39.fn (fun m T i1 i2 h2 o tx now qw th hx hk h12 => by
    obtain ⟨c_, P_, j_, m_, k_⟩ := T
    have a_ : ([.ref m, .int i1] : List Value) = [.ref m, .int (Int32.ofInt i1.toInt)] := by rw [Int32.ofInt_toInt]
    show am_M l G _ _ _ _ _ _ [.ref m, .int i1] h2 _
    rw [a_]
    exact zm_qroots_M g hx hk (e := i1.toInt) (e2 := i2.toInt) (li_i32 i1).1 (li_i32 i1).2 (fun a th2 T2 h3 d f Y => ⟨a, th2, T2, d, f, Y, rfl⟩))
theorem cx_root {l : Launch} {G : am_G} (g : gM l G li_X) : ck_Con (cv_clw G sp_q40 2 (am_cn l G yL_root (.codeWith yL_root method_37_code 5 (some .int) [(0, 11, 14, 25), (0, 11, 18, 19)]) 8 134)) G li_X gT gc_yL_root_a :=
  cv_clw_n (cv_clw_ok (C := 2) (S := 12) (gm_yL_root_a g.1) rfl rfl rfl (fun x out r T i1 i2 h2 R old cnt n0 s0 hx hp ho o1 o2 o3 => by
    obtain ⟨c_, P_, j_, m_, k_⟩ := T
    have hp_ : P_ = zc_l R old cnt := hp
    subst hp_
    have a_ : ([.ref x, .int i1, .int i2, .ref out] : List Value) = [.ref x, .int (Int32.ofInt i1.toInt), .int (Int32.ofInt i2.toInt), .ref out] := by rw [Int32.ofInt_toInt, Int32.ofInt_toInt]
    show am_M l G _ _ _ _ _ _ [.ref x, .int i1, .int i2, .ref out] h2 _
    rw [a_]
    exact zc_wqroot_M g hx ho o1 o2 o3 (e := i1.toInt) (e2 := i2.toInt) (li_i32 i1).1 (li_i32 i1).2 (li_i32 i2).1 (li_i32 i2).2 (by decide) (by decide) (fun a th T2 h3 d f Y z => ⟨a, th, T2, d, f, Y, z, rfl⟩))) rfl
theorem cy_root {l : Launch} {G : am_G} (g : gM l G li_X) : ck_Con (cv_rew G sp_q40 2 (am_cm l G yX14_root (.code yX14_root prog_14_method_74_code 3 (some .int)) 3 64)) G li_X gT gc_yX14_root_a :=
  cv_rew_ok (C := 0) (S := 0) (gm_yX14_root_a g) rfl rfl rfl sp_q40.fn (fun m T i1 i2 h2 o tx now qw th hx hk h12 => by
    obtain ⟨c_, P_, j_, m_, k_⟩ := T
    have a_ : ([.ref m, .int i1, .int i2] : List Value) = [.ref m, .int (Int32.ofInt i1.toInt), .int (Int32.ofInt i2.toInt)] := by rw [Int32.ofInt_toInt, Int32.ofInt_toInt]
    show am_M l G _ _ _ _ _ _ [.ref m, .int i1, .int i2] h2 _
    rw [a_]
    exact zm_qroot_M g hx hk (e := i1.toInt) (e2 := i2.toInt) (li_i32 i1).1 (li_i32 i1).2 (li_i32 i2).1 (li_i32 i2).2 (fun a th2 T2 h3 d f Y => ⟨a, th2, T2, d, f, Y, rfl⟩))
theorem cx_legendre {l : Launch} {G : am_G} (g : gM l G li_X) : ck_Con (cv_clw G sp_q42 1 (am_cn l G yL_legendre (.codeWith yL_legendre method_38_code 4 (some .int) [(0, 10, 13, 25)]) 8 133)) G li_X gT gc_yL_legendre_a :=
  cv_clw_n (cv_clw_ok (C := 1) (S := 6) (gm_yL_legendre_a g.1) rfl rfl rfl (fun x out r T i1 i2 h2 R old cnt n0 s0 hx hp ho o1 o2 o3 => by
    obtain ⟨c_, P_, j_, m_, k_⟩ := T
    have hp_ : P_ = zc_l R old cnt := hp
    subst hp_
    have a_ : ([.ref x, .int i1, .ref out] : List Value) = [.ref x, .int (Int32.ofInt i1.toInt), .ref out] := by rw [Int32.ofInt_toInt]
    show am_M l G _ _ _ _ _ _ [.ref x, .int i1, .ref out] h2 _
    rw [a_]
    exact zc_wqlegendre_M g hx ho o1 o2 o3 (e := i1.toInt) (e2 := i2.toInt) (li_i32 i1).1 (li_i32 i1).2 (by decide) (by decide) (fun a th T2 h3 d f Y z => ⟨a, th, T2, d, f, Y, z, rfl⟩))) rfl
theorem cy_legendre {l : Launch} {G : am_G} (g : gM l G li_X) : ck_Con (cv_rew G sp_q42 1 (am_cm l G yX14_legendre (.code yX14_legendre prog_14_method_79_code 2 (some .int)) 4 85)) G li_X gT gc_yX14_legendre_a :=
  cv_rew_ok (C := 0) (S := 0) (gm_yX14_legendre_a g) rfl rfl rfl sp_q42.fn (fun m T i1 i2 h2 o tx now qw th hx hk h12 => by
    obtain ⟨c_, P_, j_, m_, k_⟩ := T
    have a_ : ([.ref m, .int i1] : List Value) = [.ref m, .int (Int32.ofInt i1.toInt)] := by rw [Int32.ofInt_toInt]
    show am_M l G _ _ _ _ _ _ [.ref m, .int i1] h2 _
    rw [a_]
    exact zm_qlegendre_M g hx hk (e := i1.toInt) (e2 := i2.toInt) (li_i32 i1).1 (li_i32 i1).2 (fun a th2 T2 h3 d f Y => ⟨a, th2, T2, d, f, Y, rfl⟩))
