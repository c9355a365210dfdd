/-! GENERATOR, ISGENERATOR, THEIR ANSWERS TOLD -/
theorem cx_generator {l : Launch} {G : am_G} (g : gM l G li_X) : ck_Con (cv_clw G sp_q35 1 (am_cn l G yL_generator (.codeWith yL_generator method_32_code 4 (some .int) [(0, 10, 13, 19)]) 8 131)) G li_X gT gc_yL_generator_a :=
  cv_clw_n (cv_clv_ok (Q := sp_Q35) (C := 1) (S := 6) (gm_yL_generator_a g.1) (by decide +kernel) rfl rfl rfl (fun x out r T i1 i2 h2 R old cnt n0 s0 hx hp hz ho o1 o2 o3 => by
    obtain ⟨c_, P_, j_, m_, k_⟩ := T
    have hp_ : P_ = zc_l R old cnt := hp
    subst hp_
    have a_ : ([.ref x, .int i1, .ref out] : List Value) = [.ref x, .int (Int32.ofInt i1.toInt), .ref out] := by rw [Int32.ofInt_toInt]
    show am_M l G _ _ _ _ _ _ [.ref x, .int i1, .ref out] h2 _
    rw [a_]
    exact zc_wqgenerator_M g hx ho o1 o2 o3 hz (e := i1.toInt) (e2 := i2.toInt) (li_i32 i1).1 (li_i32 i1).2 (by decide) (by decide) (fun a th h3 d z => ⟨a, th, d, z, rfl⟩))) rfl
theorem cy_generator {l : Launch} {G : am_G} (g : gM l G li_X) : ck_Con (cv_rew G sp_q35 1 (am_cm l G yX14_generator (.code yX14_generator prog_14_method_64_code 2 (some .int)) 4 89)) G li_X gT gc_yX14_generator_a :=
  cv_rew_ok (C := 0) (S := 0) (gm_yX14_generator_a g) rfl rfl rfl sp_q35.fn (fun m T i1 i2 h2 o tx now qw th hx hk h12 => by
    obtain ⟨c_, P_, j_, m_, k_⟩ := T
    have a_ : ([.ref m, .int i1] : List Value) = [.ref m, .int (Int32.ofInt i1.toInt)] := by rw [Int32.ofInt_toInt]
    show am_M l G _ _ _ _ _ _ [.ref m, .int i1] h2 _
    rw [a_]
    exact zm_qgenerator_M g hx hk (e := i1.toInt) (e2 := i2.toInt) (li_i32 i1).1 (li_i32 i1).2 (fun a th2 T2 h3 d f Y => ⟨a, th2, T2, d, f, Y, rfl⟩))
theorem cx_isGenerator {l : Launch} {G : am_G} (g : gM l G li_X) : ck_Con (cv_clw G sp_q36 1 (am_cn l G yL_isGenerator (.codeWith yL_isGenerator method_33_code 4 (some .int) [(0, 17, 20, 25)]) 8 133)) G li_X gT gc_yL_isGenerator_a :=
  cv_clw_n (cv_clv_ok (Q := sp_Q36) (C := 1) (S := 6) (gm_yL_isGenerator_a g.1) (by decide +kernel) rfl rfl rfl (fun x out r T i1 i2 h2 R old cnt n0 s0 hx hp hz ho o1 o2 o3 => by
    obtain ⟨c_, P_, j_, m_, k_⟩ := T
    have hp_ : P_ = zc_l R old cnt := hp
    subst hp_
    have a_ : ([.ref x, .int i1, .ref out] : List Value) = [.ref x, .int (Int32.ofInt i1.toInt), .ref out] := by rw [Int32.ofInt_toInt]
    show am_M l G _ _ _ _ _ _ [.ref x, .int i1, .ref out] h2 _
    rw [a_]
    exact zc_wqisGenerator_M g hx ho o1 o2 o3 hz (e := i1.toInt) (e2 := i2.toInt) (li_i32 i1).1 (li_i32 i1).2 (by decide) (by decide) (fun a th h3 d z => ⟨a, th, d, z, rfl⟩))) rfl
theorem cy_isGenerator {l : Launch} {G : am_G} (g : gM l G li_X) : ck_Con (cv_rew G sp_q36 1 (am_cm l G yX14_isGenerator (.code yX14_isGenerator prog_14_method_65_code 3 (some .boolean)) 3 65)) G li_X gT gc_yX14_isGenerator_a :=
  cv_rew_ok (C := 0) (S := 0) (gm_yX14_isGenerator_a g) rfl rfl rfl sp_q36.fn (fun m T i1 i2 h2 o tx now qw th hx hk h12 => by
    obtain ⟨c_, P_, j_, m_, k_⟩ := T
    have a_ : ([.ref m, .int i1] : List Value) = [.ref m, .int (Int32.ofInt i1.toInt)] := by rw [Int32.ofInt_toInt]
    show am_M l G _ _ _ _ _ _ [.ref m, .int i1] h2 _
    rw [a_]
    exact zm_qisGenerator_M g hx hk (e := i1.toInt) (e2 := i2.toInt) (li_i32 i1).1 (li_i32 i1).2 (fun a th2 T2 h3 d f Y => ⟨a, th2, T2, d, f, Y, rfl⟩))
