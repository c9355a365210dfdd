/-! OFPOWERS, ITS ANSWER TOLD -/
theorem cx_ofPowers {l : Launch} {G : am_G} (g : gM l G li_X) : ck_Con (cv_clw G sp_q38 2 (am_cn l G yL_ofPowers (.codeWith yL_ofPowers method_35_code 5 (some .int) [(0, 11, 14, 25), (0, 11, 18, 19)]) 8 134)) G li_X gT gc_yL_ofPowers_a :=
  cv_clw_n (cv_clv_ok (Q := sp_Q38) (C := 2) (S := 12) (gm_yL_ofPowers_a g.1) (by decide +kernel) rfl rfl rfl (fun x out r T i1 i2 h2 R old cnt n0 s0 hx hp hz ho o1 o2 o3 => by
    obtain ⟨c_, P_, j_, m_, k_⟩ := T
    have hp_ : P_ = zc_l R old cnt := hp
    subst hp_
    have a_ : ([.ref x, .int i1, .int i2, .ref out] : List Value) = [.ref x, .int (Int32.ofInt i1.toInt), .int (Int32.ofInt i2.toInt), .ref out] := by rw [Int32.ofInt_toInt, Int32.ofInt_toInt]
    show am_M l G _ _ _ _ _ _ [.ref x, .int i1, .int i2, .ref out] h2 _
    rw [a_]
    exact zc_wqofPowers_M g hx ho o1 o2 o3 hz (e := i1.toInt) (e2 := i2.toInt) (li_i32 i1).1 (li_i32 i1).2 (li_i32 i2).1 (li_i32 i2).2 (by decide) (by decide) (fun a th h3 d z => ⟨a, th, d, z, rfl⟩))) rfl
theorem cy_ofPowers {l : Launch} {G : am_G} (g : gM l G li_X) : ck_Con (cv_rew G sp_q38 2 (am_cm l G yX14_ofPowers (.code yX14_ofPowers prog_14_method_69_code 3 (some .int)) 4 86)) G li_X gT gc_yX14_ofPowers_a :=
  cv_rew_ok (C := 2) (S := 404) (gm_yX14_ofPowers_a g) rfl rfl rfl sp_q38.fn (fun m T i1 i2 h2 o tx now qw th hx hk h12 => by
    obtain ⟨c_, P_, j_, m_, k_⟩ := T
    have a_ : ([.ref m, .int i1, .int i2] : List Value) = [.ref m, .int (Int32.ofInt i1.toInt), .int (Int32.ofInt i2.toInt)] := by rw [Int32.ofInt_toInt, Int32.ofInt_toInt]
    show am_M l G _ _ _ _ _ _ [.ref m, .int i1, .int i2] h2 _
    rw [a_]
    exact zm_qofPowers_M g hx hk (e := i1.toInt) (e2 := i2.toInt) (li_i32 i1).1 (li_i32 i1).2 (li_i32 i2).1 (li_i32 i2).2 (by decide) (by decide) (fun a th2 T2 h3 d f Y => ⟨a, th2, T2, d, f, Y, rfl⟩))
