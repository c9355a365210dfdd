/-! THE CHANGING CALLS OF THE LAW -/
theorem cw_dial {l : Launch} {G : am_G} (g : gM l G li_X) : ck_Con (cv_cls G sp_d0 1 (am_cn l G yL_dial (.codeWith yL_dial method_2_code 4 (some .int) [(0, 10, 13, 19)]) 7 145)) G li_X gT gc_yL_dial_a :=
  cv_cls_n (cv_cls_ok (C := 1) (S := 6) (gm_yL_dial_a g.1) rfl rfl rfl (fun x out r T i1 i2 h2 R old cnt n0 s0 hx hp ho o1 o2 o3 => by
    obtain ⟨c_, P_, j_, m_, k_⟩ := T
    have hp_ : P_ = zc_l R old cnt := hp
    subst hp_
    have a_ : ([.ref x, .int i1, .ref out] : List Value) = [.ref x, .int (Int32.ofInt i1.toInt), .ref out] := by rw [Int32.ofInt_toInt]
    show am_M l G _ _ _ _ _ _ [.ref x, .int i1, .ref out] h2 _
    rw [a_]
    exact zc_wdial_M g hx ho o1 o2 o3 (e := i1.toInt) (e2 := i2.toInt) (li_i32 i1).1 (li_i32 i1).2 (by decide) (by decide) (fun a th T2 h3 d f Y z => ⟨a, th, T2, d, f, Y, z, rfl⟩))) rfl
theorem cw_set {l : Launch} {G : am_G} (g : gM l G li_X) : ck_Con (cv_cls G sp_d1 2 (am_cn l G yL_set (.codeWith yL_set method_3_code 5 (some .int) [(0, 11, 14, 25)]) 8 146)) G li_X gT gc_yL_set_a :=
  cv_cls_n (cv_cls_ok (C := 1) (S := 6) (gm_yL_set_a g.1) rfl rfl rfl (fun x out r T i1 i2 h2 R old cnt n0 s0 hx hp ho o1 o2 o3 => by
    obtain ⟨c_, P_, j_, m_, k_⟩ := T
    have hp_ : P_ = zc_l R old cnt := hp
    subst hp_
    have a_ : ([.ref x, .int i1, .int i2, .ref out] : List Value) = [.ref x, .int (Int32.ofInt i1.toInt), .int (Int32.ofInt i2.toInt), .ref out] := by rw [Int32.ofInt_toInt, Int32.ofInt_toInt]
    show am_M l G _ _ _ _ _ _ [.ref x, .int i1, .int i2, .ref out] h2 _
    rw [a_]
    exact zc_wset_M g hx ho o1 o2 o3 (e := i1.toInt) (e2 := i2.toInt) (li_i32 i1).1 (li_i32 i1).2 (li_i32 i2).1 (li_i32 i2).2 (by decide) (by decide) (fun a th T2 h3 d f Y z => ⟨a, th, T2, d, f, Y, z, rfl⟩))) rfl
theorem cw_lengthen {l : Launch} {G : am_G} (g : gM l G li_X) : ck_Con (cv_cls G sp_d2 2 (am_cn l G yL_lengthen (.codeWith yL_lengthen method_4_code 5 (some .int) [(0, 11, 14, 25), (0, 11, 18, 19), (0, 11, 22, 30)]) 8 168)) G li_X gT gc_yL_lengthen_a :=
  cv_cls_n (cv_cls_ok (C := 2) (S := 12) (gm_yL_lengthen_a g.1) rfl rfl rfl (fun x out r T i1 i2 h2 R old cnt n0 s0 hx hp ho o1 o2 o3 => by
    obtain ⟨c_, P_, j_, m_, k_⟩ := T
    have hp_ : P_ = zc_l R old cnt := hp
    subst hp_
    have a_ : ([.ref x, .int i1, .int i2, .ref out] : List Value) = [.ref x, .int (Int32.ofInt i1.toInt), .int (Int32.ofInt i2.toInt), .ref out] := by rw [Int32.ofInt_toInt, Int32.ofInt_toInt]
    show am_M l G _ _ _ _ _ _ [.ref x, .int i1, .int i2, .ref out] h2 _
    rw [a_]
    exact zc_wlengthen_M g hx ho o1 o2 o3 (e := i1.toInt) (e2 := i2.toInt) (li_i32 i1).1 (li_i32 i1).2 (li_i32 i2).1 (li_i32 i2).2 (by decide) (by decide) (fun a th T2 h3 d f Y z => ⟨a, th, T2, d, f, Y, z, rfl⟩))) rfl
theorem cw_plus {l : Launch} {G : am_G} (g : gM l G li_X) : ck_Con (cv_cls G sp_d3 2 (am_cn l G yL_plus (.codeWith yL_plus method_5_code 5 (some .int) [(0, 11, 14, 25), (0, 11, 18, 30)]) 8 169)) G li_X gT gc_yL_plus_a :=
  cv_cls_n (cv_cls_ok (C := 3) (S := 18) (gm_yL_plus_a g.1) rfl rfl rfl (fun x out r T i1 i2 h2 R old cnt n0 s0 hx hp ho o1 o2 o3 => by
    obtain ⟨c_, P_, j_, m_, k_⟩ := T
    have hp_ : P_ = zc_l R old cnt := hp
    subst hp_
    have a_ : ([.ref x, .int i1, .int i2, .ref out] : List Value) = [.ref x, .int (Int32.ofInt i1.toInt), .int (Int32.ofInt i2.toInt), .ref out] := by rw [Int32.ofInt_toInt, Int32.ofInt_toInt]
    show am_M l G _ _ _ _ _ _ [.ref x, .int i1, .int i2, .ref out] h2 _
    rw [a_]
    exact zc_wplus_M g hx ho o1 o2 o3 (e := i1.toInt) (e2 := i2.toInt) (li_i32 i1).1 (li_i32 i1).2 (li_i32 i2).1 (li_i32 i2).2 (by decide) (by decide) (fun a th T2 h3 d f Y z => ⟨a, th, T2, d, f, Y, z, rfl⟩))) rfl
theorem cw_times {l : Launch} {G : am_G} (g : gM l G li_X) : ck_Con (cv_cls G sp_d4 2 (am_cn l G yL_times (.codeWith yL_times method_6_code 5 (some .int) [(0, 11, 14, 25), (0, 11, 18, 30)]) 8 169)) G li_X gT gc_yL_times_a :=
  cv_cls_n (cv_cls_ok (C := 3) (S := 18) (gm_yL_times_a g.1) rfl rfl rfl (fun x out r T i1 i2 h2 R old cnt n0 s0 hx hp ho o1 o2 o3 => by
    obtain ⟨c_, P_, j_, m_, k_⟩ := T
    have hp_ : P_ = zc_l R old cnt := hp
    subst hp_
    have a_ : ([.ref x, .int i1, .int i2, .ref out] : List Value) = [.ref x, .int (Int32.ofInt i1.toInt), .int (Int32.ofInt i2.toInt), .ref out] := by rw [Int32.ofInt_toInt, Int32.ofInt_toInt]
    show am_M l G _ _ _ _ _ _ [.ref x, .int i1, .int i2, .ref out] h2 _
    rw [a_]
    exact zc_wtimes_M g hx ho o1 o2 o3 (e := i1.toInt) (e2 := i2.toInt) (li_i32 i1).1 (li_i32 i1).2 (li_i32 i2).1 (li_i32 i2).2 (by decide) (by decide) (fun a th T2 h3 d f Y z => ⟨a, th, T2, d, f, Y, z, rfl⟩))) rfl
theorem cw_negate {l : Launch} {G : am_G} (g : gM l G li_X) : ck_Con (cv_cls G sp_d5 1 (am_cn l G yL_negate (.codeWith yL_negate method_7_code 4 (some .int) [(0, 10, 13, 25)]) 8 145)) G li_X gT gc_yL_negate_a :=
  cv_cls_n (cv_cls_ok (C := 1) (S := 6) (gm_yL_negate_a g.1) rfl rfl rfl (fun x out r T i1 i2 h2 R old cnt n0 s0 hx hp ho o1 o2 o3 => by
    obtain ⟨c_, P_, j_, m_, k_⟩ := T
    have hp_ : P_ = zc_l R old cnt := hp
    subst hp_
    have a_ : ([.ref x, .int i1, .ref out] : List Value) = [.ref x, .int (Int32.ofInt i1.toInt), .ref out] := by rw [Int32.ofInt_toInt]
    show am_M l G _ _ _ _ _ _ [.ref x, .int i1, .ref out] h2 _
    rw [a_]
    exact zc_wnegate_M g hx ho o1 o2 o3 (e := i1.toInt) (e2 := i2.toInt) (li_i32 i1).1 (li_i32 i1).2 (by decide) (by decide) (fun a th T2 h3 d f Y z => ⟨a, th, T2, d, f, Y, z, rfl⟩))) rfl
theorem cw_reduce {l : Launch} {G : am_G} (g : gM l G li_X) : ck_Con (cv_cls G sp_d6 1 (am_cn l G yL_reduce (.codeWith yL_reduce method_8_code 4 (some .int) [(0, 10, 13, 25)]) 9 166)) G li_X gT gc_yL_reduce_a :=
  cv_cls_n (cv_cls_ok (C := 2) (S := 12) (gm_yL_reduce_a g.1) rfl rfl rfl (fun x out r T i1 i2 h2 R old cnt n0 s0 hx hp ho o1 o2 o3 => by
    obtain ⟨c_, P_, j_, m_, k_⟩ := T
    have hp_ : P_ = zc_l R old cnt := hp
    subst hp_
    have a_ : ([.ref x, .int i1, .ref out] : List Value) = [.ref x, .int (Int32.ofInt i1.toInt), .ref out] := by rw [Int32.ofInt_toInt]
    show am_M l G _ _ _ _ _ _ [.ref x, .int i1, .ref out] h2 _
    rw [a_]
    exact zc_wreduce_M g hx ho o1 o2 o3 (e := i1.toInt) (e2 := i2.toInt) (li_i32 i1).1 (li_i32 i1).2 (by decide) (by decide) (fun a th T2 h3 d f Y z => ⟨a, th, T2, d, f, Y, z, rfl⟩))) rfl
theorem cw_roundPlus {l : Launch} {G : am_G} (g : gM l G li_X) : ck_Con (cv_cls G sp_d7 2 (am_cn l G yL_roundPlus (.codeWith yL_roundPlus method_9_code 5 (some .int) [(0, 11, 14, 25)]) 8 170)) G li_X gT gc_yL_roundPlus_a :=
  cv_cls_n (cv_cls_ok (C := 2) (S := 12) (gm_yL_roundPlus_a g.1) rfl rfl rfl (fun x out r T i1 i2 h2 R old cnt n0 s0 hx hp ho o1 o2 o3 => by
    obtain ⟨c_, P_, j_, m_, k_⟩ := T
    have hp_ : P_ = zc_l R old cnt := hp
    subst hp_
    have a_ : ([.ref x, .int i1, .int i2, .ref out] : List Value) = [.ref x, .int (Int32.ofInt i1.toInt), .int (Int32.ofInt i2.toInt), .ref out] := by rw [Int32.ofInt_toInt, Int32.ofInt_toInt]
    show am_M l G _ _ _ _ _ _ [.ref x, .int i1, .int i2, .ref out] h2 _
    rw [a_]
    exact zc_wroundPlus_M g hx ho o1 o2 o3 (e := i1.toInt) (e2 := i2.toInt) (li_i32 i1).1 (li_i32 i1).2 (li_i32 i2).1 (li_i32 i2).2 (by decide) (by decide) (fun a th T2 h3 d f Y z => ⟨a, th, T2, d, f, Y, z, rfl⟩))) rfl
theorem cw_roundTimes {l : Launch} {G : am_G} (g : gM l G li_X) : ck_Con (cv_cls G sp_d8 2 (am_cn l G yL_roundTimes (.codeWith yL_roundTimes method_10_code 5 (some .int) [(0, 11, 14, 25)]) 8 170)) G li_X gT gc_yL_roundTimes_a :=
  cv_cls_n (cv_cls_ok (C := 2) (S := 12) (gm_yL_roundTimes_a g.1) rfl rfl rfl (fun x out r T i1 i2 h2 R old cnt n0 s0 hx hp ho o1 o2 o3 => by
    obtain ⟨c_, P_, j_, m_, k_⟩ := T
    have hp_ : P_ = zc_l R old cnt := hp
    subst hp_
    have a_ : ([.ref x, .int i1, .int i2, .ref out] : List Value) = [.ref x, .int (Int32.ofInt i1.toInt), .int (Int32.ofInt i2.toInt), .ref out] := by rw [Int32.ofInt_toInt, Int32.ofInt_toInt]
    show am_M l G _ _ _ _ _ _ [.ref x, .int i1, .int i2, .ref out] h2 _
    rw [a_]
    exact zc_wroundTimes_M g hx ho o1 o2 o3 (e := i1.toInt) (e2 := i2.toInt) (li_i32 i1).1 (li_i32 i1).2 (li_i32 i2).1 (li_i32 i2).2 (by decide) (by decide) (fun a th T2 h3 d f Y z => ⟨a, th, T2, d, f, Y, z, rfl⟩))) rfl
theorem cw_roundPower {l : Launch} {G : am_G} (g : gM l G li_X) : ck_Con (cv_cls G sp_d9 2 (am_cn l G yL_roundPower (.codeWith yL_roundPower method_11_code 5 (some .int) [(0, 11, 14, 25)]) 9 167)) G li_X gT gc_yL_roundPower_a :=
  cv_cls_n (cv_cls_ok (C := 3) (S := 18) (gm_yL_roundPower_a g.1) rfl rfl rfl (fun x out r T i1 i2 h2 R old cnt n0 s0 hx hp ho o1 o2 o3 => by
    obtain ⟨c_, P_, j_, m_, k_⟩ := T
    have hp_ : P_ = zc_l R old cnt := hp
    subst hp_
    have a_ : ([.ref x, .int i1, .int i2, .ref out] : List Value) = [.ref x, .int (Int32.ofInt i1.toInt), .int (Int32.ofInt i2.toInt), .ref out] := by rw [Int32.ofInt_toInt, Int32.ofInt_toInt]
    show am_M l G _ _ _ _ _ _ [.ref x, .int i1, .int i2, .ref out] h2 _
    rw [a_]
    exact zc_wroundPower_M g hx ho o1 o2 o3 (e := i1.toInt) (e2 := i2.toInt) (li_i32 i1).1 (li_i32 i1).2 (li_i32 i2).1 (li_i32 i2).2 (by decide) (by decide) (fun a th T2 h3 d f Y z => ⟨a, th, T2, d, f, Y, z, rfl⟩))) rfl
theorem cw_roundInverse {l : Launch} {G : am_G} (g : gM l G li_X) : ck_Con (cv_cls G sp_d10 1 (am_cn l G yL_roundInverse (.codeWith yL_roundInverse method_12_code 4 (some .int) [(0, 10, 13, 25)]) 9 166)) G li_X gT gc_yL_roundInverse_a :=
  cv_cls_n (cv_cls_ok (C := 2) (S := 12) (gm_yL_roundInverse_a g.1) rfl rfl rfl (fun x out r T i1 i2 h2 R old cnt n0 s0 hx hp ho o1 o2 o3 => by
    obtain ⟨c_, P_, j_, m_, k_⟩ := T
    have hp_ : P_ = zc_l R old cnt := hp
    subst hp_
    have a_ : ([.ref x, .int i1, .ref out] : List Value) = [.ref x, .int (Int32.ofInt i1.toInt), .ref out] := by rw [Int32.ofInt_toInt]
    show am_M l G _ _ _ _ _ _ [.ref x, .int i1, .ref out] h2 _
    rw [a_]
    exact zc_wroundInverse_M g hx ho o1 o2 o3 (e := i1.toInt) (e2 := i2.toInt) (li_i32 i1).1 (li_i32 i1).2 (by decide) (by decide) (fun a th T2 h3 d f Y z => ⟨a, th, T2, d, f, Y, z, rfl⟩))) rfl
theorem cw_tell {l : Launch} {G : am_G} (g : gM l G li_X) : ck_Con (cv_cls G sp_d11 2 (am_cn l G yL_tell (.codeWith yL_tell method_13_code 5 (some .int) [(0, 11, 14, 19), (0, 11, 18, 30)]) 8 167)) G li_X gT gc_yL_tell_a :=
  cv_cls_n (cv_cls_ok (C := 2) (S := 12) (gm_yL_tell_a g.1) rfl rfl rfl (fun x out r T i1 i2 h2 R old cnt n0 s0 hx hp ho o1 o2 o3 => by
    obtain ⟨c_, P_, j_, m_, k_⟩ := T
    have hp_ : P_ = zc_l R old cnt := hp
    subst hp_
    have a_ : ([.ref x, .int i1, .int i2, .ref out] : List Value) = [.ref x, .int (Int32.ofInt i1.toInt), .int (Int32.ofInt i2.toInt), .ref out] := by rw [Int32.ofInt_toInt, Int32.ofInt_toInt]
    show am_M l G _ _ _ _ _ _ [.ref x, .int i1, .int i2, .ref out] h2 _
    rw [a_]
    exact zc_wtell_M g hx ho o1 o2 o3 (e := i1.toInt) (e2 := i2.toInt) (li_i32 i1).1 (li_i32 i1).2 (li_i32 i2).1 (li_i32 i2).2 (by decide) (by decide) (fun a th T2 h3 d f Y z => ⟨a, th, T2, d, f, Y, z, rfl⟩))) rfl
theorem cw_tellIf {l : Launch} {G : am_G} (g : gM l G li_X) : ck_Con (cv_cls G sp_d12 2 (am_cn l G yL_tellIf (.codeWith yL_tellIf method_14_code 5 (some .int) [(0, 18, 21, 19), (0, 18, 25, 30)]) 8 167)) G li_X gT gc_yL_tellIf_a :=
  cv_cls_n (cv_cls_ok (C := 2) (S := 12) (gm_yL_tellIf_a g.1) rfl rfl rfl (fun x out r T i1 i2 h2 R old cnt n0 s0 hx hp ho o1 o2 o3 => by
    obtain ⟨c_, P_, j_, m_, k_⟩ := T
    have hp_ : P_ = zc_l R old cnt := hp
    subst hp_
    have a_ : ([.ref x, .int i1, .int i2, .ref out] : List Value) = [.ref x, .int (Int32.ofInt i1.toInt), .int (Int32.ofInt i2.toInt), .ref out] := by rw [Int32.ofInt_toInt, Int32.ofInt_toInt]
    show am_M l G _ _ _ _ _ _ [.ref x, .int i1, .int i2, .ref out] h2 _
    rw [a_]
    exact zc_wtellIf_M g hx ho o1 o2 o3 (e := i1.toInt) (e2 := i2.toInt) (li_i32 i1).1 (li_i32 i1).2 (li_i32 i2).1 (li_i32 i2).2 (by decide) (by decide) (fun a th T2 h3 d f Y z => ⟨a, th, T2, d, f, Y, z, rfl⟩))) rfl
theorem cw_drop {l : Launch} {G : am_G} (g : gM l G li_X) : ck_Con (cv_cls G sp_d13 1 (am_cn l G yL_drop (.codeWith yL_drop method_15_code 4 (some .int) [(0, 10, 13, 25)]) 8 144)) G li_X gT gc_yL_drop_a :=
  cv_cls_n (cv_cls_ok (C := 1) (S := 6) (gm_yL_drop_a g.1) rfl rfl rfl (fun x out r T i1 i2 h2 R old cnt n0 s0 hx hp ho o1 o2 o3 => by
    obtain ⟨c_, P_, j_, m_, k_⟩ := T
    have hp_ : P_ = zc_l R old cnt := hp
    subst hp_
    have a_ : ([.ref x, .int i1, .ref out] : List Value) = [.ref x, .int (Int32.ofInt i1.toInt), .ref out] := by rw [Int32.ofInt_toInt]
    show am_M l G _ _ _ _ _ _ [.ref x, .int i1, .ref out] h2 _
    rw [a_]
    exact zc_wdrop_M g hx ho o1 o2 o3 (e := i1.toInt) (e2 := i2.toInt) (li_i32 i1).1 (li_i32 i1).2 (by decide) (by decide) (fun a th T2 h3 d f Y z => ⟨a, th, T2, d, f, Y, z, rfl⟩))) rfl
theorem cw_base {l : Launch} {G : am_G} (g : gM l G li_X) : ck_Con (cv_cls G sp_d14 1 (am_cn l G yL_base (.codeWith yL_base method_16_code 4 (some .int) [(0, 10, 13, 19), (0, 10, 16, 30)]) 7 144)) G li_X gT gc_yL_base_a :=
  cv_cls_n (cv_cls_ok (C := 1) (S := 6) (gm_yL_base_a g.1) rfl rfl rfl (fun x out r T i1 i2 h2 R old cnt n0 s0 hx hp ho o1 o2 o3 => by
    obtain ⟨c_, P_, j_, m_, k_⟩ := T
    have hp_ : P_ = zc_l R old cnt := hp
    subst hp_
    have a_ : ([.ref x, .int i1, .ref out] : List Value) = [.ref x, .int (Int32.ofInt i1.toInt), .ref out] := by rw [Int32.ofInt_toInt]
    show am_M l G _ _ _ _ _ _ [.ref x, .int i1, .ref out] h2 _
    rw [a_]
    exact zc_wbase_M g hx ho o1 o2 o3 (e := i1.toInt) (e2 := i2.toInt) (li_i32 i1).1 (li_i32 i1).2 (by decide) (by decide) (fun a th T2 h3 d f Y z => ⟨a, th, T2, d, f, Y, z, rfl⟩))) rfl
theorem cw_unbase {l : Launch} {G : am_G} (g : gM l G li_X) : ck_Con (cv_cls G sp_d15 0 (am_cn l G yL_unbase (.codeWith yL_unbase method_17_code 3 (some .int) [(0, 9, 12, 30)]) 7 143)) G li_X gT gc_yL_unbase_a :=
  cv_cls_n (cv_cls_ok (C := 1) (S := 6) (gm_yL_unbase_a g.1) rfl rfl rfl (fun x out r T i1 i2 h2 R old cnt n0 s0 hx hp ho o1 o2 o3 => by
    obtain ⟨c_, P_, j_, m_, k_⟩ := T
    have hp_ : P_ = zc_l R old cnt := hp
    subst hp_
    exact zc_wunbase_M g hx ho o1 o2 o3 (e := i1.toInt) (e2 := i2.toInt)  (by decide) (by decide) (fun a th T2 h3 d f Y z => ⟨a, th, T2, d, f, Y, z, rfl⟩))) rfl
theorem cw_undo {l : Launch} {G : am_G} (g : gM l G li_X) : ck_Con (cv_cls G sp_d16 0 (am_cn l G yL_undo (.codeWith yL_undo method_18_code 3 (some .int) [(0, 9, 12, 30)]) 7 143)) G li_X gT gc_yL_undo_a :=
  cv_cls_n (cv_cls_ok (C := 1) (S := 6) (gm_yL_undo_a g.1) rfl rfl rfl (fun x out r T i1 i2 h2 R old cnt n0 s0 hx hp ho o1 o2 o3 => by
    obtain ⟨c_, P_, j_, m_, k_⟩ := T
    have hp_ : P_ = zc_l R old cnt := hp
    subst hp_
    exact zc_wundo_M g hx ho o1 o2 o3 (e := i1.toInt) (e2 := i2.toInt)  (by decide) (by decide) (fun a th T2 h3 d f Y z => ⟨a, th, T2, d, f, Y, z, rfl⟩))) rfl
theorem cr_dial {l : Launch} {G : am_G} (g : gM l G li_X) : ck_Con (cv_ref G sp_d0 1 (am_cm l G yX14_dial (.code yX14_dial prog_14_method_10_code 3 (some .int)) 11 294)) G li_X gT gc_yX14_dial_a :=
  cv_ref_ok (C := 14) (S := 71) (gm_yX14_dial_a g) rfl rfl rfl sp_d0.fn (fun m T i1 i2 h2 o tx now qw th hx hk h12 => by
    obtain ⟨c_, P_, j_, m_, k_⟩ := T
    have a_ : ([.ref m, .int i1] : List Value) = [.ref m, .int (Int32.ofInt i1.toInt)] := by rw [Int32.ofInt_toInt]
    show am_M l G _ _ _ _ _ _ [.ref m, .int i1] h2 _
    rw [a_]
    exact zm_dial_M g hx hk h12 (e := i1.toInt) (e2 := i2.toInt) (li_i32 i1).1 (li_i32 i1).2 (by decide) (by decide) (fun a th2 T2 h3 d f Y => ⟨a, th2, T2, d, f, Y, rfl⟩))
theorem cr_set {l : Launch} {G : am_G} (g : gM l G li_X) : ck_Con (cv_ref G sp_d1 2 (am_cm l G yX14_set (.code yX14_set prog_14_method_12_code 3 (some .int)) 12 316)) G li_X gT gc_yX14_set_a :=
  cv_ref_ok (C := 17) (S := 113) (gm_yX14_set_a g) rfl rfl rfl sp_d1.fn (fun m T i1 i2 h2 o tx now qw th hx hk h12 => by
    obtain ⟨c_, P_, j_, m_, k_⟩ := T
    have a_ : ([.ref m, .int i1, .int i2] : List Value) = [.ref m, .int (Int32.ofInt i1.toInt), .int (Int32.ofInt i2.toInt)] := by rw [Int32.ofInt_toInt, Int32.ofInt_toInt]
    show am_M l G _ _ _ _ _ _ [.ref m, .int i1, .int i2] h2 _
    rw [a_]
    exact zm_set_M g hx hk h12 (e := i1.toInt) (e2 := i2.toInt) (li_i32 i1).1 (li_i32 i1).2 (li_i32 i2).1 (li_i32 i2).2 (by decide) (by decide) (fun a th2 T2 h3 d f Y => ⟨a, th2, T2, d, f, Y, rfl⟩))
theorem cr_lengthen {l : Launch} {G : am_G} (g : gM l G li_X) : ck_Con (cv_ref G sp_d2 2 (am_cm l G yX14_lengthen (.code yX14_lengthen prog_14_method_13_code 4 (some .int)) 12 316)) G li_X gT gc_yX14_lengthen_a :=
  cv_ref_ok (C := 26) (S := 467) (gm_yX14_lengthen_a g) rfl rfl rfl sp_d2.fn (fun m T i1 i2 h2 o tx now qw th hx hk h12 => by
    obtain ⟨c_, P_, j_, m_, k_⟩ := T
    have a_ : ([.ref m, .int i1, .int i2] : List Value) = [.ref m, .int (Int32.ofInt i1.toInt), .int (Int32.ofInt i2.toInt)] := by rw [Int32.ofInt_toInt, Int32.ofInt_toInt]
    show am_M l G _ _ _ _ _ _ [.ref m, .int i1, .int i2] h2 _
    rw [a_]
    exact zm_lengthen_M g hx hk h12 (e := i1.toInt) (e2 := i2.toInt) (li_i32 i1).1 (li_i32 i1).2 (li_i32 i2).1 (li_i32 i2).2 (by decide) (by decide) (fun a th2 T2 h3 d f Y => ⟨a, th2, T2, d, f, Y, rfl⟩))
theorem cr_plus {l : Launch} {G : am_G} (g : gM l G li_X) : ck_Con (cv_ref G sp_d3 2 (am_cm l G yX14_plus (.code yX14_plus prog_14_method_14_code 4 (some .int)) 12 316)) G li_X gT gc_yX14_plus_a :=
  cv_ref_ok (C := 17) (S := 155) (gm_yX14_plus_a g) rfl rfl rfl sp_d3.fn (fun m T i1 i2 h2 o tx now qw th hx hk h12 => by
    obtain ⟨c_, P_, j_, m_, k_⟩ := T
    have a_ : ([.ref m, .int i1, .int i2] : List Value) = [.ref m, .int (Int32.ofInt i1.toInt), .int (Int32.ofInt i2.toInt)] := by rw [Int32.ofInt_toInt, Int32.ofInt_toInt]
    show am_M l G _ _ _ _ _ _ [.ref m, .int i1, .int i2] h2 _
    rw [a_]
    exact zm_plus_M g hx hk h12 (e := i1.toInt) (e2 := i2.toInt) (li_i32 i1).1 (li_i32 i1).2 (li_i32 i2).1 (li_i32 i2).2 (by decide) (by decide) (fun a th2 T2 h3 d f Y => ⟨a, th2, T2, d, f, Y, rfl⟩))
theorem cr_times {l : Launch} {G : am_G} (g : gM l G li_X) : ck_Con (cv_ref G sp_d4 2 (am_cm l G yX14_times (.code yX14_times prog_14_method_15_code 4 (some .int)) 12 316)) G li_X gT gc_yX14_times_a :=
  cv_ref_ok (C := 17) (S := 219) (gm_yX14_times_a g) rfl rfl rfl sp_d4.fn (fun m T i1 i2 h2 o tx now qw th hx hk h12 => by
    obtain ⟨c_, P_, j_, m_, k_⟩ := T
    have a_ : ([.ref m, .int i1, .int i2] : List Value) = [.ref m, .int (Int32.ofInt i1.toInt), .int (Int32.ofInt i2.toInt)] := by rw [Int32.ofInt_toInt, Int32.ofInt_toInt]
    show am_M l G _ _ _ _ _ _ [.ref m, .int i1, .int i2] h2 _
    rw [a_]
    exact zm_times_M g hx hk h12 (e := i1.toInt) (e2 := i2.toInt) (li_i32 i1).1 (li_i32 i1).2 (li_i32 i2).1 (li_i32 i2).2 (by decide) (by decide) (fun a th2 T2 h3 d f Y => ⟨a, th2, T2, d, f, Y, rfl⟩))
theorem cr_negate {l : Launch} {G : am_G} (g : gM l G li_X) : ck_Con (cv_ref G sp_d5 1 (am_cm l G yX14_negate (.code yX14_negate prog_14_method_16_code 2 (some .int)) 12 316)) G li_X gT gc_yX14_negate_a :=
  cv_ref_ok (C := 16) (S := 109) (gm_yX14_negate_a g) rfl rfl rfl sp_d5.fn (fun m T i1 i2 h2 o tx now qw th hx hk h12 => by
    obtain ⟨c_, P_, j_, m_, k_⟩ := T
    have a_ : ([.ref m, .int i1] : List Value) = [.ref m, .int (Int32.ofInt i1.toInt)] := by rw [Int32.ofInt_toInt]
    show am_M l G _ _ _ _ _ _ [.ref m, .int i1] h2 _
    rw [a_]
    exact zm_negate_M g hx hk h12 (e := i1.toInt) (e2 := i2.toInt) (li_i32 i1).1 (li_i32 i1).2 (by decide) (by decide) (fun a th2 T2 h3 d f Y => ⟨a, th2, T2, d, f, Y, rfl⟩))
theorem cr_reduce {l : Launch} {G : am_G} (g : gM l G li_X) : ck_Con (cv_ref G sp_d6 1 (am_cm l G yX14_reduce (.code yX14_reduce prog_14_method_20_code 2 (some .int)) 13 338)) G li_X gT gc_yX14_reduce_a :=
  cv_ref_ok (C := 17) (S := 113) (gm_yX14_reduce_a g) rfl rfl rfl sp_d6.fn (fun m T i1 i2 h2 o tx now qw th hx hk h12 => by
    obtain ⟨c_, P_, j_, m_, k_⟩ := T
    have a_ : ([.ref m, .int i1] : List Value) = [.ref m, .int (Int32.ofInt i1.toInt)] := by rw [Int32.ofInt_toInt]
    show am_M l G _ _ _ _ _ _ [.ref m, .int i1] h2 _
    rw [a_]
    exact zm_reduce_M g hx hk h12 (e := i1.toInt) (e2 := i2.toInt) (li_i32 i1).1 (li_i32 i1).2 (by decide) (by decide) (fun a th2 T2 h3 d f Y => ⟨a, th2, T2, d, f, Y, rfl⟩))
theorem cr_roundPlus {l : Launch} {G : am_G} (g : gM l G li_X) : ck_Con (cv_ref G sp_d7 2 (am_cm l G yX14_roundPlus (.code yX14_roundPlus prog_14_method_21_code 3 (some .int)) 13 338)) G li_X gT gc_yX14_roundPlus_a :=
  cv_ref_ok (C := 17) (S := 113) (gm_yX14_roundPlus_a g) rfl rfl rfl sp_d7.fn (fun m T i1 i2 h2 o tx now qw th hx hk h12 => by
    obtain ⟨c_, P_, j_, m_, k_⟩ := T
    have a_ : ([.ref m, .int i1, .int i2] : List Value) = [.ref m, .int (Int32.ofInt i1.toInt), .int (Int32.ofInt i2.toInt)] := by rw [Int32.ofInt_toInt, Int32.ofInt_toInt]
    show am_M l G _ _ _ _ _ _ [.ref m, .int i1, .int i2] h2 _
    rw [a_]
    exact zm_roundPlus_M g hx hk h12 (e := i1.toInt) (e2 := i2.toInt) (li_i32 i1).1 (li_i32 i1).2 (li_i32 i2).1 (li_i32 i2).2 (by decide) (by decide) (fun a th2 T2 h3 d f Y => ⟨a, th2, T2, d, f, Y, rfl⟩))
theorem cr_roundTimes {l : Launch} {G : am_G} (g : gM l G li_X) : ck_Con (cv_ref G sp_d8 2 (am_cm l G yX14_roundTimes (.code yX14_roundTimes prog_14_method_22_code 3 (some .int)) 13 338)) G li_X gT gc_yX14_roundTimes_a :=
  cv_ref_ok (C := 17) (S := 113) (gm_yX14_roundTimes_a g) rfl rfl rfl sp_d8.fn (fun m T i1 i2 h2 o tx now qw th hx hk h12 => by
    obtain ⟨c_, P_, j_, m_, k_⟩ := T
    have a_ : ([.ref m, .int i1, .int i2] : List Value) = [.ref m, .int (Int32.ofInt i1.toInt), .int (Int32.ofInt i2.toInt)] := by rw [Int32.ofInt_toInt, Int32.ofInt_toInt]
    show am_M l G _ _ _ _ _ _ [.ref m, .int i1, .int i2] h2 _
    rw [a_]
    exact zm_roundTimes_M g hx hk h12 (e := i1.toInt) (e2 := i2.toInt) (li_i32 i1).1 (li_i32 i1).2 (li_i32 i2).1 (li_i32 i2).2 (by decide) (by decide) (fun a th2 T2 h3 d f Y => ⟨a, th2, T2, d, f, Y, rfl⟩))
theorem cr_roundPower {l : Launch} {G : am_G} (g : gM l G li_X) : ck_Con (cv_ref G sp_d9 2 (am_cm l G yX14_roundPower (.code yX14_roundPower prog_14_method_25_code 3 (some .int)) 13 338)) G li_X gT gc_yX14_roundPower_a :=
  cv_ref_ok (C := 17) (S := 113) (gm_yX14_roundPower_a g) rfl rfl rfl sp_d9.fn (fun m T i1 i2 h2 o tx now qw th hx hk h12 => by
    obtain ⟨c_, P_, j_, m_, k_⟩ := T
    have a_ : ([.ref m, .int i1, .int i2] : List Value) = [.ref m, .int (Int32.ofInt i1.toInt), .int (Int32.ofInt i2.toInt)] := by rw [Int32.ofInt_toInt, Int32.ofInt_toInt]
    show am_M l G _ _ _ _ _ _ [.ref m, .int i1, .int i2] h2 _
    rw [a_]
    exact zm_roundPower_M g hx hk h12 (e := i1.toInt) (e2 := i2.toInt) (li_i32 i1).1 (li_i32 i1).2 (li_i32 i2).1 (li_i32 i2).2 (by decide) (by decide) (fun a th2 T2 h3 d f Y => ⟨a, th2, T2, d, f, Y, rfl⟩))
theorem cr_roundInverse {l : Launch} {G : am_G} (g : gM l G li_X) : ck_Con (cv_ref G sp_d10 1 (am_cm l G yX14_roundInverse (.code yX14_roundInverse prog_14_method_26_code 2 (some .int)) 13 338)) G li_X gT gc_yX14_roundInverse_a :=
  cv_ref_ok (C := 17) (S := 113) (gm_yX14_roundInverse_a g) rfl rfl rfl sp_d10.fn (fun m T i1 i2 h2 o tx now qw th hx hk h12 => by
    obtain ⟨c_, P_, j_, m_, k_⟩ := T
    have a_ : ([.ref m, .int i1] : List Value) = [.ref m, .int (Int32.ofInt i1.toInt)] := by rw [Int32.ofInt_toInt]
    show am_M l G _ _ _ _ _ _ [.ref m, .int i1] h2 _
    rw [a_]
    exact zm_roundInverse_M g hx hk h12 (e := i1.toInt) (e2 := i2.toInt) (li_i32 i1).1 (li_i32 i1).2 (by decide) (by decide) (fun a th2 T2 h3 d f Y => ⟨a, th2, T2, d, f, Y, rfl⟩))
theorem cr_tell {l : Launch} {G : am_G} (g : gM l G li_X) : ck_Con (cv_ref G sp_d11 2 (am_cm l G yX14_tell (.code yX14_tell prog_14_method_33_code 3 (some .int)) 12 316)) G li_X gT gc_yX14_tell_a :=
  cv_ref_ok (C := 16) (S := 93) (gm_yX14_tell_a g) rfl rfl rfl sp_d11.fn (fun m T i1 i2 h2 o tx now qw th hx hk h12 => by
    obtain ⟨c_, P_, j_, m_, k_⟩ := T
    have a_ : ([.ref m, .int i1, .int i2] : List Value) = [.ref m, .int (Int32.ofInt i1.toInt), .int (Int32.ofInt i2.toInt)] := by rw [Int32.ofInt_toInt, Int32.ofInt_toInt]
    show am_M l G _ _ _ _ _ _ [.ref m, .int i1, .int i2] h2 _
    rw [a_]
    exact zm_tell_M g hx hk h12 (e := i1.toInt) (e2 := i2.toInt) (li_i32 i1).1 (li_i32 i1).2 (li_i32 i2).1 (li_i32 i2).2 (by decide) (by decide) (fun a th2 T2 h3 d f Y => ⟨a, th2, T2, d, f, Y, rfl⟩))
theorem cr_tellIf {l : Launch} {G : am_G} (g : gM l G li_X) : ck_Con (cv_ref G sp_d12 2 (am_cm l G yX14_tellIf (.code yX14_tellIf prog_14_method_34_code 3 (some .boolean)) 12 316)) G li_X gT gc_yX14_tellIf_a :=
  cv_ref_ok (C := 19) (S := 101) (gm_yX14_tellIf_a g) rfl rfl rfl sp_d12.fn (fun m T i1 i2 h2 o tx now qw th hx hk h12 => by
    obtain ⟨c_, P_, j_, m_, k_⟩ := T
    have a_ : ([.ref m, .int i1, .int i2] : List Value) = [.ref m, .int (Int32.ofInt i1.toInt), .int (Int32.ofInt i2.toInt)] := by rw [Int32.ofInt_toInt, Int32.ofInt_toInt]
    show am_M l G _ _ _ _ _ _ [.ref m, .int i1, .int i2] h2 _
    rw [a_]
    exact zm_tellIf_M g hx hk h12 (e := i1.toInt) (e2 := i2.toInt) (li_i32 i1).1 (li_i32 i1).2 (li_i32 i2).1 (li_i32 i2).2 (by decide) (by decide) (fun a th2 T2 h3 d f Y => ⟨a, th2, T2, d, f, Y, rfl⟩))
theorem cr_drop {l : Launch} {G : am_G} (g : gM l G li_X) : ck_Con (cv_ref G sp_d13 1 (am_cm l G yX14_drop (.code yX14_drop prog_14_method_36_code 2 (some .int)) 11 294)) G li_X gT gc_yX14_drop_a :=
  cv_ref_ok (C := 14) (S := 71) (gm_yX14_drop_a g) rfl rfl rfl sp_d13.fn (fun m T i1 i2 h2 o tx now qw th hx hk h12 => by
    obtain ⟨c_, P_, j_, m_, k_⟩ := T
    have a_ : ([.ref m, .int i1] : List Value) = [.ref m, .int (Int32.ofInt i1.toInt)] := by rw [Int32.ofInt_toInt]
    show am_M l G _ _ _ _ _ _ [.ref m, .int i1] h2 _
    rw [a_]
    exact zm_drop_M g hx hk h12 (e := i1.toInt) (e2 := i2.toInt) (li_i32 i1).1 (li_i32 i1).2 (by decide) (by decide) (fun a th2 T2 h3 d f Y => ⟨a, th2, T2, d, f, Y, rfl⟩))
theorem cr_unbase {l : Launch} {G : am_G} (g : gM l G li_X) : ck_Con (cv_ref G sp_d15 0 (am_cm l G yX14_unbase (.code yX14_unbase prog_14_method_38_code 1 (some .int)) 11 294)) G li_X gT gc_yX14_unbase_a :=
  cv_ref_ok (C := 14) (S := 71) (gm_yX14_unbase_a g) rfl rfl rfl sp_d15.fn (fun m T i1 i2 h2 o tx now qw th hx hk h12 => by
    obtain ⟨c_, P_, j_, m_, k_⟩ := T
    exact zm_unbase_M g hx hk h12 (e := i1.toInt) (e2 := i2.toInt)  (by decide) (by decide) (fun a th2 T2 h3 d f Y => ⟨a, th2, T2, d, f, Y, rfl⟩))
theorem cr_undo {l : Launch} {G : am_G} (g : gM l G li_X) : ck_Con (cv_ref G sp_d16 0 (am_cm l G yX14_undo (.code yX14_undo prog_14_method_39_code 1 (some .int)) 4 105)) G li_X gT gc_yX14_undo_a :=
  cv_ref_ok (C := 0) (S := 0) (gm_yX14_undo_a g) rfl rfl rfl sp_d16.fn (fun m T i1 i2 h2 o tx now qw th hx hk h12 => by
    obtain ⟨c_, P_, j_, m_, k_⟩ := T
    exact zm_undo_M g hx hk h12 (e := i1.toInt) (e2 := i2.toInt)  (fun a th2 T2 h3 d f Y => ⟨a, th2, T2, d, f, Y, rfl⟩))
theorem cr_base_n0 {l : Launch} {G : am_G} (g : gM l G li_X) : ck_Con (cv_ref G sp_d14 1 (am_cm l G yX14_base (.code yX14_base prog_14_method_37_code 5 (some .int)) 11 294)) G li_X gT gc_yX14_base_n0 :=
  cv_ref_ok (C := 17) (S := 96) (gm_yX14_base_n0 g) rfl rfl rfl sp_d14.fn (fun m T i1 i2 h2 o tx now qw th hx hk h12 => by
    obtain ⟨c_, P_, j_, m_, k_⟩ := T
    have a_ : ([.ref m, .int i1] : List Value) = [.ref m, .int (Int32.ofInt i1.toInt)] := by rw [Int32.ofInt_toInt]
    show am_M l G _ _ _ _ _ _ [.ref m, .int i1] h2 _
    rw [a_]
    exact zm_base_M g hx hk h12 (e := i1.toInt) (e2 := i2.toInt) (li_i32 i1).1 (li_i32 i1).2 (by decide) (by decide) (fun a th2 T2 h3 d f Y => ⟨a, th2, T2, d, f, Y, rfl⟩))
theorem cr_base_n1 {l : Launch} {G : am_G} (g : gM l G li_X) : ck_Con (cv_ref G sp_d14 1 (am_cm l G yX14_base (.code yX14_base prog_14_method_37_code 5 (some .int)) 11 294)) G li_X gT gc_yX14_base_n1 :=
  cv_ref_ok (C := 17) (S := 96) (gm_yX14_base_n1 g) rfl rfl rfl sp_d14.fn (fun m T i1 i2 h2 o tx now qw th hx hk h12 => by
    obtain ⟨c_, P_, j_, m_, k_⟩ := T
    have a_ : ([.ref m, .int i1] : List Value) = [.ref m, .int (Int32.ofInt i1.toInt)] := by rw [Int32.ofInt_toInt]
    show am_M l G _ _ _ _ _ _ [.ref m, .int i1] h2 _
    rw [a_]
    exact zm_base_M g hx hk h12 (e := i1.toInt) (e2 := i2.toInt) (li_i32 i1).1 (li_i32 i1).2 (by decide) (by decide) (fun a th2 T2 h3 d f Y => ⟨a, th2, T2, d, f, Y, rfl⟩))
theorem cr_base_n2 {l : Launch} {G : am_G} (g : gM l G li_X) : ck_Con (cv_ref G sp_d14 1 (am_cm l G yX14_base (.code yX14_base prog_14_method_37_code 5 (some .int)) 11 294)) G li_X gT gc_yX14_base_n2 :=
  cv_ref_ok (C := 17) (S := 96) (gm_yX14_base_n2 g) rfl rfl rfl sp_d14.fn (fun m T i1 i2 h2 o tx now qw th hx hk h12 => by
    obtain ⟨c_, P_, j_, m_, k_⟩ := T
    have a_ : ([.ref m, .int i1] : List Value) = [.ref m, .int (Int32.ofInt i1.toInt)] := by rw [Int32.ofInt_toInt]
    show am_M l G _ _ _ _ _ _ [.ref m, .int i1] h2 _
    rw [a_]
    exact zm_base_M g hx hk h12 (e := i1.toInt) (e2 := i2.toInt) (li_i32 i1).1 (li_i32 i1).2 (by decide) (by decide) (fun a th2 T2 h3 d f Y => ⟨a, th2, T2, d, f, Y, rfl⟩))
theorem cr_base_n3 {l : Launch} {G : am_G} (g : gM l G li_X) : ck_Con (cv_ref G sp_d14 1 (am_cm l G yX14_base (.code yX14_base prog_14_method_37_code 5 (some .int)) 11 294)) G li_X gT gc_yX14_base_n3 :=
  cv_ref_ok (C := 17) (S := 96) (gm_yX14_base_n3 g) rfl rfl rfl sp_d14.fn (fun m T i1 i2 h2 o tx now qw th hx hk h12 => by
    obtain ⟨c_, P_, j_, m_, k_⟩ := T
    have a_ : ([.ref m, .int i1] : List Value) = [.ref m, .int (Int32.ofInt i1.toInt)] := by rw [Int32.ofInt_toInt]
    show am_M l G _ _ _ _ _ _ [.ref m, .int i1] h2 _
    rw [a_]
    exact zm_base_M g hx hk h12 (e := i1.toInt) (e2 := i2.toInt) (li_i32 i1).1 (li_i32 i1).2 (by decide) (by decide) (fun a th2 T2 h3 d f Y => ⟨a, th2, T2, d, f, Y, rfl⟩))
theorem cr_base_n4 {l : Launch} {G : am_G} (g : gM l G li_X) : ck_Con (cv_ref G sp_d14 1 (am_cm l G yX14_base (.code yX14_base prog_14_method_37_code 5 (some .int)) 11 294)) G li_X gT gc_yX14_base_n4 :=
  cv_ref_ok (C := 17) (S := 96) (gm_yX14_base_n4 g) rfl rfl rfl sp_d14.fn (fun m T i1 i2 h2 o tx now qw th hx hk h12 => by
    obtain ⟨c_, P_, j_, m_, k_⟩ := T
    have a_ : ([.ref m, .int i1] : List Value) = [.ref m, .int (Int32.ofInt i1.toInt)] := by rw [Int32.ofInt_toInt]
    show am_M l G _ _ _ _ _ _ [.ref m, .int i1] h2 _
    rw [a_]
    exact zm_base_M g hx hk h12 (e := i1.toInt) (e2 := i2.toInt) (li_i32 i1).1 (li_i32 i1).2 (by decide) (by decide) (fun a th2 T2 h3 d f Y => ⟨a, th2, T2, d, f, Y, rfl⟩))
theorem cw_knock {l : Launch} {G : am_G} (g : gM l G li_X) : ck_Con (cv_cls0 G sp_d17 (am_cm l G yX10_knock (.code yX10_knock prog_1_method_19_code 1 (some .int)) 1 20)) G li_X gT gc_yX10_knock_a :=
  cv_cls0_ok (gm_yX10_knock_a g.1) rfl (fun x out mc ms r T i1 i2 h2 R old cnt hx hp => by
    obtain ⟨c_, P_, j_, m_, k_⟩ := T
    have hp_ : P_ = zc_l R old cnt := hp
    subst hp_
    exact zc_knock_M g hx (e := i1.toInt) (e2 := i2.toInt) (fun a th T2 h3 d f Y => ⟨a, th, T2, d, zc_of.fr f, Y, rfl⟩))
theorem cr_knock {l : Launch} {G : am_G} (g : gM l G li_X) : ck_Con (cv_ref0 G sp_d17 (am_cm l G yX14_knock (.code yX14_knock prog_14_method_40_code 1 (some .int)) 1 20)) G li_X gT gc_yX14_knock_w :=
  cv_ref0_ok (gm_yX14_knock_w g) rfl sp_d17.fn (fun m mc ms T i1 i2 h2 o tx now qw th hx hk h12 => by
    obtain ⟨c_, P_, j_, m_, k_⟩ := T
    exact zm_knock_M g hx (e := i1.toInt) (e2 := i2.toInt) (fun a th2 T2 h3 d f Y => ⟨a, th2, T2, d, f, Y, rfl⟩))
/-- what size answers -/
def sp_zz (_ _ : Int) (T : sp_T) (a th : Int) (T2 : sp_T) : Prop := th = 0 ∧ a = T.1.1 ∧ T2 = T
theorem sp_zz.fn {e e2 a th a2 th2 : Int} {T T' T2 : sp_T} (h1 : sp_zz e e2 T a th T') (h2 : sp_zz e e2 T a2 th2 T2) : sp_al a th T' a2 th2 T2 := ⟨h1.1.trans h2.1.symm, h1.2.2.trans h2.2.2.symm, fun _ => h1.2.1.trans h2.2.1.symm⟩
theorem cw_size {l : Launch} {G : am_G} (g : gM l G li_X) : ck_Con (cv_cls0 G sp_zz (am_cm l G yX10_size (.code yX10_size prog_1_method_26_code 1 (some .int)) 1 20)) G li_X gT gc_yX10_size_a :=
  cv_cls0_ok (gm_yX10_size_a g.1) rfl (fun x out mc ms r T i1 i2 h2 R old cnt hx hp => by
    obtain ⟨c_, P_, j_, m_, k_⟩ := T
    exact zc_size9_M g hx ⟨c_.1, 0, (c_, P_, j_, m_, k_), ⟨rfl, rfl, rfl⟩, zc_of.fr zc_fr.rf, ⟨R, old, cnt, hx, hp⟩, rfl⟩)
theorem cr_size {l : Launch} {G : am_G} (g : gM l G li_X) : ck_Con (cv_ref0 G sp_zz (am_cm l G yX14_size (.code yX14_size prog_14_method_48_code 1 (some .int)) 1 20)) G li_X gT gc_yX14_size_a :=
  cv_ref0_ok (gm_yX14_size_a g) rfl sp_zz.fn (fun m mc ms T i1 i2 h2 o tx now qw th hx hk h12 => by
    obtain ⟨c_, P_, j_, m_, k_⟩ := T
    exact zm_size9_M g hx (fun h3 f Y => ⟨c_.1, 0, (c_, P_, j_, m_, k_), ⟨rfl, rfl, rfl⟩, f, Y, rfl⟩))
