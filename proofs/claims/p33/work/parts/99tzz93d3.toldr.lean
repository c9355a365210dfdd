/-! ASKS OF ROWS AND BOOKS, THEIR ANSWERS TOLD -/
theorem cx_ofRow {l : Launch} {G : am_G} (g : gM l G li_X) : ck_Con (cv_clw G sp_q45 2 (am_cn l G yL_ofRow (.codeWith yL_ofRow method_40_code 5 (some .int) [(0, 11, 14, 25), (0, 11, 18, 19)]) 8 133)) G li_X gT gc_yL_ofRow_a :=
  cv_clw_n (cv_clw_ok (C := 2) (S := 12) (gm_yL_ofRow_a g.1) rfl rfl rfl (fun x out r T i1 i2 h2 R old cnt n0 s0 hx hp ho o1 o2 o3 => by
    obtain ⟨c_, P_, j_, m_, k_⟩ := T
    have hp_ : P_ = zc_l R old cnt := hp
    subst hp_
    have a_ : ([.ref x, .int i1, .int i2, .ref out] : List Value) = [.ref x, .int (Int32.ofInt i1.toInt), .int (Int32.ofInt i2.toInt), .ref out] := by rw [Int32.ofInt_toInt, Int32.ofInt_toInt]
    show am_M l G _ _ _ _ _ _ [.ref x, .int i1, .int i2, .ref out] h2 _
    rw [a_]
    exact zc_wqofRow_M g hx ho o1 o2 o3 (e := i1.toInt) (e2 := i2.toInt) (li_i32 i1).1 (li_i32 i1).2 (li_i32 i2).1 (li_i32 i2).2 (by decide) (by decide) (fun a th T2 h3 d f Y z => ⟨a, th, T2, d, f, Y, z, rfl⟩))) rfl
theorem cy_ofRow {l : Launch} {G : am_G} (g : gM l G li_X) : ck_Con (cv_rew G sp_q45 2 (am_cm l G yX14_ofRow (.code yX14_ofRow prog_14_method_83_code 3 (some .int)) 4 84)) G li_X gT gc_yX14_ofRow_a :=
  cv_rew_ok (C := 0) (S := 0) (gm_yX14_ofRow_a g) rfl rfl rfl sp_q45.fn (fun m T i1 i2 h2 o tx now qw th hx hk h12 => by
    obtain ⟨c_, P_, j_, m_, k_⟩ := T
    have a_ : ([.ref m, .int i1, .int i2] : List Value) = [.ref m, .int (Int32.ofInt i1.toInt), .int (Int32.ofInt i2.toInt)] := by rw [Int32.ofInt_toInt, Int32.ofInt_toInt]
    show am_M l G _ _ _ _ _ _ [.ref m, .int i1, .int i2] h2 _
    rw [a_]
    exact zm_qofRow_M g hx hk (e := i1.toInt) (e2 := i2.toInt) (li_i32 i1).1 (li_i32 i1).2 (li_i32 i2).1 (li_i32 i2).2 (fun a th2 T2 h3 d f Y => ⟨a, th2, T2, d, f, Y, rfl⟩))
theorem cx_agree {l : Launch} {G : am_G} (g : gM l G li_X) : ck_Con (cv_clw G sp_q46 2 (am_cn l G yL_agree (.codeWith yL_agree method_41_code 5 (some .int) [(0, 18, 21, 25)]) 8 133)) G li_X gT gc_yL_agree_a :=
  cv_clw_n (cv_clw_ok (C := 2) (S := 12) (gm_yL_agree_a g.1) rfl rfl rfl (fun x out r T i1 i2 h2 R old cnt n0 s0 hx hp ho o1 o2 o3 => by
    obtain ⟨c_, P_, j_, m_, k_⟩ := T
    have hp_ : P_ = zc_l R old cnt := hp
    subst hp_
    have a_ : ([.ref x, .int i1, .int i2, .ref out] : List Value) = [.ref x, .int (Int32.ofInt i1.toInt), .int (Int32.ofInt i2.toInt), .ref out] := by rw [Int32.ofInt_toInt, Int32.ofInt_toInt]
    show am_M l G _ _ _ _ _ _ [.ref x, .int i1, .int i2, .ref out] h2 _
    rw [a_]
    exact zc_wqagree_M g hx ho o1 o2 o3 (e := i1.toInt) (e2 := i2.toInt) (li_i32 i1).1 (li_i32 i1).2 (li_i32 i2).1 (li_i32 i2).2 (by decide) (by decide) (fun a th T2 h3 d f Y z => ⟨a, th, T2, d, f, Y, z, rfl⟩))) rfl
theorem cy_agree {l : Launch} {G : am_G} (g : gM l G li_X) : ck_Con (cv_rew G sp_q46 2 (am_cm l G yX14_agree (.code yX14_agree prog_14_method_85_code 3 (some .boolean)) 5 107)) G li_X gT gc_yX14_agree_a :=
  cv_rew_ok (C := 0) (S := 0) (gm_yX14_agree_a g) rfl rfl rfl sp_q46.fn (fun m T i1 i2 h2 o tx now qw th hx hk h12 => by
    obtain ⟨c_, P_, j_, m_, k_⟩ := T
    have a_ : ([.ref m, .int i1, .int i2] : List Value) = [.ref m, .int (Int32.ofInt i1.toInt), .int (Int32.ofInt i2.toInt)] := by rw [Int32.ofInt_toInt, Int32.ofInt_toInt]
    show am_M l G _ _ _ _ _ _ [.ref m, .int i1, .int i2] h2 _
    rw [a_]
    exact zm_qagree_M g hx hk (e := i1.toInt) (e2 := i2.toInt) (li_i32 i1).1 (li_i32 i1).2 (li_i32 i2).1 (li_i32 i2).2 (fun a th2 T2 h3 d f Y => ⟨a, th2, T2, d, f, Y, rfl⟩))
theorem cx_wouldJoin {l : Launch} {G : am_G} (g : gM l G li_X) : ck_Con (cv_clw G sp_q48 2 (am_cn l G yL_wouldJoin (.codeWith yL_wouldJoin method_42_code 5 (some .int) [(0, 18, 21, 19)]) 8 139)) G li_X gT gc_yL_wouldJoin_a :=
  cv_clw_n (cv_clw_ok (C := 1) (S := 6) (gm_yL_wouldJoin_a g.1) rfl rfl rfl (fun x out r T i1 i2 h2 R old cnt n0 s0 hx hp ho o1 o2 o3 => by
    obtain ⟨c_, P_, j_, m_, k_⟩ := T
    have hp_ : P_ = zc_l R old cnt := hp
    subst hp_
    have a_ : ([.ref x, .int i1, .int i2, .ref out] : List Value) = [.ref x, .int (Int32.ofInt i1.toInt), .int (Int32.ofInt i2.toInt), .ref out] := by rw [Int32.ofInt_toInt, Int32.ofInt_toInt]
    show am_M l G _ _ _ _ _ _ [.ref x, .int i1, .int i2, .ref out] h2 _
    rw [a_]
    exact zc_wqwouldJoin_M g hx ho o1 o2 o3 (e := i1.toInt) (e2 := i2.toInt) (li_i32 i1).1 (li_i32 i1).2 (li_i32 i2).1 (li_i32 i2).2 (by decide) (by decide) (fun a th T2 h3 d f Y z => ⟨a, th, T2, d, f, Y, z, rfl⟩))) rfl
theorem cy_wouldJoin {l : Launch} {G : am_G} (g : gM l G li_X) : ck_Con (cv_rew G sp_q48 2 (am_cm l G yX14_wouldJoin (.code yX14_wouldJoin prog_14_method_87_code 3 (some .boolean)) 5 115)) G li_X gT gc_yX14_wouldJoin_a :=
  cv_rew_ok (C := 3) (S := 8) (gm_yX14_wouldJoin_a g) rfl rfl rfl sp_q48.fn (fun m T i1 i2 h2 o tx now qw th hx hk h12 => by
    obtain ⟨c_, P_, j_, m_, k_⟩ := T
    have a_ : ([.ref m, .int i1, .int i2] : List Value) = [.ref m, .int (Int32.ofInt i1.toInt), .int (Int32.ofInt i2.toInt)] := by rw [Int32.ofInt_toInt, Int32.ofInt_toInt]
    show am_M l G _ _ _ _ _ _ [.ref m, .int i1, .int i2] h2 _
    rw [a_]
    exact zm_qwouldJoin_M g hx hk (e := i1.toInt) (e2 := i2.toInt) (li_i32 i1).1 (li_i32 i1).2 (li_i32 i2).1 (li_i32 i2).2 (by decide) (by decide) (fun a th2 T2 h3 d f Y => ⟨a, th2, T2, d, f, Y, rfl⟩))
theorem cx_clash {l : Launch} {G : am_G} (g : gM l G li_X) : ck_Con (cv_clw G sp_q51 1 (am_cn l G yL_clash (.codeWith yL_clash method_43_code 4 (some .int) [(0, 10, 13, 19)]) 7 112)) G li_X gT gc_yL_clash_a :=
  cv_clw_n (cv_clw_ok (C := 1) (S := 6) (gm_yL_clash_a g.1) rfl rfl rfl (fun x out r T i1 i2 h2 R old cnt n0 s0 hx hp ho o1 o2 o3 => by
    obtain ⟨c_, P_, j_, m_, k_⟩ := T
    have hp_ : P_ = zc_l R old cnt := hp
    subst hp_
    have a_ : ([.ref x, .int i1, .ref out] : List Value) = [.ref x, .int (Int32.ofInt i1.toInt), .ref out] := by rw [Int32.ofInt_toInt]
    show am_M l G _ _ _ _ _ _ [.ref x, .int i1, .ref out] h2 _
    rw [a_]
    exact zc_wqclash_M g hx ho o1 o2 o3 (e := i1.toInt) (e2 := i2.toInt) (li_i32 i1).1 (li_i32 i1).2 (by decide) (by decide) (fun a th T2 h3 d f Y z => ⟨a, th, T2, d, f, Y, z, rfl⟩))) rfl
theorem cy_clash {l : Launch} {G : am_G} (g : gM l G li_X) : ck_Con (cv_rew G sp_q51 1 (am_cm l G yX14_clash (.code yX14_clash prog_14_method_93_code 2 (some .int)) 6 130)) G li_X gT gc_yX14_clash_a :=
  cv_rew_ok (C := 0) (S := 0) (gm_yX14_clash_a g) rfl rfl rfl sp_q51.fn (fun m T i1 i2 h2 o tx now qw th hx hk h12 => by
    obtain ⟨c_, P_, j_, m_, k_⟩ := T
    have a_ : ([.ref m, .int i1] : List Value) = [.ref m, .int (Int32.ofInt i1.toInt)] := by rw [Int32.ofInt_toInt]
    show am_M l G _ _ _ _ _ _ [.ref m, .int i1] h2 _
    rw [a_]
    exact zm_qclash_M g hx hk (e := i1.toInt) (e2 := i2.toInt) (li_i32 i1).1 (li_i32 i1).2 (fun a th2 T2 h3 d f Y => ⟨a, th2, T2, d, f, Y, rfl⟩))
theorem cx_broken {l : Launch} {G : am_G} (g : gM l G li_X) : ck_Con (cv_clw G sp_q52 1 (am_cn l G yL_broken (.codeWith yL_broken method_44_code 4 (some .int) [(0, 10, 13, 25)]) 8 134)) G li_X gT gc_yL_broken_a :=
  cv_clw_n (cv_clw_ok (C := 1) (S := 6) (gm_yL_broken_a g.1) rfl rfl rfl (fun x out r T i1 i2 h2 R old cnt n0 s0 hx hp ho o1 o2 o3 => by
    obtain ⟨c_, P_, j_, m_, k_⟩ := T
    have hp_ : P_ = zc_l R old cnt := hp
    subst hp_
    have a_ : ([.ref x, .int i1, .ref out] : List Value) = [.ref x, .int (Int32.ofInt i1.toInt), .ref out] := by rw [Int32.ofInt_toInt]
    show am_M l G _ _ _ _ _ _ [.ref x, .int i1, .ref out] h2 _
    rw [a_]
    exact zc_wqbroken_M g hx ho o1 o2 o3 (e := i1.toInt) (e2 := i2.toInt) (li_i32 i1).1 (li_i32 i1).2 (by decide) (by decide) (fun a th T2 h3 d f Y z => ⟨a, th, T2, d, f, Y, z, rfl⟩))) rfl
theorem cy_broken {l : Launch} {G : am_G} (g : gM l G li_X) : ck_Con (cv_rew G sp_q52 1 (am_cm l G yX14_broken (.code yX14_broken prog_14_method_95_code 2 (some .int)) 5 106)) G li_X gT gc_yX14_broken_a :=
  cv_rew_ok (C := 0) (S := 0) (gm_yX14_broken_a g) rfl rfl rfl sp_q52.fn (fun m T i1 i2 h2 o tx now qw th hx hk h12 => by
    obtain ⟨c_, P_, j_, m_, k_⟩ := T
    have a_ : ([.ref m, .int i1] : List Value) = [.ref m, .int (Int32.ofInt i1.toInt)] := by rw [Int32.ofInt_toInt]
    show am_M l G _ _ _ _ _ _ [.ref m, .int i1] h2 _
    rw [a_]
    exact zm_qbroken_M g hx hk (e := i1.toInt) (e2 := i2.toInt) (li_i32 i1).1 (li_i32 i1).2 (fun a th2 T2 h3 d f Y => ⟨a, th2, T2, d, f, Y, rfl⟩))
theorem cx_books {l : Launch} {G : am_G} (g : gM l G li_X) : ck_Con (cv_clw G sp_q59 1 (am_cn l G yL_books (.codeWith yL_books method_49_code 4 (some .int) [(0, 10, 13, 19)]) 7 111)) G li_X gT gc_yL_books_a :=
  cv_clw_n (cv_clw_ok (C := 1) (S := 6) (gm_yL_books_a g.1) rfl rfl rfl (fun x out r T i1 i2 h2 R old cnt n0 s0 hx hp ho o1 o2 o3 => by
    obtain ⟨c_, P_, j_, m_, k_⟩ := T
    have hp_ : P_ = zc_l R old cnt := hp
    subst hp_
    have a_ : ([.ref x, .int i1, .ref out] : List Value) = [.ref x, .int (Int32.ofInt i1.toInt), .ref out] := by rw [Int32.ofInt_toInt]
    show am_M l G _ _ _ _ _ _ [.ref x, .int i1, .ref out] h2 _
    rw [a_]
    exact zc_wqbooks_M g hx ho o1 o2 o3 (e := i1.toInt) (e2 := i2.toInt) (li_i32 i1).1 (li_i32 i1).2 (by decide) (by decide) (fun a th T2 h3 d f Y z => ⟨a, th, T2, d, f, Y, z, rfl⟩))) rfl
theorem cy_books {l : Launch} {G : am_G} (g : gM l G li_X) : ck_Con (cv_rew G sp_q59 1 (am_cm l G yX14_books (.code yX14_books prog_14_method_106_code 2 (some .int)) 3 64)) G li_X gT gc_yX14_books_a :=
  cv_rew_ok (C := 0) (S := 0) (gm_yX14_books_a g) rfl rfl rfl sp_q59.fn (fun m T i1 i2 h2 o tx now qw th hx hk h12 => by
    obtain ⟨c_, P_, j_, m_, k_⟩ := T
    have a_ : ([.ref m, .int i1] : List Value) = [.ref m, .int (Int32.ofInt i1.toInt)] := by rw [Int32.ofInt_toInt]
    show am_M l G _ _ _ _ _ _ [.ref m, .int i1] h2 _
    rw [a_]
    exact zm_qbooks_M g hx (e := i1.toInt) (e2 := i2.toInt) (li_i32 i1).1 (li_i32 i1).2 (fun a th2 T2 h3 d f Y => ⟨a, th2, T2, d, f, Y, rfl⟩))
theorem cx_jacobi {l : Launch} {G : am_G} (g : gM l G li_X) : ck_Con (cv_clw G sp_q43 1 (am_cn l G yL_jacobi (.codeWith yL_jacobi method_39_code 4 (some .int) [(0, 10, 13, 25)]) 8 133)) G li_X gT gc_yL_jacobi_a :=
  cv_clw_n (cv_clw_ok (C := 1) (S := 6) (gm_yL_jacobi_a g.1) rfl rfl rfl (fun x out r T i1 i2 h2 R old cnt n0 s0 hx hp ho o1 o2 o3 => by
    obtain ⟨c_, P_, j_, m_, k_⟩ := T
    have hp_ : P_ = zc_l R old cnt := hp
    subst hp_
    have a_ : ([.ref x, .int i1, .ref out] : List Value) = [.ref x, .int (Int32.ofInt i1.toInt), .ref out] := by rw [Int32.ofInt_toInt]
    show am_M l G _ _ _ _ _ _ [.ref x, .int i1, .ref out] h2 _
    rw [a_]
    exact zc_wqjacobi_M g hx ho o1 o2 o3 (e := i1.toInt) (e2 := i2.toInt) (li_i32 i1).1 (li_i32 i1).2 (by decide) (by decide) (fun a th T2 h3 d f Y z => ⟨a, th, T2, d, f, Y, z, rfl⟩))) rfl
theorem cy_jacobi {l : Launch} {G : am_G} (g : gM l G li_X) : ck_Con (cv_rew G sp_q43 1 (am_cm l G yX14_jacobi (.code yX14_jacobi prog_14_method_81_code 2 (some .int)) 4 89)) G li_X gT gc_yX14_jacobi_a :=
  cv_rew_ok (C := 0) (S := 0) (gm_yX14_jacobi_a g) rfl rfl rfl sp_q43.fn (fun m T i1 i2 h2 o tx now qw th hx hk h12 => by
    obtain ⟨c_, P_, j_, m_, k_⟩ := T
    have a_ : ([.ref m, .int i1] : List Value) = [.ref m, .int (Int32.ofInt i1.toInt)] := by rw [Int32.ofInt_toInt]
    show am_M l G _ _ _ _ _ _ [.ref m, .int i1] h2 _
    rw [a_]
    exact zm_qjacobi_M g hx hk (e := i1.toInt) (e2 := i2.toInt) (li_i32 i1).1 (li_i32 i1).2 (fun a th2 T2 h3 d f Y => ⟨a, th2, T2, d, f, Y, rfl⟩))
