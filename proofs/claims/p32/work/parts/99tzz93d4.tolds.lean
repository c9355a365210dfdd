/-! SOLUTION, ITS ANSWER TOLD -/
theorem cx_solution {l : Launch} {G : am_G} (g : gM l G li_X) : ck_Con (cv_clx G sp_q32 (am_cn l G yL_solution (.codeWith yL_solution method_30_code 6 (some .int) [(0, 13, 16, 25), (0, 13, 20, 19)]) 8 137)) G li_X gT gc_yL_solution_a :=
  cv_clx_n (cv_clx_ok (C := 3) (S := 18) (gm_yL_solution_a g.1) rfl rfl rfl (fun x out r T i1 i2 i3 h2 R old cnt n0 s0 hx hp ho o1 o2 o3 => by
    obtain ⟨c_, P_, j_, m_, k_⟩ := T
    have hp_ : P_ = zc_l R old cnt := hp
    subst hp_
    have a_ : ([.ref x, .int i1, .int i2, .int i3, .ref out] : List Value) = [.ref x, .int (Int32.ofInt i1.toInt), .int (Int32.ofInt i2.toInt), .int (Int32.ofInt i3.toInt), .ref out] := by rw [Int32.ofInt_toInt, Int32.ofInt_toInt, Int32.ofInt_toInt]
    rw [a_]
    exact zc_wqsolution_M g hx ho o1 o2 o3 (e := i1.toInt) (e2 := i2.toInt) (e3 := i3.toInt) (li_i32 i1).1 (li_i32 i1).2 (li_i32 i2).1 (li_i32 i2).2 (li_i32 i3).1 (li_i32 i3).2 (by decide) (by decide) (fun a th T2 h3 d f Y z => ⟨a, th, T2, d, f, Y, z, rfl⟩))) rfl
theorem cy_solution {l : Launch} {G : am_G} (g : gM l G li_X) : ck_Con (cv_rex G sp_q32 (am_cm l G yX14_solution (.code yX14_solution prog_14_method_58_code 4 (some .int)) 3 64)) G li_X gT gc_yX14_solution_a :=
  cv_rex_ok (C := 0) (S := 0) (gm_yX14_solution_a g) rfl rfl rfl sp_q32.fn (fun m T i1 i2 i3 h2 o tx now qw th hx hk h12 => by
    obtain ⟨c_, P_, j_, m_, k_⟩ := T
    have a_ : ([.ref m, .int i1, .int i2, .int i3] : List Value) = [.ref m, .int (Int32.ofInt i1.toInt), .int (Int32.ofInt i2.toInt), .int (Int32.ofInt i3.toInt)] := by rw [Int32.ofInt_toInt, Int32.ofInt_toInt, Int32.ofInt_toInt]
    rw [a_]
    exact zm_qsolution_M g hx hk (e := i1.toInt) (e2 := i2.toInt) (e3 := i3.toInt) (li_i32 i1).1 (li_i32 i1).2 (li_i32 i2).1 (li_i32 i2).2 (li_i32 i3).1 (li_i32 i3).2 (fun a th2 T2 h3 d f Y => ⟨a, th2, T2, d, f, Y, rfl⟩))
