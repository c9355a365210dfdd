/-! BASE, WHERE IT IS REFUSED AT ONCE -/
theorem cr_base_n5 {l : Launch} {G : am_G} (g : gM l G li_X) : ck_Con (cv_ref G sp_d14 1 (am_cm l G yX14_base (.code yX14_base prog_14_method_37_code 5 (some .int)) 11 294)) G li_X gT (cv_up gc_yX14_base_n5 17 94) :=
  cv_ref_ok (C := 17) (S := 94) (cv_up_ok (C := 1) (S := 4) (C2 := 17) (S2 := 94) (gm_yX14_base_n5 g) rfl rfl (by decide) (by decide)) rfl rfl rfl sp_d14.fn (fun m T i1 i2 h2 o tx now qw th hx hk h12 => by
    obtain ⟨c_, P_, j_, m_, k_⟩ := T
    have a_ : ([.ref m, .int i1] : List Value) = [.ref m, .int (Int32.ofInt i1.toInt)] := by rw [Int32.ofInt_toInt]
    show am_M l G _ _ _ _ _ _ [.ref m, .int i1] h2 _
    rw [a_]
    exact zm_base_M g hx hk h12 (e := i1.toInt) (e2 := i2.toInt) (li_i32 i1).1 (li_i32 i1).2 (by decide) (by decide) (fun a th2 T2 h3 d f Y => ⟨a, th2, T2, d, f, Y, rfl⟩))
theorem cr_base_l {l : Launch} {G : am_G} (g : gM l G li_X) : ck_Con (cv_ref G sp_d14 1 (am_cm l G yX14_base (.code yX14_base prog_14_method_37_code 5 (some .int)) 11 294)) G li_X gT (cv_up gc_yX14_base_l 17 94) :=
  cv_ref_ok (C := 17) (S := 94) (cv_up_ok (C := 1) (S := 4) (C2 := 17) (S2 := 94) (gm_yX14_base_l g) rfl rfl (by decide) (by decide)) rfl rfl rfl sp_d14.fn (fun m T i1 i2 h2 o tx now qw th hx hk h12 => by
    obtain ⟨c_, P_, j_, m_, k_⟩ := T
    have a_ : ([.ref m, .int i1] : List Value) = [.ref m, .int (Int32.ofInt i1.toInt)] := by rw [Int32.ofInt_toInt]
    show am_M l G _ _ _ _ _ _ [.ref m, .int i1] h2 _
    rw [a_]
    exact zm_base_M g hx hk h12 (e := i1.toInt) (e2 := i2.toInt) (li_i32 i1).1 (li_i32 i1).2 (by decide) (by decide) (fun a th2 T2 h3 d f Y => ⟨a, th2, T2, d, f, Y, rfl⟩))
theorem cr_base_h {l : Launch} {G : am_G} (g : gM l G li_X) : ck_Con (cv_ref G sp_d14 1 (am_cm l G yX14_base (.code yX14_base prog_14_method_37_code 5 (some .int)) 11 294)) G li_X gT (cv_up gc_yX14_base_h 17 94) :=
  cv_ref_ok (C := 17) (S := 94) (cv_up_ok (C := 1) (S := 4) (C2 := 17) (S2 := 94) (gm_yX14_base_h g) rfl rfl (by decide) (by decide)) rfl rfl rfl sp_d14.fn (fun m T i1 i2 h2 o tx now qw th hx hk h12 => by
    obtain ⟨c_, P_, j_, m_, k_⟩ := T
    have a_ : ([.ref m, .int i1] : List Value) = [.ref m, .int (Int32.ofInt i1.toInt)] := by rw [Int32.ofInt_toInt]
    show am_M l G _ _ _ _ _ _ [.ref m, .int i1] h2 _
    rw [a_]
    exact zm_base_M g hx hk h12 (e := i1.toInt) (e2 := i2.toInt) (li_i32 i1).1 (li_i32 i1).2 (by decide) (by decide) (fun a th2 T2 h3 d f Y => ⟨a, th2, T2, d, f, Y, rfl⟩))
