/-! WHAT IS TOLD OF THE STATE WITHOUT AN OUT -/
noncomputable def cs_FD (n : Nat) (T : sp_T) : Int := match n with
  | 0 => T.1.1
  | 1 => (T.1.2.2.1.length : Int)
  | 2 => (T.1.2.2.2.length : Int)
  | 3 => (if T.1.1 ≤ 0 then -9 else ((sk_n (sk_u T.1.1.toNat) T.1.1.toNat : Nat) : Int))
  | 4 => (sk_pv T.1.1)
  | 5 => (sp_jv T.1.2.2.1)
  | _ => 0
def sp_f (n : Nat) (_ _ : Int) (T : sp_T) (a th : Int) (T2 : sp_T) : Prop := th = 0 ∧ a = cs_FD n T ∧ T2 = T
theorem sp_f.fn {n : Nat} {e e2 a th a2 th2 : Int} {T T' T2 : sp_T} (h1 : sp_f n e e2 T a th T') (h2 : sp_f n e e2 T a2 th2 T2) : sp_al a th T' a2 th2 T2 := ⟨h1.1.trans h2.1.symm, h1.2.2.trans h2.2.2.symm, fun _ => h1.2.1.trans h2.2.1.symm⟩
section CVR
variable {l : Launch} {G : am_G} {y : MethodName} {cw : Cond} {fr lo : Nat} {c : ck_KK} {D : Int → Int → sp_T → Int → Int → sp_T → Prop}
/-- as cv_ref0_ok, the room told -/
theorem cv_ref0_c (hc : ck_Con (am_cm l G y cw fr lo) G li_X gT c) (hr : c.2.2.2.1 = []) {C S : Nat} (hC1 : c.2.1.1 = ck_k C) (hC2 : c.2.1.2 = ck_k S)
    (fn : ∀ {e e2 a th a2 th2 : Int} {T T' T2 : sp_T}, D e e2 T a th T' → D e e2 T a2 th2 T2 → sp_al a th T' a2 th2 T2)
    (ex : ∀ (m : Nat) (T : sp_T) (i1 i2 : Int32) (h2 : List am_C) (o : Nat → Nat) (tx now qw : Nat) (th : Int), zm_x G h2 o m tx now qw th T.2.2.1 T.2.2.2.1 T.2.2.2.2 T.1 T.2.1 → sp_ok T.1 → T.2.1.length ≤ 12 → am_M l G y cw fr lo C S [.ref m] h2 (fun o k2 => ∃ (v th : Int) (T' : sp_T), D i1.toInt i2.toInt T v th T' ∧ zm_fr G h2 k2 ∧ zm_Y G k2 m th T' ∧ o = .inl (some (.int (Int32.ofInt v))))) :
    ck_Con (cv_ref0 G D (am_cm l G y cw fr lo)) G li_X gT c := by
  intro K r s a h hH hV hC hF hn hS mc ms hmc hms x m out rr T T' i1 i2 I hd ha
  have t1_ := hc K r s a h hH hV hC hF hn hS mc ms hmc hms
  rw [hC1] at hmc
  rw [hC2] at hms
  have f1_ := ck_Lv.fn hmc (ck_Lv.k r _)
  have e1_ : mc = C := by omega
  have f2_ := ck_Lv.fn hms (ck_Lv.k r _)
  have e2_ : ms = S := by omega
  subst e1_
  subst e2_
  subst ha
  have I_ := I.s hH
  refine am_M.mono (zv_ref I_ t1_ (fun o k p => ⟨p.1, _, cv_kp hr p⟩) (fun h2 o tx now qw th => ex m T i1 i2 h2 o tx now qw th)) fun o k hq => ?_
  obtain ⟨p_, v2_, th2_, T2_, d2_, o_, z_⟩ := hq
  obtain ⟨v_, th_, d_⟩ := hd
  have al_ := fn d_ d2_
  have eT_ : T' = T2_ := al_.2.1
  rw [← eT_] at z_ d2_
  exact ⟨p_, (z_ I_.ok).k, v2_, th2_, d2_, o_⟩
end CVR
theorem cx_rows {l : Launch} {G : am_G} (g : gM l G li_X) : ck_Con (cv_cls0 G (sp_f 1) (am_cm l G yX10_rows (.code yX10_rows prog_1_method_44_code 1 (some .int)) 1 20)) G li_X gT gc_yX10_rows_a :=
  cv_cls0_ok (gm_yX10_rows_a g.1) rfl (fun x out mc ms r T i1 i2 h2 R old cnt hx hp => by
    obtain ⟨c_, P_, j_, m_, k_⟩ := T
    exact zc_rows9_M g hx ⟨cs_FD 1 (c_, P_, j_, m_, k_), 0, (c_, P_, j_, m_, k_), ⟨rfl, rfl, rfl⟩, zc_of.fr zc_fr.rf, ⟨R, old, cnt, hx, hp⟩, rfl⟩)
theorem cy_rows {l : Launch} {G : am_G} (g : gM l G li_X) : ck_Con (cv_ref0 G (sp_f 1) (am_cm l G yX14_rows (.code yX14_rows prog_14_method_82_code 1 (some .int)) 2 40)) G li_X gT gc_yX14_rows_a :=
  cv_ref0_ok (gm_yX14_rows_a g) rfl sp_f.fn (fun m mc ms T i1 i2 h2 o tx now qw th hx hk h12 => by
    obtain ⟨c_, P_, j_, m_, k_⟩ := T
    exact zm_rows9_M g hx (fun h3 f Y => ⟨cs_FD 1 (c_, P_, j_, m_, k_), 0, (c_, P_, j_, m_, k_), ⟨rfl, rfl, rfl⟩, f, Y, rfl⟩))
theorem cx_bases {l : Launch} {G : am_G} (g : gM l G li_X) : ck_Con (cv_cls0 G (sp_f 2) (am_cm l G yX10_bases (.code yX10_bases prog_1_method_53_code 1 (some .int)) 1 20)) G li_X gT gc_yX10_bases_a :=
  cv_cls0_ok (gm_yX10_bases_a g.1) rfl (fun x out mc ms r T i1 i2 h2 R old cnt hx hp => by
    obtain ⟨c_, P_, j_, m_, k_⟩ := T
    exact zc_bases9_M g hx ⟨cs_FD 2 (c_, P_, j_, m_, k_), 0, (c_, P_, j_, m_, k_), ⟨rfl, rfl, rfl⟩, zc_of.fr zc_fr.rf, ⟨R, old, cnt, hx, hp⟩, rfl⟩)
theorem cy_bases {l : Launch} {G : am_G} (g : gM l G li_X) : ck_Con (cv_ref0 G (sp_f 2) (am_cm l G yX14_bases (.code yX14_bases prog_14_method_96_code 1 (some .int)) 2 40)) G li_X gT gc_yX14_bases_a :=
  cv_ref0_ok (gm_yX14_bases_a g) rfl sp_f.fn (fun m mc ms T i1 i2 h2 o tx now qw th hx hk h12 => by
    obtain ⟨c_, P_, j_, m_, k_⟩ := T
    exact zm_bases9_M g hx (fun h3 f Y => ⟨cs_FD 2 (c_, P_, j_, m_, k_), 0, (c_, P_, j_, m_, k_), ⟨rfl, rfl, rfl⟩, f, Y, rfl⟩))
theorem cx_units {l : Launch} {G : am_G} (g : gM l G li_X) : ck_Con (cv_cls0 G (sp_f 3) (am_cm l G yX10_units (.code yX10_units prog_1_method_33_code 1 (some .int)) 3 67)) G li_X gT gc_yX10_units_a :=
  cv_cls0_ok (gm_yX10_units_a g.1) rfl (fun x out mc ms r T i1 i2 h2 R old cnt hx hp => by
    obtain ⟨c_, P_, j_, m_, k_⟩ := T
    exact zc_units9_M g hx ⟨cs_FD 3 (c_, P_, j_, m_, k_), 0, (c_, P_, j_, m_, k_), ⟨rfl, rfl, rfl⟩, zc_of.fr zc_fr.rf, ⟨R, old, cnt, hx, hp⟩, rfl⟩)
theorem cy_units {l : Launch} {G : am_G} (g : gM l G li_X) : ck_Con (cv_ref0 G (sp_f 3) (am_cm l G yX14_units (.code yX14_units prog_14_method_60_code 1 (some .int)) 3 65)) G li_X gT gc_yX14_units_a :=
  cv_ref0_ok (gm_yX14_units_a g) rfl sp_f.fn (fun m mc ms T i1 i2 h2 o tx now qw th hx hk h12 => by
    obtain ⟨c_, P_, j_, m_, k_⟩ := T
    exact zm_units9_M g hx hk (fun h3 f Y => ⟨cs_FD 3 (c_, P_, j_, m_, k_), 0, (c_, P_, j_, m_, k_), ⟨rfl, rfl, rfl⟩, f, Y, rfl⟩))
theorem cx_isPrime {l : Launch} {G : am_G} (g : gM l G li_X) : ck_Con (cv_cls0 G (sp_f 4) (am_cm l G yX10_isPrime (.code yX10_isPrime prog_1_method_41_code 1 (some .boolean)) 2 41)) G li_X gT gc_yX10_isPrime_a :=
  cv_cls0_ok (gm_yX10_isPrime_a g.1) rfl (fun x out mc ms r T i1 i2 h2 R old cnt hx hp => by
    obtain ⟨c_, P_, j_, m_, k_⟩ := T
    exact zc_isPrime9_M g hx ⟨cs_FD 4 (c_, P_, j_, m_, k_), 0, (c_, P_, j_, m_, k_), ⟨rfl, rfl, rfl⟩, zc_of.fr zc_fr.rf, ⟨R, old, cnt, hx, hp⟩, rfl⟩)
theorem cy_isPrime {l : Launch} {G : am_G} (g : gM l G li_X) : ck_Con (cv_ref0 G (sp_f 4) (am_cm l G yX14_isPrime_ (.code yX14_isPrime_ prog_14_method_76_code 1 (some .boolean)) 2 42)) G li_X gT gc_yX14_isPrime__a :=
  cv_ref0_ok (gm_yX14_isPrime__a g) rfl sp_f.fn (fun m mc ms T i1 i2 h2 o tx now qw th hx hk h12 => by
    obtain ⟨c_, P_, j_, m_, k_⟩ := T
    exact zm_isPrime9_M g hx hk (fun h3 f Y => ⟨cs_FD 4 (c_, P_, j_, m_, k_), 0, (c_, P_, j_, m_, k_), ⟨rfl, rfl, rfl⟩, f, Y, rfl⟩))
theorem cx_isJoined {l : Launch} {G : am_G} (g : gM l G li_X) : ck_Con (cv_cls0 G (sp_f 5) (am_cm l G yX10_isJoined (.code yX10_isJoined prog_1_method_47_code 1 (some .boolean)) 5 117)) G li_X gT gc_yX10_isJoined_a :=
  cv_cls0_ok (gm_yX10_isJoined_a g.1) rfl (fun x out mc ms r T i1 i2 h2 R old cnt hx hp => by
    obtain ⟨c_, P_, j_, m_, k_⟩ := T
    exact zc_isJoined9_M g hx (fun h3 f3 x3 => ⟨cs_FD 5 (c_, P_, j_, m_, k_), 0, (c_, P_, j_, m_, k_), ⟨rfl, rfl, rfl⟩, zc_of.fr f3, ⟨R, old, cnt, x3, hp⟩, rfl⟩))
theorem cy_isJoined {l : Launch} {G : am_G} (g : gM l G li_X) : ck_Con (cv_ref0 G (sp_f 5) (am_cm l G yX14_isJoined (.code yX14_isJoined prog_14_method_86_code 1 (some .boolean)) 4 92)) G li_X gT gc_yX14_isJoined_a :=
  cv_ref0_c (C := 2) (S := 6) (gm_yX14_isJoined_a g) rfl rfl rfl sp_f.fn (fun m T i1 i2 h2 o tx now qw th hx hk h12 => by
    obtain ⟨c_, P_, j_, m_, k_⟩ := T
    exact zm_isJoined9_M g hx hk (by decide) (by decide) (fun h3 f Y => ⟨cs_FD 5 (c_, P_, j_, m_, k_), 0, (c_, P_, j_, m_, k_), ⟨rfl, rfl, rfl⟩, f, Y, rfl⟩))
