/-! WHAT IS KNOWN OF BOTH SIDES AND OF THE LAST ANSWERS -/
def zv_w (G : am_G) (h : List am_C) (x m out : Nat) (r : Nat → Nat) (T Tm : sp_T) (th : Int) (n0 : Int64) : Prop :=
  zb_l G h ∧ ((∃ v, am_g G h x = some (1015, v)) ∧ (∃ v, am_g G h m = some (1019, v)) ∧ ∃ v, am_g G h out = some (1016, v)) ∧ (1000 ≤ out ∧ sp_ok Tm.1 ∧ Tm.2.1.length ≤ 12) ∧
  ∃ h2 : List am_C, zb_eq G h h2 ∧ zc_Y G h2 x r T ∧ zm_Y G h2 m th Tm ∧ ∃ s0 : Value, am_g G h2 out = some (1016, [.long n0, s0])
section ZVW
variable {G : am_G} {K : Int32} {h : List am_C} {x m out : Nat} {r : Nat → Nat} {T Tm : sp_T} {th : Int} {n0 : Int64}
theorem zv_w.k (I : zv_w G h x m out r T Tm th n0) : zv_k G h x m out r T Tm := by
  obtain ⟨L_, k_, b_, h2_, e_, X_, M_, s0_, g_⟩ := I
  exact ⟨L_, k_, b_, h2_, e_, X_, ⟨th, M_⟩, n0, s0_, g_⟩
theorem zv_k.w (I : zv_k G h x m out r T Tm) : ∃ (th : Int) (n0 : Int64), zv_w G h x m out r T Tm th n0 := by
  obtain ⟨L_, k_, b_, h2_, e_, X_, ⟨th_, M_⟩, n0_, s0_, g_⟩ := I
  exact ⟨th_, n0_, L_, k_, b_, h2_, e_, X_, M_, s0_, g_⟩
/-- the answer's cell as the typed picture shows it -/
theorem zv_w.outv (I : zv_w G h x m out r T Tm th n0) {n1 : Int64} {s1 : Value} (hk : am_g G h out = some (1016, [.long n1, s1])) : n1 = n0 := by
  obtain ⟨-, -, ⟨o0_, -⟩, h2_, e_, -, -, s0_, g_⟩ := I
  have z_ := (e_.ti.g hk g_ rfl (show 1016 % 100 < 62 by decide)).2.2 0 _ _ rfl rfl
  have z2_ := zb_rvl (show am_rv G (.long n0) = am_rv G (.long n1) from z_)
  exact (Value.long.inj z2_).symm
theorem zv_w.ok (I : zv_w G h x m out r T Tm th n0) : sp_ok T.1 ∧ T.2.1.length ≤ 12 := by
  obtain ⟨-, -, -, h2_, -, ⟨R_, old_, cnt_, xx_, xl_⟩, -⟩ := I
  obtain ⟨-, -, b1_, ⟨-, -, -, -, b2_⟩, -⟩ := xx_
  exact ⟨b1_, by rw [xl_, zc_l_len]; exact b2_⟩
theorem zv_w.rt (a : zv_w G h x m out r T Tm th n0) {q t t' : Nat} {vs : List Value} (hg : am_g G h q = some (t, vs)) (hq : 1000 ≤ q) (h1 : t < 1000) (ht : t' % 100 = t % 100) : zv_w G (am_s h q (t', vs)) x m out r T Tm th n0 := by
  obtain ⟨L_, ⟨⟨vx_, kx_⟩, ⟨vm_, km_⟩, ⟨vo_, ko_⟩⟩, b_, h2_, e_, c_⟩ := a
  obtain ⟨z1_, z2_⟩ := zb_eq.rt hg hq ht
  exact ⟨L_.eq z1_, ⟨⟨_, zt_rt hg hq h1 kx_ (by decide)⟩, ⟨_, zt_rt hg hq h1 km_ (by decide)⟩, ⟨_, zt_rt hg hq h1 ko_ (by decide)⟩⟩, b_, h2_, z2_ _ e_, c_⟩
/-- the typed picture's own answer -/
theorem zv_w.typed (I : zv_w G h x m out r T Tm th n0) (hT : ck_HT li_X gT K (am_g G h)) : ∃ s1 : Value, am_g G h out = some (1016, [.long n0, s1]) := by
  obtain ⟨-, ⟨-, -, ⟨vo_, ko_⟩⟩, -⟩ := id I
  obtain ⟨n2_, s2_, e2_⟩ := zv_out hT ko_
  rw [e2_] at ko_
  rw [I.outv ko_] at ko_
  exact ⟨s2_, ko_⟩
end ZVW
section ZVR
variable {l : Launch} {G : am_G} {K : Int32} {y : MethodName} {cw : Cond} {fr lo mc ms : Nat} {a : List Value} {h : List am_C} {x m out : Nat} {r : Nat → Nat} {T Tm : sp_T} {th0 : Int} {n0 : Int64} {P1 : am_O → List am_C → Prop} {D : Int → Int → sp_T → Prop}
/-- a call of the reference: what it threw is kept, the answer's cell stays -/
theorem zv_ref2 (hT_ : ck_HT li_X gT K (am_g G h)) (I : zv_w G h x m out r T Tm th0 n0) (t1 : am_M l G y cw fr lo mc ms a h P1) (hP1 : ∀ o k, P1 o k → ck_HT li_X gT K (am_g G k) ∧ ∃ M, ck_Kp M [] (am_g G h) (am_g G k))
    (t2 : ∀ (h2 : List am_C) (o : Nat → Nat) (tx now qw : Nat), zm_x G h2 o m tx now qw th0 Tm.2.2.1 Tm.2.2.2.1 Tm.2.2.2.2 Tm.1 Tm.2.1 → sp_ok Tm.1 → Tm.2.1.length ≤ 12 → am_M l G y cw fr lo mc ms a h2 (fun o k2 => ∃ (v th : Int) (T' : sp_T), D v th T' ∧ zm_fr G h2 k2 ∧ zm_Y G k2 m th T' ∧ o = .inl (some (.int (Int32.ofInt v))))) :
    am_M l G y cw fr lo mc ms a h (fun o k => P1 o k ∧ ∃ (v th : Int) (T' : sp_T), D v th T' ∧ o = .inl (some (.int (Int32.ofInt v))) ∧ (sp_ok T'.1 ∧ T'.2.1.length ≤ 12 → zv_w G k x m out r T T' th n0)) := by
  obtain ⟨L_, ⟨⟨vx_, kx_⟩, ⟨vm_, km_⟩, ⟨vo_, ko_⟩⟩, ⟨o0_, ok_, l12_⟩, h2_, e_, ⟨R_, old_, cnt_, xx_, xl_⟩, ⟨ow_, tx_, now_, qw_, mm_⟩, s0_, g0_⟩ := I
  refine (zb_join e_ t1 (t2 h2_ ow_ tx_ now_ qw_ mm_ ok_ l12_)).mono fun o k hq => ?_
  obtain ⟨p1_, o2_, k2_, ⟨a_, th2_, T2_, d_, fr_, ⟨ow2_, tx2_, now2_, qw2_, mm2_⟩, eo_⟩, zo_, er_⟩ := hq
  obtain ⟨hTk_, M_, kp_⟩ := hP1 o k p1_
  obtain ⟨vx2_, kx2_, -⟩ := zt_kp kp_ kx_
  obtain ⟨vm2_, km2_, -⟩ := zt_kp kp_ km_
  obtain ⟨vo2_, ko2_, -⟩ := zt_kp kp_ ko_
  obtain ⟨n2_, s2_, e2_⟩ := zv_out hTk_ ko2_
  rw [e2_] at ko2_
  have g2_ : am_g G k2_ out = some (1016, [.long n0, s0_]) := fr_.2 _ _ _ g0_ (by decide)
  have z_ := (er_.cell o0_ ko2_ g2_ rfl (by decide)).2 0 _ _ rfl rfl
  have z2_ : n0 = n2_ := Value.long.inj (zb_rvl (show am_rv G (.long n0) = am_rv G (.long n2_) from z_))
  rw [← z2_] at ko2_
  have xk2_ := xx_.rf e_.ti hT_ kx_ fr_
  have sh_ : zb_sh G zt_A k k2_ (zb_mg zt_A k k2_) := zb_mg.sh
  refine ⟨p1_, a_, th2_, T2_, d_, ?_, fun hok => ⟨er_.l, ⟨⟨_, kx2_⟩, ⟨_, km2_⟩, ⟨_, ko2_⟩⟩, ⟨o0_, hok⟩, zb_mg zt_A k k2_, zb_mg.eq er_ zt_A62, ⟨R_, old_, cnt_, xk2_.mg er_.ti hTk_ (sh_.le zt_BA) kx2_, xl_⟩, ⟨ow2_, tx2_, now2_, qw2_, mm2_.mg er_.ti er_.l hTk_ (sh_.le zt_NA) km2_⟩, s2_, zb_mg.ty er_.len ko2_ rfl⟩⟩
  rw [eo_] at zo_
  exact zv_oi zo_
end ZVR
/-- a changing call of the class, its answer told -/
def cv_clw (G : am_G) (D : Int → Int → sp_T → Int → Int → sp_T → Prop) (na : Nat) (CM : ck_CM) : ck_CM := fun a h mc ms P => ∀ (x m out : Nat) (r : Nat → Nat) (T : sp_T) (i1 i2 : Int32), zv_k G h x m out r T T → a = .ref x :: (([.int i1, .int i2] : List Value).take na ++ [.ref out]) → CM a h mc ms (fun o h' => P o h' ∧ ∃ (v th : Int) (T' : sp_T) (th0 : Int) (n0 : Int64), D i1.toInt i2.toInt T v th T' ∧ zv_w G h' x m out r T' T th0 n0 ∧ o = .inl (some (.int (Int32.ofInt th))) ∧ (th = 0 → n0 = Int64.ofInt v))
/-- a changing call of the reference, its answer told -/
def cv_rew (G : am_G) (D : Int → Int → sp_T → Int → Int → sp_T → Prop) (na : Nat) (CM : ck_CM) : ck_CM := fun a h mc ms P => ∀ (x m out : Nat) (r : Nat → Nat) (T T' : sp_T) (i1 i2 : Int32) (v th th0 : Int) (n0 : Int64), zv_w G h x m out r T' T th0 n0 → D i1.toInt i2.toInt T v th T' → a = .ref m :: ([.int i1, .int i2] : List Value).take na → CM a h mc ms (fun o h' => P o h' ∧ zv_w G h' x m out r T' T' th n0 ∧ ∃ b : Int, o = .inl (some (.int (Int32.ofInt b))) ∧ (th = 0 → v = b))
/-- what the reference threw -/
def cv_thr (G : am_G) (CM : ck_CM) : ck_CM := fun a h mc ms P => ∀ (x m out : Nat) (r : Nat → Nat) (T Tm : sp_T) (th : Int) (n0 : Int64), zv_w G h x m out r T Tm th n0 → a = [.ref m] → CM a h mc ms (fun o h' => P o h' ∧ zv_w G h' x m out r T Tm th n0 ∧ o = .inl (some (.int (Int32.ofInt th))))
section CVW
variable {l : Launch} {G : am_G} {y : MethodName} {cw : Cond} {fr lo : Nat} {c : ck_KK}
theorem cv_clw_ok {D : Int → Int → sp_T → Int → Int → sp_T → Prop} {na : Nat} (hc : ck_Con (am_cm l G y cw fr lo) G li_X gT c) (hr : c.2.2.2.1 = []) {C S : Nat} (hC1 : c.2.1.1 = ck_k C) (hC2 : c.2.1.2 = ck_k S)
    (ex : ∀ (x out : Nat) (r : Nat → Nat) (T : sp_T) (i1 i2 : Int32) (h2 : List am_C) (R : Nat → sp_S) (old cnt : Nat) (n0 : Int64) (s0 : Value), zc_x G h2 x r T.2.2.1 T.2.2.2.1 T.2.2.2.2 T.1 R old cnt → T.2.1 = zc_l R old cnt → am_g G h2 out = some (1016, [.long n0, s0]) → (out < x ∨ x + 228 ≤ out) → out ≠ r 4 → 1000 ≤ out → am_M l G y cw fr lo C S (.ref x :: (([.int i1, .int i2] : List Value).take na ++ [.ref out])) h2 (fun o k2 => ∃ (v th : Int) (T' : sp_T), D i1.toInt i2.toInt T v th T' ∧ zc_of G h2 k2 x r out ∧ zc_Y G k2 x r T' ∧ (th = 0 → am_g G k2 out = some (1016, [.long (Int64.ofInt v), s0])) ∧ o = .inl (some (.int (Int32.ofInt th))))) :
    ck_Con (cv_clw G D na (am_cm l G y cw fr lo)) G li_X gT c := by
  intro K r s a h hH hV hC hF hn hS mc ms hmc hms x m out rr T i1 i2 I ha
  have t1_ := hc K r s a h hH hV hC hF hn hS mc ms hmc hms
  rw [hC1] at hmc
  rw [hC2] at hms
  have f1_ := ck_Lv.fn hmc (ck_Lv.k r _)
  have e1_ : mc = C := by omega
  have f2_ := ck_Lv.fn hms (ck_Lv.k r _)
  have e2_ : ms = S := by omega
  subst e1_
  subst e2_
  subst ha
  exact am_M.mono (zv_class (I.s hH) t1_ (fun o k p => ⟨p.1, _, cv_kp hr p⟩) (fun h2 R old cnt n0 s0 => ex x out rr T i1 i2 h2 R old cnt n0 s0)) fun o k hq => by
    obtain ⟨p_, v_, th_, T2_, d_, z_, o_, t_⟩ := hq
    obtain ⟨th0_, n0_, w_⟩ := z_.k.w
    refine ⟨p_, v_, th_, T2_, th0_, n0_, d_, w_, o_, fun hz => ?_⟩
    obtain ⟨s1_, g1_⟩ := t_ hz
    exact (w_.outv g1_).symm
theorem cv_clw_n {D : Int → Int → sp_T → Int → Int → sp_T → Prop} {na : Nat} (hc : ck_Con (cv_clw G D na (am_cm l G y cw fr lo)) G li_X gT c) (hx : c.2.2.2.2.2 = []) : ck_Con (cv_clw G D na (am_cn l G y cw fr lo)) G li_X gT c := by
  intro K r s a h h1 h2 h3 h4 h5 h6 mc ms h7 h8 x m out rr T i1 i2 I ha
  refine ⟨hc K r s a h h1 h2 h3 h4 h5 h6 mc ms h7 h8 x m out rr T i1 i2 I ha, fun E h' hp => ?_⟩
  have z_ : E ∈ c.2.2.2.2.2 := hp.1.2.2.2
  rw [hx] at z_
  cases z_
theorem cv_rew_ok {D : Int → Int → sp_T → Int → Int → sp_T → Prop} {na : Nat} (hc : ck_Con (am_cm l G y cw fr lo) G li_X gT c) (hr : c.2.2.2.1 = []) {C S : Nat} (hC1 : c.2.1.1 = ck_k C) (hC2 : c.2.1.2 = ck_k S)
    (fn : ∀ {e e2 a th a2 th2 : Int} {T T' T2 : sp_T}, D e e2 T a th T' → D e e2 T a2 th2 T2 → sp_al a th T' a2 th2 T2)
    (ex : ∀ (m : Nat) (T : sp_T) (i1 i2 : Int32) (h2 : List am_C) (o : Nat → Nat) (tx now qw : Nat) (th : Int), zm_x G h2 o m tx now qw th T.2.2.1 T.2.2.2.1 T.2.2.2.2 T.1 T.2.1 → sp_ok T.1 → T.2.1.length ≤ 12 → am_M l G y cw fr lo C S (.ref m :: ([.int i1, .int i2] : List Value).take na) h2 (fun o k2 => ∃ (v th : Int) (T' : sp_T), D i1.toInt i2.toInt T v th T' ∧ zm_fr G h2 k2 ∧ zm_Y G k2 m th T' ∧ o = .inl (some (.int (Int32.ofInt v))))) :
    ck_Con (cv_rew G D na (am_cm l G y cw fr lo)) G li_X gT c := by
  intro K r s a h hH hV hC hF hn hS mc ms hmc hms x m out rr T T' i1 i2 v th th0 n0 I hd ha
  have t1_ := hc K r s a h hH hV hC hF hn hS mc ms hmc hms
  rw [hC1] at hmc
  rw [hC2] at hms
  have f1_ := ck_Lv.fn hmc (ck_Lv.k r _)
  have e1_ : mc = C := by omega
  have f2_ := ck_Lv.fn hms (ck_Lv.k r _)
  have e2_ : ms = S := by omega
  subst e1_
  subst e2_
  subst ha
  refine am_M.mono (zv_ref2 hH I t1_ (fun o k p => ⟨p.1, _, cv_kp hr p⟩) (fun h2 o tx now qw => ex m T i1 i2 h2 o tx now qw th0)) fun o k hq => ?_
  obtain ⟨p_, v2_, th2_, T2_, d2_, o_, z_⟩ := hq
  have al_ := fn hd d2_
  have e1_ : th = th2_ := al_.1
  have eT_ : T' = T2_ := al_.2.1
  rw [← eT_, ← e1_] at z_
  exact ⟨p_, z_ I.ok, v2_, o_, fun hz => al_.2.2 hz⟩
theorem cv_thr_ok (hc : ck_Con (am_cm l G y cw fr lo) G li_X gT c) (hr : c.2.2.2.1 = [])
    (ex : ∀ (m mc ms : Nat) (T : sp_T) (h2 : List am_C) (o : Nat → Nat) (tx now qw : Nat) (th : Int), zm_x G h2 o m tx now qw th T.2.2.1 T.2.2.2.1 T.2.2.2.2 T.1 T.2.1 → am_M l G y cw fr lo mc ms [.ref m] h2 (fun o k2 => k2 = h2 ∧ o = .inl (some (.int (Int32.ofInt th))))) :
    ck_Con (cv_thr G (am_cm l G y cw fr lo)) G li_X gT c := by
  intro K r s a h hH hV hC hF hn hS mc ms hmc hms x m out rr T Tm th n0 I ha
  have t1_ := hc K r s a h hH hV hC hF hn hS mc ms hmc hms
  subst ha
  refine am_M.mono (zv_ref2 (D := fun v2 th2 T2 => v2 = th ∧ th2 = th ∧ T2 = Tm) hH I t1_ (fun o k p => ⟨p.1, _, cv_kp hr p⟩) (fun h2 o tx now qw hx _ _ => am_M.mono (ex m mc ms Tm h2 o tx now qw th hx) fun o2 k2 hq => ?_)) fun o k hq => ?_
  · obtain ⟨q1_, q2_⟩ := hq
    subst q1_
    exact ⟨th, th, Tm, ⟨rfl, rfl, rfl⟩, zm_fr.rf, ⟨_, _, _, _, hx⟩, q2_⟩
  · obtain ⟨p_, v2_, th2_, T2_, ⟨d1_, d2_, d3_⟩, o_, z_⟩ := hq
    subst d1_
    subst d2_
    subst d3_
    exact ⟨p_, z_ I.2.2.1.2, o_⟩
end CVW
