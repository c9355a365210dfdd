/-! CALLS THAT THROW NOTHING; KNOCK AND SIZE OF THE CLASS -/
section CVN
variable {l : Launch} {G : am_G} {y : MethodName} {cw : Cond} {fr lo : Nat} {c : ck_KK}
theorem cv_ask_n (hc : ck_Con (cv_ask G (am_cm l G y cw fr lo)) G li_X gT c) (hx : c.2.2.2.2.2 = []) : ck_Con (cv_ask G (am_cn l G y cw fr lo)) G li_X gT c := by
  intro K r s a h h1 h2 h3 h4 h5 h6 mc ms h7 h8 x m out rr T Tm I
  refine ⟨hc K r s a h h1 h2 h3 h4 h5 h6 mc ms h7 h8 x m out rr T Tm I, fun E h' hp => ?_⟩
  have z_ : E ∈ c.2.2.2.2.2 := hp.1.2.2.2
  rw [hx] at z_
  cases z_
theorem cv_cls_n {D : Int → Int → sp_T → Int → Int → sp_T → Prop} {na : Nat} (hc : ck_Con (cv_cls G D na (am_cm l G y cw fr lo)) G li_X gT c) (hx : c.2.2.2.2.2 = []) : ck_Con (cv_cls G D na (am_cn l G y cw fr lo)) G li_X gT c := by
  intro K r s a h h1 h2 h3 h4 h5 h6 mc ms h7 h8 x m out rr T i1 i2 I ha
  refine ⟨hc K r s a h h1 h2 h3 h4 h5 h6 mc ms h7 h8 x m out rr T i1 i2 I ha, fun E h' hp => ?_⟩
  have z_ : E ∈ c.2.2.2.2.2 := hp.1.2.2.2
  rw [hx] at z_
  cases z_
theorem cv_ref_n {D : Int → Int → sp_T → Int → Int → sp_T → Prop} {na : Nat} (hc : ck_Con (cv_ref G D na (am_cm l G y cw fr lo)) G li_X gT c) (hx : c.2.2.2.2.2 = []) : ck_Con (cv_ref G D na (am_cn l G y cw fr lo)) G li_X gT c := by
  intro K r s a h h1 h2 h3 h4 h5 h6 mc ms h7 h8 x m out rr T T' i1 i2 I hd ha
  refine ⟨hc K r s a h h1 h2 h3 h4 h5 h6 mc ms h7 h8 x m out rr T T' i1 i2 I hd ha, fun E h' hp => ?_⟩
  have z_ : E ∈ c.2.2.2.2.2 := hp.1.2.2.2
  rw [hx] at z_
  cases z_
end CVN
section ZVK
variable {l : Launch} {G : am_G} {K : Int32} {y : MethodName} {cw : Cond} {fr lo mc ms : Nat} {a : List Value} {h : List am_C} {x m out : Nat} {r : Nat → Nat} {T Tm : sp_T} {P1 : am_O → List am_C → Prop} {D : Int → Int → sp_T → Prop}
/-- a changing call of the class that tells nothing in the cell behind -/
theorem zv_class0 (I : zv_s G K h x m out r T Tm) (t1 : am_M l G y cw fr lo mc ms a h P1) (hP1 : ∀ o k, P1 o k → ck_HT li_X gT K (am_g G k) ∧ ∃ M, ck_Kp M [] (am_g G h) (am_g G k))
    (t2 : ∀ (h2 : List am_C) (R : Nat → sp_S) (old cnt : Nat), zc_x G h2 x r T.2.2.1 T.2.2.2.1 T.2.2.2.2 T.1 R old cnt → T.2.1 = zc_l R old cnt → am_M l G y cw fr lo mc ms a h2 (fun o k2 => ∃ (v th : Int) (T' : sp_T), D v th T' ∧ zc_of G h2 k2 x r out ∧ zc_Y G k2 x r T' ∧ o = .inl (some (.int (Int32.ofInt v))))) :
    am_M l G y cw fr lo mc ms a h (fun o k => P1 o k ∧ ∃ (v th : Int) (T' : sp_T), D v th T' ∧ zv_s G K k x m out r T' Tm ∧ o = .inl (some (.int (Int32.ofInt v)))) := by
  obtain ⟨hT_, L_, ⟨⟨vx_, kx_⟩, ⟨vm_, km_⟩, ⟨vo_, ko_⟩⟩, ⟨o0_, ok_, l12_⟩, h2_, e_, ⟨R_, old_, cnt_, xx_, xl_⟩, ⟨th_, ow_, tx_, now_, qw_, mm_⟩, n0_, s0_, g0_⟩ := I
  refine (zb_join e_ t1 (t2 h2_ R_ old_ cnt_ xx_ xl_)).mono fun o k hq => ?_
  obtain ⟨p1_, o2_, k2_, ⟨a_, th2_, T2_, d_, of_, ⟨R2_, old2_, cnt2_, xx2_, xl2_⟩, eo_⟩, zo_, er_⟩ := hq
  obtain ⟨hTk_, M_, kp_⟩ := hP1 o k p1_
  obtain ⟨vx2_, kx2_, -⟩ := zt_kp kp_ kx_
  obtain ⟨vm2_, km2_, -⟩ := zt_kp kp_ km_
  obtain ⟨vo2_, ko2_, -⟩ := zt_kp kp_ ko_
  obtain ⟨n2_, s2_, e2_⟩ := zv_out hTk_ ko2_
  rw [e2_] at ko2_
  have mk2_ := zm_x.cl e_.ti L_ hT_ xx_ kx_ ko_ of_ mm_ km_
  have sh_ : zb_sh G zt_A k k2_ (zb_mg zt_A k k2_) := zb_mg.sh
  refine ⟨p1_, a_, th2_, T2_, d_, ⟨hTk_, er_.l, ⟨⟨_, kx2_⟩, ⟨_, km2_⟩, ⟨_, ko2_⟩⟩, ⟨o0_, ok_, l12_⟩, zb_mg zt_A k k2_, zb_mg.eq er_ zt_A62, ⟨R2_, old2_, cnt2_, xx2_.mg er_.ti hTk_ (sh_.le zt_BA) kx2_, xl2_⟩, ⟨th_, ow_, tx_, now_, qw_, mk2_.mg er_.ti er_.l hTk_ (sh_.le zt_NA) km2_⟩, n2_, s2_, zb_mg.ty er_.len ko2_ rfl⟩, ?_⟩
  rw [eo_] at zo_
  exact zv_oi zo_
end ZVK
def cv_cls0 (G : am_G) (D : Int → Int → sp_T → Int → Int → sp_T → Prop) (CM : ck_CM) : ck_CM := fun a h mc ms P => ∀ (x m out : Nat) (r : Nat → Nat) (T : sp_T) (i1 i2 : Int32), zv_k G h x m out r T T → a = [.ref x] → CM a h mc ms (fun o h' => P o h' ∧ ∃ (v th : Int) (T' : sp_T), D i1.toInt i2.toInt T v th T' ∧ zv_k G h' x m out r T' T ∧ o = .inl (some (.int (Int32.ofInt v))))
def cv_ref0 (G : am_G) (D : Int → Int → sp_T → Int → Int → sp_T → Prop) (CM : ck_CM) : ck_CM := fun a h mc ms P => ∀ (x m out : Nat) (r : Nat → Nat) (T T' : sp_T) (i1 i2 : Int32), zv_k G h x m out r T' T → (∃ v th : Int, D i1.toInt i2.toInt T v th T') → a = [.ref m] → CM a h mc ms (fun o h' => P o h' ∧ zv_k G h' x m out r T' T' ∧ ∃ v th : Int, D i1.toInt i2.toInt T v th T' ∧ o = .inl (some (.int (Int32.ofInt v))))
section CVK
variable {l : Launch} {G : am_G} {y : MethodName} {cw : Cond} {fr lo : Nat} {c : ck_KK} {D : Int → Int → sp_T → Int → Int → sp_T → Prop}
theorem cv_cls0_ok (hc : ck_Con (am_cm l G y cw fr lo) G li_X gT c) (hr : c.2.2.2.1 = [])
    (ex : ∀ (x out mc ms : Nat) (r : Nat → Nat) (T : sp_T) (i1 i2 : Int32) (h2 : List am_C) (R : Nat → sp_S) (old cnt : Nat), zc_x G h2 x r T.2.2.1 T.2.2.2.1 T.2.2.2.2 T.1 R old cnt → T.2.1 = zc_l R old cnt → am_M l G y cw fr lo mc ms [.ref x] h2 (fun o k2 => ∃ (v th : Int) (T' : sp_T), D i1.toInt i2.toInt T v th T' ∧ zc_of G h2 k2 x r out ∧ zc_Y G k2 x r T' ∧ o = .inl (some (.int (Int32.ofInt v))))) :
    ck_Con (cv_cls0 G D (am_cm l G y cw fr lo)) G li_X gT c := by
  intro K r s a h hH hV hC hF hn hS mc ms hmc hms x m out rr T i1 i2 I ha
  have t1_ := hc K r s a h hH hV hC hF hn hS mc ms hmc hms
  subst ha
  exact am_M.mono (zv_class0 (I.s hH) t1_ (fun o k p => ⟨p.1, _, cv_kp hr p⟩) (fun h2 R old cnt => ex x out mc ms rr T i1 i2 h2 R old cnt)) fun o k hq => by
    obtain ⟨p_, v_, th_, T2_, d_, z_, o_⟩ := hq
    exact ⟨p_, v_, th_, T2_, d_, z_.k, o_⟩
theorem cv_ref0_ok (hc : ck_Con (am_cm l G y cw fr lo) G li_X gT c) (hr : c.2.2.2.1 = [])
    (fn : ∀ {e e2 a th a2 th2 : Int} {T T' T2 : sp_T}, D e e2 T a th T' → D e e2 T a2 th2 T2 → sp_al a th T' a2 th2 T2)
    (ex : ∀ (m mc ms : Nat) (T : sp_T) (i1 i2 : Int32) (h2 : List am_C) (o : Nat → Nat) (tx now qw : Nat) (th : Int), zm_x G h2 o m tx now qw th T.2.2.1 T.2.2.2.1 T.2.2.2.2 T.1 T.2.1 → sp_ok T.1 → T.2.1.length ≤ 12 → am_M l G y cw fr lo mc ms [.ref m] h2 (fun o k2 => ∃ (v th : Int) (T' : sp_T), D i1.toInt i2.toInt T v th T' ∧ zm_fr G h2 k2 ∧ zm_Y G k2 m th T' ∧ o = .inl (some (.int (Int32.ofInt v))))) :
    ck_Con (cv_ref0 G D (am_cm l G y cw fr lo)) G li_X gT c := by
  intro K r s a h hH hV hC hF hn hS mc ms hmc hms x m out rr T T' i1 i2 I hd ha
  have t1_ := hc K r s a h hH hV hC hF hn hS mc ms hmc hms
  subst ha
  have I_ := I.s hH
  refine am_M.mono (zv_ref I_ t1_ (fun o k p => ⟨p.1, _, cv_kp hr p⟩) (fun h2 o tx now qw th => ex m mc ms T i1 i2 h2 o tx now qw th)) fun o k hq => ?_
  obtain ⟨p_, v2_, th2_, T2_, d2_, o_, z_⟩ := hq
  obtain ⟨v_, th_, d_⟩ := hd
  have al_ := fn d_ d2_
  have eT_ : T' = T2_ := al_.2.1
  rw [← eT_] at z_ d2_
  exact ⟨p_, (z_ I_.ok).k, v2_, th2_, d2_, o_⟩
end CVK
