/-! CALLS OF THREE INTS, THEIR ANSWERS TOLD -/
def cv_clx (G : am_G) (D : Int → Int → Int → sp_T → Int → Int → sp_T → Prop) (CM : ck_CM) : ck_CM := fun a h mc ms P => ∀ (x m out : Nat) (r : Nat → Nat) (T : sp_T) (i1 i2 i3 : Int32), zv_k G h x m out r T T → a = [.ref x, .int i1, .int i2, .int i3, .ref out] → CM a h mc ms (fun o h' => P o h' ∧ ∃ (v th : Int) (T' : sp_T) (th0 : Int) (n0 : Int64), D i1.toInt i2.toInt i3.toInt T v th T' ∧ zv_w G h' x m out r T' T th0 n0 ∧ o = .inl (some (.int (Int32.ofInt th))) ∧ (th = 0 → n0 = Int64.ofInt v))
def cv_rex (G : am_G) (D : Int → Int → Int → sp_T → Int → Int → sp_T → Prop) (CM : ck_CM) : ck_CM := fun a h mc ms P => ∀ (x m out : Nat) (r : Nat → Nat) (T T' : sp_T) (i1 i2 i3 : Int32) (v th th0 : Int) (n0 : Int64), zv_w G h x m out r T' T th0 n0 → D i1.toInt i2.toInt i3.toInt T v th T' → a = [.ref m, .int i1, .int i2, .int i3] → CM a h mc ms (fun o h' => P o h' ∧ zv_w G h' x m out r T' T' th n0 ∧ ∃ b : Int, o = .inl (some (.int (Int32.ofInt b))) ∧ (th = 0 → v = b))
section CVX
variable {l : Launch} {G : am_G} {y : MethodName} {cw : Cond} {fr lo : Nat} {c : ck_KK}
theorem cv_clx_ok {D : Int → Int → Int → sp_T → Int → Int → sp_T → Prop} (hc : ck_Con (am_cm l G y cw fr lo) G li_X gT c) (hr : c.2.2.2.1 = []) {C S : Nat} (hC1 : c.2.1.1 = ck_k C) (hC2 : c.2.1.2 = ck_k S)
    (ex : ∀ (x out : Nat) (r : Nat → Nat) (T : sp_T) (i1 i2 i3 : Int32) (h2 : List am_C) (R : Nat → sp_S) (old cnt : Nat) (n0 : Int64) (s0 : Value), zc_x G h2 x r T.2.2.1 T.2.2.2.1 T.2.2.2.2 T.1 R old cnt → T.2.1 = zc_l R old cnt → am_g G h2 out = some (1016, [.long n0, s0]) → (out < x ∨ x + 228 ≤ out) → out ≠ r 4 → 1000 ≤ out → am_M l G y cw fr lo C S [.ref x, .int i1, .int i2, .int i3, .ref out] h2 (fun o k2 => ∃ (v th : Int) (T' : sp_T), D i1.toInt i2.toInt i3.toInt T v th T' ∧ zc_of G h2 k2 x r out ∧ zc_Y G k2 x r T' ∧ (th = 0 → am_g G k2 out = some (1016, [.long (Int64.ofInt v), s0])) ∧ o = .inl (some (.int (Int32.ofInt th))))) :
    ck_Con (cv_clx G D (am_cm l G y cw fr lo)) G li_X gT c := by
  intro K r s a h hH hV hC hF hn hS mc ms hmc hms x m out rr T i1 i2 i3 I ha
  have t1_ := hc K r s a h hH hV hC hF hn hS mc ms hmc hms
  rw [hC1] at hmc
  rw [hC2] at hms
  have f1_ := ck_Lv.fn hmc (ck_Lv.k r _)
  have e1_ : mc = C := by omega
  have f2_ := ck_Lv.fn hms (ck_Lv.k r _)
  have e2_ : ms = S := by omega
  subst e1_
  subst e2_
  subst ha
  exact am_M.mono (zv_class (I.s hH) t1_ (fun o k p => ⟨p.1, _, cv_kp hr p⟩) (fun h2 R old cnt n0 s0 => ex x out rr T i1 i2 i3 h2 R old cnt n0 s0)) fun o k hq => by
    obtain ⟨p_, v_, th_, T2_, d_, z_, o_, t_⟩ := hq
    obtain ⟨th0_, n0_, w_⟩ := z_.k.w
    refine ⟨p_, v_, th_, T2_, th0_, n0_, d_, w_, o_, fun hz => ?_⟩
    obtain ⟨s1_, g1_⟩ := t_ hz
    exact (w_.outv g1_).symm
theorem cv_clx_n {D : Int → Int → Int → sp_T → Int → Int → sp_T → Prop} (hc : ck_Con (cv_clx G D (am_cm l G y cw fr lo)) G li_X gT c) (hx : c.2.2.2.2.2 = []) : ck_Con (cv_clx G D (am_cn l G y cw fr lo)) G li_X gT c := by
  intro K r s a h h1 h2 h3 h4 h5 h6 mc ms h7 h8 x m out rr T i1 i2 i3 I ha
  refine ⟨hc K r s a h h1 h2 h3 h4 h5 h6 mc ms h7 h8 x m out rr T i1 i2 i3 I ha, fun E h' hp => ?_⟩
  have z_ : E ∈ c.2.2.2.2.2 := hp.1.2.2.2
  rw [hx] at z_
  cases z_
theorem cv_rex_ok {D : Int → Int → Int → sp_T → Int → Int → sp_T → Prop} (hc : ck_Con (am_cm l G y cw fr lo) G li_X gT c) (hr : c.2.2.2.1 = []) {C S : Nat} (hC1 : c.2.1.1 = ck_k C) (hC2 : c.2.1.2 = ck_k S)
    (fn : ∀ {e e2 e3 a th a2 th2 : Int} {T T' T2 : sp_T}, D e e2 e3 T a th T' → D e e2 e3 T a2 th2 T2 → sp_al a th T' a2 th2 T2)
    (ex : ∀ (m : Nat) (T : sp_T) (i1 i2 i3 : Int32) (h2 : List am_C) (o : Nat → Nat) (tx now qw : Nat) (th : Int), zm_x G h2 o m tx now qw th T.2.2.1 T.2.2.2.1 T.2.2.2.2 T.1 T.2.1 → sp_ok T.1 → T.2.1.length ≤ 12 → am_M l G y cw fr lo C S [.ref m, .int i1, .int i2, .int i3] h2 (fun o k2 => ∃ (v th : Int) (T' : sp_T), D i1.toInt i2.toInt i3.toInt T v th T' ∧ zm_fr G h2 k2 ∧ zm_Y G k2 m th T' ∧ o = .inl (some (.int (Int32.ofInt v))))) :
    ck_Con (cv_rex G D (am_cm l G y cw fr lo)) G li_X gT c := by
  intro K r s a h hH hV hC hF hn hS mc ms hmc hms x m out rr T T' i1 i2 i3 v th th0 n0 I hd ha
  have t1_ := hc K r s a h hH hV hC hF hn hS mc ms hmc hms
  rw [hC1] at hmc
  rw [hC2] at hms
  have f1_ := ck_Lv.fn hmc (ck_Lv.k r _)
  have e1_ : mc = C := by omega
  have f2_ := ck_Lv.fn hms (ck_Lv.k r _)
  have e2_ : ms = S := by omega
  subst e1_
  subst e2_
  subst ha
  refine am_M.mono (zv_ref2 hH I t1_ (fun o k p => ⟨p.1, _, cv_kp hr p⟩) (fun h2 o tx now qw => ex m T i1 i2 i3 h2 o tx now qw th0)) fun o k hq => ?_
  obtain ⟨p_, v2_, th2_, T2_, d2_, o_, z_⟩ := hq
  have al_ := fn hd d2_
  have e1_ : th = th2_ := al_.1
  have eT_ : T' = T2_ := al_.2.1
  rw [← eT_, ← e1_] at z_
  exact ⟨p_, z_ I.ok, v2_, o_, fun hz => al_.2.2 hz⟩
end CVX
