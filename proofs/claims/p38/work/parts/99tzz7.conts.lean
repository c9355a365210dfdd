/-! CONTRACTS THAT CARRY BOTH SIDES ON -/
def cv_ask (G : am_G) (CM : ck_CM) : ck_CM := fun a h mc ms P => ∀ (x m out : Nat) (r : Nat → Nat) (T Tm : sp_T), zv_k G h x m out r T Tm → CM a h mc ms (fun o h' => P o h' ∧ zv_k G h' x m out r T Tm)
def cv_cls (G : am_G) (D : Int → Int → sp_T → Int → Int → sp_T → Prop) (na : Nat) (CM : ck_CM) : ck_CM := fun a h mc ms P => ∀ (x m out : Nat) (r : Nat → Nat) (T : sp_T) (i1 i2 : Int32), zv_k G h x m out r T T → a = .ref x :: (([.int i1, .int i2] : List Value).take na ++ [.ref out]) → CM a h mc ms (fun o h' => P o h' ∧ ∃ (v th : Int) (T' : sp_T), D i1.toInt i2.toInt T v th T' ∧ zv_k G h' x m out r T' T)
def cv_ref (G : am_G) (D : Int → Int → sp_T → Int → Int → sp_T → Prop) (na : Nat) (CM : ck_CM) : ck_CM := fun a h mc ms P => ∀ (x m out : Nat) (r : Nat → Nat) (T T' : sp_T) (i1 i2 : Int32), zv_k G h x m out r T' T → (∃ v th : Int, D i1.toInt i2.toInt T v th T') → a = .ref m :: ([.int i1, .int i2] : List Value).take na → CM a h mc ms (fun o h' => P o h' ∧ zv_k G h' x m out r T' T')
theorem cv_rq {s : List Nat} : ck_rq [] s = [] := by cases s <;> rfl
section CVC
variable {l : Launch} {G : am_G} {y : MethodName} {cw : Cond} {fr lo : Nat} {c : ck_KK}
theorem cv_kp {X : ck_XT} {T : ck_TT} {K : Int32} {r : List Int} {s : List Nat} {h k : List am_C} {o : am_O} (hr : c.2.2.2.1 = []) (p : ck_Po G X T K c r s h o k) : ck_Kp c.2.2.1 [] (am_g G h) (am_g G k) := by
  have z_ := p.2.1
  rw [hr, cv_rq] at z_
  exact z_
theorem cv_ask_ok (hc : ck_Con (am_cm l G y cw fr lo) G li_X gT c) (hm : zv_m c.2.2.1 = true) (hr : c.2.2.2.1 = []) : ck_Con (cv_ask G (am_cm l G y cw fr lo)) G li_X gT c := by
  intro K r s a h hH hV hC hF hn hS mc ms hmc hms x m out rr T Tm I
  have t1_ := hc K r s a h hH hV hC hF hn hS mc ms hmc hms
  exact am_M.mono (zv_ask (I.s hH) t1_ (fun o k p => ⟨p.1, _, cv_kp hr p, hm⟩)) fun o k hq => ⟨hq.1, hq.2.k⟩
theorem cv_cls_ok {D : Int → Int → sp_T → Int → Int → sp_T → Prop} {na : Nat} (hc : ck_Con (am_cm l G y cw fr lo) G li_X gT c) (hr : c.2.2.2.1 = []) {C S : Nat} (hC1 : c.2.1.1 = ck_k C) (hC2 : c.2.1.2 = ck_k S)
    (ex : ∀ (x out : Nat) (r : Nat → Nat) (T : sp_T) (i1 i2 : Int32) (h2 : List am_C) (R : Nat → sp_S) (old cnt : Nat) (n0 : Int64) (s0 : Value), zc_x G h2 x r T.2.2.1 T.2.2.2.1 T.2.2.2.2 T.1 R old cnt → T.2.1 = zc_l R old cnt → am_g G h2 out = some (1016, [.long n0, s0]) → (out < x ∨ x + 228 ≤ out) → out ≠ r 4 → 1000 ≤ out → am_M l G y cw fr lo C S (.ref x :: (([.int i1, .int i2] : List Value).take na ++ [.ref out])) h2 (fun o k2 => ∃ (v th : Int) (T' : sp_T), D i1.toInt i2.toInt T v th T' ∧ zc_of G h2 k2 x r out ∧ zc_Y G k2 x r T' ∧ (th = 0 → am_g G k2 out = some (1016, [.long (Int64.ofInt v), s0])) ∧ o = .inl (some (.int (Int32.ofInt th))))) :
    ck_Con (cv_cls G D na (am_cm l G y cw fr lo)) G li_X gT c := by
  intro K r s a h hH hV hC hF hn hS mc ms hmc hms x m out rr T i1 i2 I ha
  have t1_ := hc K r s a h hH hV hC hF hn hS mc ms hmc hms
  rw [hC1] at hmc
  rw [hC2] at hms
  have f1_ := ck_Lv.fn hmc (ck_Lv.k r _)
  have e1_ : mc = C := by omega
  have f2_ := ck_Lv.fn hms (ck_Lv.k r _)
  have e2_ : ms = S := by omega
  subst e1_
  subst e2_
  subst ha
  exact am_M.mono (zv_class (I.s hH) t1_ (fun o k p => ⟨p.1, _, cv_kp hr p⟩) (fun h2 R old cnt n0 s0 => ex x out rr T i1 i2 h2 R old cnt n0 s0)) fun o k hq => by
    obtain ⟨p_, v_, th_, T2_, d_, z_, -⟩ := hq
    exact ⟨p_, v_, th_, T2_, d_, z_.k⟩
theorem cv_ref_ok {D : Int → Int → sp_T → Int → Int → sp_T → Prop} {na : Nat} (hc : ck_Con (am_cm l G y cw fr lo) G li_X gT c) (hr : c.2.2.2.1 = []) {C S : Nat} (hC1 : c.2.1.1 = ck_k C) (hC2 : c.2.1.2 = ck_k S)
    (fn : ∀ {e e2 a th a2 th2 : Int} {T T' T2 : sp_T}, D e e2 T a th T' → D e e2 T a2 th2 T2 → sp_al a th T' a2 th2 T2)
    (ex : ∀ (m : Nat) (T : sp_T) (i1 i2 : Int32) (h2 : List am_C) (o : Nat → Nat) (tx now qw : Nat) (th : Int), zm_x G h2 o m tx now qw th T.2.2.1 T.2.2.2.1 T.2.2.2.2 T.1 T.2.1 → sp_ok T.1 → T.2.1.length ≤ 12 → am_M l G y cw fr lo C S (.ref m :: ([.int i1, .int i2] : List Value).take na) h2 (fun o k2 => ∃ (v th : Int) (T' : sp_T), D i1.toInt i2.toInt T v th T' ∧ zm_fr G h2 k2 ∧ zm_Y G k2 m th T' ∧ o = .inl (some (.int (Int32.ofInt v))))) :
    ck_Con (cv_ref G D na (am_cm l G y cw fr lo)) G li_X gT c := by
  intro K r s a h hH hV hC hF hn hS mc ms hmc hms x m out rr T T' i1 i2 I hd ha
  have t1_ := hc K r s a h hH hV hC hF hn hS mc ms hmc hms
  rw [hC1] at hmc
  rw [hC2] at hms
  have f1_ := ck_Lv.fn hmc (ck_Lv.k r _)
  have e1_ : mc = C := by omega
  have f2_ := ck_Lv.fn hms (ck_Lv.k r _)
  have e2_ : ms = S := by omega
  subst e1_
  subst e2_
  subst ha
  have I_ := I.s hH
  refine am_M.mono (zv_ref I_ t1_ (fun o k p => ⟨p.1, _, cv_kp hr p⟩) (fun h2 o tx now qw th => ex m T i1 i2 h2 o tx now qw th)) fun o k hq => ?_
  obtain ⟨p_, v2_, th2_, T2_, d2_, -, z_⟩ := hq
  obtain ⟨v_, th_, d_⟩ := hd
  have al_ := fn d_ d2_
  have eT_ : T' = T2_ := al_.2.1
  rw [← eT_] at z_
  exact ⟨p_, (z_ I_.ok).k⟩
end CVC
