/-! BOTH SIDES AT ONE HEAP -/
def zt_A (t : Nat) : Bool := [1015, 1014, 1012, 1053, 1054, 1150, 1250, 1350, 1407, 1450, 1007, 1050, 1011, 1019, 1018, 1055, 1017, 42150, 41006, 41106, 41206, 40056, 40156, 40256, 2550, 41002].any fun k => Nat.beq k t
theorem zt_A62 (t : Nat) (h : zt_A t = true) : t % 100 < 62 := by
  have d_ : ∀ a ∈ [1015, 1014, 1012, 1053, 1054, 1150, 1250, 1350, 1407, 1450, 1007, 1050, 1011, 1019, 1018, 1055, 1017, 42150, 41006, 41106, 41206, 40056, 40156, 40256, 2550, 41002], a % 100 < 62 := by decide
  exact d_ t (zt_any h)
theorem zt_BA (t : Nat) (h : zt_B t = true) : zt_A t = true := by
  have d_ : ∀ a ∈ [1015, 1014, 1012, 1053, 1054, 1150, 1250, 1350, 1407, 1450, 1007, 1050, 1011], a ∈ [1015, 1014, 1012, 1053, 1054, 1150, 1250, 1350, 1407, 1450, 1007, 1050, 1011, 1019, 1018, 1055, 1017, 42150, 41006, 41106, 41206, 40056, 40156, 40256, 2550, 41002] := by decide
  exact zt_mem (d_ t (zt_any h))
theorem zt_NA (t : Nat) (h : zt_N t = true) : zt_A t = true := by
  have d_ : ∀ a ∈ [1019, 1018, 1055, 1017, 42150, 41006, 41106, 41206, 40056, 40156, 40256, 2550, 41002], a ∈ [1015, 1014, 1012, 1053, 1054, 1150, 1250, 1350, 1407, 1450, 1007, 1050, 1011, 1019, 1018, 1055, 1017, 42150, 41006, 41106, 41206, 40056, 40156, 40256, 2550, 41002] := by decide
  exact zt_mem (d_ t (zt_any h))
theorem zb_sh.le {G : am_G} {S S' : Nat → Bool} {h h2 mm : List am_C} (f : zb_sh G S h h2 mm) (hl : ∀ t, S' t = true → S t = true) : zb_sh G S' h h2 mm := fun p c d h1 hd ht hS => f p c d h1 hd ht (hl _ hS)
/-- where the kind isn't of S the first picture shows -/
theorem zb_mg.ty {G : am_G} {S : Nat → Bool} {k k2 : List am_C} (e : k2.length = k.length) {p : Nat} {c : am_C} (h1 : am_g G k p = some c) (hS : S c.1 = false) : am_g G (zb_mg S k k2) p = some c := by
  unfold am_g at h1 ⊢
  by_cases c_ : p < 1000
  · rw [if_pos c_] at h1 ⊢
    exact h1
  · rw [if_neg c_] at h1 ⊢
    have l_ : p - 1000 < k2.length := by
      have l0_ := (List.getElem?_eq_some_iff.mp h1).1
      omega
    rw [zb_mg.at h1 (List.getElem?_eq_getElem l_)]
    unfold zb_pk
    rw [if_neg (fun z => by rw [hS] at z; cases z.1)]
theorem zt_l2 {vs : List Value} (h : vs.length = 2) : ∃ a b : Value, vs = [a, b] := match vs, h with
  | [a, b], _ => ⟨a, b, rfl⟩
theorem zt_l6 {vs : List Value} (h : vs.length = 6) : ∃ a b c d e f : Value, vs = [a, b, c, d, e, f] := match vs, h with
  | [a, b, c, d, e, f], _ => ⟨a, b, c, d, e, f, rfl⟩
theorem zv_out {X : ck_XT} {K : Int32} {g : ck_g} (hT : ck_HT X gT K g) {q : Nat} {vs : List Value} (hg : g q = some (1016, vs)) : ∃ (n0 : Int64) (s0 : Value), vs = [.long n0, s0] := by
  have row_ : ck_lk gT 1016 = some (0, 2, 2, [(2, 0, -9223372036854775808, 9223372036854775807), (5, 3000, 0, 0)]) := rfl
  obtain ⟨⟨l1_, l2_⟩, -⟩ := (hT.2 q 1016 vs hg).1 _ row_
  have l3_ : vs.length = 2 := by
    have a_ : (2 : Int) ≤ (vs.length : Int) := l1_
    have b_ : (vs.length : Int) ≤ 2 := l2_
    omega
  obtain ⟨u_, v_, e3_⟩ := zt_l2 l3_
  subst e3_
  have tu_ : ∃ t : Int64, u_ = .long t ∧ -9223372036854775808 ≤ t.toInt ∧ t.toInt ≤ 9223372036854775807 := zt_ty hT (j := 0) hg rfl row_ rfl
  obtain ⟨t_, t1_, -⟩ := tu_
  exact ⟨t_, v_, by rw [t1_]⟩
theorem zv_oi {G : am_G} {o : am_O} {i : Int32} (h : zb_o G o (.inl (some (.int i)))) : o = .inl (some (.int i)) := by
  cases o with
  | inl v =>
    have h_ : v.map (am_rv G) = some (.int i) := h
    cases v with
    | none => cases h_
    | some w =>
      have w_ : am_rv G w = am_rv G (.int i) := Option.some.inj h_
      rw [zb_rvi w_]
  | inr z => exact h.elim
def zv_s (G : am_G) (K : Int32) (h : List am_C) (x m out : Nat) (r : Nat → Nat) (T Tm : sp_T) : Prop :=
  ck_HT li_X gT K (am_g G h) ∧ zb_l G h ∧ ((∃ v, am_g G h x = some (1015, v)) ∧ (∃ v, am_g G h m = some (1019, v)) ∧ ∃ v, am_g G h out = some (1016, v)) ∧ (1000 ≤ out ∧ sp_ok Tm.1 ∧ Tm.2.1.length ≤ 12) ∧
  ∃ h2 : List am_C, zb_eq G h h2 ∧ zc_Y G h2 x r T ∧ (∃ th : Int, zm_Y G h2 m th Tm) ∧ ∃ (n0 : Int64) (s0 : Value), am_g G h2 out = some (1016, [.long n0, s0])
section ZVS
variable {l : Launch} {G : am_G} {K : Int32} {y : MethodName} {cw : Cond} {fr lo mc ms : Nat} {a : List Value} {h : List am_C} {x m out : Nat} {r : Nat → Nat} {T Tm : sp_T} {P1 : am_O → List am_C → Prop} {D : Int → Int → sp_T → Prop}
theorem zv_s.ok (I : zv_s G K h x m out r T Tm) : sp_ok T.1 ∧ T.2.1.length ≤ 12 := by
  obtain ⟨-, -, -, -, h2_, -, ⟨R_, old_, cnt_, xx_, xl_⟩, -⟩ := I
  obtain ⟨-, -, b1_, ⟨-, -, -, -, b2_⟩, -⟩ := xx_
  exact ⟨b1_, by rw [xl_, zc_l_len]; exact b2_⟩
/-- a changing call of the class -/
theorem zv_class (I : zv_s G K h x m out r T Tm) (t1 : am_M l G y cw fr lo mc ms a h P1) (hP1 : ∀ o k, P1 o k → ck_HT li_X gT K (am_g G k) ∧ ∃ M, ck_Kp M [] (am_g G h) (am_g G k))
    (t2 : ∀ (h2 : List am_C) (R : Nat → sp_S) (old cnt : Nat) (n0 : Int64) (s0 : Value), zc_x G h2 x r T.2.2.1 T.2.2.2.1 T.2.2.2.2 T.1 R old cnt → T.2.1 = zc_l R old cnt → am_g G h2 out = some (1016, [.long n0, s0]) → (out < x ∨ x + 228 ≤ out) → out ≠ r 4 → 1000 ≤ out → am_M l G y cw fr lo mc ms a h2 (fun o k2 => ∃ (v th : Int) (T' : sp_T), D v th T' ∧ zc_of G h2 k2 x r out ∧ zc_Y G k2 x r T' ∧ (th = 0 → am_g G k2 out = some (1016, [.long (Int64.ofInt v), s0])) ∧ o = .inl (some (.int (Int32.ofInt th))))) :
    am_M l G y cw fr lo mc ms a h (fun o k => P1 o k ∧ ∃ (v th : Int) (T' : sp_T), D v th T' ∧ zv_s G K k x m out r T' Tm ∧ o = .inl (some (.int (Int32.ofInt th))) ∧ (th = 0 → ∃ s0 : Value, am_g G k out = some (1016, [.long (Int64.ofInt v), s0]))) := by
  obtain ⟨hT_, L_, ⟨⟨vx_, kx_⟩, ⟨vm_, km_⟩, ⟨vo_, ko_⟩⟩, ⟨o0_, ok_, l12_⟩, h2_, e_, ⟨R_, old_, cnt_, xx_, xl_⟩, ⟨th_, ow_, tx_, now_, qw_, mm_⟩, n0_, s0_, g0_⟩ := I
  have all_ := zt_all e_.ti hT_ xx_ kx_
  have ho1_ : out < x ∨ x + 228 ≤ out := by
    by_cases c_ : x ≤ out ∧ out < x + 228
    · obtain ⟨c9_, d9_, w1_, -, -, w4_⟩ := all_.1 out c_.1 c_.2
      rw [ko_] at w1_
      cases w1_
      cases w4_
    · omega
  have ho2_ : out ≠ r 4 := fun y_ => by
    obtain ⟨c9_, d9_, w1_, -, -, w4_⟩ := all_.2
    rw [← y_, ko_] at w1_
    cases w1_
    cases w4_
  refine (zb_join e_ t1 (t2 h2_ R_ old_ cnt_ n0_ s0_ xx_ xl_ g0_ ho1_ ho2_ o0_)).mono fun o k hq => ?_
  obtain ⟨p1_, o2_, k2_, ⟨a_, th2_, T2_, d_, of_, ⟨R2_, old2_, cnt2_, xx2_, xl2_⟩, th0_, eo_⟩, zo_, er_⟩ := hq
  obtain ⟨hTk_, M_, kp_⟩ := hP1 o k p1_
  obtain ⟨vx2_, kx2_, -⟩ := zt_kp kp_ kx_
  obtain ⟨vm2_, km2_, -⟩ := zt_kp kp_ km_
  obtain ⟨vo2_, ko2_, -⟩ := zt_kp kp_ ko_
  obtain ⟨n2_, s2_, e2_⟩ := zv_out hTk_ ko2_
  rw [e2_] at ko2_
  have mk2_ := zm_x.cl e_.ti L_ hT_ xx_ kx_ ko_ of_ mm_ km_
  have sh_ : zb_sh G zt_A k k2_ (zb_mg zt_A k k2_) := zb_mg.sh
  refine ⟨p1_, a_, th2_, T2_, d_, ⟨hTk_, er_.l, ⟨⟨_, kx2_⟩, ⟨_, km2_⟩, ⟨_, ko2_⟩⟩, ⟨o0_, ok_, l12_⟩, zb_mg zt_A k k2_, zb_mg.eq er_ zt_A62, ⟨R2_, old2_, cnt2_, xx2_.mg er_.ti hTk_ (sh_.le zt_BA) kx2_, xl2_⟩, ⟨th_, ow_, tx_, now_, qw_, mk2_.mg er_.ti er_.l hTk_ (sh_.le zt_NA) km2_⟩, n2_, s2_, zb_mg.ty er_.len ko2_ rfl⟩, ?_, fun hz => ?_⟩
  · rw [eo_] at zo_
    exact zv_oi zo_
  · have z_ := (er_.cell o0_ ko2_ (th0_ hz) rfl (by decide)).2 0 _ _ rfl rfl
    have z2_ := zb_rvl (show am_rv G (.long n2_) = am_rv G (.long (Int64.ofInt a_)) from z_.symm)
    have z3_ : n2_ = Int64.ofInt a_ := Value.long.inj z2_
    exact ⟨s2_, by rw [← z3_]; exact ko2_⟩
/-- a changing call of the reference -/
theorem zv_ref (I : zv_s G K h x m out r T Tm) (t1 : am_M l G y cw fr lo mc ms a h P1) (hP1 : ∀ o k, P1 o k → ck_HT li_X gT K (am_g G k) ∧ ∃ M, ck_Kp M [] (am_g G h) (am_g G k))
    (t2 : ∀ (h2 : List am_C) (o : Nat → Nat) (tx now qw : Nat) (th : Int), zm_x G h2 o m tx now qw th Tm.2.2.1 Tm.2.2.2.1 Tm.2.2.2.2 Tm.1 Tm.2.1 → sp_ok Tm.1 → Tm.2.1.length ≤ 12 → am_M l G y cw fr lo mc ms a h2 (fun o k2 => ∃ (v th : Int) (T' : sp_T), D v th T' ∧ zm_fr G h2 k2 ∧ zm_Y G k2 m th T' ∧ o = .inl (some (.int (Int32.ofInt v))))) :
    am_M l G y cw fr lo mc ms a h (fun o k => P1 o k ∧ ∃ (v th : Int) (T' : sp_T), D v th T' ∧ o = .inl (some (.int (Int32.ofInt v))) ∧ (sp_ok T'.1 ∧ T'.2.1.length ≤ 12 → zv_s G K k x m out r T T')) := by
  obtain ⟨hT_, L_, ⟨⟨vx_, kx_⟩, ⟨vm_, km_⟩, ⟨vo_, ko_⟩⟩, ⟨o0_, ok_, l12_⟩, h2_, e_, ⟨R_, old_, cnt_, xx_, xl_⟩, ⟨th_, ow_, tx_, now_, qw_, mm_⟩, n0_, s0_, g0_⟩ := I
  refine (zb_join e_ t1 (t2 h2_ ow_ tx_ now_ qw_ th_ mm_ ok_ l12_)).mono fun o k hq => ?_
  obtain ⟨p1_, o2_, k2_, ⟨a_, th2_, T2_, d_, fr_, ⟨ow2_, tx2_, now2_, qw2_, mm2_⟩, eo_⟩, zo_, er_⟩ := hq
  obtain ⟨hTk_, M_, kp_⟩ := hP1 o k p1_
  obtain ⟨vx2_, kx2_, -⟩ := zt_kp kp_ kx_
  obtain ⟨vm2_, km2_, -⟩ := zt_kp kp_ km_
  obtain ⟨vo2_, ko2_, -⟩ := zt_kp kp_ ko_
  obtain ⟨n2_, s2_, e2_⟩ := zv_out hTk_ ko2_
  rw [e2_] at ko2_
  have xk2_ := xx_.rf e_.ti hT_ kx_ fr_
  have sh_ : zb_sh G zt_A k k2_ (zb_mg zt_A k k2_) := zb_mg.sh
  refine ⟨p1_, a_, th2_, T2_, d_, ?_, fun hok => ⟨hTk_, er_.l, ⟨⟨_, kx2_⟩, ⟨_, km2_⟩, ⟨_, ko2_⟩⟩, ⟨o0_, hok⟩, zb_mg zt_A k k2_, zb_mg.eq er_ zt_A62, ⟨R_, old_, cnt_, xk2_.mg er_.ti hTk_ (sh_.le zt_BA) kx2_, xl_⟩, ⟨th2_, ow2_, tx2_, now2_, qw2_, mm2_.mg er_.ti er_.l hTk_ (sh_.le zt_NA) km2_⟩, n2_, s2_, zb_mg.ty er_.len ko2_ rfl⟩⟩
  rw [eo_] at zo_
  exact zv_oi zo_
end ZVS
