/-! AN ASK OF THE CLASS THAT WRITES CELLS WHICH ARE TYPED ALONE, ITS ANSWER TOLD -/
theorem zb_mg.eq2 {G : am_G} {S : Nat → Bool} {k k2 : List am_C} (e : zb_eq G k k2) : zb_eq G k (zb_mg S k k2) := by
  refine ⟨zb_mg.len e.1, fun i c d h1 h2 => ?_⟩
  have l2_ : i < k2.length := by
    have l0_ := (List.getElem?_eq_some_iff.mp h1).1
    have l1_ := e.1
    omega
  rw [zb_mg.at h1 (List.getElem?_eq_getElem l2_)] at h2
  cases h2
  unfold zb_pk
  split
  · exact e.2 i c _ h1 (List.getElem?_eq_getElem l2_)
  · exact zb_c.rf
/-- one cell told otherwise -/
theorem zb_eq.re {G : am_G} {h h3 : List am_C} (e : zb_eq G h h3) {q : Nat} {c d : am_C} (hq : 1000 ≤ q) (hc : am_g G h q = some c) (hd : zb_c G c d) : zb_eq G h (am_s h3 q d) := by
  have hc_ : h[q - 1000]? = some c := by
    unfold am_g at hc
    rw [if_neg (by omega)] at hc
    exact hc
  have l_ : q - 1000 < h3.length := by
    have l0_ := (List.getElem?_eq_some_iff.mp hc_).1
    have l1_ := e.1
    omega
  refine ⟨(am_s_len _ _ _).trans e.1, fun i c2 d2 h1 h2 => ?_⟩
  unfold am_s at h2
  by_cases i_ : i = q - 1000
  · rw [i_] at h1 h2
    rw [List.getElem?_set_self l_] at h2
    rw [hc_] at h1
    cases h1
    cases h2
    exact hd
  · rw [List.getElem?_set_ne (fun y_ => i_ y_.symm)] at h2
    exact e.2 i c2 d2 h1 h2
/-- the class, its scratch at other names -/
theorem zc_x.re {G : am_G} {h h' : List am_C} {x : Nat} {r r2 : Nat → Nat} {j m k : Int} {c : sp_S} {R : Nat → sp_S} {old cnt : Nat} (a : zc_x G h x r j m k c R old cnt) (w : hd_w G h h' x (zc_cell x j m k r2)) (h4 : r2 4 = r 4) : zc_x G h' x r2 j m k c R old cnt := by
  obtain ⟨a1_, a2_, a3_, a4_, ⟨a5_, a6_⟩, ⟨y1_, y2_, y3_, a7_⟩, a8_, a9_⟩ := a
  have f_ : zw_f G h h' x 1 := zw_f.w w (by omega) (by omega)
  refine ⟨w.at, a2_.fr f_ (by omega), a3_, a4_.fr f_ (by omega), ⟨a5_.fr f_ (by omega), a6_.fr f_ (by omega)⟩, ⟨y1_, y2_, y3_, ?_⟩, ?_, a9_⟩
  · rw [h4]
    exact (f_.2 _ (by omega)).trans a7_
  · rw [h4]
    exact a8_
/-- a typed row of ints -/
theorem zv_row {l : List Value} (h : ∀ (j : Nat) (v : Value), l[j]? = some v → ∃ t : Int32, v = .int t) : ∃ ds : List Int, l = hd_r ds := by
  induction l with
  | nil => exact ⟨[], rfl⟩
  | cons a_ l_ ih =>
    obtain ⟨t_, ht_⟩ := h 0 a_ rfl
    obtain ⟨ds_, hd_⟩ := ih fun j v hv => h (j + 1) v (by rw [List.getElem?_cons_succ]; exact hv)
    refine ⟨t_.toInt :: ds_, ?_⟩
    rw [ht_, hd_]
    unfold hd_r
    rw [List.map_cons, Int32.ofInt_toInt]
section ZVP
variable {G : am_G} {K : Int32} {h : List am_C} {x m out : Nat} {r : Nat → Nat} {T Tm : sp_T}
/-- the cells of the class that are scratch: where they are, as the typed picture has them; the rest exactly -/
def zv_P (G : am_G) (h4 : List am_C) (r : Nat → Nat) : Prop :=
  (∃ (q1 q2 : Nat) (c2 t2 : Int32) (rs ps : List Int), am_g G h4 (r 2) = some (1013, [.ref q1, .ref q2, .int c2, .int t2]) ∧ am_g G h4 q1 = some (1850, hd_r rs) ∧ am_g G h4 q2 = some (1950, hd_r ps) ∧ rs.length = 400 ∧ ps.length = 400 ∧ 1000 ≤ r 2 ∧ 1000 ≤ q1 ∧ 1000 ≤ q2) ∧
  ∃ (q3 : Nat) (k3 m3 u3 : Int32) (qs : List Int), am_g G h4 (r 3) = some (1010, [.ref q3, .int k3, .int m3, .int u3]) ∧ am_g G h4 q3 = some (1750, hd_r qs) ∧ qs.length = 4 ∧ 1000 ≤ r 3 ∧ 1000 ≤ q3
theorem zv_arr (hT : ck_HT li_X gT K (am_g G h)) {q t n : Nat} {ws : List Value} (hg : am_g G h q = some (t, ws)) {lo hi : Int} (hd : ck_lk gT t = some (1, (n : Int), (n : Int), [(1, 0, lo, hi)])) (hw : ck_wr gT t = true) : ∃ ds : List Int, ws = hd_r ds ∧ ds.length = n ∧ 1000 ≤ q := by
  have z_ := hT.2 q t ws hg
  obtain ⟨⟨l1_, l2_⟩, -⟩ := z_.1 _ hd
  have l3_ : ws.length = n := by
    have a_ : (n : Int) ≤ (ws.length : Int) := l1_
    have b_ : (ws.length : Int) ≤ (n : Int) := l2_
    omega
  obtain ⟨ds_, hds_⟩ := zv_row (l := ws) fun j v hv => by
    have y_ : ∃ u : Int32, v = .int u ∧ lo ≤ u.toInt ∧ u.toInt ≤ hi := zt_ty hT (j := j) hg hv hd rfl
    obtain ⟨u_, u1_, -⟩ := y_
    exact ⟨u_, u1_⟩
  refine ⟨ds_, hds_, ?_, z_.2.2 hw⟩
  rw [← l3_, hds_, hd_r_len]
theorem zt_l4 {l : List Value} (h : l.length = 4) : ∃ a b c d : Value, l = [a, b, c, d] := by
  match l, h with
  | [a_, b_, c_, d_], _ => exact ⟨a_, b_, c_, d_, rfl⟩
theorem zt_l13 {l : List Value} (h : l.length = 13) : ∃ a0 a1 a2 a3 a4 a5 a6 a7 a8 a9 b0 b1 b2 : Value, l = [a0, a1, a2, a3, a4, a5, a6, a7, a8, a9, b0, b1, b2] := by
  match l, h with
  | [a0_, a1_, a2_, a3_, a4_, a5_, a6_, a7_, a8_, a9_, b0_, b1_, b2_], _ => exact ⟨a0_, a1_, a2_, a3_, a4_, a5_, a6_, a7_, a8_, a9_, b0_, b1_, b2_, rfl⟩
/-- an exact picture, the scratch of the class typed -/
theorem zv_s.pic (I : zv_s G K h x m out r T Tm) : ∃ (h4 : List am_C) (r2 : Nat → Nat), zb_eq G h h4 ∧ zc_Y G h4 x r2 T ∧ zv_P G h4 r2 ∧ (∃ (n0 : Int64) (s0 : Value), am_g G h4 out = some (1016, [.long n0, s0])) ∧ (out < x ∨ x + 228 ≤ out) ∧ out ≠ r2 4 := by
  obtain ⟨hT_, L_, ⟨⟨vx_, kx_⟩, ⟨vm_, km_⟩, ⟨vo_, ko_⟩⟩, -, h2_, e_, ⟨R_, old_, cnt_, xx_, xl_⟩, -, -⟩ := I
  obtain ⟨n2_, s2_, e2_⟩ := zv_out hT_ ko_
  rw [e2_] at ko_
  have all_ := zt_all e_.ti hT_ xx_ kx_
  have ho1_ : out < x ∨ x + 228 ≤ out := by
    by_cases c_ : x ≤ out ∧ out < x + 228
    · obtain ⟨c9_, d9_, w1_, -, -, w4_⟩ := all_.1 out c_.1 c_.2
      rw [ko_] at w1_
      cases w1_
      cases w4_
    · omega
  have ho2_ : out ≠ r 4 := fun y_ => by
    obtain ⟨c9_, d9_, w1_, -, -, w4_⟩ := all_.2
    rw [← y_, ko_] at w1_
    cases w1_
    cases w4_
  have sh_ : zb_sh G zt_A h h2_ (zb_mg zt_A h h2_) := zb_mg.sh
  have e3_ : zb_eq G h (zb_mg zt_A h h2_) := zb_mg.eq2 e_
  have x3_ := xx_.mg e_.ti hT_ (sh_.le zt_BA) kx_
  have ty_ : ∀ (p : Nat) (c : am_C), am_g G h p = some c → zt_A c.1 = false → am_g G (zb_mg zt_A h h2_) p = some c := fun p c hc hS => zb_mg.ty e_.1 hc hS
  have row_ : ck_lk gT 1015 = some (0, 13, 13, [(3, 1014, 0, 0), (3, 1012, 0, 0), (1, 0, -2147483648, 2147483647), (1, 0, -2147483648, 2147483647), (1, 0, -2147483648, 2147483647), (3, 1007, 0, 0), (3, 1007, 0, 0), (3, 1007, 0, 0), (3, 1008, 0, 0), (3, 1013, 0, 0), (3, 1010, 0, 0), (3, 1011, 0, 0), (3, 1001, 0, 0)]) := rfl
  have c3_ := e3_.ti.g kx_ x3_.1 rfl (show 1015 % 100 < 62 by decide)
  have l13_ : vx_.length = 13 := c3_.2.1.symm
  obtain ⟨a0_, a1_, a2_, a3_, a4_, a5_, a6_, a7_, a8_, a9_, b0_, b1_, b2_, ev_⟩ := zt_l13 l13_
  subst ev_
  have y9_ : 1000 ≤ 1013 ∧ ∃ (q : Nat) (vs : List Value), a9_ = .ref q ∧ am_g G h q = some (1013, vs) := zt_ty hT_ (j := 9) kx_ rfl row_ rfl
  obtain ⟨-, p2_, w2_, r9_, g2_⟩ := y9_
  have y10_ : 1000 ≤ 1010 ∧ ∃ (q : Nat) (vs : List Value), b0_ = .ref q ∧ am_g G h q = some (1010, vs) := zt_ty hT_ (j := 10) kx_ rfl row_ rfl
  obtain ⟨-, p3_, w3_, r10_, g3_⟩ := y10_
  subst r9_
  subst r10_
  have rw2_ : ck_lk gT 1013 = some (0, 4, 4, [(3, 1850, 0, 0), (3, 1950, 0, 0), (1, 0, 0, 400), (1, 0, -2147483648, 2147483647)]) := rfl
  have rw3_ : ck_lk gT 1010 = some (0, 4, 4, [(3, 1750, 0, 0), (1, 0, 0, 4), (1, 0, -9, 400), (1, 0, -2147483648, 2147483647)]) := rfl
  have z2_ := hT_.2 p2_ 1013 w2_ g2_
  have z3_ := hT_.2 p3_ 1010 w3_ g3_
  have l2_ : w2_.length = 4 := by
    obtain ⟨⟨l1_, l2_⟩, -⟩ := z2_.1 _ rw2_
    have u_ : (4 : Int) ≤ (w2_.length : Int) := l1_
    have v_ : (w2_.length : Int) ≤ 4 := l2_
    omega
  have l3_ : w3_.length = 4 := by
    obtain ⟨⟨l1_, l2_⟩, -⟩ := z3_.1 _ rw3_
    have u_ : (4 : Int) ≤ (w3_.length : Int) := l1_
    have v_ : (w3_.length : Int) ≤ 4 := l2_
    omega
  obtain ⟨u0_, u1_, u2_, u3_, eu_⟩ := zt_l4 l2_
  subst eu_
  obtain ⟨v0_, v1_, v2_, v3_, ew_⟩ := zt_l4 l3_
  subst ew_
  have t0_ : 1000 ≤ 1850 ∧ ∃ (q : Nat) (vs : List Value), u0_ = .ref q ∧ am_g G h q = some (1850, vs) := zt_ty hT_ (j := 0) g2_ rfl rw2_ rfl
  obtain ⟨-, q1_, s1_, f1_, k1_⟩ := t0_
  have t1_ : 1000 ≤ 1950 ∧ ∃ (q : Nat) (vs : List Value), u1_ = .ref q ∧ am_g G h q = some (1950, vs) := zt_ty hT_ (j := 1) g2_ rfl rw2_ rfl
  obtain ⟨-, q2_, s2b_, f2_, k2_⟩ := t1_
  have t2_ : ∃ u : Int32, u2_ = .int u ∧ 0 ≤ u.toInt ∧ u.toInt ≤ 400 := zt_ty hT_ (j := 2) g2_ rfl rw2_ rfl
  obtain ⟨i2_, f3_, -⟩ := t2_
  have t3_ : ∃ u : Int32, u3_ = .int u ∧ -2147483648 ≤ u.toInt ∧ u.toInt ≤ 2147483647 := zt_ty hT_ (j := 3) g2_ rfl rw2_ rfl
  obtain ⟨i3_, f4_, -⟩ := t3_
  have t4_ : 1000 ≤ 1750 ∧ ∃ (q : Nat) (vs : List Value), v0_ = .ref q ∧ am_g G h q = some (1750, vs) := zt_ty hT_ (j := 0) g3_ rfl rw3_ rfl
  obtain ⟨-, q3_, s3_, f5_, k3_⟩ := t4_
  have t5_ : ∃ u : Int32, v1_ = .int u ∧ 0 ≤ u.toInt ∧ u.toInt ≤ 4 := zt_ty hT_ (j := 1) g3_ rfl rw3_ rfl
  obtain ⟨i5_, f6_, -⟩ := t5_
  have t6_ : ∃ u : Int32, v2_ = .int u ∧ -9 ≤ u.toInt ∧ u.toInt ≤ 400 := zt_ty hT_ (j := 2) g3_ rfl rw3_ rfl
  obtain ⟨i6_, f7_, -⟩ := t6_
  have t7_ : ∃ u : Int32, v3_ = .int u ∧ -2147483648 ≤ u.toInt ∧ u.toInt ≤ 2147483647 := zt_ty hT_ (j := 3) g3_ rfl rw3_ rfl
  obtain ⟨i7_, f8_, -⟩ := t7_
  subst f1_
  subst f2_
  subst f3_
  subst f4_
  subst f5_
  subst f6_
  subst f7_
  subst f8_
  obtain ⟨d1_, d2_, d3_, d4_⟩ := zv_arr hT_ k1_ (n := 400) (lo := -2147483648) (hi := 2147483647) rfl (by decide +kernel)
  obtain ⟨d5_, d6_, d7_, d8_⟩ := zv_arr hT_ k2_ (n := 400) (lo := -2147483648) (hi := 2147483647) rfl (by decide +kernel)
  obtain ⟨d9_, d10_, d11_, d12_⟩ := zv_arr hT_ k3_ (n := 4) (lo := -2147483648) (hi := 2147483647) rfl (by decide +kernel)
  subst d2_
  subst d6_
  subst d10_
  have hp2_ : 1000 ≤ p2_ := z2_.2.2 (by decide +kernel)
  have hp3_ : 1000 ≤ p3_ := z3_.2.2 (by decide +kernel)
  let r2 : Nat → Nat := fun k => if k = 2 then p2_ else if k = 3 then p3_ else r k
  have hx_ : 1000 ≤ x := x3_.2.2.2.2.2.2.2
  have w_ : hd_w G (zb_mg zt_A h h2_) (am_s (zb_mg zt_A h h2_) x (zc_cell x T.2.2.1 T.2.2.2.1 T.2.2.2.2 r2)) x (zc_cell x T.2.2.1 T.2.2.2.1 T.2.2.2.2 r2) := hd_w.s hx_ x3_.1
  have x4_ := x3_.re w_ (show r2 4 = r 4 from rfl)
  have cc_ : zb_c G (1015, [a0_, a1_, a2_, a3_, a4_, a5_, a6_, a7_, a8_, .ref p2_, .ref p3_, b1_, b2_]) (zc_cell x T.2.2.1 T.2.2.2.1 T.2.2.2.2 r2) := by
    refine ⟨rfl, rfl, fun j v w hv hw => ?_⟩
    have o_ : ∀ w2 : Value, (zc_cell x T.2.2.1 T.2.2.2.1 T.2.2.2.2 r).2[j]? = some w2 → am_rv G w2 = am_rv G v := fun w2 h2 => c3_.2.2 j v w2 hv h2
    match j, hv, hw, o_ with
    | 0, hv, hw, o_ => exact o_ w hw
    | 1, hv, hw, o_ => exact o_ w hw
    | 2, hv, hw, o_ => exact o_ w hw
    | 3, hv, hw, o_ => exact o_ w hw
    | 4, hv, hw, o_ => exact o_ w hw
    | 5, hv, hw, o_ => exact o_ w hw
    | 6, hv, hw, o_ => exact o_ w hw
    | 7, hv, hw, o_ => exact o_ w hw
    | 8, hv, hw, o_ => exact o_ w hw
    | 9, hv, hw, o_ =>
      cases hv
      cases hw
      rfl
    | 10, hv, hw, o_ =>
      cases hv
      cases hw
      rfl
    | 11, hv, hw, o_ => exact o_ w hw
    | 12, hv, hw, o_ => exact o_ w hw
    | n_ + 13, hv, hw, o_ => cases hw
  have nx_ : ∀ (p t : Nat) (vs : List Value), am_g G h p = some (t, vs) → t ≠ 1015 → p ≠ x := fun p t vs hg ht y_ => by
    rw [y_, kx_] at hg
    cases hg
    exact ht rfl
  have keep_ : ∀ (p t : Nat) (vs : List Value), am_g G h p = some (t, vs) → t ≠ 1015 → zt_A t = false → am_g G (am_s (zb_mg zt_A h h2_) x (zc_cell x T.2.2.1 T.2.2.2.1 T.2.2.2.2 r2)) p = some (t, vs) := fun p t vs hg ht hA => (w_.ne (nx_ p t vs hg ht)).trans (ty_ p (t, vs) hg hA)
  exact ⟨_, r2, e3_.re hx_ kx_ cc_, ⟨R_, old_, cnt_, x4_, xl_⟩, ⟨⟨q1_, q2_, i2_, i3_, d1_, d5_, keep_ _ _ _ g2_ (by decide) rfl, keep_ _ _ _ k1_ (by decide) rfl, keep_ _ _ _ k2_ (by decide) rfl, d3_, d7_, hp2_, d4_, d8_⟩, q3_, i5_, i6_, i7_, d9_, keep_ _ _ _ g3_ (by decide) rfl, keep_ _ _ _ k3_ (by decide) rfl, d11_, hp3_, d12_⟩, ⟨n2_, s2_, keep_ _ _ _ ko_ (by decide) rfl⟩, ho1_, ho2_⟩
end ZVP
section ZVV
variable {l : Launch} {G : am_G} {K : Int32} {y : MethodName} {cw : Cond} {fr lo mc ms : Nat} {a : List Value} {h : List am_C} {x m out : Nat} {r : Nat → Nat} {T Tm : sp_T} {P1 : am_O → List am_C → Prop} {D : Int → Int → Prop}
/-- what an ask tells -/
theorem zv_askv (I : zv_s G K h x m out r T Tm) (t1 : am_M l G y cw fr lo mc ms a h P1) (hP1 : ∀ o k, P1 o k → ck_HT li_X gT K (am_g G k) ∧ ∃ M, ck_Kp M [] (am_g G h) (am_g G k) ∧ zv_m M = true)
    (t2 : ∀ (h2 : List am_C) (r2 : Nat → Nat) (R : Nat → sp_S) (old cnt : Nat) (n0 : Int64) (s0 : Value), zc_x G h2 x r2 T.2.2.1 T.2.2.2.1 T.2.2.2.2 T.1 R old cnt → T.2.1 = zc_l R old cnt → zv_P G h2 r2 → am_g G h2 out = some (1016, [.long n0, s0]) → (out < x ∨ x + 228 ≤ out) → out ≠ r2 4 → 1000 ≤ out → am_M l G y cw fr lo mc ms a h2 (fun o k2 => ∃ v th : Int, D v th ∧ (th = 0 → ∃ s1 : Value, am_g G k2 out = some (1016, [.long (Int64.ofInt v), s1])) ∧ o = .inl (some (.int (Int32.ofInt th))))) :
    am_M l G y cw fr lo mc ms a h (fun o k => P1 o k ∧ ∃ v th : Int, D v th ∧ zv_s G K k x m out r T Tm ∧ o = .inl (some (.int (Int32.ofInt th))) ∧ (th = 0 → ∃ s0 : Value, am_g G k out = some (1016, [.long (Int64.ofInt v), s0]))) := by
  obtain ⟨h4_, r4_, e4_, ⟨R_, old_, cnt_, xx_, xl_⟩, P4_, ⟨n0_, s0_, g0_⟩, o1_, o2_⟩ := I.pic
  have o0_ : 1000 ≤ out := I.2.2.2.1.1
  refine (zb_join e4_ (zv_ask I t1 hP1) (t2 h4_ r4_ R_ old_ cnt_ n0_ s0_ xx_ xl_ P4_ g0_ o1_ o2_ o0_)).mono fun o k hq => ?_
  obtain ⟨⟨p1_, z_⟩, o3_, k2_, ⟨v_, th_, d_, th0_, eo_⟩, zo_, er_⟩ := hq
  refine ⟨p1_, v_, th_, d_, z_, ?_, fun hz => ?_⟩
  · rw [eo_] at zo_
    exact zv_oi zo_
  · obtain ⟨hTk_, -, ⟨-, -, ⟨vo2_, ko2_⟩⟩, -⟩ := z_
    obtain ⟨n2_, s2_, e2_⟩ := zv_out hTk_ ko2_
    rw [e2_] at ko2_
    obtain ⟨s1_, g1_⟩ := th0_ hz
    have y_ := (er_.cell o0_ ko2_ g1_ rfl (by decide)).2 0 _ _ rfl rfl
    have y2_ := zb_rvl (show am_rv G (.long n2_) = am_rv G (.long (Int64.ofInt v_)) from y_.symm)
    have y3_ : n2_ = Int64.ofInt v_ := Value.long.inj y2_
    exact ⟨s2_, by rw [← y3_]; exact ko2_⟩
end ZVV
section CVV
variable {l : Launch} {G : am_G} {y : MethodName} {cw : Cond} {fr lo : Nat} {c : ck_KK}
/-- an ask of the class, as a contract of the engine -/
theorem cv_clv_ok {Q : Int → Int → sp_T → Int → Int → Prop} {na : Nat} (hc : ck_Con (am_cm l G y cw fr lo) G li_X gT c) (hm : zv_m c.2.2.1 = true) (hr : c.2.2.2.1 = []) {C S : Nat} (hC1 : c.2.1.1 = ck_k C) (hC2 : c.2.1.2 = ck_k S)
    (ex : ∀ (x out : Nat) (r : Nat → Nat) (T : sp_T) (i1 i2 : Int32) (h2 : List am_C) (R : Nat → sp_S) (old cnt : Nat) (n0 : Int64) (s0 : Value), zc_x G h2 x r T.2.2.1 T.2.2.2.1 T.2.2.2.2 T.1 R old cnt → T.2.1 = zc_l R old cnt → zv_P G h2 r → am_g G h2 out = some (1016, [.long n0, s0]) → (out < x ∨ x + 228 ≤ out) → out ≠ r 4 → 1000 ≤ out → am_M l G y cw fr lo C S (.ref x :: (([.int i1, .int i2] : List Value).take na ++ [.ref out])) h2 (fun o k2 => ∃ v th : Int, Q i1.toInt i2.toInt T v th ∧ (th = 0 → ∃ s1 : Value, am_g G k2 out = some (1016, [.long (Int64.ofInt v), s1])) ∧ o = .inl (some (.int (Int32.ofInt th))))) :
    ck_Con (cv_clw G (fun e e2 T a th T' => T' = T ∧ Q e e2 T a th) na (am_cm l G y cw fr lo)) G li_X gT c := by
  intro K r s a h hH hV hC hF hn hS mc ms hmc hms x m out rr T i1 i2 I ha
  have t1_ := hc K r s a h hH hV hC hF hn hS mc ms hmc hms
  rw [hC1] at hmc
  rw [hC2] at hms
  have f1_ := ck_Lv.fn hmc (ck_Lv.k r _)
  have e1_ : mc = C := by omega
  have f2_ := ck_Lv.fn hms (ck_Lv.k r _)
  have e2_ : ms = S := by omega
  subst e1_
  subst e2_
  subst ha
  exact am_M.mono (zv_askv (I.s hH) t1_ (fun o k p => ⟨p.1, _, cv_kp hr p, hm⟩) (fun h2 r2 R old cnt n0 s0 => ex x out r2 T i1 i2 h2 R old cnt n0 s0)) fun o k hq => by
    obtain ⟨p_, v_, th_, d_, z_, o_, t_⟩ := hq
    obtain ⟨th0_, n0_, w_⟩ := z_.k.w
    refine ⟨p_, v_, th_, T, th0_, n0_, ⟨rfl, d_⟩, w_, o_, fun hz => ?_⟩
    obtain ⟨s1_, g1_⟩ := t_ hz
    exact (w_.outv g1_).symm
end CVV
