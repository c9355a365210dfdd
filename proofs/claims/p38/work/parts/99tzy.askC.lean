/-! THE CLASS BEHIND A CALL THAT ONLY ASKS -/
theorem zt_rv {X : ck_XT} {T : ck_TT} {K : Int32} {G : am_G} {h h2 : List am_C} (e : zb_ti G h h2) (hT : ck_HT X T K (am_g G h)) {p t t2 j q2 t' : Nat} {vs vs2 : List Value} {d : ck_D} {u w : Int} (hg : am_g G h p = some (t, vs)) (hg2 : am_g G h2 p = some (t2, vs2)) (ht2 : t2 % 100 = t % 100) (h62 : t % 100 < 62) (hv : vs2[j]? = some (.ref q2)) (hq : 1000 ≤ q2) (hd : ck_lk T t = some d) (hy : ck_yt d j = some (3, t', u, w)) (hw : ck_wr T t' = true) : vs[j]? = some (.ref q2) := by
  have c2_ := e.g hg hg2 ht2 h62
  obtain ⟨v_, v1_, v2_⟩ := c2_.val hv
  have y_ : 1000 ≤ t' ∧ ∃ (q : Nat) (vs : List Value), v_ = .ref q ∧ am_g G h q = some (t', vs) := zt_ty hT hg v1_ hd hy
  obtain ⟨-, q_, ws_, r1_, r2_⟩ := y_
  rw [r1_] at v2_
  have a_ := zt_adi hq ((hT.2 q_ t' ws_ r2_).2.2 hw) (Value.ref.inj v2_)
  rw [a_, ← r1_]
  exact v1_
theorem zt_l3 {vs : List Value} (h : vs.length = 3) : ∃ a b c : Value, vs = [a, b, c] := match vs, h with
  | [a, b, c], _ => ⟨a, b, c, rfl⟩
theorem zt_ints {lo hi : Int} : ∀ {vs : List Value}, (∀ (j : Nat) (v : Value), vs[j]? = some v → ∃ x : Int32, v = .int x ∧ lo ≤ x.toInt ∧ x.toInt ≤ hi) → ∃ ls : List Int, vs = hd_r ls ∧ ls.length = vs.length ∧ ∀ x ∈ ls, lo ≤ x ∧ x ≤ hi
  | [], _ => ⟨[], rfl, rfl, fun x hx => by cases hx⟩
  | v :: u, H => by
    obtain ⟨x_, x1_, x2_, x3_⟩ := H 0 v rfl
    obtain ⟨ls_, l1_, l2_, l3_⟩ := zt_ints (vs := u) fun j w hw => H (j + 1) w hw
    refine ⟨x_.toInt :: ls_, ?_, by rw [List.length_cons, List.length_cons, l2_], fun y hy => ?_⟩
    · rw [x1_, l1_]
      show Value.int x_ :: hd_r ls_ = Value.int (Int32.ofInt x_.toInt) :: hd_r ls_
      rw [Int32.ofInt_toInt]
    · rcases List.mem_cons.mp hy with y_ | y_
      · rw [y_]
        exact ⟨x2_, x3_⟩
      · exact l3_ y y_
theorem zt_kp {M : List (Nat × Nat)} {g g' : ck_g} (kp : ck_Kp M [] g g') {p t : Nat} {vs : List Value} (hc : g p = some (t, vs)) : ∃ vs' : List Value, g' p = some (t, vs') ∧ ∀ j : Nat, ck_inM M t j = false → vs'[j]? = vs[j]? := by
  rcases kp p t vs hc with ⟨a_, -⟩ | ⟨vs_, a1_, -, a3_⟩
  · cases a_
  · exact ⟨vs_, a1_, a3_⟩
section ZTA
variable {K : Int32} {G : am_G} {h h2 kk : List am_C} {X : ck_XT} {M : List (Nat × Nat)}
theorem zt_w (e : zb_ti G h h2) (hT : ck_HT X gT K (am_g G h)) (hTk : ck_HT X gT K (am_g G kk)) (kp : ck_Kp M [] (am_g G h) (am_g G kk)) (hM0 : ck_inM M 1007 0 = false) {q : Nat} (hw : zc_w G h2 q) (h0 : 1000 ≤ q) {vs : List Value} (hk : am_g G h q = some (1007, vs)) : zc_w G (zb_as h h2 kk) q := by
  obtain ⟨n_, sg_, ls_, a1_, a2_, a3_, a4_⟩ := hw
  have r0_ := zt_rv e hT (j := 0) (q2 := q + 1) (t' := 1050) hk a1_ rfl (by decide) rfl (by omega) (rfl : ck_lk gT 1007 = some (0, 3, 3, [(3, 1050, 0, 0), (1, 0, 0, 10), (1, 0, -2147483648, 2147483647)])) rfl (by decide +kernel)
  obtain ⟨w1_, k1_⟩ := zt_ref e hT (j := 0) (q2 := q + 1) (t' := 1050) hk a1_ rfl (by decide) rfl (by omega) (rfl : ck_lk gT 1007 = some (0, 3, 3, [(3, 1050, 0, 0), (1, 0, 0, 10), (1, 0, -2147483648, 2147483647)])) rfl (by decide +kernel)
  obtain ⟨vq_, b1_, b2_⟩ := zt_kp kp hk
  obtain ⟨wq_, d1_, -⟩ := zt_kp kp k1_
  have f0_ := (b2_ 0 hM0).trans r0_
  obtain ⟨⟨l1_, l2_⟩, -⟩ := (hTk.2 q 1007 vq_ b1_).1 _ (rfl : ck_lk gT 1007 = some (0, 3, 3, [(3, 1050, 0, 0), (1, 0, 0, 10), (1, 0, -2147483648, 2147483647)]))
  have l3_ : vq_.length = 3 := by
    have a_ : (3 : Int) ≤ (vq_.length : Int) := l1_
    have b_ : (vq_.length : Int) ≤ 3 := l2_
    omega
  obtain ⟨x_, y_, z_, e3_⟩ := zt_l3 l3_
  subst e3_
  have ex_ : x_ = .ref (q + 1) := Option.some.inj f0_
  have ty_ : ∃ u : Int32, y_ = .int u ∧ 0 ≤ u.toInt ∧ u.toInt ≤ 10 := zt_ty hTk (j := 1) b1_ rfl (rfl : ck_lk gT 1007 = some (0, 3, 3, [(3, 1050, 0, 0), (1, 0, 0, 10), (1, 0, -2147483648, 2147483647)])) rfl
  have tz_ : ∃ u : Int32, z_ = .int u ∧ -2147483648 ≤ u.toInt ∧ u.toInt ≤ 2147483647 := zt_ty hTk (j := 2) b1_ rfl (rfl : ck_lk gT 1007 = some (0, 3, 3, [(3, 1050, 0, 0), (1, 0, 0, 10), (1, 0, -2147483648, 2147483647)])) rfl
  obtain ⟨u_, u1_, u2_, u3_⟩ := ty_
  obtain ⟨s_, s1_, -⟩ := tz_
  have kq_ : am_g G kk q = some (sb_c 1007 (q + 1) (u_.toInt.toNat : Int) s_.toInt) := by
    rw [b1_, ex_, u1_, s1_]
    unfold sb_c
    rw [Int.toNat_of_nonneg u2_, Int32.ofInt_toInt, Int32.ofInt_toInt]
  obtain ⟨⟨m1_, m2_⟩, -⟩ := (hTk.2 (q + 1) 1050 wq_ d1_).1 _ (rfl : ck_lk gT 1050 = some (1, 10, 10, [(1, 0, 0, 999999999)]))
  obtain ⟨lq_, g1_, g2_, g3_⟩ := zt_ints (lo := 0) (hi := 999999999) (vs := wq_) fun j v hv => zt_ty hTk (j := j) d1_ hv (rfl : ck_lk gT 1050 = some (1, 10, 10, [(1, 0, 0, 999999999)])) rfl
  have sd_ : sb_d lq_ := ⟨by
    have a_ : (10 : Int) ≤ (wq_.length : Int) := m1_
    have b_ : (wq_.length : Int) ≤ 10 := m2_
    omega, g3_⟩
  rw [g1_] at d1_
  have c1_ : ∃ (n : Nat) (sg : Int), am_g G (zb_as h h2 kk) q = some (sb_c 1007 (q + 1) (n : Int) sg) ∧ n ≤ 10 := by
    rcases zb_as.cs (h := h) kq_ a1_ with y1_ | y1_
    · exact ⟨n_, sg_, y1_, a4_⟩
    · exact ⟨_, _, y1_, by omega⟩
  have c2_ : ∃ ls : List Int, am_g G (zb_as h h2 kk) (q + 1) = some (1050, hd_r ls) ∧ sb_d ls := by
    rcases zb_as.cs (h := h) d1_ a2_ with y1_ | y1_
    · exact ⟨ls_, y1_, a3_⟩
    · exact ⟨lq_, y1_, sd_⟩
  obtain ⟨n2_, sg2_, c3_, c4_⟩ := c1_
  obtain ⟨ls2_, c5_, c6_⟩ := c2_
  exact ⟨n2_, sg2_, ls2_, c3_, c5_, c6_, c4_⟩
theorem zc_s.sm {h h' : List am_C} {s : Nat} {c : sp_S} (a : zc_s G h s c) (f : ∀ p, s ≤ p → p < s + 17 → am_g G h' p = am_g G h p) : zc_s G h' s c := by
  obtain ⟨rs_, zs_, bs_, a1_, a2_, a3_, a4_, a5_, a6_, a7_⟩ := a
  exact ⟨rs_, zs_, bs_, (f _ (by omega) (by omega)).trans a1_, (f _ (by omega) (by omega)).trans a2_, (f _ (by omega) (by omega)).trans a3_, (f _ (by omega) (by omega)).trans a4_, (f _ (by omega) (by omega)).trans a5_, a6_, fun i hi => (a7_ i hi).keep (f _ (by omega) (by omega)) (f _ (by omega) (by omega))⟩
theorem zc_p.sm {h h' : List am_C} {q : Nat} {R : Nat → sp_S} {old cnt : Nat} (a : zc_p G h q R old cnt) (f : ∀ p, q ≤ p → p < q + 206 → am_g G h' p = am_g G h p) : zc_p G h' q R old cnt := by
  obtain ⟨a1_, a2_, a3_, a4_⟩ := a
  exact ⟨(f _ (by omega) (by omega)).trans a1_, (f _ (by omega) (by omega)).trans a2_, fun j hj => ⟨(a3_ j hj).1.sm fun p h1 h2 => f p (by omega) (by omega), (a3_ j hj).2⟩, a4_⟩
/-- the kinds of the class's cells -/
theorem zt_x (e : zb_ti G h h2) (hT : ck_HT X gT K (am_g G h)) {x : Nat} {r : Nat → Nat} {j m k : Int} {c : sp_S} {R : Nat → sp_S} {old cnt : Nat} (a : zc_x G h2 x r j m k c R old cnt) {vs : List Value} (hk : am_g G h x = some (1015, vs)) : (∀ p, x ≤ p → p < x + 224 → zt_k G zt_C h h2 p) ∧ (∃ vs, am_g G h (x + 224) = some (1007, vs)) ∧ (∃ vs, am_g G h (x + 226) = some (1007, vs)) ∧ ∃ vs, am_g G h (r 4) = some (1011, vs) := by
  obtain ⟨a1_, a2_, -, a4_, ⟨a5_, a6_⟩, a7_, a8_, a9_⟩ := a
  have row_ : ck_lk gT 1015 = some (0, 13, 13, [(3, 1014, 0, 0), (3, 1012, 0, 0), (1, 0, -2147483648, 2147483647), (1, 0, -2147483648, 2147483647), (1, 0, -2147483648, 2147483647), (3, 1007, 0, 0), (3, 1007, 0, 0), (3, 1007, 0, 0), (3, 1008, 0, 0), (3, 1013, 0, 0), (3, 1010, 0, 0), (3, 1011, 0, 0), (3, 1001, 0, 0)]) := rfl
  obtain ⟨w1_, k1_⟩ := zt_ref e hT (j := 0) (q2 := x + 1) (t' := 1014) hk a1_ rfl (by decide) rfl (by omega) row_ rfl (by decide +kernel)
  obtain ⟨w2_, k2_⟩ := zt_ref e hT (j := 1) (q2 := x + 18) (t' := 1012) hk a1_ rfl (by decide) rfl (by omega) row_ rfl (by decide +kernel)
  have k3_ := zt_ref e hT (j := 5) (q2 := x + 224) (t' := 1007) hk a1_ rfl (by decide) rfl (by omega) row_ rfl (by decide +kernel)
  have k4_ := zt_ref e hT (j := 6) (q2 := x + 226) (t' := 1007) hk a1_ rfl (by decide) rfl (by omega) row_ rfl (by decide +kernel)
  have k5_ := zt_ref e hT (j := 11) (q2 := r 4) (t' := 1011) hk a1_ rfl (by decide) rfl (by omega) row_ rfl (by decide +kernel)
  refine ⟨fun p hp1 hp2 => ?_, k3_, k4_, k5_⟩
  by_cases c0_ : p < x + 1
  · obtain rfl : p = x := by omega
    exact zt_mk hk a1_ rfl rfl
  · by_cases c1_ : p < x + 18
    · exact zt_s e hT a2_ (by omega) k1_ p (by omega) (by omega)
    · exact zt_p e hT a4_ (by omega) k2_ p (by omega) (by omega)
/-- what only asks leaves the class as it is -/
theorem zc_x.ask (e : zb_ti G h h2) (hT : ck_HT X gT K (am_g G h)) (hTk : ck_HT X gT K (am_g G kk)) (kp : ck_Kp M [] (am_g G h) (am_g G kk)) (hM : (M.all fun m => !(zt_C m.1)) = true) (hM0 : ck_inM M 1007 0 = false) {x : Nat} {r : Nat → Nat} {j m k : Int} {c : sp_S} {R : Nat → sp_S} {old cnt : Nat} (a : zc_x G h2 x r j m k c R old cnt) {vs : List Value} (hk : am_g G h x = some (1015, vs)) : zc_x G (zb_as h h2 kk) x r j m k c R old cnt := by
  obtain ⟨z1_, ⟨_, z2_⟩, ⟨_, z3_⟩, vj_, z4_⟩ := zt_x e hT a hk
  have f_ : ∀ p, x ≤ p → p < x + 224 → am_g G (zb_as h h2 kk) p = am_g G h2 p := fun p h1 h2 => (z1_ p h1 h2).as (zb_as.sh hM kp)
  obtain ⟨a1_, a2_, a3_, a4_, ⟨a5_, a6_⟩, ⟨y1_, y2_, y3_, a7_⟩, a8_, a9_⟩ := a
  refine ⟨(f_ x (by omega) (by omega)).trans a1_, a2_.sm fun p h1 h2 => f_ p (by omega) (by omega), a3_, a4_.sm fun p h1 h2 => f_ p (by omega) (by omega), ⟨zt_w e hT hTk kp hM0 a5_ (by omega) z2_, zt_w e hT hTk kp hM0 a6_ (by omega) z3_⟩, ?_, a8_, a9_⟩
  obtain ⟨vq_, b1_, -⟩ := zt_kp kp z4_
  have row_ : ck_lk gT 1011 = some (0, 3, 3, [(1, 0, 0, 1), (2, 0, -9223372036854775808, 9223372036854775807), (2, 0, -9223372036854775808, 9223372036854775807)]) := rfl
  obtain ⟨⟨l1_, l2_⟩, -⟩ := (hTk.2 (r 4) 1011 vq_ b1_).1 _ row_
  have l3_ : vq_.length = 3 := by
    have a_ : (3 : Int) ≤ (vq_.length : Int) := l1_
    have b_ : (vq_.length : Int) ≤ 3 := l2_
    omega
  obtain ⟨u_, v_, w_, e3_⟩ := zt_l3 l3_
  subst e3_
  have tu_ : ∃ t : Int32, u_ = .int t ∧ 0 ≤ t.toInt ∧ t.toInt ≤ 1 := zt_ty hTk (j := 0) b1_ rfl row_ rfl
  have tv_ : ∃ t : Int64, v_ = .long t ∧ -9223372036854775808 ≤ t.toInt ∧ t.toInt ≤ 9223372036854775807 := zt_ty hTk (j := 1) b1_ rfl row_ rfl
  have tw_ : ∃ t : Int64, w_ = .long t ∧ -9223372036854775808 ≤ t.toInt ∧ t.toInt ≤ 9223372036854775807 := zt_ty hTk (j := 2) b1_ rfl row_ rfl
  obtain ⟨t1_, t2_, -⟩ := tu_
  obtain ⟨t3_, t4_, -⟩ := tv_
  obtain ⟨t5_, t6_, -⟩ := tw_
  rw [t2_, t4_, t6_] at b1_
  rcases zb_as.cs (h := h) b1_ a7_ with g1_ | g1_
  · exact ⟨_, _, _, g1_⟩
  · exact ⟨_, _, _, g1_⟩
end ZTA
