/-! BOTH SIDES BEHIND A CALL THAT ONLY ASKS -/
def zv_m1 (m : Nat × Nat) : Bool := !(zt_C m.1) && (!(zt_M m.1) && (!(Nat.beq m.1 1007 && (Nat.beq m.2 0 || Nat.beq m.2 1000)) && !(Nat.beq m.1 1019 && !(Nat.beq m.2 0))))
/-- what may be written leaves the states alone -/
def zv_m (M : List (Nat × Nat)) : Bool := M.all zv_m1
theorem zv_m.C {M : List (Nat × Nat)} (h : zv_m M = true) : (M.all fun m => !(zt_C m.1)) = true := List.all_eq_true.mpr fun m hm => (Bool.and_eq_true_iff.mp (List.all_eq_true.mp h m hm)).1
theorem zv_m.M {M : List (Nat × Nat)} (h : zv_m M = true) : (M.all fun m => !(zt_M m.1)) = true := List.all_eq_true.mpr fun m hm => (Bool.and_eq_true_iff.mp (Bool.and_eq_true_iff.mp (List.all_eq_true.mp h m hm)).2).1
theorem zv_m.b {M : List (Nat × Nat)} (h : zv_m M = true) : ck_inM M 1007 0 = false := by
  unfold ck_inM
  rw [List.any_eq_false]
  intro m_ hm_ hh_
  have a_ := (Bool.and_eq_true_iff.mp (Bool.and_eq_true_iff.mp (Bool.and_eq_true_iff.mp (List.all_eq_true.mp h m_ hm_)).2).2).1
  rw [hh_] at a_
  cases a_
theorem zv_m.o {M : List (Nat × Nat)} (h : zv_m M = true) {j : Nat} (hj : 1 ≤ j) : ck_inM M 1019 j = false := by
  unfold ck_inM
  rw [List.any_eq_false]
  intro m_ hm_ hh_
  have a_ := (Bool.and_eq_true_iff.mp (Bool.and_eq_true_iff.mp (Bool.and_eq_true_iff.mp (List.all_eq_true.mp h m_ hm_)).2).2).2
  obtain ⟨b1_, b2_⟩ := Bool.and_eq_true_iff.mp hh_
  have c_ : Nat.beq m_.2 0 = false := by
    cases hc : Nat.beq m_.2 0
    · rfl
    · have d_ := ck_beq hc
      rw [d_] at b2_
      rcases Bool.or_eq_true_iff.mp b2_ with y_ | y_
      · have z_ := ck_beq y_
        omega
      · cases y_
  rw [b1_, c_] at a_
  cases a_
section ZVA
variable {l : Launch} {G : am_G} {K : Int32} {h h2 kk : List am_C} {M : List (Nat × Nat)}
theorem zm_x.ask (e : zb_eq G h h2) (L : zb_l G h) (hT : ck_HT li_X gT K (am_g G h)) (hTk : ck_HT li_X gT K (am_g G kk)) (kp : ck_Kp M [] (am_g G h) (am_g G kk)) (hM : zv_m M = true) {o : Nat → Nat} {m tx now qw : Nat} {th j mi k : Int} {c : sp_S} {P : List sp_S} (a : zm_x G h2 o m tx now qw th j mi k c P) {ws : List Value} (hk : am_g G h m = some (1019, ws)) : ∃ (tx2 : Nat) (th2 : Int), zm_x G (zb_as h h2 kk) o m tx2 now qw th2 j mi k c P := by
  obtain ⟨z1_, z2_⟩ := zt_zx e.ti L hT (zb_as.sh (zv_m.M hM) kp) (fun _ h => h) a hk
  have n0_ := a.lt
  obtain ⟨a1_, a2_, -, ss_, l1_, -⟩ := a
  have hw_ : 1000 ≤ qw := by
    obtain ⟨_, _, _, _, _, -, -, -, -, ⟨-, z_⟩, -⟩ := l1_
    exact z_
  have row_ : ck_lk gT 1019 = some (0, 6, 6, [(1, 0, 0, 3), (3, 1018, 0, 0), (3, 41206, 0, 0), (1, 0, -2147483648, 2147483647), (1, 0, -2147483648, 2147483647), (1, 0, -2147483648, 2147483647)]) := rfl
  have tt_ : tx % 100 = 1019 % 100 := by omega
  have r1_ := zt_rv e.ti hT (j := 1) (q2 := now) (t' := 1018) hk a1_ tt_ (by decide) rfl n0_ row_ rfl (by decide +kernel)
  have r2_ := zt_rv e.ti hT (j := 2) (q2 := qw) (t' := 41206) hk a1_ tt_ (by decide) rfl hw_ row_ rfl (by decide +kernel)
  have c2_ := e.ti.g hk a1_ tt_ (show 1019 % 100 < 62 by decide)
  obtain ⟨vq_, b1_, b2_⟩ := zt_kp kp hk
  obtain ⟨⟨l3_, l4_⟩, -⟩ := (hTk.2 m 1019 vq_ b1_).1 _ row_
  have l5_ : vq_.length = 6 := by
    have a_ : (6 : Int) ≤ (vq_.length : Int) := l3_
    have b_ : (vq_.length : Int) ≤ 6 := l4_
    omega
  obtain ⟨x0_, x1_, x2_, x3_, x4_, x5_, e6_⟩ := zt_l6 l5_
  subst e6_
  have t0_ : ∃ u : Int32, x0_ = .int u ∧ 0 ≤ u.toInt ∧ u.toInt ≤ 3 := zt_ty hTk (j := 0) b1_ rfl row_ rfl
  obtain ⟨u_, u1_, -⟩ := t0_
  have e1_ : x1_ = .ref now := Option.some.inj ((b2_ 1 (zv_m.o hM (by omega))).trans r1_)
  have e2_ : x2_ = .ref qw := Option.some.inj ((b2_ 2 (zv_m.o hM (by omega))).trans r2_)
  have e3_ : x3_ = .int (Int32.ofInt j) := zb_rvi (c2_.2.2 3 x3_ (.int (Int32.ofInt j)) (b2_ 3 (zv_m.o hM (by omega))).symm rfl).symm
  have e4_ : x4_ = .int (Int32.ofInt mi) := zb_rvi (c2_.2.2 4 x4_ (.int (Int32.ofInt mi)) (b2_ 4 (zv_m.o hM (by omega))).symm rfl).symm
  have e5_ : x5_ = .int (Int32.ofInt k) := zb_rvi (c2_.2.2 5 x5_ (.int (Int32.ofInt k)) (b2_ 5 (zv_m.o hM (by omega))).symm rfl).symm
  have kq_ : am_g G kk m = some (1019, zm_c u_.toInt now qw j mi k) := by
    rw [b1_, u1_, e1_, e2_, e3_, e4_, e5_]
    unfold zm_c
    rw [Int32.ofInt_toInt]
  rcases zb_as.cs (h := h) kq_ a1_ with y_ | y_
  · exact ⟨tx, th, y_, a2_, z1_, z2_⟩
  · exact ⟨1019, u_.toInt, y_, ⟨rfl, a2_.2⟩, z1_, z2_⟩
/-- a call that only asks -/
theorem zv_ask {y : MethodName} {cw : Cond} {fr lo mc ms : Nat} {a : List Value} {x m out : Nat} {r : Nat → Nat} {T Tm : sp_T} {P1 : am_O → List am_C → Prop} (I : zv_s G K h x m out r T Tm) (t1 : am_M l G y cw fr lo mc ms a h P1) (hP1 : ∀ o k, P1 o k → ck_HT li_X gT K (am_g G k) ∧ ∃ M, ck_Kp M [] (am_g G h) (am_g G k) ∧ zv_m M = true) :
    am_M l G y cw fr lo mc ms a h (fun o k => P1 o k ∧ zv_s G K k x m out r T Tm) := by
  obtain ⟨hT_, L_, ⟨⟨vx_, kx_⟩, ⟨vm_, km_⟩, ⟨vo_, ko_⟩⟩, ⟨o0_, ok_, l12_⟩, h2_, e_, ⟨R_, old_, cnt_, xx_, xl_⟩, ⟨th_, ow_, tx_, now_, qw_, mm_⟩, n0_, s0_, g0_⟩ := I
  refine (zb_and t1 t1).mono fun o k hq => ?_
  obtain ⟨p1_, o2_, k2_, -, -, er_⟩ := hq
  obtain ⟨hTk_, M_, kp_, hM_⟩ := hP1 o k p1_
  obtain ⟨vx2_, kx2_, -⟩ := zt_kp kp_ kx_
  obtain ⟨vm2_, km2_, -⟩ := zt_kp kp_ km_
  obtain ⟨vo2_, ko2_, -⟩ := zt_kp kp_ ko_
  obtain ⟨n2_, s2_, e2_⟩ := zv_out hTk_ ko2_
  rw [e2_] at ko2_
  obtain ⟨tx2_, th2_, m2_⟩ := zm_x.ask e_ L_ hT_ hTk_ kp_ hM_ mm_ km_
  refine ⟨p1_, hTk_, er_.l, ⟨⟨_, kx2_⟩, ⟨_, km2_⟩, ⟨_, ko2_⟩⟩, ⟨o0_, ok_, l12_⟩, zb_as h h2_ k, zb_as.eq e_, ⟨R_, old_, cnt_, zc_x.ask e_.ti hT_ hTk_ kp_ (zv_m.C hM_) (zv_m.b hM_) xx_ kx_, xl_⟩, ⟨th2_, ow_, tx2_, now_, qw_, m2_⟩, ?_⟩
  rcases zb_as.cs (h := h) ko2_ g0_ with y_ | y_
  · exact ⟨_, _, y_⟩
  · exact ⟨_, _, y_⟩
end ZVA
