/-! WHAT THE TYPES TELL OF THE REFERENCE'S CELLS; A THIRD PICTURE SHOWS THEM -/
def zt_M (t : Nat) : Bool := [1018, 1055, 1017, 42150, 41006, 41106, 41206, 40056, 40156, 40256, 2550, 41002].any fun k => Nat.beq k t
def zt_le (S : Nat → Bool) : Prop := ∀ t, zt_M t = true → S t = true
section ZTM
variable {K : Int32} {G : am_G} {h h2 mm : List am_C} {X : ck_XT} {S : Nat → Bool}
theorem zt_cst {p : Nat} (hp : p < 1000) : am_g G mm p = am_g G h2 p := by
  unfold am_g
  rw [if_pos hp, if_pos hp]
/-- a place of a row that may be null -/
theorem zt_el (e : zb_ti G h h2) (L : zb_l G h) (hT : ck_HT X gT K (am_g G h)) {p t t2 j v te : Nat} {vs vs2 : List Value} {d : ck_D} {u w : Int} (hg : am_g G h p = some (t, vs)) (hg2 : am_g G h2 p = some (t2, vs2)) (ht2 : t2 % 100 = t % 100) (h62 : t % 100 < 62) (hv : vs2[j]? = some (.ref v)) (hd : ck_lk gT t = some d) (hy : ck_yt d j = some (5, te, u, w)) (hte : te % 100 < 62) : v < 1000 ∨ ∃ ws : List Value, am_g G h v = some (te, ws) := by
  by_cases c_ : v < 1000
  · exact Or.inl c_
  · have c2_ := e.g hg hg2 ht2 h62
    obtain ⟨v_, v1_, v2_⟩ := c2_.val hv
    have y_ : 1000 ≤ te ∧ (v_ = .null ∨ ∃ (q : Nat) (vs : List Value), v_ = .ref q ∧ am_g G h q = some (te, vs)) := zt_ty hT hg v1_ hd hy
    rcases y_.2 with y1_ | ⟨q_, ws_, r1_, r2_⟩
    · rw [y1_] at v2_
      cases v2_
    · rw [r1_] at v2_
      have a_ : am_ad G v = am_ad G q_ := Value.ref.inj v2_
      by_cases cq_ : q_ < 1000
      · exact absurd a_.symm (L.ne cq_ r2_ hte (by omega))
      · have z_ := zt_adi (by omega) (by omega) a_
        exact Or.inr ⟨ws_, by rw [z_]; exact r2_⟩
/-- a place that holds a reference -/
theorem zt_el3 (e : zb_ti G h h2) (L : zb_l G h) (hT : ck_HT X gT K (am_g G h)) {p t t2 j v te : Nat} {vs vs2 : List Value} {d : ck_D} {u w : Int} (hg : am_g G h p = some (t, vs)) (hg2 : am_g G h2 p = some (t2, vs2)) (ht2 : t2 % 100 = t % 100) (h62 : t % 100 < 62) (hv : vs2[j]? = some (.ref v)) (hd : ck_lk gT t = some d) (hy : ck_yt d j = some (3, te, u, w)) (hw : ck_wr gT te = true) {tv : Nat} {ev : List Value} (hc : am_g G h2 v = some (tv, ev)) (hcv : tv % 100 < 62) : 1000 ≤ v ∧ ∃ ws : List Value, am_g G h v = some (te, ws) := by
  have c2_ := e.g hg hg2 ht2 h62
  obtain ⟨v_, v1_, v2_⟩ := c2_.val hv
  have y_ : 1000 ≤ te ∧ ∃ (q : Nat) (vs : List Value), v_ = .ref q ∧ am_g G h q = some (te, vs) := zt_ty hT hg v1_ hd hy
  obtain ⟨-, q_, ws_, r1_, r2_⟩ := y_
  rw [r1_] at v2_
  have a_ : am_ad G v = am_ad G q_ := Value.ref.inj v2_
  have q0_ := (hT.2 q_ te ws_ r2_).2.2 hw
  by_cases c_ : v < 1000
  · exact absurd a_ (L.ne (c := (tv, ev)) c_ ((zt_cst c_).trans hc) hcv q0_)
  · have z_ := zt_adi (by omega) q0_ a_
    exact ⟨by omega, ws_, by rw [z_]; exact r2_⟩
theorem zt_zr (f : zb_sh G S h h2 mm) (hS : zt_le S) {v : Nat} {r : Int × Int} (a : zm_r G h2 v r) (hk : v < 1000 ∨ ∃ ws : List Value, am_g G h v = some (2550, ws)) : zm_r G mm v r := by
  obtain ⟨t_, a1_, a2_⟩ := a
  rcases hk with c_ | ⟨ws_, k_⟩
  · exact ⟨t_, (zt_cst c_).trans a1_, a2_⟩
  · exact ⟨t_, f _ _ _ k_ a1_ (show t_ % 100 = 2550 % 100 by omega) (hS _ rfl), a2_⟩
theorem zt_zi (f : zb_sh G S h h2 mm) (hS : zt_le S) {v : Nat} {b : Int} (a : zm_i G h2 v b) (hk : v < 1000 ∨ ∃ ws : List Value, am_g G h v = some (41002, ws)) : zm_i G mm v b := by
  obtain ⟨t_, a1_, a2_⟩ := a
  rcases hk with c_ | ⟨ws_, k_⟩
  · exact ⟨t_, (zt_cst c_).trans a1_, a2_⟩
  · exact ⟨t_, f _ _ _ k_ a1_ (show t_ % 100 = 41002 % 100 by omega) (hS _ rfl), a2_⟩
theorem zt_zn (e : zb_ti G h h2) (L : zb_l G h) (hT : ck_HT X gT K (am_g G h)) (f : zb_sh G S h h2 mm) (hS : zt_le S) {v : Nat} {z : Int} (a : zn_N G h2 v z) {ws : List Value} (hk : am_g G h v = some (1017, ws)) : zn_N G mm v z := by
  obtain ⟨t_, d_, td_, b_, ds_, a1_, a2_, a3_, a4_, a5_⟩ := a
  obtain ⟨_, _, k_⟩ := zt_el3 e L hT (j := 1) (te := 42150) hk a1_ (show t_ % 100 = 1017 % 100 by omega) (by decide) rfl (rfl : ck_lk gT 1017 = some (0, 2, 2, [(1, 0, 0, 1), (3, 42150, 0, 0)])) rfl (by decide +kernel) a3_ (by omega)
  exact ⟨t_, d_, td_, b_, ds_, f _ _ _ hk a1_ (show t_ % 100 = 1017 % 100 by omega) (hS _ rfl), a2_, f _ _ _ k_ a3_ (show td_ % 100 = 42150 % 100 by omega) (hS _ rfl), a4_, a5_⟩
/-- a list of one of the three families -/
theorem zt_zl (e : zb_ti G h h2) (L : zb_l G h) (hT : ck_HT li_X gT K (am_g G h)) (f : zb_sh G S h h2 mm) (hS : zt_le S) {F : li_F} (hF : F ∈ li_Fs) {te : Nat} {u w lo hi : Int} (hd : ck_lk gT F.2.1 = some (1, lo, hi, [(5, te, u, w)])) (hte : te % 100 < 62) {o : Nat → Nat} {q lab : Nat} {vs : List Nat} (a : zm_l G h2 o q lab vs) {ws : List Value} (hk : am_g G h q = some (F.1, ws)) : zm_l G mm o q lab vs ∧ ∀ (i v : Nat), vs[i]? = some v → v < 1000 ∨ ∃ ws : List Value, am_g G h v = some (te, ws) := by
  have fk_ : F.1 % 100 = 6 ∧ F.2.1 % 100 = 56 ∧ zt_M F.1 = true ∧ zt_M F.2.1 = true := by
    have all_ : ∀ F ∈ li_Fs, F.1 % 100 = 6 ∧ F.2.1 % 100 = 56 ∧ zt_M F.1 = true ∧ zt_M F.2.1 = true := by decide
    exact all_ F hF
  obtain ⟨k1_, k2_, k3_, k4_⟩ := fk_
  obtain ⟨p_, N_, t_, tr_, mo_, a1_, a2_, a3_, a4_, ⟨a5_, a6_⟩, a7_, a8_⟩ := a
  have own_ := f _ _ _ hk a1_ (show t_ % 100 = F.1 % 100 by omega) (hS _ k3_)
  by_cases c_ : p_ < 1000
  · have n0_ : N_ = 0 := by omega
    refine ⟨⟨p_, N_, t_, tr_, mo_, own_, a2_, (zt_cst c_).trans a3_, a4_, ⟨a5_, a6_⟩, a7_, a8_⟩, fun i v hv => ?_⟩
    have l_ := (List.getElem?_eq_some_iff.mp hv).1
    omega
  · have c2_ := e.g hk a1_ (show t_ % 100 = F.1 % 100 by omega) (show F.1 % 100 < 62 by omega)
    obtain ⟨mc_, n_, r_, l1_, -, l3_⟩ := hT.1.2.1 F hF q ws hk
    have r1_ : am_ad G p_ = am_ad G r_ := by
      have z_ := c2_.2.2 1 (.ref r_) (.ref p_) (by rw [l1_]; rfl) rfl
      exact Value.ref.inj z_
    have kp_ : ∃ wr : List Value, am_g G h p_ = some (F.2.1, wr) := by
      rcases l3_ with ⟨y1_, -⟩ | ⟨wr_, y1_, -⟩
      · by_cases cr_ : r_ < 1000
        · exact absurd r1_.symm (L.ne cr_ y1_ (by decide) (by omega))
        · have z_ := zt_adi (by omega) (by omega) r1_
          rw [← z_] at y1_
          have zc_ := e.g y1_ a3_ (show tr_ % 100 = 43056 % 100 by omega) (by decide)
          have zl_ : (zl_ws N_ vs).length = 0 := zc_.2.1
          rw [zl_ws_len] at zl_
          omega
      · by_cases cr_ : r_ < 1000
        · exact absurd r1_.symm (L.ne cr_ y1_ (show F.2.1 % 100 < 62 by omega) (by omega))
        · have z_ := zt_adi (by omega) (by omega) r1_
          rw [← z_] at y1_
          exact ⟨wr_, y1_⟩
    obtain ⟨wr_, kr_⟩ := kp_
    refine ⟨⟨p_, N_, t_, tr_, mo_, own_, a2_, f _ _ _ kr_ a3_ (show tr_ % 100 = F.2.1 % 100 by omega) (hS _ k4_), a4_, ⟨a5_, a6_⟩, a7_, a8_⟩, fun i v hv => ?_⟩
    exact zt_el e L hT (j := i) kr_ a3_ (by omega) (by omega) (zl_ws_get hv a5_) hd rfl hte
theorem zt_zs (e : zb_ti G h h2) (L : zb_l G h) (hT : ck_HT li_X gT K (am_g G h)) (f : zb_sh G S h h2 mm) (hS : zt_le S) {o : Nat → Nat} {s : Nat} {c : sp_S} (a : zm_s G h2 o s c) {ws : List Value} (hk : am_g G h s = some (1018, ws)) : zm_s G mm o s c := by
  obtain ⟨t_, qn_, tn_, ql_, qb_, vn_, vl_, vb_, a1_, a2_, ⟨b1_, b2_, b3_, b4_⟩, ⟨c1_, c2_⟩, ⟨d1_, d2_⟩, ⟨e1_, e2_⟩, ⟨f1_, f2_⟩⟩ := a
  have row_ : ck_lk gT 1018 = some (0, 4, 4, [(1, 0, -9, 400), (3, 1055, 0, 0), (3, 41006, 0, 0), (3, 41106, 0, 0)]) := rfl
  have tt_ : t_ % 100 = 1018 % 100 := by omega
  have hl_ : 1000 ≤ ql_ := by
    obtain ⟨_, _, _, _, _, -, -, -, -, ⟨-, z_⟩, -⟩ := c1_
    exact z_
  have hb_ : 1000 ≤ qb_ := by
    obtain ⟨_, _, _, _, _, -, -, -, -, ⟨-, z_⟩, -⟩ := c2_
    exact z_
  obtain ⟨wn_, kn_⟩ := zt_ref e hT (j := 1) (q2 := qn_) (t' := 1055) hk a1_ tt_ (by decide) rfl b3_ row_ rfl (by decide +kernel)
  obtain ⟨wl_, kl_⟩ := zt_ref e hT (j := 2) (q2 := ql_) (t' := 41006) hk a1_ tt_ (by decide) rfl hl_ row_ rfl (by decide +kernel)
  obtain ⟨wb_, kb_⟩ := zt_ref e hT (j := 3) (q2 := qb_) (t' := 41106) hk a1_ tt_ (by decide) rfl hb_ row_ rfl (by decide +kernel)
  have tn2_ : tn_ % 100 = 1055 % 100 := by omega
  obtain ⟨g1_, g2_⟩ := zt_zl e L hT f hS (F := li_fr) (by decide) (te := 2550) (rfl : ck_lk gT 40056 = some (1, 10, 24, [(5, 2550, 0, 0)])) (by decide) c1_ kl_
  obtain ⟨g3_, g4_⟩ := zt_zl e L hT f hS (F := li_fb) (by decide) (te := 41002) (rfl : ck_lk gT 40156 = some (1, 10, 24, [(5, 41002, 0, 0)])) (by decide) c2_ kb_
  refine ⟨t_, qn_, tn_, ql_, qb_, vn_, vl_, vb_, f _ _ _ hk a1_ tt_ (hS _ rfl), a2_, ⟨f _ _ _ kn_ b1_ tn2_ (hS _ rfl), b2_, b3_, b4_⟩, ⟨g1_, g3_⟩, ⟨d1_, fun i v z h1 h2 => ?_⟩, ⟨e1_, fun i v r h1 h2 => zt_zr f hS (e2_ i v r h1 h2) (g2_ i v h1)⟩, ⟨f1_, fun i v b h1 h2 => zt_zi f hS (f2_ i v b h1 h2) (g4_ i v h1)⟩⟩
  have n_ := d2_ i v z h1 h2
  obtain ⟨tv_, dv_, td_, bv_, ds_, x1_, x2_, -⟩ := id n_
  obtain ⟨_, wv_, kv_⟩ := zt_el3 e L hT (j := i) (te := 1017) kn_ b1_ tn2_ (by decide) (zm_nv h1) (rfl : ck_lk gT 1055 = some (1, 6, 6, [(3, 1017, 0, 0)])) rfl (by decide +kernel) x1_ (by omega)
  exact zt_zn e L hT f hS n_ kv_
/-- the reference, its own cell aside -/
theorem zt_zx (e : zb_ti G h h2) (L : zb_l G h) (hT : ck_HT li_X gT K (am_g G h)) (f : zb_sh G S h h2 mm) (hS : zt_le S) {o : Nat → Nat} {x tx now qw : Nat} {th j m k : Int} {c : sp_S} {P : List sp_S} (a : zm_x G h2 o x tx now qw th j m k c P) {ws : List Value} (hk : am_g G h x = some (1019, ws)) : zm_s G mm o now c ∧ zm_W G mm o qw now P := by
  have n0_ := a.lt
  obtain ⟨a1_, a2_, hs_, ss_, l1_, l2_, l3_, l4_, l5_⟩ := a
  have row_ : ck_lk gT 1019 = some (0, 6, 6, [(1, 0, 0, 3), (3, 1018, 0, 0), (3, 41206, 0, 0), (1, 0, -2147483648, 2147483647), (1, 0, -2147483648, 2147483647), (1, 0, -2147483648, 2147483647)]) := rfl
  have tt_ : tx % 100 = 1019 % 100 := by omega
  have hw_ : 1000 ≤ qw := by
    obtain ⟨_, _, _, _, _, -, -, -, -, ⟨-, z_⟩, -⟩ := l1_
    exact z_
  obtain ⟨wn_, kn_⟩ := zt_ref e hT (j := 1) (q2 := now) (t' := 1018) hk a1_ tt_ (by decide) rfl n0_ row_ rfl (by decide +kernel)
  obtain ⟨wl_, kl_⟩ := zt_ref e hT (j := 2) (q2 := qw) (t' := 41206) hk a1_ tt_ (by decide) rfl hw_ row_ rfl (by decide +kernel)
  obtain ⟨g1_, g2_⟩ := zt_zl e L hT f hS (F := li_fs) (by decide) (te := 1018) (rfl : ck_lk gT 40256 = some (1, 10, 24, [(5, 1018, 0, 0)])) (by decide) l1_ kl_
  refine ⟨zt_zs e L hT f hS hs_ kn_, ss_, g1_, l2_, fun i s p h1 h2 => ?_, l4_, l5_⟩
  have z_ := l3_ i s p h1 h2
  have s0_ : 1000 ≤ s := by
    obtain ⟨_, _, _, _, _, _, _, _, -, ⟨-, y_⟩, -⟩ := z_
    exact y_
  rcases g2_ i s h1 with y_ | ⟨wv_, kv_⟩
  · omega
  · exact zt_zs e L hT f hS z_ kv_
end ZTM
