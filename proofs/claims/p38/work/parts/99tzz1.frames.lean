/-! WHAT A CALL OF ONE SIDE LEAVES OF THE OTHER -/
def zt_B (t : Nat) : Bool := [1015, 1014, 1012, 1053, 1054, 1150, 1250, 1350, 1407, 1450, 1007, 1050, 1011].any fun k => Nat.beq k t
def zt_N (t : Nat) : Bool := [1019, 1018, 1055, 1017, 42150, 41006, 41106, 41206, 40056, 40156, 40256, 2550, 41002].any fun k => Nat.beq k t
theorem zt_any {l : List Nat} {t : Nat} (h : (l.any fun k => Nat.beq k t) = true) : t ∈ l := by
  obtain ⟨k_, k1_, k2_⟩ := List.any_eq_true.mp h
  rw [← ck_beq k2_]
  exact k1_
theorem zt_mem {l : List Nat} {t : Nat} (h : t ∈ l) : (l.any fun k => Nat.beq k t) = true := List.any_eq_true.mpr ⟨t, h, Nat.beq_refl t⟩
theorem zt_BN {t : Nat} (h1 : zt_B t = true) (h2 : zt_N t = true) : False := by
  have d_ : ∀ a ∈ [1015, 1014, 1012, 1053, 1054, 1150, 1250, 1350, 1407, 1450, 1007, 1050, 1011], ∀ b ∈ [1019, 1018, 1055, 1017, 42150, 41006, 41106, 41206, 40056, 40156, 40256, 2550, 41002], a ≠ b := by decide
  exact d_ t (zt_any h1) t (zt_any h2) rfl
theorem zt_CB {t : Nat} (h : zt_C t = true) : zt_B t = true := by
  have d_ : ∀ a ∈ [1015, 1014, 1012, 1053, 1054, 1150, 1250, 1350, 1407, 1450], a ∈ [1015, 1014, 1012, 1053, 1054, 1150, 1250, 1350, 1407, 1450, 1007, 1050, 1011] := by decide
  exact zt_mem (d_ t (zt_any h))
theorem zt_MN {t : Nat} (h : zt_M t = true) : zt_N t = true := by
  have d_ : ∀ a ∈ [1018, 1055, 1017, 42150, 41006, 41106, 41206, 40056, 40156, 40256, 2550, 41002], a ∈ [1019, 1018, 1055, 1017, 42150, 41006, 41106, 41206, 40056, 40156, 40256, 2550, 41002] := by decide
  exact zt_mem (d_ t (zt_any h))
/-- kinds that a call of the reference leaves alone -/
theorem zt_Bm {t : Nat} (h : zt_B t = true) : t % 100 ≠ 19 ∧ t % 100 ≠ 18 ∧ t % 100 ≠ 55 ∧ t % 100 ≠ 6 ∧ t % 100 ≠ 56 := by
  have d_ : ∀ a ∈ [1015, 1014, 1012, 1053, 1054, 1150, 1250, 1350, 1407, 1450, 1007, 1050, 1011], a % 100 ≠ 19 ∧ a % 100 ≠ 18 ∧ a % 100 ≠ 55 ∧ a % 100 ≠ 6 ∧ a % 100 ≠ 56 := by decide
  exact d_ t (zt_any h)
section ZTF
variable {K : Int32} {G : am_G} {h h2 mm k2 : List am_C} {X : ck_XT} {S : Nat → Bool} {x : Nat} {r : Nat → Nat} {jj mi kn : Int} {c : sp_S} {R : Nat → sp_S} {old cnt : Nat}
theorem zt_k.B {p : Nat} (z : zt_k G zt_C h h2 p) : zt_k G zt_B h h2 p := by
  obtain ⟨c_, d_, a1_, a2_, a3_, a4_⟩ := z
  exact ⟨c_, d_, a1_, a2_, a3_, zt_CB a4_⟩
theorem zt_wB (e : zb_ti G h h2) (hT : ck_HT X gT K (am_g G h)) {q : Nat} (hw : zc_w G h2 q) (h0 : 1000 ≤ q) {vs : List Value} (hk : am_g G h q = some (1007, vs)) : zt_k G zt_B h h2 q ∧ zt_k G zt_B h h2 (q + 1) := by
  obtain ⟨n_, sg_, ls_, a1_, a2_, a3_, a4_⟩ := hw
  obtain ⟨w1_, k1_⟩ := zt_ref e hT (j := 0) (q2 := q + 1) (t' := 1050) hk a1_ rfl (by decide) rfl (by omega) (rfl : ck_lk gT 1007 = some (0, 3, 3, [(3, 1050, 0, 0), (1, 0, 0, 10), (1, 0, -2147483648, 2147483647)])) rfl (by decide +kernel)
  exact ⟨zt_mk hk a1_ rfl rfl, zt_mk k1_ a2_ rfl rfl⟩
/-- all cells of the class -/
theorem zt_all (e : zb_ti G h h2) (hT : ck_HT X gT K (am_g G h)) (a : zc_x G h2 x r jj mi kn c R old cnt) {vs : List Value} (hk : am_g G h x = some (1015, vs)) : (∀ p, x ≤ p → p < x + 228 → zt_k G zt_B h h2 p) ∧ zt_k G zt_B h h2 (r 4) := by
  obtain ⟨z1_, ⟨_, z2_⟩, ⟨_, z3_⟩, vj_, z4_⟩ := zt_x e hT a hk
  obtain ⟨a1_, a2_, a3_, a4_, ⟨a5_, a6_⟩, ⟨y1_, y2_, y3_, a7_⟩, a8_, a9_⟩ := a
  have b1_ := zt_wB e hT a5_ (by omega) z2_
  have b2_ := zt_wB e hT a6_ (by omega) z3_
  refine ⟨fun p hp1 hp2 => ?_, zt_mk z4_ a7_ rfl rfl⟩
  by_cases c0_ : p < x + 224
  · exact (z1_ p hp1 c0_).B
  · rcases (by omega : p = x + 224 ∨ p = x + 224 + 1 ∨ p = x + 226 ∨ p = x + 226 + 1) with y_ | y_ | y_ | y_ <;> rw [y_]
    · exact b1_.1
    · exact b1_.2
    · exact b2_.1
    · exact b2_.2
theorem zc_w.sm {h' : List am_C} {q : Nat} (a : zc_w G h2 q) (f1 : am_g G h' q = am_g G h2 q) (f2 : am_g G h' (q + 1) = am_g G h2 (q + 1)) : zc_w G h' q := by
  obtain ⟨n_, sg_, ls_, a1_, a2_, a3_, a4_⟩ := a
  exact ⟨n_, sg_, ls_, f1.trans a1_, f2.trans a2_, a3_, a4_⟩
theorem zc_x.sm {h' : List am_C} (a : zc_x G h2 x r jj mi kn c R old cnt) (f : ∀ p, x ≤ p → p < x + 228 → am_g G h' p = am_g G h2 p) (f4 : am_g G h' (r 4) = am_g G h2 (r 4)) : zc_x G h' x r jj mi kn c R old cnt := by
  obtain ⟨a1_, a2_, a3_, a4_, ⟨a5_, a6_⟩, ⟨y1_, y2_, y3_, a7_⟩, a8_, a9_⟩ := a
  exact ⟨(f _ (by omega) (by omega)).trans a1_, a2_.sm fun p h1 h2 => f p (by omega) (by omega), a3_, a4_.sm fun p h1 h2 => f p (by omega) (by omega), ⟨a5_.sm (f _ (by omega) (by omega)) (f _ (by omega) (by omega)), a6_.sm (f _ (by omega) (by omega)) (f _ (by omega) (by omega))⟩, ⟨y1_, y2_, y3_, f4.trans a7_⟩, a8_, a9_⟩
/-- the class in a third picture -/
theorem zc_x.mg (e : zb_ti G h h2) (hT : ck_HT X gT K (am_g G h)) (f : zb_sh G zt_B h h2 mm) (a : zc_x G h2 x r jj mi kn c R old cnt) {vs : List Value} (hk : am_g G h x = some (1015, vs)) : zc_x G mm x r jj mi kn c R old cnt := by
  obtain ⟨z1_, z2_⟩ := zt_all e hT a hk
  exact a.sm (fun p h1 h2 => (z1_ p h1 h2).as f) (z2_.as f)
/-- behind a call of the reference -/
theorem zc_x.rf (e : zb_ti G h h2) (hT : ck_HT X gT K (am_g G h)) (a : zc_x G h2 x r jj mi kn c R old cnt) {vs : List Value} (hk : am_g G h x = some (1015, vs)) (f : zm_fr G h2 k2) : zc_x G k2 x r jj mi kn c R old cnt := by
  refine zc_x.mg (mm := k2) e hT (fun p c d h1 hd ht hS => ?_) a hk
  refine f.2 p d.1 d.2 hd ?_
  rw [ht]
  exact zt_Bm hS
/-- the reference in a third picture, its own cell told -/
theorem zm_x.mg (e : zb_ti G h h2) (L : zb_l G h) (hT : ck_HT li_X gT K (am_g G h)) (f : zb_sh G zt_N h h2 mm) {o : Nat → Nat} {m tx now qw : Nat} {th : Int} {P : List sp_S} (a : zm_x G h2 o m tx now qw th jj mi kn c P) {ws : List Value} (hk : am_g G h m = some (1019, ws)) : zm_x G mm o m tx now qw th jj mi kn c P := by
  obtain ⟨z1_, z2_⟩ := zt_zx e L hT f (fun _ h => zt_MN h) a hk
  obtain ⟨a1_, a2_, -⟩ := a
  exact ⟨f _ _ _ hk a1_ (show tx % 100 = 1019 % 100 by omega) rfl, a2_, z1_, z2_⟩
/-- behind a call of the class -/
theorem zm_x.cl (e : zb_ti G h h2) (L : zb_l G h) (hT : ck_HT li_X gT K (am_g G h)) (a : zc_x G h2 x r jj mi kn c R old cnt) {vs : List Value} (hk : am_g G h x = some (1015, vs)) {out : Nat} {vo : List Value} (hO : am_g G h out = some (1016, vo)) (f : zc_of G h2 k2 x r out) {o : Nat → Nat} {m tx now qw : Nat} {th j2 m2 k3 : Int} {c2 : sp_S} {P : List sp_S} (b : zm_x G h2 o m tx now qw th j2 m2 k3 c2 P) {ws : List Value} (hm : am_g G h m = some (1019, ws)) : zm_x G k2 o m tx now qw th j2 m2 k3 c2 P := by
  obtain ⟨z1_, z2_⟩ := zt_all e hT a hk
  refine zm_x.mg (mm := k2) e L hT (fun p c d h1 hd ht hS => ?_) b hm
  refine f.2 p d hd ?_ (fun y_ => ?_) (fun y_ => ?_)
  · by_cases c_ : x ≤ p ∧ p < x + 228
    · obtain ⟨c9_, d9_, w1_, -, -, w4_⟩ := z1_ p c_.1 c_.2
      rw [h1] at w1_
      cases w1_
      exact (zt_BN w4_ hS).elim
    · omega
  · obtain ⟨c9_, d9_, w1_, -, -, w4_⟩ := z2_
    rw [← y_, h1] at w1_
    cases w1_
    exact zt_BN w4_ hS
  · rw [y_, hO] at h1
    cases h1
    cases hS
end ZTF
