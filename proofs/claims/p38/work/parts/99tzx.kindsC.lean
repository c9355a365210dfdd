/-! WHAT THE TYPES TELL OF THE CLASS'S CELLS; WHAT ONLY ASKS LEAVES THEM -/
theorem zt_ty {X : ck_XT} {T : ck_TT} {K : Int32} {g : ck_g} (hT : ck_HT X T K g) {q t j : Nat} {vs : List Value} {v : Value} {d : ck_D} {y : ck_Y} (hg : g q = some (t, vs)) (hv : vs[j]? = some v) (hd : ck_lk T t = some d) (hy : ck_yt d j = some y) : ck_ty K g y v := by
  obtain ⟨-, c_⟩ := (hT.2 q t vs hg).1 d hd
  obtain ⟨y2_, z1_, z2_⟩ := c_ j v hv
  rw [hy] at z1_
  cases z1_
  exact z2_
theorem zt_adi {G : am_G} {q n : Nat} (hq : 1000 ≤ q) (hn : 1000 ≤ n) (e : am_ad G q = am_ad G n) : q = n := by
  unfold am_ad at e
  rw [if_neg (by omega), if_neg (by omega)] at e
  omega
/-- a reference of the exact picture: the kind of its cell in the typed one -/
theorem zt_ref {X : ck_XT} {T : ck_TT} {K : Int32} {G : am_G} {h h2 : List am_C} (e : zb_ti G h h2) (hT : ck_HT X T K (am_g G h)) {p t t2 j q2 t' : Nat} {vs vs2 : List Value} {d : ck_D} {u w : Int} (hg : am_g G h p = some (t, vs)) (hg2 : am_g G h2 p = some (t2, vs2)) (ht2 : t2 % 100 = t % 100) (h62 : t % 100 < 62) (hv : vs2[j]? = some (.ref q2)) (hq : 1000 ≤ q2) (hd : ck_lk T t = some d) (hy : ck_yt d j = some (3, t', u, w)) (hw : ck_wr T t' = true) : ∃ ws : List Value, am_g G h q2 = some (t', ws) := by
  have c2_ := e.g hg hg2 ht2 h62
  obtain ⟨v_, v1_, v2_⟩ := c2_.val hv
  have y_ : 1000 ≤ t' ∧ ∃ (q : Nat) (vs : List Value), v_ = .ref q ∧ am_g G h q = some (t', vs) := zt_ty hT hg v1_ hd hy
  obtain ⟨-, q_, ws_, r1_, r2_⟩ := y_
  rw [r1_] at v2_
  have a_ := zt_adi hq ((hT.2 q_ t' ws_ r2_).2.2 hw) (Value.ref.inj v2_)
  exact ⟨ws_, by rw [a_]; exact r2_⟩
/-- a cell that both pictures show with one kind of S -/
def zt_k (G : am_G) (S : Nat → Bool) (h h2 : List am_C) (p : Nat) : Prop := ∃ c d : am_C, am_g G h p = some c ∧ am_g G h2 p = some d ∧ d.1 % 100 = c.1 % 100 ∧ S c.1 = true
theorem zt_mk {G : am_G} {S : Nat → Bool} {h h2 : List am_C} {p t t2 : Nat} {vs ws : List Value} (h1 : am_g G h p = some (t, vs)) (h2e : am_g G h2 p = some (t2, ws)) (ht : t2 % 100 = t % 100) (hS : S t = true) : zt_k G S h h2 p := ⟨_, _, h1, h2e, ht, hS⟩
theorem zt_inM {S : Nat → Bool} {M : List (Nat × Nat)} (hM : (M.all fun m => !(S m.1)) = true) {t : Nat} (ht : S t = true) (j : Nat) : ck_inM M t j = false := by
  unfold ck_inM
  rw [List.any_eq_false]
  intro m_ hm_ hh_
  have a_ := List.all_eq_true.mp hM m_ hm_
  have b_ := ck_beq (Bool.and_eq_true_iff.mp hh_).1
  rw [b_, ht] at a_
  cases a_
/-- what has a kind that isn't written stays -/
theorem zt_st {S : Nat → Bool} {M : List (Nat × Nat)} (hM : (M.all fun m => !(S m.1)) = true) {g g' : ck_g} (kp : ck_Kp M [] g g') {p : Nat} {c : am_C} (hc : g p = some c) (hS : S c.1 = true) : g' p = some c := by
  rcases kp p c.1 c.2 hc with ⟨a_, -⟩ | ⟨vs_, a1_, a2_, a3_⟩
  · cases a_
  · rw [a1_]
    have e_ : vs_ = c.2 := List.ext_getElem? fun j => a3_ j (zt_inM hM hS j)
    rw [e_]
theorem zb_as.sh {G : am_G} {S : Nat → Bool} {h h2 k : List am_C} {M : List (Nat × Nat)} (hM : (M.all fun m => !(S m.1)) = true) (kp : ck_Kp M [] (am_g G h) (am_g G k)) : zb_sh G S h h2 (zb_as h h2 k) := fun _ _ _ h1 h2 _ hS => zb_as.in h2 h1 (zt_st hM kp h1 hS)
theorem zt_k.as {G : am_G} {S : Nat → Bool} {h h2 mm : List am_C} (f : zb_sh G S h h2 mm) {p : Nat} (z : zt_k G S h h2 p) : am_g G mm p = am_g G h2 p := by
  obtain ⟨c_, d_, c1_, d1_, t1_, s1_⟩ := z
  rw [d1_]
  exact f p c_ d_ c1_ d1_ t1_ s1_
theorem zb_as.cs {G : am_G} {h h2 k : List am_C} {p : Nat} {c d : am_C} (hk : am_g G k p = some c) (h2d : am_g G h2 p = some d) : am_g G (zb_as h h2 k) p = some d ∨ am_g G (zb_as h h2 k) p = some c := by
  by_cases hc : am_g G h p = some c
  · exact Or.inl (zb_as.in h2d hc hk)
  · right
    unfold am_g at hk hc ⊢
    by_cases c_ : p < 1000
    · rw [if_pos c_] at hk hc
      exact absurd hk hc
    · rw [if_neg c_] at hk hc ⊢
      unfold zb_as
      rw [List.getElem?_mapIdx, hk]
      show some (if h[p - 1000]? = some c then (h2[p - 1000]?).getD c else c) = some c
      rw [if_neg hc]
def zt_C (t : Nat) : Bool := [1015, 1014, 1012, 1053, 1054, 1150, 1250, 1350, 1407, 1450].any fun k => Nat.beq k t
section ZTC
variable {K : Int32} {G : am_G} {h h2 : List am_C} {X : ck_XT}
theorem zt_s (e : zb_ti G h h2) (hT : ck_HT X gT K (am_g G h)) {s : Nat} {c : sp_S} (hs : zc_s G h2 s c) (h0 : 1000 ≤ s) {vs : List Value} (hk : am_g G h s = some (1014, vs)) : ∀ p, s ≤ p → p < s + 17 → zt_k G zt_C h h2 p := by
  obtain ⟨rs_, zs_, bs_, a1_, a2_, a3_, a4_, a5_, -, a7_⟩ := hs
  obtain ⟨w1_, k1_⟩ := zt_ref e hT (j := 1) (q2 := s + 1) (t' := 1053) hk a1_ rfl (by decide) rfl (by omega) (rfl : ck_lk gT 1014 = some (0, 7, 7, [(1, 0, -9, 400), (3, 1053, 0, 0), (1, 0, 0, 6), (3, 1150, 0, 0), (3, 1250, 0, 0), (1, 0, 0, 5), (3, 1350, 0, 0)])) rfl (by decide +kernel)
  obtain ⟨w2_, k2_⟩ := zt_ref e hT (j := 3) (q2 := s + 2) (t' := 1150) hk a1_ rfl (by decide) rfl (by omega) (rfl : ck_lk gT 1014 = some (0, 7, 7, [(1, 0, -9, 400), (3, 1053, 0, 0), (1, 0, 0, 6), (3, 1150, 0, 0), (3, 1250, 0, 0), (1, 0, 0, 5), (3, 1350, 0, 0)])) rfl (by decide +kernel)
  obtain ⟨w3_, k3_⟩ := zt_ref e hT (j := 4) (q2 := s + 3) (t' := 1250) hk a1_ rfl (by decide) rfl (by omega) (rfl : ck_lk gT 1014 = some (0, 7, 7, [(1, 0, -9, 400), (3, 1053, 0, 0), (1, 0, 0, 6), (3, 1150, 0, 0), (3, 1250, 0, 0), (1, 0, 0, 5), (3, 1350, 0, 0)])) rfl (by decide +kernel)
  obtain ⟨w4_, k4_⟩ := zt_ref e hT (j := 6) (q2 := s + 4) (t' := 1350) hk a1_ rfl (by decide) rfl (by omega) (rfl : ck_lk gT 1014 = some (0, 7, 7, [(1, 0, -9, 400), (3, 1053, 0, 0), (1, 0, 0, 6), (3, 1150, 0, 0), (3, 1250, 0, 0), (1, 0, 0, 5), (3, 1350, 0, 0)])) rfl (by decide +kernel)
  have n_ : ∀ i, i < 6 → zt_k G zt_C h h2 (s + 5 + 2 * i) ∧ zt_k G zt_C h h2 (s + 5 + 2 * i + 1) := fun i hi => by
    obtain ⟨n_, sg_, ls_, b1_, b2_, -⟩ := a7_ i hi
    obtain ⟨w5_, k5_⟩ := zt_ref e hT (j := i) (q2 := s + 5 + 2 * i) (t' := 1407) k1_ a2_ rfl (by decide) (zc_rl_get hi) (by omega) (rfl : ck_lk gT 1053 = some (1, 6, 6, [(3, 1407, 0, 0)])) rfl (by decide +kernel)
    obtain ⟨w6_, k6_⟩ := zt_ref e hT (j := 0) (q2 := s + 5 + 2 * i + 1) (t' := 1450) k5_ b1_ rfl (by decide) rfl (by omega) (rfl : ck_lk gT 1407 = some (0, 3, 3, [(3, 1450, 0, 0), (1, 0, 0, 10), (1, 0, -2147483648, 2147483647)])) rfl (by decide +kernel)
    exact ⟨zt_mk k5_ b1_ rfl rfl, zt_mk k6_ b2_ rfl rfl⟩
  intro p hp1 hp2
  by_cases c0_ : p < s + 5
  · rcases (by omega : p = s ∨ p = s + 1 ∨ p = s + 2 ∨ p = s + 3 ∨ p = s + 4) with y_ | y_ | y_ | y_ | y_ <;> subst y_
    · exact zt_mk hk a1_ rfl rfl
    · exact zt_mk k1_ a2_ rfl rfl
    · exact zt_mk k2_ a3_ rfl rfl
    · exact zt_mk k3_ a4_ rfl rfl
    · exact zt_mk k4_ a5_ rfl rfl
  · obtain ⟨i_, hi_, y_⟩ : ∃ i, i < 6 ∧ (p = s + 5 + 2 * i ∨ p = s + 5 + 2 * i + 1) := ⟨(p - (s + 5)) / 2, by omega, by omega⟩
    rcases y_ with y_ | y_
    · rw [y_]
      exact (n_ i_ hi_).1
    · rw [y_]
      exact (n_ i_ hi_).2
theorem zt_p (e : zb_ti G h h2) (hT : ck_HT X gT K (am_g G h)) {q : Nat} {R : Nat → sp_S} {old cnt : Nat} (hp : zc_p G h2 q R old cnt) (h0 : 1000 ≤ q) {vs : List Value} (hk : am_g G h q = some (1012, vs)) : ∀ p, q ≤ p → p < q + 206 → zt_k G zt_C h h2 p := by
  obtain ⟨a1_, a2_, a3_, -⟩ := hp
  obtain ⟨w1_, k1_⟩ := zt_ref e hT (j := 0) (q2 := q + 1) (t' := 1054) hk a1_ rfl (by decide) rfl (by omega) (rfl : ck_lk gT 1012 = some (0, 3, 3, [(3, 1054, 0, 0), (1, 0, 0, 11), (1, 0, 0, 12)])) rfl (by decide +kernel)
  intro p hp1 hp2
  by_cases c0_ : p < q + 2
  · rcases (by omega : p = q ∨ p = q + 1) with y_ | y_ <;> subst y_
    · exact zt_mk hk a1_ rfl rfl
    · exact zt_mk k1_ a2_ rfl rfl
  · obtain ⟨i_, hi_, y1_, y2_⟩ : ∃ i, i < 12 ∧ q + 2 + 17 * i ≤ p ∧ p < q + 2 + 17 * i + 17 := ⟨(p - (q + 2)) / 17, by omega, by omega, by omega⟩
    obtain ⟨w5_, k5_⟩ := zt_ref e hT (j := i_) (q2 := q + 2 + 17 * i_) (t' := 1014) k1_ a2_ rfl (by decide) (zc_rl_get hi_) (by omega) (rfl : ck_lk gT 1054 = some (1, 12, 12, [(3, 1014, 0, 0)])) rfl (by decide +kernel)
    exact zt_s e hT (a3_ i_ hi_).1 (by omega) k5_ p y1_ y2_
end ZTC
