/-! WHAT IS KNOWN OF BOTH SIDES, THE TYPES ASIDE -/
def zv_k (G : am_G) (h : List am_C) (x m out : Nat) (r : Nat → Nat) (T Tm : sp_T) : Prop :=
  zb_l G h ∧ ((∃ v, am_g G h x = some (1015, v)) ∧ (∃ v, am_g G h m = some (1019, v)) ∧ ∃ v, am_g G h out = some (1016, v)) ∧ (1000 ≤ out ∧ sp_ok Tm.1 ∧ Tm.2.1.length ≤ 12) ∧
  ∃ h2 : List am_C, zb_eq G h h2 ∧ zc_Y G h2 x r T ∧ (∃ th : Int, zm_Y G h2 m th Tm) ∧ ∃ (n0 : Int64) (s0 : Value), am_g G h2 out = some (1016, [.long n0, s0])
theorem zv_s.k {G : am_G} {K : Int32} {h : List am_C} {x m out : Nat} {r : Nat → Nat} {T Tm : sp_T} (a : zv_s G K h x m out r T Tm) : zv_k G h x m out r T Tm := a.2
theorem zv_k.s {G : am_G} {K : Int32} {h : List am_C} {x m out : Nat} {r : Nat → Nat} {T Tm : sp_T} (a : zv_k G h x m out r T Tm) (hT : ck_HT li_X gT K (am_g G h)) : zv_s G K h x m out r T Tm := ⟨hT, a⟩
/-- a raw cell gets a kind -/
theorem zb_eq.rt {G : am_G} {h : List am_C} {q t t' : Nat} {vs : List Value} (hg : am_g G h q = some (t, vs)) (hq : 1000 ≤ q) (ht : t' % 100 = t % 100) : zb_eq G h (am_s h q (t', vs)) ∧ ∀ h2, zb_eq G h h2 → zb_eq G (am_s h q (t', vs)) h2 := by
  have hl_ := am_g_lt hq hg
  have hg_ : h[q - 1000]? = some (t, vs) := by
    unfold am_g at hg
    rw [if_neg (by omega)] at hg
    exact hg
  refine ⟨⟨am_s_len _ _ _, fun i c d h1 hd => ?_⟩, fun h2 e => ⟨e.1.trans (am_s_len _ _ _).symm, fun i c d h1 hd => ?_⟩⟩
  · by_cases c_ : i = q - 1000
    · rw [c_] at h1 hd
      unfold am_s at hd
      rw [List.getElem?_set_self hl_] at hd
      rw [hg_] at h1
      cases h1
      cases hd
      exact ⟨ht, rfl, fun j v w hv hw => by
        rw [hv] at hw
        cases hw
        rfl⟩
    · unfold am_s at hd
      rw [List.getElem?_set_ne (fun y_ => c_ y_.symm), h1] at hd
      cases hd
      exact zb_c.rf
  · by_cases c_ : i = q - 1000
    · rw [c_] at h1 hd
      unfold am_s at h1
      rw [List.getElem?_set_self hl_] at h1
      cases h1
      obtain ⟨z1_, z2_, z3_⟩ := e.2 _ _ _ hg_ hd
      exact ⟨z1_.trans ht.symm, z2_, z3_⟩
    · unfold am_s at h1
      rw [List.getElem?_set_ne (fun y_ => c_ y_.symm)] at h1
      exact e.2 i c d h1 hd
theorem zb_l.eq {G : am_G} {h h2 : List am_C} (L : zb_l G h) (e : zb_eq G h h2) : zb_l G h2 := by
  obtain ⟨H_, a_, b_⟩ := L
  exact ⟨H_, e.H a_, b_⟩
theorem zt_rt {G : am_G} {h : List am_C} {q t t' : Nat} {vs : List Value} (hg : am_g G h q = some (t, vs)) (hq : 1000 ≤ q) (h1 : t < 1000) {p s : Nat} {v : List Value} (hp : am_g G h p = some (s, v)) (hs : 1000 ≤ s) : am_g G (am_s h q (t', vs)) p = some (s, v) := by
  rw [am_g_s hq (am_g_lt hq hg), if_neg (fun y_ => ?_)]
  · exact hp
  · rw [y_, hg] at hp
    cases hp
    omega
theorem zv_k.rt {G : am_G} {h : List am_C} {x m out : Nat} {r : Nat → Nat} {T Tm : sp_T} (a : zv_k G h x m out r T Tm) {q t t' : Nat} {vs : List Value} (hg : am_g G h q = some (t, vs)) (hq : 1000 ≤ q) (h1 : t < 1000) (ht : t' % 100 = t % 100) : zv_k G (am_s h q (t', vs)) x m out r T Tm := by
  obtain ⟨L_, ⟨⟨vx_, kx_⟩, ⟨vm_, km_⟩, ⟨vo_, ko_⟩⟩, b_, h2_, e_, c_⟩ := a
  obtain ⟨z1_, z2_⟩ := zb_eq.rt hg hq ht
  exact ⟨L_.eq z1_, ⟨⟨_, zt_rt hg hq h1 kx_ (by decide)⟩, ⟨_, zt_rt hg hq h1 km_ (by decide)⟩, ⟨_, zt_rt hg hq h1 ko_ (by decide)⟩⟩, b_, h2_, z2_ _ e_, c_⟩
