/-! TWO PICTURES OF ONE HEAP, TIED CELL BY CELL -/
def zb_c (G : am_G) (c d : am_C) : Prop := d.1 % 100 = c.1 % 100 ∧ d.2.length = c.2.length ∧ ∀ (j : Nat) (v w : Value), c.2[j]? = some v → d.2[j]? = some w → am_rv G w = am_rv G v
def zb_eq (G : am_G) (h h2 : List am_C) : Prop := h2.length = h.length ∧ ∀ (i : Nat) (c d : am_C), h[i]? = some c → h2[i]? = some d → zb_c G c d
theorem zb_c.rf {G : am_G} {c : am_C} : zb_c G c c := ⟨rfl, rfl, fun j v w h1 h2 => by
  rw [h1] at h2
  cases h2
  rfl⟩
theorem zb_eq.rf {G : am_G} {h : List am_C} : zb_eq G h h := ⟨rfl, fun i c d h1 h2 => by
  rw [h1] at h2
  cases h2
  exact zb_c.rf⟩
theorem zb_c.val {G : am_G} {c d : am_C} (e : zb_c G c d) {j : Nat} {w : Value} (hw : d.2[j]? = some w) : ∃ v : Value, c.2[j]? = some v ∧ am_rv G w = am_rv G v := by
  have l_ : j < c.2.length := by
    have l0_ := (List.getElem?_eq_some_iff.mp hw).1
    have l1_ := e.2.1
    omega
  exact ⟨c.2[j], List.getElem?_eq_getElem l_, e.2.2 j _ _ (List.getElem?_eq_getElem l_) hw⟩
theorem zb_c.ro {G : am_G} {c d : am_C} (e : zb_c G c d) {cell : Cell} (r : am_ro G c cell) : am_ro G d cell := by
  obtain ⟨r1_, r2_, r3_, r4_⟩ := r
  refine ⟨r1_, r2_, fun hd_ => ?_, fun hd_ hd2_ => ?_⟩
  · rw [e.1] at hd_
    obtain ⟨q_, a1_, a2_, a3_, a4_⟩ := r3_ hd_
    refine ⟨q_, by rw [e.1]; exact a1_, by rw [e.2.1]; exact a2_, by rw [e.1]; exact a3_, fun j w hw => ?_⟩
    obtain ⟨v_, v1_, v2_⟩ := e.val hw
    rw [e.1, v2_]
    exact a4_ j v_ v1_
  · rw [e.1] at hd_ hd2_
    obtain ⟨a1_, a2_, a3_⟩ := r4_ hd_ hd2_
    refine ⟨by rw [e.1]; exact a1_, by rw [e.2.1]; exact a2_, fun j w hw => ?_⟩
    obtain ⟨v_, v1_, v2_⟩ := e.val hw
    rw [v2_]
    exact a3_ j v_ v1_
theorem zb_eq.at {G : am_G} {h h2 : List am_C} (e : zb_eq G h h2) {i : Nat} {d : am_C} (hd : h2[i]? = some d) : ∃ c : am_C, h[i]? = some c ∧ zb_c G c d := by
  have l_ : i < h.length := by
    have l0_ := (List.getElem?_eq_some_iff.mp hd).1
    have l1_ := e.1
    omega
  exact ⟨h[i], List.getElem?_eq_getElem l_, e.2 i _ _ (List.getElem?_eq_getElem l_) hd⟩
/-- the other picture shows the same heap -/
theorem zb_eq.H {G : am_G} {h h2 : List am_C} (e : zb_eq G h h2) {H : Heap} (hH : am_H G h H) : am_H G h2 H := by
  refine ⟨by rw [e.1]; exact hH.1, fun i d hd => ?_⟩
  obtain ⟨c_, c1_, c2_⟩ := e.at hd
  obtain ⟨cell_, b1_, b2_, b3_⟩ := hH.2 i c_ c1_
  exact ⟨cell_, b1_, c2_.ro b2_, b3_⟩
theorem zb_eq.g {G : am_G} {h h2 : List am_C} (e : zb_eq G h h2) {p : Nat} {d : am_C} (hd : am_g G h2 p = some d) : ∃ c : am_C, am_g G h p = some c ∧ zb_c G c d := by
  unfold am_g at hd ⊢
  by_cases c_ : p < 1000
  · rw [if_pos c_] at hd ⊢
    exact ⟨d, hd, zb_c.rf⟩
  · rw [if_neg c_] at hd ⊢
    exact e.at hd
/-- an exact contract of one picture, told of the other -/
theorem zb_sw {l : Launch} {G : am_G} {y : MethodName} {cw : Cond} {fr lo mc ms : Nat} {a : List Value} {h h2 : List am_C} {P : am_O → List am_C → Prop} (e : zb_eq G h h2) (h1 : am_M l G y cw fr lo mc ms a h2 P) : am_M l G y cw fr lo mc ms a h P :=
  fun p en he hf hc s m args below hs ha hP hK => h1 p en he hf hc s m args below hs ha ⟨hP.1, e.H hP.2.1, hP.2.2⟩ hK
/-- the typed contract and the exact one, of one call -/
theorem zb_join {l : Launch} {G : am_G} {y : MethodName} {cw : Cond} {fr lo mc ms : Nat} {a : List Value} {h h2 : List am_C} {P1 P2 : am_O → List am_C → Prop} (e : zb_eq G h h2) (t1 : am_M l G y cw fr lo mc ms a h P1) (t2 : am_M l G y cw fr lo mc ms a h2 P2) : am_M l G y cw fr lo mc ms a h (fun o k => P1 o k ∧ ∃ (o2 : am_O) (k2 : List am_C), P2 o2 k2 ∧ zb_o G o o2 ∧ zb_er G k k2) := zb_and t1 (zb_sw e t2)
/-- of two pictures one: the second where the kind is one of S and agrees -/
def zb_pk (S : Nat → Bool) (c d : am_C) : am_C := if S c.1 = true ∧ d.1 % 100 = c.1 % 100 then d else c
def zb_mg (S : Nat → Bool) (k k2 : List am_C) : List am_C := List.zipWith (zb_pk S) k k2
theorem zb_mg.len {S : Nat → Bool} {k k2 : List am_C} (e : k2.length = k.length) : (zb_mg S k k2).length = k.length := by
  unfold zb_mg
  rw [List.length_zipWith, e]
  exact Nat.min_self _
theorem zb_mg.at {S : Nat → Bool} {k k2 : List am_C} {i : Nat} {c d : am_C} (h1 : k[i]? = some c) (h2 : k2[i]? = some d) : (zb_mg S k k2)[i]? = some (zb_pk S c d) := by
  unfold zb_mg
  rw [List.getElem?_zipWith, h1, h2]
theorem zb_mg.eq {G : am_G} {S : Nat → Bool} {k k2 : List am_C} (e : zb_er G k k2) (hS : ∀ t, S t = true → t % 100 < 62) : zb_eq G k (zb_mg S k k2) := by
  have l_ := e.len
  refine ⟨zb_mg.len l_, fun i c d h1 h2 => ?_⟩
  have l2_ : i < k2.length := by
    have l0_ := (List.getElem?_eq_some_iff.mp h1).1
    omega
  rw [zb_mg.at h1 (List.getElem?_eq_getElem l2_)] at h2
  cases h2
  unfold zb_pk
  split
  · next hc =>
    have g1_ : am_g G k (1000 + i) = some (c.1, c.2) := by
      unfold am_g
      rw [if_neg (by omega), Nat.add_sub_cancel_left]
      exact h1
    have g2_ : am_g G k2 (1000 + i) = some (k2[i].1, k2[i].2) := by
      unfold am_g
      rw [if_neg (by omega), Nat.add_sub_cancel_left]
      exact List.getElem?_eq_getElem l2_
    obtain ⟨z1_, z2_⟩ := e.cell (by omega) g1_ g2_ hc.2 (hS _ hc.1)
    exact ⟨hc.2, z1_, z2_⟩
  · exact zb_c.rf
theorem zb_mg.in {G : am_G} {S : Nat → Bool} {k k2 : List am_C} {p : Nat} {c d : am_C} (h2 : am_g G k2 p = some d) (h1 : am_g G k p = some c) (hS : 1000 ≤ p → S c.1 = true ∧ d.1 % 100 = c.1 % 100) : am_g G (zb_mg S k k2) p = some d := by
  unfold am_g at h1 h2 ⊢
  by_cases c_ : p < 1000
  · rw [if_pos c_] at h2 ⊢
    exact h2
  · rw [if_neg c_] at h1 h2 ⊢
    rw [zb_mg.at h1 h2]
    unfold zb_pk
    rw [if_pos (hS (by omega))]
/-- behind a call that only asks: what has stayed is shown as before -/
def zb_as (h h2 k : List am_C) : List am_C := k.mapIdx fun i c => if h[i]? = some c then (h2[i]?).getD c else c
theorem zb_as.eq {G : am_G} {h h2 k : List am_C} (e : zb_eq G h h2) : zb_eq G k (zb_as h h2 k) := by
  refine ⟨by unfold zb_as; rw [List.length_mapIdx], fun i c d h1 hd => ?_⟩
  unfold zb_as at hd
  rw [List.getElem?_mapIdx, h1] at hd
  have hd_ : (if h[i]? = some c then (h2[i]?).getD c else c) = d := Option.some.inj hd
  split at hd_
  · next hc =>
    have l2_ : i < h2.length := by
      have l0_ := (List.getElem?_eq_some_iff.mp hc).1
      have l1_ := e.1
      omega
    rw [List.getElem?_eq_getElem l2_] at hd_
    have hd2_ : h2[i] = d := hd_
    exact e.2 i c d hc (by rw [List.getElem?_eq_getElem l2_, hd2_])
  · rw [← hd_]
    exact zb_c.rf
theorem zb_as.in {G : am_G} {h h2 k : List am_C} {p : Nat} {c d : am_C} (h2d : am_g G h2 p = some d) (hc : am_g G h p = some c) (hk : am_g G k p = some c) : am_g G (zb_as h h2 k) p = some d := by
  unfold am_g at h2d hc hk ⊢
  by_cases c_ : p < 1000
  · rw [if_pos c_] at h2d ⊢
    exact h2d
  · rw [if_neg c_] at h2d hc hk ⊢
    unfold zb_as
    rw [List.getElem?_mapIdx, hk]
    show some (if h[p - 1000]? = some c then (h2[p - 1000]?).getD c else c) = some d
    rw [if_pos hc, h2d]
    rfl
/-- tied where the kinds agree -/
def zb_ti (G : am_G) (h h2 : List am_C) : Prop := h2.length = h.length ∧ ∀ (p : Nat) (c d : am_C), 1000 ≤ p → am_g G h p = some c → am_g G h2 p = some d → d.1 % 100 = c.1 % 100 → c.1 % 100 < 62 → zb_c G c d
theorem zb_eq.ti {G : am_G} {h h2 : List am_C} (e : zb_eq G h h2) : zb_ti G h h2 := ⟨e.1, fun p c d hp h1 hd _ _ => by
  unfold am_g at h1 hd
  rw [if_neg (by omega)] at h1 hd
  exact e.2 _ c d h1 hd⟩
theorem zb_er.ti {G : am_G} {h h2 : List am_C} (e : zb_er G h h2) : zb_ti G h h2 := ⟨e.len, fun p c d hp h1 hd ht h62 => ⟨ht, e.cell hp (show am_g G h p = some (c.1, c.2) from h1) (show am_g G h2 p = some (d.1, d.2) from hd) ht h62⟩⟩
theorem zb_ti.g {G : am_G} {h h2 : List am_C} (e : zb_ti G h h2) {p : Nat} {c d : am_C} (h1 : am_g G h p = some c) (hd : am_g G h2 p = some d) (ht : d.1 % 100 = c.1 % 100) (h62 : c.1 % 100 < 62) : zb_c G c d := by
  by_cases c_ : p < 1000
  · unfold am_g at h1 hd
    rw [if_pos c_] at h1 hd
    rw [h1] at hd
    cases hd
    exact zb_c.rf
  · exact e.2 p c d (by omega) h1 hd ht h62
/-- a third picture that shows the second's cells where the kinds agree and are of S -/
def zb_sh (G : am_G) (S : Nat → Bool) (h h2 mm : List am_C) : Prop := ∀ (p : Nat) (c d : am_C), am_g G h p = some c → am_g G h2 p = some d → d.1 % 100 = c.1 % 100 → S c.1 = true → am_g G mm p = some d
theorem zb_mg.sh {G : am_G} {S : Nat → Bool} {k k2 : List am_C} : zb_sh G S k k2 (zb_mg S k k2) := fun _ _ _ h1 h2 ht hS => zb_mg.in h2 h1 fun _ => ⟨hS, ht⟩
/-- the heap of a picture -/
def zb_l (G : am_G) (h : List am_C) : Prop := ∃ H : Heap, am_H G h H ∧ am_kt G H
theorem zb_er.l {G : am_G} {h h2 : List am_C} (e : zb_er G h h2) : zb_l G h := by
  obtain ⟨H_, a_, -, b_⟩ := e
  exact ⟨H_, a_, b_⟩
/-- a constant isn't a cell made since -/
theorem zb_l.ne {G : am_G} {h : List am_C} (e : zb_l G h) {q n : Nat} {c : am_C} (hq : q < 1000) (hc : am_g G h q = some c) (h62 : c.1 % 100 < 62) (hn : 1000 ≤ n) : am_ad G q ≠ am_ad G n := by
  obtain ⟨H_, -, k_⟩ := e
  unfold am_g at hc
  rw [if_pos hq] at hc
  have l_ := ((k_ q c hc).2 h62).1
  have g_ := am_ad_ge (G := G) hn
  have q_ : am_ad G q = G.2.2.1 q := by
    unfold am_ad
    rw [if_pos hq]
  omega
