/-! THE REFERENCE'S NUMBERS, EXACTLY -/
/-- what was there stays, the heap grows -/
def zg (G : am_G) (h h' : List am_C) : Prop := h.length ≤ h'.length ∧ ∀ (p : Nat) (c : am_C), am_g G h p = some c → am_g G h' p = some c
theorem zg.rf {G : am_G} {h : List am_C} : zg G h h := ⟨Nat.le_refl _, fun _ _ e => e⟩
theorem zg.tr {G : am_G} {h h' h2 : List am_C} (a : zg G h h') (b : zg G h' h2) : zg G h h2 := ⟨Nat.le_trans a.1 b.1, fun p c e => b.2 p c (a.2 p c e)⟩
theorem zg_lt {G : am_G} {h : List am_C} {q : Nat} {c : am_C} (hg : am_g G h q = some c) : q < 1000 + h.length := by
  by_cases c_ : 1000 ≤ q
  · have := am_g_lt c_ hg
    omega
  · omega
/-- a cell that is new is written -/
theorem zg.w {G : am_G} {h h' h2 : List am_C} {q : Nat} {c : am_C} (a : zg G h h') (w : hd_w G h' h2 q c) (hq : 1000 + h.length ≤ q) : zg G h h2 := ⟨by rw [w.1]; exact a.1, fun p d e => (w.ne (by have := zg_lt e; omega)).trans (a.2 p d e)⟩
theorem zg.i {G : am_G} {h h' h2 : List am_C} {q : Nat} (a : zg G h h') (hl : h'.length ≤ h2.length) (hq : 1000 + h.length ≤ q) (f : ∀ (p : Nat) (c : am_C), p ≠ q → am_g G h' p = some c → am_g G h2 p = some c) : zg G h h2 := ⟨Nat.le_trans a.1 hl, fun p d e => f p d (by have := zg_lt e; omega) (a.2 p d e)⟩
theorem zw_W {S : ck_SS} {G : am_G} {Rc Rs pc nx ci t m k n : Nat} {ds : List Nat} {vs : List Value} {h : List am_C} {L : List (Option Value)} {st : List Value} (H : ck_sW S Rc Rs pc nx ci ds) (ht : t % 100 = ci) (hv : ds.map ck_d0 = vs) (hm : ds.length = m) (hk : k + 1 ≤ Rc) (hn : n + m ≤ Rs) (kk : ∀ (h' : List am_C) (a : Nat), a = 1000 + h.length → h'.length = h.length + 1 → zg G h h' → am_g G h' a = some (t, vs) → S nx L (.ref a :: st) h' (k + 1) (n + m)) : S pc L st h k n := by
  subst hv
  subst hm
  exact H t L st h k n ht hk hn (kk _ _ rfl (by rw [List.length_append]; rfl) ⟨by rw [List.length_append]; omega, fun p c hg => hd_old hg⟩ hd_new)
theorem zw_E {S : ck_SS} {G : am_G} {Rc Rs pc nx ci t N k n : Nat} {e : Int} {h : List am_C} {L : List (Option Value)} {st : List Value} (H : ck_sE S Rc Rs pc nx ci 0) (ht : t % 100 = ci) (he : e = (N : Int)) (hN : N ≤ 1000000) (hk : k + 1 ≤ Rc) (hn : n + N ≤ Rs) (kk : ∀ (h' : List am_C) (a : Nat), a = 1000 + h.length → h'.length = h.length + 1 → zg G h h' → am_g G h' a = some (t, hd_r (List.replicate N 0)) → S nx L (.ref a :: st) h' (k + 1) (n + N)) : S pc L (.int (Int32.ofInt e) :: st) h k n := by
  subst he
  refine H t L st h (Int32.ofInt (N : Int)) N k n ht (hd_oi (by omega) (by omega)) hN hk hn ?_
  rw [hd_r0]
  exact kk _ _ rfl (by rw [List.length_append]; rfl) ⟨by rw [List.length_append]; omega, fun p c hg => hd_old hg⟩ hd_new
/-- what a row of digits and a sign stand for -/
def zn_is (ds : List Int) (b z : Int) : Prop := hd_d ds ∧ hd_pl ds ds.length ∧ (b = 0 ∨ b = 1) ∧ (b = 1 → 0 < ds.length) ∧ z = (if b = 1 then -(hd_v ds) else hd_v ds)
def zn_N (G : am_G) (h : List am_C) (q : Nat) (z : Int) : Prop := ∃ (t d td : Nat) (b : Int) (ds : List Int), am_g G h q = some (t, [.int (Int32.ofInt b), .ref d]) ∧ t % 100 = 17 ∧ am_g G h d = some (td, hd_r ds) ∧ td % 100 = 50 ∧ zn_is ds b z
theorem zn_N.g {G : am_G} {h h' : List am_C} {q : Nat} {z : Int} (a : zn_N G h q z) (f : zg G h h') : zn_N G h' q z := by
  obtain ⟨t_, d_, td_, b_, ds_, a1_, a2_, a3_, a4_, a5_⟩ := a
  exact ⟨t_, d_, td_, b_, ds_, f.2 _ _ a1_, a2_, f.2 _ _ a3_, a4_, a5_⟩
theorem zn_is.zero {ds : List Int} {b z : Int} (h : zn_is ds b z) : z = 0 ↔ ds.length = 0 := by
  obtain ⟨h1_, h2_, h3_, h4_, h5_⟩ := h
  have nn_ := hd_v_nn h1_
  constructor
  · intro z0_
    apply Nat.eq_zero_of_not_pos
    intro p_
    have := h2_.pos h1_ p_
    rcases h3_ with c_ | c_
    · rw [if_neg (by omega)] at h5_; omega
    · rw [if_pos c_] at h5_; omega
  · intro l_
    rw [if_neg (fun y_ => by have := h4_ y_; omega), List.length_eq_zero_iff.mp l_] at h5_
    exact h5_
theorem zn_is.sgn {ds : List Int} {b z : Int} (h : zn_is ds b z) : (b = 1 ↔ z < 0) := by
  obtain ⟨h1_, h2_, h3_, h4_, h5_⟩ := h
  have nn_ := hd_v_nn h1_
  constructor
  · intro c_
    have := h2_.pos h1_ (h4_ c_)
    rw [if_pos c_] at h5_
    omega
  · intro c_
    rcases h3_ with d_ | d_
    · rw [if_neg (by omega)] at h5_; omega
    · exact d_
theorem zn_is.abs {ds : List Int} {b z : Int} (h : zn_is ds b z) : (z.natAbs : Int) = hd_v ds := by
  obtain ⟨h1_, h2_, h3_, h4_, h5_⟩ := h
  have nn_ := hd_v_nn h1_
  rcases h3_ with d_ | d_
  · rw [if_neg (by omega)] at h5_; omega
  · rw [if_pos d_] at h5_; omega
/-- what a new number is made of -/
theorem zn_is.mk {ds : List Int} {b : Int} {n : Nat} (hd : hd_d ds) (hb : b = 0 ∨ b = 1) (hn : hd_pl ds n) : zn_is (ds.take n) (if b = 1 ∧ 0 < n then 1 else 0) (if b = 1 then -(hd_v ds) else hd_v ds) := by
  have l_ : (ds.take n).length = n := by rw [List.length_take]; exact Nat.min_eq_left hn.1
  have v_ := hn.take (Nat.le_refl n)
  refine ⟨hd.take n, ⟨Nat.le_refl _, fun j d hj he => ?_, fun h0 => ?_⟩, ?_, ?_, ?_⟩
  · rw [List.getElem?_eq_none hj] at he
    cases he
  · rw [l_] at h0 ⊢
    obtain ⟨d_, e1_, e2_⟩ := hn.2.2 h0
    exact ⟨d_, by rw [List.getElem?_take_of_lt (by omega)]; exact e1_, e2_⟩
  · by_cases c_ : b = 1 ∧ 0 < n
    · rw [if_pos c_]; exact Or.inr rfl
    · rw [if_neg c_]; exact Or.inl rfl
  · intro y_
    rw [l_]
    by_cases c_ : b = 1 ∧ 0 < n
    · exact c_.2
    · rw [if_neg c_] at y_; omega
  · rw [v_]
    by_cases c_ : b = 1 ∧ 0 < n
    · rw [if_pos c_, if_pos c_.1, if_pos rfl]
    · rw [if_neg c_]
      by_cases b_ : b = 1
      · have n0_ : n = 0 := by
          apply Nat.eq_zero_of_not_pos
          intro y_
          exact c_ ⟨b_, y_⟩
        have z_ : hd_v ds = 0 := by
          rw [← v_, n0_, List.take_zero]
          rfl
        rw [z_, if_pos b_, if_neg (by decide)]
        rfl
      · rw [if_neg b_, if_neg (by decide)]
set_option maxRecDepth 100000 in
set_option maxHeartbeats 4000000 in
theorem zn_init_M {l : Launch} {G : am_G} {X : ck_XT} (g : gM l G X) {q0 qd t0 td : Nat} {x0 x1 : Value} {b : Int} {ds : List Int} {h : List am_C} (hq : 1000 ≤ q0) (hb : b = 0 ∨ b = 1) (h0 : t0 % 100 = 17) (h1 : td % 100 = 50) (hl : ds.length ≤ 1000) (hd : hd_d ds) (g0 : am_g G h q0 = some (t0, [x0, x1])) (g1 : am_g G h qd = some (td, hd_r ds)) {mc ms : Nat} (hmc : 1 ≤ mc) (hms : ds.length ≤ ms) {Post : am_O → List am_C → Prop}
    (hP : ∀ (h' : List am_C) (d n : Nat), hd_pl ds n → d = 1000 + h.length → h'.length = h.length + 1 → am_g G h' q0 = some (t0, [.int (Int32.ofInt (if b = 1 ∧ 0 < n then 1 else 0)), .ref d]) → am_g G h' d = some (50, hd_r (ds.take n)) → (∀ (p : Nat) (c : am_C), p ≠ q0 → am_g G h p = some c → am_g G h' p = some c) → Post (.inl none) h') :
    am_M l G yX12_init (.code yX12_init prog_15_method_1_code 5 none) 1 20 mc ms [.ref q0, .int (Int32.ofInt b), .ref qd] h Post := by
  have h2 : 50 % 100 = 50 := rfl
  have h0' := h0
  refine gh_yX12_init_H g.1 (Nat.le_of_ble_eq_true rfl) fun S SX hs hr hw => ?_
  have hqd : qd ≠ q0 := by
    rintro rfl
    rw [g0] at g1
    have := (Prod.mk.inj (Option.some.inj g1)).1
    omega
  refine hr 0 _ _ _ _ _ q0 t0 t0 _ g0 hq (by omega) ?_
  have hw0 := hd_w.s (c := (t0, [x0, x1])) hq g0
  have k0 := hw0.at
  have k1 := (hw0.ne hqd).trans g1
  have hlen := hw0.1
  have H39 : ∀ (n : Nat) (v : Int), hd_pl ds n → 0 ≤ v → v ≤ 1 → v = (if b = 1 ∧ 0 < n then 1 else 0) → S 39 [some (.ref q0), some (.int (Int32.ofInt b)), some (.ref qd), some (.int (Int32.ofInt (n : Int))), none] [.int (Int32.ofInt v), .ref q0] (am_s h q0 (t0, [x0, x1])) 0 0 := by
    intro n v hn hv1 hv2 hv3_
    have hnl := hn.1
    have hv : ck_fv 1 (.int (Int32.ofInt v)) := ⟨_, rfl, by rw [hd_oi (by omega) (by omega)]; exact hv1, by rw [hd_oi (by omega) (by omega)]; exact hv2⟩
    refine hs 23 _ rfl _ _ _ _ _ _ _ _ _ hq k0 (by omega) hv ?_
    rw [show [x0, x1].set 0 (.int (Int32.ofInt v)) = [.int (Int32.ofInt v), x1] from rfl]
    have w2 := hd_w.s (c := (t0, [.int (Int32.ofInt v), x1])) hq k0
    have hl2 : (am_s (am_s h q0 (t0, [x0, x1])) q0 (t0, [.int (Int32.ofInt v), x1])).length = h.length := by rw [am_s_len, am_s_len]
    have hne : q0 ≠ 1000 + h.length := hd_neq g0
    have hnd : qd ≠ 1000 + h.length := hd_neq g1
    refine hs 24 _ rfl _ _ _ _ _ _ _ rfl ?_
    refine hs 25 _ rfl _ _ _ _ _ _ _ rfl ?_
    refine hs 26 _ rfl 50 _ _ _ _ n _ _ h2 (hd_oi (by omega) (by omega)) (by omega) (by omega) (by omega) ?_
    rw [show Int.toNat 0 = 0 from rfl]
    have j2 := hd_old (c := (50, List.replicate n (ck_d0 0))) w2.at
    refine hs 27 _ rfl _ _ _ _ _ _ _ _ _ hq j2 (by omega) (Or.inl ⟨_, rfl⟩) ?_
    rw [show ∀ u : Value, [.int (Int32.ofInt v), x1].set 1 u = [.int (Int32.ofInt v), u] from fun _ => rfl]
    refine hs 28 _ rfl _ _ _ _ _ _ _ rfl ?_
    refine hs 29 _ rfl _ _ _ _ _ _ _ rfl ?_
    have w4 := hd_w.s (c := (t0, [.int (Int32.ofInt v), .ref (1000 + (am_s (am_s h q0 (t0, [x0, x1])) q0 (t0, [.int (Int32.ofInt v), x1])).length)])) hq j2
    refine hd_init_l2 hs (qn := 1000 + (am_s (am_s h q0 (t0, [x0, x1])) q0 (t0, [.int (Int32.ofInt v), x1])).length) (by omega) h0' h1 h2 hnl hl (by rw [hl2]; exact hne) (by rw [hl2]; exact hnd) n 0 _ none (by omega) w4.at ?_ ?_ fun L h' hh => ?_
    · rw [w4.ne hqd, am_g_new, if_neg (by rw [hl2]; exact hnd), w2.ne hqd]; exact k1
    · rw [w4.ne (by rw [hl2]; exact fun z => hne z.symm), am_g_new, if_pos rfl, hd_r0]; rfl
    · have e : h' = am_s (h ++ [(50, hd_r (ds.take n))]) q0 (t0, [.int (Int32.ofInt v), .ref (1000 + h.length)]) := hd_eq fun p => by
        rw [hh.2 p, w4.2 p, am_g_new, w2.2 p, hw0.2 p, am_g_s hq (by rw [List.length_append]; have := am_g_lt hq g0; omega), am_g_new, hl2]
        by_cases e1 : p = q0
        · rw [if_pos e1, if_pos e1, if_neg (by rw [e1]; exact hne)]
        · by_cases e2 : p = 1000 + h.length
          · rw [if_pos e2, if_neg e1, if_pos e2]
          · rw [if_neg e2, if_neg e1, if_neg e2, if_neg e1, if_neg e1, if_neg e1, if_neg e2]
      rw [e]
      exact hs 42 _ rfl _ _ _ _ (by omega) (by omega) (by
        have wF_ := hd_w.s (c := (t0, [.int (Int32.ofInt v), .ref (1000 + h.length)])) hq (hd_old (c := (50, hd_r (ds.take n))) g0)
        rw [hv3_] at wF_ ⊢
        exact hP _ _ n hn rfl (wF_.1.trans (by rw [List.length_append]; rfl)) wF_.at ((wF_.ne (Ne.symm hne)).trans hd_new) fun p c hp hg => (wF_.ne hp).trans (hd_old hg))
  refine hs 0 _ rfl _ _ _ _ _ _ _ rfl ?_
  refine hs 1 _ rfl _ _ _ _ _ _ rfl (Nat.le_of_ble_eq_true rfl) ?_
  refine hs 2 _ rfl _ _ _ _ _ _ _ rfl ?_
  refine hd_Ln (hs 3 _ rfl) k1 h1 ?_
  refine hs 4 _ rfl _ _ _ _ _ _ _ rfl ?_
  refine hd_init_l1 hs h1 hl hd k1 (fun n hn => ?_) ds.length (Nat.le_refl _) fun j d hj he => by rw [List.getElem?_eq_none hj] at he; cases he
  have hnl := hn.1
  by_cases hb0 : b = 0
  · subst hb0
    refine hs 15 _ rfl _ _ _ _ _ _ _ rfl ?_
    refine hs 16 _ rfl _ _ _ _ _ _ _ rfl ?_
    refine hs 17 _ rfl _ _ _ _ _ _ (fun _ => ?_) (fun zq => absurd (hd_c1t (c := 0) (by omega) (by omega) (by omega : (0 : Int) = 0)) zq)
    refine hs 22 _ rfl _ _ _ _ _ _ _ rfl ?_
    exact H39 n 0 hn (by decide) (by decide) (by rw [if_neg (fun y_ => absurd y_.1 (by decide))])
  · by_cases hn0 : n = 0
    · subst hn0
      refine hs 15 _ rfl _ _ _ _ _ _ _ rfl ?_
      refine hs 16 _ rfl _ _ _ _ _ _ _ rfl ?_
      refine hs 17 _ rfl _ _ _ _ _ _ (fun zq => absurd (hd_c1z (c := 0) (by omega) (by omega) zq) (by omega : ¬ (b = 0))) (fun _ => ?_)
      refine hs 18 _ rfl _ _ _ _ _ _ _ rfl ?_
      refine hs 19 _ rfl _ _ _ _ _ _ (fun _ => ?_) (fun zq => absurd (hd_c1t (c := 5) (by omega) (by omega) (by omega : ((0 : Nat) : Int) ≤ 0)) zq)
      refine hs 22 _ rfl _ _ _ _ _ _ _ rfl ?_
      exact H39 0 0 hn (by decide) (by decide) (by rw [if_neg (fun y_ => absurd y_.2 (by decide))])
    · 
      refine hs 15 _ rfl _ _ _ _ _ _ _ rfl ?_
      refine hs 16 _ rfl _ _ _ _ _ _ _ rfl ?_
      refine hs 17 _ rfl _ _ _ _ _ _ (fun zq => absurd (hd_c1z (c := 0) (by omega) (by omega) zq) (by omega : ¬ (b = 0))) (fun _ => ?_)
      refine hs 18 _ rfl _ _ _ _ _ _ _ rfl ?_
      refine hs 19 _ rfl _ _ _ _ _ _ (fun zq => absurd (hd_c1z (c := 5) (by omega) (by omega) zq) (by omega : ¬ ((n : Int) ≤ 0))) (fun _ => ?_)
      refine hs 20 _ rfl _ _ _ _ _ _ _ rfl ?_
      refine hs 21 _ rfl _ _ _ _ _ ?_
      exact H39 n 1 hn (by decide) (by decide) (by rw [if_pos ⟨by omega, by omega⟩])
/-- a number is made: the answer of what ends with it -/
theorem zn_N.mk {G : am_G} {h' : List am_C} {q0 d t0 n : Nat} {b z : Int} {ds : List Int} (h0 : t0 % 100 = 17) (hd : hd_d ds) (hb : b = 0 ∨ b = 1) (hn : hd_pl ds n) (a1 : am_g G h' q0 = some (t0, [.int (Int32.ofInt (if b = 1 ∧ 0 < n then 1 else 0)), .ref d])) (a2 : am_g G h' d = some (50, hd_r (ds.take n))) (hz : (if b = 1 then -(hd_v ds) else hd_v ds) = z) : zn_N G h' q0 z := by
  subst hz
  exact ⟨t0, d, 50, _, _, a1, h0, a2, rfl, zn_is.mk hd hb hn⟩
set_option maxHeartbeats 4000000 in
theorem zn_isZero_M {l : Launch} {G : am_G} {X : ck_XT} (g : gM l G X)  {q t d td : Nat} {b z : Int} {ds : List Int} {h : List am_C} (hg : am_g G h q = some (t, [.int (Int32.ofInt b), .ref d])) (ht : t % 100 = 17) (hgd : am_g G h d = some (td, hd_r ds)) (htd : td % 100 = 50) (hi : zn_is ds b z) (hl : ds.length ≤ 1000) {mc ms : Nat} {Post : am_O → List am_C → Prop}
    (hP1 : z = 0 → Post (.inl (some (.int (Int32.ofInt 1)))) h) (hP0 : z ≠ 0 → Post (.inl (some (.int (Int32.ofInt 0)))) h) :
    am_M l G yX12_isZero (.code yX12_isZero prog_15_method_3_code 1 (some .boolean)) 1 20 mc ms [.ref q] h Post := by
  refine gh_yX12_isZero_X g (Nat.le_of_ble_eq_true rfl) fun S SX hs hr hw hx => ?_
  have rv : ∀ x : Int32, ck_fv 0 (.int x) := fun x => ⟨_, rfl⟩
  by_cases z_ : ds.length = 0
  · 
    refine hs 0 _ rfl _ _ _ _ _ _ _ rfl ?_
    refine hs 1 _ rfl _ _ _ _ _ _ _ _ _ (hg) ht rfl ?_
    refine hd_Ln (hs 2 _ rfl) (hgd) htd ?_
    refine hs 3 _ rfl _ _ _ _ _ _ (fun zq => absurd (hd_c1z (c := 1) (by omega) (by omega) zq) (by omega : ¬ ((ds.length : Int) ≠ 0))) (fun _ => ?_)
    refine hs 4 _ rfl _ _ _ _ _ _ _ rfl ?_
    refine hs 5 _ rfl _ _ _ _ _ ?_
    exact hs 7 _ rfl _ _ _ _ _ ⟨_, rfl, by decide, by decide⟩ (Nat.zero_le _) (Nat.zero_le _) (hP1 (hi.zero.mpr z_))
  · 
    refine hs 0 _ rfl _ _ _ _ _ _ _ rfl ?_
    refine hs 1 _ rfl _ _ _ _ _ _ _ _ _ (hg) ht rfl ?_
    refine hd_Ln (hs 2 _ rfl) (hgd) htd ?_
    refine hs 3 _ rfl _ _ _ _ _ _ (fun _ => ?_) (fun zq => absurd (hd_c1t (c := 1) (by omega) (by omega) (by omega : (ds.length : Int) ≠ 0)) zq)
    refine hs 6 _ rfl _ _ _ _ _ _ _ rfl ?_
    exact hs 7 _ rfl _ _ _ _ _ ⟨_, rfl, by decide, by decide⟩ (Nat.zero_le _) (Nat.zero_le _) (hP0 fun y_ => z_ (hi.zero.mp y_))
set_option maxHeartbeats 4000000 in
theorem zn_sign_M {l : Launch} {G : am_G} {X : ck_XT} (g : gM l G X)  {q t d td : Nat} {b z : Int} {ds : List Int} {h : List am_C} (hg : am_g G h q = some (t, [.int (Int32.ofInt b), .ref d])) (ht : t % 100 = 17) (hgd : am_g G h d = some (td, hd_r ds)) (htd : td % 100 = 50) (hi : zn_is ds b z) (hl : ds.length ≤ 1000) {mc ms : Nat} {Post : am_O → List am_C → Prop}
    (hP : Post (.inl (some (.int (Int32.ofInt z.sign)))) h) :
    am_M l G yX12_sign (.code yX12_sign prog_15_method_4_code 1 (some .int)) 2 40 mc ms [.ref q] h Post := by
  refine gh_yX12_sign_X g (Nat.le_of_ble_eq_true rfl) fun S SX hs hr hw hx => ?_
  have rv : ∀ x : Int32, ck_fv 0 (.int x) := fun x => ⟨_, rfl⟩
  by_cases z_ : z = 0
  · 
    refine hs 0 _ rfl _ _ _ _ _ _ _ rfl ?_
    refine zw_c (hs 1 _ rfl) (a := [.ref q]) (st := []) rfl rfl (Nat.le_of_ble_eq_true rfl) ⟨_, _, _, rfl, (hg), ht⟩ (Nat.zero_le _) (Nat.zero_le _) (zn_isZero_M g hg ht hgd htd hi hl (fun _ => ?_) (fun y_ => absurd z_ y_))
    show S 4 [some (.ref q)] [.int (Int32.ofInt (1 : Int))] _ _ _
    refine hs 2 _ rfl _ _ _ _ _ _ (fun zq => absurd (hd_c1z (c := 0) (by omega) (by omega) zq) (by omega : ¬ ((1 : Int) = 0))) (fun _ => ?_)
    refine hs 3 _ rfl _ _ _ _ _ _ _ rfl ?_
    refine hs 4 _ rfl _ _ _ _ _ ?_
    exact hs 11 _ rfl _ _ _ _ _ (rv _) (Nat.zero_le _) (Nat.zero_le _) (by rw [z_] at hP; exact hP)
  · by_cases c_ : b = 1
    · 
      refine hs 0 _ rfl _ _ _ _ _ _ _ rfl ?_
      refine zw_c (hs 1 _ rfl) (a := [.ref q]) (st := []) rfl rfl (Nat.le_of_ble_eq_true rfl) ⟨_, _, _, rfl, (hg), ht⟩ (Nat.zero_le _) (Nat.zero_le _) (zn_isZero_M g hg ht hgd htd hi hl (fun y_ => absurd y_ z_) (fun _ => ?_))
      show S 4 [some (.ref q)] [.int (Int32.ofInt (0 : Int))] _ _ _
      refine hs 2 _ rfl _ _ _ _ _ _ (fun _ => ?_) (fun zq => absurd (hd_c1t (c := 0) (by omega) (by omega) (by omega : (0 : Int) = 0)) zq)
      refine hs 5 _ rfl _ _ _ _ _ _ _ rfl ?_
      refine hs 6 _ rfl _ _ _ _ _ _ _ _ _ (hg) ht rfl ?_
      refine hs 7 _ rfl _ _ _ _ _ _ (fun zq => absurd (hd_c1z (c := 0) (by omega) (by omega) zq) (by omega : ¬ (b = 0))) (fun _ => ?_)
      refine hs 8 _ rfl _ _ _ _ _ _ _ rfl ?_
      refine hs 9 _ rfl _ _ _ _ _ ?_
      exact hs 11 _ rfl _ _ _ _ _ (rv _) (Nat.zero_le _) (Nat.zero_le _) (by rw [Int.sign_eq_neg_one_of_neg (hi.sgn.mp c_)] at hP; exact hP)
    · have b0_ : b = 0 := by
        rcases hi.2.2.1 with y_ | y_
        · exact y_
        · exact absurd y_ c_
      refine hs 0 _ rfl _ _ _ _ _ _ _ rfl ?_
      refine zw_c (hs 1 _ rfl) (a := [.ref q]) (st := []) rfl rfl (Nat.le_of_ble_eq_true rfl) ⟨_, _, _, rfl, (hg), ht⟩ (Nat.zero_le _) (Nat.zero_le _) (zn_isZero_M g hg ht hgd htd hi hl (fun y_ => absurd y_ z_) (fun _ => ?_))
      show S 4 [some (.ref q)] [.int (Int32.ofInt (0 : Int))] _ _ _
      refine hs 2 _ rfl _ _ _ _ _ _ (fun _ => ?_) (fun zq => absurd (hd_c1t (c := 0) (by omega) (by omega) (by omega : (0 : Int) = 0)) zq)
      refine hs 5 _ rfl _ _ _ _ _ _ _ rfl ?_
      refine hs 6 _ rfl _ _ _ _ _ _ _ _ _ (hg) ht rfl ?_
      refine hs 7 _ rfl _ _ _ _ _ _ (fun _ => ?_) (fun zq => absurd (hd_c1t (c := 0) (by omega) (by omega) (by omega : b = 0)) zq)
      refine hs 10 _ rfl _ _ _ _ _ _ _ rfl ?_
      exact hs 11 _ rfl _ _ _ _ _ (rv _) (Nat.zero_le _) (Nat.zero_le _) (by rw [Int.sign_eq_one_of_pos (show 0 < z by have := hi.sgn; omega)] at hP; exact hP)
set_option maxHeartbeats 4000000 in
theorem zn_many_M {l : Launch} {G : am_G} {X : ck_XT} (g : gM l G X)  {q t d td : Nat} {b z : Int} {ds : List Int} {h : List am_C} (hg : am_g G h q = some (t, [.int (Int32.ofInt b), .ref d])) (ht : t % 100 = 17) (hgd : am_g G h d = some (td, hd_r ds)) (htd : td % 100 = 50) (hi : zn_is ds b z) (hl : ds.length ≤ 1000) {mc ms : Nat} {Post : am_O → List am_C → Prop}
    (hP : Post (.inl (some (.int (Int32.ofInt ((if ds.length = 0 then 1 else ds.length : Nat) : Int))))) h) :
    am_M l G yX12_many (.code yX12_many prog_15_method_5_code 1 (some .int)) 2 40 mc ms [.ref q] h Post := by
  refine gh_yX12_many_X g (Nat.le_of_ble_eq_true rfl) fun S SX hs hr hw hx => ?_
  have rv : ∀ x : Int32, ck_fv 0 (.int x) := fun x => ⟨_, rfl⟩
  by_cases z_ : z = 0
  · 
    refine hs 0 _ rfl _ _ _ _ _ _ _ rfl ?_
    refine zw_c (hs 1 _ rfl) (a := [.ref q]) (st := []) rfl rfl (Nat.le_of_ble_eq_true rfl) ⟨_, _, _, rfl, (hg), ht⟩ (Nat.zero_le _) (Nat.zero_le _) (zn_isZero_M g hg ht hgd htd hi hl (fun _ => ?_) (fun y_ => absurd z_ y_))
    show S 4 [some (.ref q)] [.int (Int32.ofInt (1 : Int))] _ _ _
    refine hs 2 _ rfl _ _ _ _ _ _ (fun zq => absurd (hd_c1z (c := 0) (by omega) (by omega) zq) (by omega : ¬ ((1 : Int) = 0))) (fun _ => ?_)
    refine hs 3 _ rfl _ _ _ _ _ _ _ rfl ?_
    refine hs 4 _ rfl _ _ _ _ _ ?_
    exact hs 8 _ rfl _ _ _ _ _ (rv _) (Nat.zero_le _) (Nat.zero_le _) (by rw [if_pos (hi.zero.mp z_)] at hP; exact hP)
  · 
    refine hs 0 _ rfl _ _ _ _ _ _ _ rfl ?_
    refine zw_c (hs 1 _ rfl) (a := [.ref q]) (st := []) rfl rfl (Nat.le_of_ble_eq_true rfl) ⟨_, _, _, rfl, (hg), ht⟩ (Nat.zero_le _) (Nat.zero_le _) (zn_isZero_M g hg ht hgd htd hi hl (fun y_ => absurd y_ z_) (fun _ => ?_))
    show S 4 [some (.ref q)] [.int (Int32.ofInt (0 : Int))] _ _ _
    refine hs 2 _ rfl _ _ _ _ _ _ (fun _ => ?_) (fun zq => absurd (hd_c1t (c := 0) (by omega) (by omega) (by omega : (0 : Int) = 0)) zq)
    refine hs 5 _ rfl _ _ _ _ _ _ _ rfl ?_
    refine hs 6 _ rfl _ _ _ _ _ _ _ _ _ (hg) ht rfl ?_
    refine hd_Ln (hs 7 _ rfl) (hgd) htd ?_
    exact hs 8 _ rfl _ _ _ _ _ (rv _) (Nat.zero_le _) (Nat.zero_le _) (by rw [if_neg (fun y_ => z_ (hi.zero.mpr y_))] at hP; exact hP)
set_option maxHeartbeats 4000000 in
theorem zn_turned_M {l : Launch} {G : am_G} {X : ck_XT} (g : gM l G X)  {q t d td : Nat} {b z : Int} {ds : List Int} {h : List am_C} (hg : am_g G h q = some (t, [.int (Int32.ofInt b), .ref d])) (ht : t % 100 = 17) (hgd : am_g G h d = some (td, hd_r ds)) (htd : td % 100 = 50) (hi : zn_is ds b z) (hl : ds.length ≤ 1000) {mc ms : Nat} {Post : am_O → List am_C → Prop}
    (hmc : 2 ≤ mc) (hms : 2 + ds.length ≤ ms)
    (hP : ∀ (h' : List am_C) (p : Nat), zg G h h' → zn_N G h' p (-z) → Post (.inl (some (.ref p))) h') :
    am_M l G yX12_turned (.code yX12_turned prog_15_method_6_code 1 (some (.object "ClockhouseModel$Num"))) 2 44 mc ms [.ref q] h Post := by
  refine gh_yX12_turned_X g (Nat.le_of_ble_eq_true rfl) fun S SX hs hr hw hx => ?_
  have rv : ∀ x : Int32, ck_fv 0 (.int x) := fun x => ⟨_, rfl⟩
  have lq_ := zg_lt hg
  by_cases c_ : b = 1
  · 
    refine zw_W (G := G) (hs 0 _ rfl) (t := 17) (vs := [.int 0, .null]) (m := 2) rfl rfl rfl (by omega) (by omega) fun hz95 az96 ez97 lz98 gz99 cz100 => ?_
    refine hs 1 _ rfl _ _ _ _ _ _ _ rfl ?_
    refine hs 2 _ rfl _ _ _ _ _ _ _ rfl ?_
    refine hs 3 _ rfl _ _ _ _ _ _ _ _ _ ((gz99.2 _ _ hg)) ht rfl ?_
    refine hs 4 _ rfl _ _ _ _ _ _ (fun _ => ?_) (fun zq => absurd (hd_c1t (c := 1) (by omega) (by omega) (by omega : b ≠ 0)) zq)
    refine hs 7 _ rfl _ _ _ _ _ _ _ rfl ?_
    refine hs 8 _ rfl _ _ _ _ _ _ _ rfl ?_
    refine hs 9 _ rfl _ _ _ _ _ _ _ _ _ ((gz99.2 _ _ hg)) ht rfl ?_
    refine zw_cmn (hs 10 _ rfl) (a := [.ref az96, .int (Int32.ofInt (0 : Int)), .ref d]) (st := [.ref az96]) 1 ds.length rfl rfl (Nat.le_of_ble_eq_true rfl) ⟨_, _, _, rfl, (cz100), rfl⟩ (by omega) (by omega) (⟨zn_init_M g (ds := ds) (by omega) (Or.inl rfl) rfl htd hl hi.1 (cz100) ((gz99.2 _ _ hgd)) (by decide) (Nat.le_refl _) fun hi1_ d1_ n1_ p1_ e1_ l1_ a1_ a2_ f1_ => ?_, fun _ _ h9 => h9⟩)
    show S 23 [some (.ref q)] [.ref az96] _ _ _
    exact hs 11 _ rfl _ _ _ _ _ (Or.inl ⟨_, rfl⟩) (by omega) (by omega) (hP _ _ (zg.i gz99 (by omega) (by omega) f1_) (zn_N.mk rfl hi.1 (Or.inl rfl) p1_ a1_ a2_ (by rw [if_neg (by decide), hi.2.2.2.2, if_pos c_, Int.neg_neg])))
  · have b0_ : b = 0 := by
      rcases hi.2.2.1 with y_ | y_
      · exact y_
      · exact absurd y_ c_
    refine zw_W (G := G) (hs 0 _ rfl) (t := 17) (vs := [.int 0, .null]) (m := 2) rfl rfl rfl (by omega) (by omega) fun hz101 az102 ez103 lz104 gz105 cz106 => ?_
    refine hs 1 _ rfl _ _ _ _ _ _ _ rfl ?_
    refine hs 2 _ rfl _ _ _ _ _ _ _ rfl ?_
    refine hs 3 _ rfl _ _ _ _ _ _ _ _ _ ((gz105.2 _ _ hg)) ht rfl ?_
    refine hs 4 _ rfl _ _ _ _ _ _ (fun zq => absurd (hd_c1z (c := 1) (by omega) (by omega) zq) (by omega : ¬ (b ≠ 0))) (fun _ => ?_)
    refine hs 5 _ rfl _ _ _ _ _ _ _ rfl ?_
    refine hs 6 _ rfl _ _ _ _ _ ?_
    refine hs 8 _ rfl _ _ _ _ _ _ _ rfl ?_
    refine hs 9 _ rfl _ _ _ _ _ _ _ _ _ ((gz105.2 _ _ hg)) ht rfl ?_
    refine zw_cmn (hs 10 _ rfl) (a := [.ref az102, .int (Int32.ofInt (1 : Int)), .ref d]) (st := [.ref az102]) 1 ds.length rfl rfl (Nat.le_of_ble_eq_true rfl) ⟨_, _, _, rfl, (cz106), rfl⟩ (by omega) (by omega) (⟨zn_init_M g (ds := ds) (by omega) (Or.inr rfl) rfl htd hl hi.1 (cz106) ((gz105.2 _ _ hgd)) (by decide) (Nat.le_refl _) fun hi1_ d1_ n1_ p1_ e1_ l1_ a1_ a2_ f1_ => ?_, fun _ _ h9 => h9⟩)
    show S 23 [some (.ref q)] [.ref az102] _ _ _
    exact hs 11 _ rfl _ _ _ _ _ (Or.inl ⟨_, rfl⟩) (by omega) (by omega) (hP _ _ (zg.i gz105 (by omega) (by omega) f1_) (zn_N.mk rfl hi.1 (Or.inr rfl) p1_ a1_ a2_ (by rw [if_pos rfl, hi.2.2.2.2, if_neg c_])))
set_option maxHeartbeats 4000000 in
theorem zn_compare_M {l : Launch} {G : am_G} {X : ck_XT} (g : gM l G X) {p q tp tq : Nat} {A B : List Int} {h : List am_C} (hgp : am_g G h p = some (tp, hd_r A)) (htp : tp % 100 = 50) (hgq : am_g G h q = some (tq, hd_r B)) (htq : tq % 100 = 50) (hda : hd_d A) (hdb : hd_d B) (hpa : hd_pl A A.length) (hpb : hd_pl B B.length) (hla : A.length ≤ 1000) (hlb : B.length ≤ 1000) {mc ms : Nat} {Post : am_O → List am_C → Prop}
    (hP : ∀ c : Int, (-1 ≤ c ∧ c ≤ 1) → ((c < 0 ∧ hd_v A < hd_v B) ∨ (c = 0 ∧ hd_v A = hd_v B) ∨ (0 < c ∧ hd_v B < hd_v A)) → Post (.inl (some (.int (Int32.ofInt c)))) h) :
    am_M l G yX12_compare (.code yX12_compare prog_15_method_8_code 3 (some .int)) 1 20 mc ms [.ref p, .ref q] h Post := by
  refine gh_yX12_compare_X g (Nat.le_of_ble_eq_true rfl) fun S SX hs hr hw hx => ?_
  have rv : ∀ x : Int32, ck_fv 0 (.int x) := fun x => ⟨_, rfl⟩
  by_cases c_ : A.length < B.length
  · 
    refine hs 0 _ rfl _ _ _ _ _ _ _ rfl ?_
    refine hd_Ln (hs 1 _ rfl) (hgp) htp ?_
    refine hs 2 _ rfl _ _ _ _ _ _ _ rfl ?_
    refine hd_Ln (hs 3 _ rfl) (hgq) htq ?_
    refine hs 4 _ rfl _ _ _ _ _ _ _ (fun zq => absurd (hd_c2z (c := 0) (by omega) (by omega) (by omega) (by omega) zq) (by omega : ¬ (((A.length : Int) - (B.length : Int)) = 0))) (fun _ => ?_)
    refine hs 5 _ rfl _ _ _ _ _ _ _ rfl ?_
    refine hd_Ln (hs 6 _ rfl) (hgp) htp ?_
    refine hs 7 _ rfl _ _ _ _ _ _ _ rfl ?_
    refine hd_Ln (hs 8 _ rfl) (hgq) htq ?_
    refine hs 9 _ rfl _ _ _ _ _ _ _ (fun zq => absurd (hd_c2z (c := 3) (by omega) (by omega) (by omega) (by omega) zq) (by omega : ¬ (0 ≤ ((A.length : Int) - (B.length : Int))))) (fun _ => ?_)
    refine hs 10 _ rfl _ _ _ _ _ _ _ rfl ?_
    refine hs 11 _ rfl _ _ _ _ _ ?_
    exact hs 13 _ rfl _ _ _ _ _ (rv _) (Nat.zero_le _) (Nat.zero_le _) (hP _ ⟨by decide, by decide⟩ (Or.inl ⟨by omega, hpa.less hpb hda hdb c_⟩))
  · by_cases c2_ : B.length < A.length
    · 
      refine hs 0 _ rfl _ _ _ _ _ _ _ rfl ?_
      refine hd_Ln (hs 1 _ rfl) (hgp) htp ?_
      refine hs 2 _ rfl _ _ _ _ _ _ _ rfl ?_
      refine hd_Ln (hs 3 _ rfl) (hgq) htq ?_
      refine hs 4 _ rfl _ _ _ _ _ _ _ (fun zq => absurd (hd_c2z (c := 0) (by omega) (by omega) (by omega) (by omega) zq) (by omega : ¬ (((A.length : Int) - (B.length : Int)) = 0))) (fun _ => ?_)
      refine hs 5 _ rfl _ _ _ _ _ _ _ rfl ?_
      refine hd_Ln (hs 6 _ rfl) (hgp) htp ?_
      refine hs 7 _ rfl _ _ _ _ _ _ _ rfl ?_
      refine hd_Ln (hs 8 _ rfl) (hgq) htq ?_
      refine hs 9 _ rfl _ _ _ _ _ _ _ (fun _ => ?_) (fun zq => absurd (hd_c2t (c := 3) (by omega) (by omega) (by omega) (by omega) (by omega : 0 ≤ ((A.length : Int) - (B.length : Int)))) zq)
      refine hs 12 _ rfl _ _ _ _ _ _ _ rfl ?_
      exact hs 13 _ rfl _ _ _ _ _ (rv _) (Nat.zero_le _) (Nat.zero_le _) (hP _ ⟨by decide, by decide⟩ (Or.inr (Or.inr ⟨by omega, hpb.less hpa hdb hda c2_⟩)))
    · have loop_ : ∀ (k_ : Nat), k_ ≤ A.length → A.drop k_ = B.drop k_ → S 25 [some (.ref p), some (.ref q), some (.int (Int32.ofInt ((k_ : Int) - (1 : Int))))] [] h 0 0 := by
        intro k_
        induction k_ with
        | zero =>
          intro hk_ dr_
          rw [List.drop_zero, List.drop_zero] at dr_
          have kz_ : (((0 : Nat) : Int) - (1 : Int)) < 0 := by omega
          refine hs 19 _ rfl _ _ _ _ _ _ _ rfl ?_
          refine hs 20 _ rfl _ _ _ _ _ _ (fun _ => ?_) (fun zq => absurd (hd_c1t (c := 2) (by omega) (by omega) (by omega : (((0 : Nat) : Int) - (1 : Int)) < 0)) zq)
          refine hs 41 _ rfl _ _ _ _ _ _ _ rfl ?_
          exact hs 42 _ rfl _ _ _ _ _ (rv _) (Nat.zero_le _) (Nat.zero_le _) (hP _ ⟨by decide, by decide⟩ (Or.inr (Or.inl ⟨rfl, by rw [dr_]⟩)))
        | succ k_ ih_ =>
          intro hk_ dr_
          obtain ⟨a_, ga_⟩ : ∃ a_ : Int, A[k_]? = some a_ := ⟨_, List.getElem?_eq_getElem (by omega)⟩
          obtain ⟨b_, gb_⟩ : ∃ b_ : Int, B[k_]? = some b_ := ⟨_, List.getElem?_eq_getElem (by omega)⟩
          have da_ := hda.at ga_
          have db_ := hdb.at gb_
          rw [show (((k_ + 1 : Nat) : Int) - (1 : Int)) = ((k_ : Int) + (1 : Int) - (1 : Int)) by omega]
          rcases Int.lt_trichotomy a_ b_ with e_ | e_ | e_
          · 
            refine hs 19 _ rfl _ _ _ _ _ _ _ rfl ?_
            refine hs 20 _ rfl _ _ _ _ _ _ (fun zq => absurd (hd_c1z (c := 2) (by omega) (by omega) zq) (by omega : ¬ (((k_ : Int) + (1 : Int) - (1 : Int)) < 0))) (fun _ => ?_)
            refine hs 21 _ rfl _ _ _ _ _ _ _ rfl ?_
            refine hs 22 _ rfl _ _ _ _ _ _ _ rfl ?_
            refine hd_A (hs 23 _ rfl) (by decide) (by decide) (hgp) htp (j := k_) (by omega) (by omega) ga_ ?_
            refine hs 24 _ rfl _ _ _ _ _ _ _ rfl ?_
            refine hs 25 _ rfl _ _ _ _ _ _ _ rfl ?_
            refine hd_A (hs 26 _ rfl) (by decide) (by decide) (hgq) htq (j := k_) (by omega) (by omega) gb_ ?_
            refine hs 27 _ rfl _ _ _ _ _ _ _ (fun zq => absurd (hd_c2z (c := 0) (by omega) (by omega) (by omega) (by omega) zq) (by omega : ¬ ((a_ - b_) = 0))) (fun _ => ?_)
            refine hs 28 _ rfl _ _ _ _ _ _ _ rfl ?_
            refine hs 29 _ rfl _ _ _ _ _ _ _ rfl ?_
            refine hd_A (hs 30 _ rfl) (by decide) (by decide) (hgp) htp (j := k_) (by omega) (by omega) ga_ ?_
            refine hs 31 _ rfl _ _ _ _ _ _ _ rfl ?_
            refine hs 32 _ rfl _ _ _ _ _ _ _ rfl ?_
            refine hd_A (hs 33 _ rfl) (by decide) (by decide) (hgq) htq (j := k_) (by omega) (by omega) gb_ ?_
            refine hs 34 _ rfl _ _ _ _ _ _ _ (fun zq => absurd (hd_c2z (c := 3) (by omega) (by omega) (by omega) (by omega) zq) (by omega : ¬ (0 ≤ (a_ - b_)))) (fun _ => ?_)
            refine hs 35 _ rfl _ _ _ _ _ _ _ rfl ?_
            refine hs 36 _ rfl _ _ _ _ _ ?_
            exact hs 38 _ rfl _ _ _ _ _ (rv _) (Nat.zero_le _) (Nat.zero_le _) (hP _ ⟨by decide, by decide⟩ (Or.inl ⟨by omega, hd_cmp hda hdb ga_ gb_ dr_ e_⟩))
          · 
            refine hs 19 _ rfl _ _ _ _ _ _ _ rfl ?_
            refine hs 20 _ rfl _ _ _ _ _ _ (fun zq => absurd (hd_c1z (c := 2) (by omega) (by omega) zq) (by omega : ¬ (((k_ : Int) + (1 : Int) - (1 : Int)) < 0))) (fun _ => ?_)
            refine hs 21 _ rfl _ _ _ _ _ _ _ rfl ?_
            refine hs 22 _ rfl _ _ _ _ _ _ _ rfl ?_
            refine hd_A (hs 23 _ rfl) (by decide) (by decide) (hgp) htp (j := k_) (by omega) (by omega) ga_ ?_
            refine hs 24 _ rfl _ _ _ _ _ _ _ rfl ?_
            refine hs 25 _ rfl _ _ _ _ _ _ _ rfl ?_
            refine hd_A (hs 26 _ rfl) (by decide) (by decide) (hgq) htq (j := k_) (by omega) (by omega) gb_ ?_
            refine hs 27 _ rfl _ _ _ _ _ _ _ (fun _ => ?_) (fun zq => absurd (hd_c2t (c := 0) (by omega) (by omega) (by omega) (by omega) (by omega : (a_ - b_) = 0)) zq)
            refine hs 39 _ rfl _ _ _ _ _ _ _ (hd_inc rfl) ?_
            refine hs 40 _ rfl _ _ _ _ _ ?_
            rw [show ((k_ : Int) + (1 : Int) - (1 : Int) + (-1 : Int)) = ((k_ : Int) - (1 : Int)) by omega]
            refine ih_ (by omega) ?_
            rw [List.drop_eq_getElem_cons (show k_ < A.length by omega), List.drop_eq_getElem_cons (show k_ < B.length by omega), dr_]
            have a2_ := List.getElem?_eq_getElem (show k_ < A.length by omega)
            have b2_ := List.getElem?_eq_getElem (show k_ < B.length by omega)
            rw [ga_] at a2_
            rw [gb_] at b2_
            rw [← Option.some.inj a2_, ← Option.some.inj b2_, e_]
          · 
            refine hs 19 _ rfl _ _ _ _ _ _ _ rfl ?_
            refine hs 20 _ rfl _ _ _ _ _ _ (fun zq => absurd (hd_c1z (c := 2) (by omega) (by omega) zq) (by omega : ¬ (((k_ : Int) + (1 : Int) - (1 : Int)) < 0))) (fun _ => ?_)
            refine hs 21 _ rfl _ _ _ _ _ _ _ rfl ?_
            refine hs 22 _ rfl _ _ _ _ _ _ _ rfl ?_
            refine hd_A (hs 23 _ rfl) (by decide) (by decide) (hgp) htp (j := k_) (by omega) (by omega) ga_ ?_
            refine hs 24 _ rfl _ _ _ _ _ _ _ rfl ?_
            refine hs 25 _ rfl _ _ _ _ _ _ _ rfl ?_
            refine hd_A (hs 26 _ rfl) (by decide) (by decide) (hgq) htq (j := k_) (by omega) (by omega) gb_ ?_
            refine hs 27 _ rfl _ _ _ _ _ _ _ (fun zq => absurd (hd_c2z (c := 0) (by omega) (by omega) (by omega) (by omega) zq) (by omega : ¬ ((a_ - b_) = 0))) (fun _ => ?_)
            refine hs 28 _ rfl _ _ _ _ _ _ _ rfl ?_
            refine hs 29 _ rfl _ _ _ _ _ _ _ rfl ?_
            refine hd_A (hs 30 _ rfl) (by decide) (by decide) (hgp) htp (j := k_) (by omega) (by omega) ga_ ?_
            refine hs 31 _ rfl _ _ _ _ _ _ _ rfl ?_
            refine hs 32 _ rfl _ _ _ _ _ _ _ rfl ?_
            refine hd_A (hs 33 _ rfl) (by decide) (by decide) (hgq) htq (j := k_) (by omega) (by omega) gb_ ?_
            refine hs 34 _ rfl _ _ _ _ _ _ _ (fun _ => ?_) (fun zq => absurd (hd_c2t (c := 3) (by omega) (by omega) (by omega) (by omega) (by omega : 0 ≤ (a_ - b_))) zq)
            refine hs 37 _ rfl _ _ _ _ _ _ _ rfl ?_
            exact hs 38 _ rfl _ _ _ _ _ (rv _) (Nat.zero_le _) (Nat.zero_le _) (hP _ ⟨by decide, by decide⟩ (Or.inr (Or.inr ⟨by omega, hd_cmp hdb hda gb_ ga_ dr_.symm e_⟩)))
      refine hs 0 _ rfl _ _ _ _ _ _ _ rfl ?_
      refine hd_Ln (hs 1 _ rfl) (hgp) htp ?_
      refine hs 2 _ rfl _ _ _ _ _ _ _ rfl ?_
      refine hd_Ln (hs 3 _ rfl) (hgq) htq ?_
      refine hs 4 _ rfl _ _ _ _ _ _ _ (fun _ => ?_) (fun zq => absurd (hd_c2t (c := 0) (by omega) (by omega) (by omega) (by omega) (by omega : ((A.length : Int) - (B.length : Int)) = 0)) zq)
      refine hs 14 _ rfl _ _ _ _ _ _ _ rfl ?_
      refine hd_Ln (hs 15 _ rfl) (hgp) htp ?_
      refine hs 16 _ rfl _ _ _ _ _ _ _ rfl ?_
      refine hs 17 _ rfl _ _ _ _ _ _ _ hd_sub ?_
      refine hs 18 _ rfl _ _ _ _ _ _ _ rfl ?_
      exact loop_ A.length (Nat.le_refl _) (by rw [List.drop_of_length_le (Nat.le_refl _), List.drop_of_length_le (by omega)])
theorem zn_mstep {v m d : Int} : (v % m * 10 + d) % m = (d + 10 * v) % m := by
  rw [Int.add_emod, Int.mul_emod, Int.emod_emod, ← Int.mul_emod, ← Int.add_emod, Int.add_comm, Int.mul_comm]
theorem zn_mneg {v m l_ : Int} (hm : 0 < m) (e : l_ = v % m) (h0 : 0 < l_) : (-v) % m = m - l_ := by
  have h1_ := Int.emod_lt_of_pos v hm
  have h2_ := Int.mul_ediv_add_emod v m
  have a_ : -v = (m - l_) + m * (-(v / m) - 1) := by
    rw [Int.mul_sub, Int.mul_neg, Int.mul_one, e]
    omega
  rw [a_, Int.add_mul_emod_self_left]
  exact Int.emod_eq_of_lt (by omega) (by omega)
theorem zn_mneg0 {v m l_ : Int} (hm : 0 < m) (e : l_ = v % m) (h0 : l_ = 0) : (-v) % m = l_ := by
  have a_ : m ∣ v := Int.dvd_of_emod_eq_zero (by omega)
  rw [h0]
  exact Int.emod_eq_zero_of_dvd (Int.dvd_neg.mpr a_)
set_option maxHeartbeats 4000000 in
theorem zn_mod_M {l : Launch} {G : am_G} {X : ck_XT} (g : gM l G X)  {q t d td m : Nat} {b z : Int} {ds : List Int} {h : List am_C} (hg : am_g G h q = some (t, [.int (Int32.ofInt b), .ref d])) (ht : t % 100 = 17) (hgd : am_g G h d = some (td, hd_r ds)) (htd : td % 100 = 50) (hi : zn_is ds b z) (hl : ds.length ≤ 1000) (hm : 1 ≤ m) (hm2 : m ≤ 1000) {mc ms : Nat} {Post : am_O → List am_C → Prop}
    (hP : Post (.inl (some (.int (Int32.ofInt (z % (m : Int)))))) h) :
    am_M l G yX12_mod_ (.code yX12_mod_ prog_15_method_19_code 4 (some .int)) 1 20 mc ms [.ref q, .int (Int32.ofInt (m : Int))] h Post := by
  refine gh_yX12_mod__X g (Nat.le_of_ble_eq_true rfl) fun S SX hs hr hw hx => ?_
  have rv : ∀ x : Int32, ck_fv 0 (.int x) := fun x => ⟨_, rfl⟩
  have hm1 : (0 : Int) < (m : Int) := by omega
  have zv_ := hi.2.2.2.2
  have fin_ : ∀ (lf_ : Int) (w_ : Option Value), lf_ = hd_v ds % (m : Int) → S 34 [some (.ref q), some (.int (Int32.ofInt (m : Int))), some (.int (Int32.ofInt lf_)), w_] [] h 0 0 := by
    intro lf_ w_ e_
    have l0_ := Int.emod_nonneg (hd_v ds) (b := (m : Int)) (by omega)
    have l1_ := Int.emod_lt_of_pos (hd_v ds) hm1
    by_cases c_ : b = 1
    · rw [if_pos c_] at zv_
      rw [zv_] at hP
      by_cases c2_ : 0 < lf_
      · 
        refine hs 23 _ rfl _ _ _ _ _ _ _ rfl ?_
        refine hs 24 _ rfl _ _ _ _ _ _ _ _ _ (hg) ht rfl ?_
        refine hs 25 _ rfl _ _ _ _ _ _ (fun zq => absurd (hd_c1z (c := 0) (by omega) (by omega) zq) (by omega : ¬ (b = 0))) (fun _ => ?_)
        refine hs 26 _ rfl _ _ _ _ _ _ _ rfl ?_
        refine hs 27 _ rfl _ _ _ _ _ _ (fun zq => absurd (hd_c1z (c := 5) (by omega) (by omega) zq) (by omega : ¬ (lf_ ≤ 0))) (fun _ => ?_)
        refine hs 28 _ rfl _ _ _ _ _ _ _ rfl ?_
        refine hs 29 _ rfl _ _ _ _ _ _ _ rfl ?_
        refine hs 30 _ rfl _ _ _ _ _ _ _ hd_sub ?_
        refine hs 31 _ rfl _ _ _ _ _ ?_
        exact hs 33 _ rfl _ _ _ _ _ (rv _) (Nat.zero_le _) (Nat.zero_le _) (by rw [zn_mneg hm1 e_ c2_] at hP; exact hP)
      · 
        refine hs 23 _ rfl _ _ _ _ _ _ _ rfl ?_
        refine hs 24 _ rfl _ _ _ _ _ _ _ _ _ (hg) ht rfl ?_
        refine hs 25 _ rfl _ _ _ _ _ _ (fun zq => absurd (hd_c1z (c := 0) (by omega) (by omega) zq) (by omega : ¬ (b = 0))) (fun _ => ?_)
        refine hs 26 _ rfl _ _ _ _ _ _ _ rfl ?_
        refine hs 27 _ rfl _ _ _ _ _ _ (fun _ => ?_) (fun zq => absurd (hd_c1t (c := 5) (by omega) (by omega) (by omega : lf_ ≤ 0)) zq)
        refine hs 32 _ rfl _ _ _ _ _ _ _ rfl ?_
        exact hs 33 _ rfl _ _ _ _ _ (rv _) (Nat.zero_le _) (Nat.zero_le _) (by rw [zn_mneg0 hm1 e_ (by omega)] at hP; exact hP)
    · have b0_ : b = 0 := by
        rcases hi.2.2.1 with y_ | y_
        · exact y_
        · exact absurd y_ c_
      rw [if_neg c_] at zv_
      rw [zv_] at hP
      refine hs 23 _ rfl _ _ _ _ _ _ _ rfl ?_
      refine hs 24 _ rfl _ _ _ _ _ _ _ _ _ (hg) ht rfl ?_
      refine hs 25 _ rfl _ _ _ _ _ _ (fun _ => ?_) (fun zq => absurd (hd_c1t (c := 0) (by omega) (by omega) (by omega : b = 0)) zq)
      refine hs 32 _ rfl _ _ _ _ _ _ _ rfl ?_
      exact hs 33 _ rfl _ _ _ _ _ (rv _) (Nat.zero_le _) (Nat.zero_le _) (by rw [e_]; exact hP)
  have loop_ : ∀ (k_ : Nat) (lf_ : Int), k_ ≤ ds.length → lf_ = hd_v (ds.drop k_) % (m : Int) → S 10 [some (.ref q), some (.int (Int32.ofInt (m : Int))), some (.int (Int32.ofInt lf_)), some (.int (Int32.ofInt ((k_ : Int) - (1 : Int))))] [] h 0 0 := by
    intro k_
    induction k_ with
    | zero =>
      intro lf_ hk_ e_
      rw [List.drop_zero] at e_
      refine hs 8 _ rfl _ _ _ _ _ _ _ rfl ?_
      refine hs 9 _ rfl _ _ _ _ _ _ (fun _ => ?_) (fun zq => absurd (hd_c1t (c := 2) (by omega) (by omega) (by omega : (((0 : Nat) : Int) - (1 : Int)) < 0)) zq)
      exact fin_ lf_ _ e_
    | succ k_ ih_ =>
      intro lf_ hk_ e_
      obtain ⟨a_, ga_⟩ : ∃ a_ : Int, ds[k_]? = some a_ := ⟨_, List.getElem?_eq_getElem (by omega)⟩
      have da_ := hi.1.at ga_
      have l0_ := Int.emod_nonneg (hd_v (ds.drop (k_ + 1))) (b := (m : Int)) (by omega)
      have l1_ := Int.emod_lt_of_pos (hd_v (ds.drop (k_ + 1))) hm1
      rw [show (((k_ + 1 : Nat) : Int) - (1 : Int)) = ((k_ : Int) + (1 : Int) - (1 : Int)) by omega]
      refine hs 8 _ rfl _ _ _ _ _ _ _ rfl ?_
      refine hs 9 _ rfl _ _ _ _ _ _ (fun zq => absurd (hd_c1z (c := 2) (by omega) (by omega) zq) (by omega : ¬ (((k_ : Int) + (1 : Int) - (1 : Int)) < 0))) (fun _ => ?_)
      refine hs 10 _ rfl _ _ _ _ _ _ _ rfl ?_
      refine hs 11 _ rfl _ _ _ _ _ _ _ rfl ?_
      refine hs 12 _ rfl _ _ _ _ _ _ _ hd_mul ?_
      refine hs 13 _ rfl _ _ _ _ _ _ _ rfl ?_
      refine hs 14 _ rfl _ _ _ _ _ _ _ _ _ (hg) ht rfl ?_
      refine hs 15 _ rfl _ _ _ _ _ _ _ rfl ?_
      refine hd_A (hs 16 _ rfl) (by decide) (by decide) (hgd) htd (j := k_) (by omega) (by omega) ga_ ?_
      refine hs 17 _ rfl _ _ _ _ _ _ _ hd_add ?_
      refine hs 18 _ rfl _ _ _ _ _ _ _ rfl ?_
      refine hs 19 _ rfl _ _ _ _ _ _ _ (hd_rem (by omega) (by omega) (by omega) (by omega)) ?_
      refine hs 20 _ rfl _ _ _ _ _ _ _ rfl ?_
      refine hs 21 _ rfl _ _ _ _ _ _ _ (hd_inc rfl) ?_
      refine hs 22 _ rfl _ _ _ _ _ ?_
      rw [show ((k_ : Int) + (1 : Int) - (1 : Int) + (-1 : Int)) = ((k_ : Int) - (1 : Int)) by omega]
      refine ih_ _ (by omega) ?_
      have a2_ := List.getElem?_eq_getElem (show k_ < ds.length by omega)
      rw [ga_] at a2_
      rw [List.drop_eq_getElem_cons (show k_ < ds.length by omega), ← Option.some.inj a2_, e_, zn_mstep]
      rfl
  refine hs 0 _ rfl _ _ _ _ _ _ _ rfl ?_
  refine hs 1 _ rfl _ _ _ _ _ _ _ rfl ?_
  refine hs 2 _ rfl _ _ _ _ _ _ _ rfl ?_
  refine hs 3 _ rfl _ _ _ _ _ _ _ _ _ (hg) ht rfl ?_
  refine hd_Ln (hs 4 _ rfl) (hgd) htd ?_
  refine hs 5 _ rfl _ _ _ _ _ _ _ rfl ?_
  refine hs 6 _ rfl _ _ _ _ _ _ _ hd_sub ?_
  refine hs 7 _ rfl _ _ _ _ _ _ _ rfl ?_
  exact loop_ ds.length 0 (Nat.le_refl _) (by rw [List.drop_of_length_le (Nat.le_refl _)]; exact (Int.zero_emod _).symm)
