/-! THE CONSTRUCTORS OF THE CLASS -/
theorem zi_sb0 : sb_is 0 0 (List.replicate 10 0) 0 := ⟨⟨rfl, fun x hx => by
  rw [List.eq_of_mem_replicate hx]
  exact ⟨by decide, by decide⟩⟩, ⟨Nat.zero_le _, fun j d _ hd => by
  exact List.eq_of_mem_replicate (List.mem_of_getElem? hd), fun y => absurd y (by decide)⟩, by decide, Or.inr (Or.inl rfl), by decide⟩
/-- a row of references, the first ones there -/
def zc_rp (n i : Nat) (f : Nat → Nat) : List Value := (List.range n).map fun j => if j < i then Value.ref (f j) else Value.null
theorem zc_rp_len {n i : Nat} {f : Nat → Nat} : (zc_rp n i f).length = n := by unfold zc_rp; rw [List.length_map, List.length_range]
theorem zc_rp_0 {n : Nat} {f : Nat → Nat} : zc_rp n 0 f = List.replicate n Value.null := by
  apply List.ext_getElem?
  intro j
  unfold zc_rp
  rw [List.getElem?_map, List.getElem?_replicate]
  by_cases c_ : j < n
  · rw [List.getElem?_range c_, if_pos c_]
    show some (if j < 0 then Value.ref (f j) else Value.null) = _
    rw [if_neg (by omega)]
  · rw [List.getElem?_eq_none (by rw [List.length_range]; omega), if_neg c_]
    rfl
theorem zc_rp_n {n : Nat} {f : Nat → Nat} : zc_rp n n f = zc_rl n f := by
  unfold zc_rp zc_rl
  apply List.map_congr_left
  intro j hj
  rw [if_pos (List.mem_range.mp hj)]
theorem zc_rp_s {n i q : Nat} {f : Nat → Nat} (hi : i < n) (hq : q = f i) : (zc_rp n i f).set i (Value.ref q) = zc_rp n (i + 1) f := by
  apply List.ext_getElem?
  intro j
  by_cases e_ : j = i
  · rw [e_, List.getElem?_set_self (by rw [zc_rp_len]; exact hi)]
    unfold zc_rp
    rw [List.getElem?_map, List.getElem?_range hi]
    show _ = some (if i < i + 1 then Value.ref (f i) else Value.null)
    rw [if_pos (by omega), hq]
  · rw [List.getElem?_set_ne (fun y_ => e_ y_.symm)]
    unfold zc_rp
    rw [List.getElem?_map, List.getElem?_map]
    by_cases c_ : j < n
    · rw [List.getElem?_range c_]
      show some (if j < i then Value.ref (f j) else Value.null) = some (if j < i + 1 then Value.ref (f j) else Value.null)
      by_cases d_ : j < i
      · rw [if_pos d_, if_pos (by omega)]
      · rw [if_neg d_, if_neg (by omega)]
    · rw [List.getElem?_eq_none (by rw [List.length_range]; omega)]
      rfl
theorem zc_n.k {G : am_G} {h h' : List am_C} {q : Nat} {z : Int} {D : Nat → Prop} (a : zc_n G h q z) (f : zk G h h' D) (h1 : ¬ D q) (h2 : ¬ D (q + 1)) : zc_n G h' q z := by
  obtain ⟨n_, sg_, ls_, a1_, a2_, a3_⟩ := a
  exact ⟨n_, sg_, ls_, f.2 _ _ a1_ h1, f.2 _ _ a2_ h2, a3_⟩
theorem zc_s.k {G : am_G} {h h' : List am_C} {s : Nat} {c : sp_S} {D : Nat → Prop} (a : zc_s G h s c) (f : zk G h h' D) (hD : ∀ y, s ≤ y → y < s + 17 → ¬ D y) : zc_s G h' s c := by
  obtain ⟨rs_, zs_, bs_, a1_, a2_, a3_, a4_, a5_, a6_, a7_⟩ := a
  exact ⟨rs_, zs_, bs_, f.2 _ _ a1_ (hD _ (by omega) (by omega)), f.2 _ _ a2_ (hD _ (by omega) (by omega)), f.2 _ _ a3_ (hD _ (by omega) (by omega)), f.2 _ _ a4_ (hD _ (by omega) (by omega)), f.2 _ _ a5_ (hD _ (by omega) (by omega)), a6_, fun i hi => (a7_ i hi).k f (hD _ (by omega) (by omega)) (hD _ (by omega) (by omega))⟩
theorem zc_p.k {G : am_G} {h h' : List am_C} {p : Nat} {R : Nat → sp_S} {old cnt : Nat} {D : Nat → Prop} (a : zc_p G h p R old cnt) (f : zk G h h' D) (hD : ∀ y, p ≤ y → y < p + 206 → ¬ D y) : zc_p G h' p R old cnt := by
  obtain ⟨a1_, a2_, a3_, a4_, a5_⟩ := a
  exact ⟨f.2 _ _ a1_ (hD _ (by omega) (by omega)), f.2 _ _ a2_ (hD _ (by omega) (by omega)), fun j hj => ⟨(a3_ j hj).1.k f fun y h1 h2 => hD y (by omega) (by omega), (a3_ j hj).2⟩, a4_, a5_⟩
theorem zc_w.k {G : am_G} {h h' : List am_C} {q : Nat} {D : Nat → Prop} (a : zc_w G h q) (f : zk G h h' D) (h1 : ¬ D q) (h2 : ¬ D (q + 1)) : zc_w G h' q := by
  obtain ⟨n_, sg_, ls_, a1_, a2_, a3_⟩ := a
  exact ⟨n_, sg_, ls_, f.2 _ _ a1_ h1, f.2 _ _ a2_ h2, a3_⟩
def sp_z : sp_S := (0, [0, 0, 0, 0, 0, 0], [], [])
theorem sp_z_ok : sp_ok sp_z := ⟨⟨by decide, by decide⟩, ⟨rfl, fun z hz => by
  simp only [sp_z, List.mem_cons, List.not_mem_nil, or_false] at hz
  omega⟩, ⟨Nat.zero_le _, fun p hp => by cases hp⟩, Nat.zero_le _, fun b hb => by cases hb⟩
set_option maxHeartbeats 4000000 in
theorem zi_big_M {l : Launch} {G : am_G} {X : ck_XT} (g : gM l G X) {q t td : Nat} {x0 x1 x2 : Value} {h : List am_C} (hg : am_g G h q = some (t, [x0, x1, x2])) (ht : t % 100 = 7) (htd : td % 100 = 50) (hq : 1000 ≤ q) {mc ms : Nat} {Post : am_O → List am_C → Prop} (hmc : 1 ≤ mc) (hms : 10 ≤ ms)
    (hP : ∀ h', h'.length = h.length + 1 → zk G h h' (fun y => y = q) → am_g G h' q = some (t, [.ref (1000 + h.length), x1, x2]) → am_g G h' (1000 + h.length) = some (td, hd_r (List.replicate 10 0)) → Post (.inl none) h') :
    am_M l G yX0_init (.code yX0_init prog_2_method_1_code 1 none) 1 20 mc ms [.ref q] h Post := by
  refine gh_yX0_init_X g (Nat.le_of_ble_eq_true rfl) fun S SX hs hr hw hx => ?_
  have rv : ∀ x : Int32, ck_fv 0 (.int x) := fun x => ⟨_, rfl⟩
  have lq_ := zg_lt hg
  refine hs 0 _ rfl _ _ _ _ _ _ _ rfl ?_
  refine hs 1 _ rfl _ _ _ _ _ _ rfl (Nat.le_of_ble_eq_true rfl) ?_
  refine hs 2 _ rfl _ _ _ _ _ _ _ rfl ?_
  refine hs 3 _ rfl _ _ _ _ _ _ _ rfl ?_
  refine zw_E (G := G) (hs 4 _ rfl) (t := td) (N := 10) htd (by omega) (by omega) (by omega) (by omega) fun hz367 az368 ez369 lz370 gz371 cz372 => ?_
  refine zw_U (hs 5 _ rfl) (by omega) ((gz371.2 _ _ hg)) ht (Or.inl ⟨_, rfl⟩) fun hz373 wz374 => ?_
  have wz374 : hd_w G hz367 hz373 q (t, [.ref az368, x1, x2]) := wz374
  have lwz374 := wz374.1
  have ez_ := ez369
  refine hs 6 _ rfl _ _ _ _ (by omega) (by omega) (hP _ (by omega) ((zk.g gz371).tr (zk.w wz374 (Or.inl rfl))) ?_ ?_)
  · rw [← ez_]
    exact wz374.at
  · rw [← ez_]
    exact ((wz374.ne (by omega)).trans cz372)
set_option maxHeartbeats 4000000 in
theorem zi_state_M {l : Launch} {G : am_G} {X : ck_XT} (g : gM l G X) {s : Nat} {h : List am_C} (hg : am_g G h s = some (1014, [.int 0, .null, .int 0, .null, .null, .int 0, .null])) (hs_ : 1000 ≤ s) (hl_ : s + 1 = 1000 + h.length) {mc ms : Nat} {Post : am_O → List am_C → Prop} (hmc : 16 ≤ mc) (hms : 101 ≤ ms)
    (hP : ∀ h', h'.length = h.length + 16 → zk G h h' (fun y => y = s) → zc_s G h' s sp_z → Post (.inl none) h') :
    am_M l G yX9_init (.code yX9_init prog_11_method_1_code 2 none) 2 40 mc ms [.ref s] h Post := by
  refine gh_yX9_init_X g (Nat.le_of_ble_eq_true rfl) fun S SX hs hr hw hx => ?_
  have rv : ∀ x : Int32, ck_fv 0 (.int x) := fun x => ⟨_, rfl⟩
  refine hs 0 _ rfl _ _ _ _ _ _ _ rfl ?_
  refine hs 1 _ rfl _ _ _ _ _ _ rfl (Nat.le_of_ble_eq_true rfl) ?_
  refine hs 2 _ rfl _ _ _ _ _ _ _ rfl ?_
  refine hs 3 _ rfl _ _ _ _ _ _ _ rfl ?_
  refine zw_E2 (G := G) (hs 4 _ rfl) (t := 1053) (N := 6) rfl (by omega) (by omega) (by omega) (by omega) fun hz375 az376 ez377 lz378 gz379 cz380 => ?_
  refine zw_U (hs 5 _ rfl) (by omega) ((gz379.2 _ _ hg)) rfl (Or.inl ⟨_, rfl⟩) fun hz381 wz382 => ?_
  have wz382 : hd_w G hz375 hz381 s (1014, [.int 0, .ref az376, .int 0, .null, .null, .int 0, .null]) := wz382
  have lwz382 := wz382.1
  refine hs 6 _ rfl _ _ _ _ _ _ _ rfl ?_
  refine hs 7 _ rfl _ _ _ _ _ _ _ rfl ?_
  refine zw_E (G := G) (hs 8 _ rfl) (t := 1150) (N := 6) rfl (by omega) (by omega) (by omega) (by omega) fun hz383 az384 ez385 lz386 gz387 cz388 => ?_
  refine zw_U (hs 9 _ rfl) (by omega) ((gz387.2 _ _ wz382.at)) rfl (Or.inl ⟨_, rfl⟩) fun hz389 wz390 => ?_
  have wz390 : hd_w G hz383 hz389 s (1014, [.int 0, .ref az376, .int 0, .ref az384, .null, .int 0, .null]) := wz390
  have lwz390 := wz390.1
  refine hs 10 _ rfl _ _ _ _ _ _ _ rfl ?_
  refine hs 11 _ rfl _ _ _ _ _ _ _ rfl ?_
  refine zw_E (G := G) (hs 12 _ rfl) (t := 1250) (N := 6) rfl (by omega) (by omega) (by omega) (by omega) fun hz391 az392 ez393 lz394 gz395 cz396 => ?_
  refine zw_U (hs 13 _ rfl) (by omega) ((gz395.2 _ _ wz390.at)) rfl (Or.inl ⟨_, rfl⟩) fun hz397 wz398 => ?_
  have wz398 : hd_w G hz391 hz397 s (1014, [.int 0, .ref az376, .int 0, .ref az384, .ref az392, .int 0, .null]) := wz398
  have lwz398 := wz398.1
  refine hs 14 _ rfl _ _ _ _ _ _ _ rfl ?_
  refine hs 15 _ rfl _ _ _ _ _ _ _ rfl ?_
  refine zw_E (G := G) (hs 16 _ rfl) (t := 1350) (N := 5) rfl (by omega) (by omega) (by omega) (by omega) fun hz399 az400 ez401 lz402 gz403 cz404 => ?_
  refine zw_U (hs 17 _ rfl) (by omega) ((gz403.2 _ _ wz398.at)) rfl (Or.inl ⟨_, rfl⟩) fun hz405 wz406 => ?_
  have wz406 : hd_w G hz399 hz405 s (1014, [.int 0, .ref az376, .int 0, .ref az384, .ref az392, .int 0, .ref az400]) := wz406
  have lwz406 := wz406.1
  refine hs 18 _ rfl _ _ _ _ _ _ _ rfl ?_
  refine hs 19 _ rfl _ _ _ _ _ _ _ rfl ?_
  have loop : ∀ (m_ i_ : Nat) (h1_ : List am_C) (k_ n_ : Nat), i_ + m_ = 6 → h1_.length = h.length + 4 + 2 * i_ → zk G h h1_ (fun y => y = s) → am_g G h1_ s = some (1014, [.int 0, .ref (s + 1), .int 0, .ref (s + 2), .ref (s + 3), .int 0, .ref (s + 4)]) → am_g G h1_ (s + 1) = some (1053, zc_rp 6 i_ (fun i => s + 5 + 2 * i)) → (am_g G h1_ (s + 2) = some (1150, hd_r (List.replicate 6 0)) ∧ am_g G h1_ (s + 3) = some (1250, hd_r (List.replicate 6 0)) ∧ am_g G h1_ (s + 4) = some (1350, hd_r (List.replicate 5 0))) → (∀ j_, j_ < i_ → zc_n G h1_ (s + 5 + 2 * j_) 0) → k_ = 4 + 2 * i_ → n_ = 23 + 13 * i_ → S 38 [some (.ref s), some (.int (Int32.ofInt (i_ : Int)))] [] h1_ k_ n_ := by
    intro m_
    induction m_ with
    | zero =>
      intro i_ h1_ k_ n_ hi_ hL_ hK_ hS_ hR_ hA_ hN_ hk_ hn_
      have i6_ : i_ = 6 := by omega
      refine hs 20 _ rfl _ _ _ _ _ _ _ rfl ?_
      refine hs 21 _ rfl _ _ _ _ _ _ _ rfl ?_
      refine hs 22 _ rfl _ _ _ _ _ _ _ (fun _ => ?_) (fun zq => absurd (hd_c2t (c := 3) (by omega) (by omega) (by omega) (by omega) (by omega : 0 ≤ ((i_ : Int) - (6 : Int)))) zq)
      refine hs 32 _ rfl _ _ _ _ (by omega) (by omega) (hP _ (by omega) hK_ ?_)
      rw [i6_] at hR_ hN_
      refine ⟨_, _, _, hS_, by rw [hR_, zc_rp_n], hA_.1, hA_.2.1, hA_.2.2, ⟨⟨rfl, rfl, rfl⟩, ⟨fun y hy => by rw [List.eq_of_mem_replicate hy]; exact ⟨by decide, by decide⟩, fun y hy => by rw [List.eq_of_mem_replicate hy]; exact ⟨by decide, by decide⟩⟩, fun i p y => (by cases y), fun i b y => (by cases y)⟩, fun i hi => ?_⟩
      have z_ : sp_z.2.1.getD i 0 = 0 := by
        match i, hi with
        | 0, _ => rfl
        | 1, _ => rfl
        | 2, _ => rfl
        | 3, _ => rfl
        | 4, _ => rfl
        | 5, _ => rfl
      rw [z_]
      exact hN_ i hi
    | succ m_ ih =>
      intro i_ h1_ k_ n_ hi_ hL_ hK_ hS_ hR_ hA_ hN_ hk_ hn_
      refine hs 20 _ rfl _ _ _ _ _ _ _ rfl ?_
      refine hs 21 _ rfl _ _ _ _ _ _ _ rfl ?_
      refine hs 22 _ rfl _ _ _ _ _ _ _ (fun zq => absurd (hd_c2z (c := 3) (by omega) (by omega) (by omega) (by omega) zq) (by omega : ¬ (0 ≤ ((i_ : Int) - (6 : Int))))) (fun _ => ?_)
      refine hs 23 _ rfl _ _ _ _ _ _ _ rfl ?_
      refine hs 24 _ rfl _ _ _ _ _ _ _ _ _ (hS_) rfl rfl ?_
      refine hs 25 _ rfl _ _ _ _ _ _ _ rfl ?_
      refine zw_W (G := G) (hs 26 _ rfl) (t := 1407) (vs := [.null, .int 0, .int 0]) (m := 3) rfl rfl rfl (by omega) (by omega) fun hz407 az408 ez409 lz410 gz411 cz412 => ?_
      refine hs 27 _ rfl _ _ _ _ _ _ _ rfl ?_
      refine zw_cmn (hs 28 _ rfl) (a := [.ref az408]) (st := [.ref az408, .int (Int32.ofInt (i_ : Int)), .ref (s + 1)]) 1 10 rfl rfl (Nat.le_of_ble_eq_true rfl) ⟨_, _, _, rfl, (cz412), rfl⟩ (by omega) (by omega) (⟨zi_big_M g (td := 1450) (cz412) rfl rfl (by omega) (by omega) (by omega) fun hb_ lb_ kb_ qb_ rb_ => ?_, fun _ _ h9 => h9⟩)
      show S 56 [some (.ref s), some (.int (Int32.ofInt (i_ : Int)))] [.ref az408, .int (Int32.ofInt (i_ : Int)), .ref (s + 1)] _ _ _
      refine zw_Br (hs 29 _ rfl) (by omega) ((kb_.2 _ _ ((gz411.2 _ _ hR_)) (by omega))) (by first | decide | (rw [rfl]; decide)) (by first | decide | (rw [rfl]; decide)) (j := i_) (by omega) (by omega) (by rw [zc_rp_len]; omega) (Or.inr (Or.inr (Or.inr (Or.inr ⟨_, _, _, rfl, qb_, by decide⟩)))) fun hz413 wz414 => ?_
      have lwz414 := wz414.1
      refine hs 30 _ rfl _ _ _ _ _ _ _ (hd_inc rfl) ?_
      refine hs 31 _ rfl _ _ _ _ _ ?_
      have q9_ : az408 = s + 5 + 2 * i_ := by omega
      have kk_ : zk G h1_ _ (fun y => y = s + 1) := ((zk.g (D := fun y => y = s + 1) gz411).tr2 (kb_ : zk _ _ _ (fun y => y = az408)) (fun p_ y1_ (y2_ : p_ = az408) => absurd y1_ (by omega))).tr (zk.w (D := fun y => y = s + 1) wz414 (Or.inl rfl))
      have r9_ : 1000 + hz407.length = s + 5 + 2 * i_ + 1 := by omega
      rw [r9_] at qb_ rb_
      rw [q9_] at qb_
      have lk_ := kk_.1
      refine ih (i_ + 1) _ _ _ (by omega) (by omega) (hK_.tr2 kk_ fun p_ y1_ (y2_ : p_ = s + 1) => absurd y1_ (by omega)) (kk_.2 _ _ hS_ (by omega)) ?_ ⟨kk_.2 _ _ hA_.1 (by omega), kk_.2 _ _ hA_.2.1 (by omega), kk_.2 _ _ hA_.2.2 (by omega)⟩ (fun j_ hj_ => ?_) (by omega) (by omega)
      · exact wz414.at.trans (by rw [zc_rp_s (f := fun i => s + 5 + 2 * i) (by omega) q9_])
      · by_cases e_ : j_ = i_
        · rw [e_]
          exact ⟨0, 0, _, (wz414.ne (by omega)).trans qb_, (wz414.ne (by omega)).trans rb_, zi_sb0⟩
        · exact (hN_ j_ (by omega)).k kk_ (by omega) (by omega)
  have e1_ : az376 = s + 1 := by omega
  have e2_ : az384 = s + 2 := by omega
  have e3_ : az392 = s + 3 := by omega
  have e4_ : az400 = s + 4 := by omega
  have fs_ := (wz406.at)
  have fr_ := ((wz406.ne (by omega)).trans ((gz403.2 _ _ ((wz398.ne (by omega)).trans ((gz395.2 _ _ ((wz390.ne (by omega)).trans ((gz387.2 _ _ ((wz382.ne (by omega)).trans cz380))))))))))
  have f2_ := ((wz406.ne (by omega)).trans ((gz403.2 _ _ ((wz398.ne (by omega)).trans ((gz395.2 _ _ ((wz390.ne (by omega)).trans cz388)))))))
  have f3_ := ((wz406.ne (by omega)).trans ((gz403.2 _ _ ((wz398.ne (by omega)).trans cz396))))
  have f4_ := ((wz406.ne (by omega)).trans cz404)
  rw [e1_, e2_, e3_, e4_] at fs_
  rw [e1_] at fr_
  rw [e2_] at f2_
  rw [e3_] at f3_
  rw [e4_] at f4_
  exact loop 6 0 _ _ _ (by omega) (by omega) ((((((((zk.g gz379).tr (zk.w (D := fun y => y = s) wz382 (Or.inl rfl))).tr (zk.g gz387)).tr (zk.w (D := fun y => y = s) wz390 (Or.inl rfl))).tr (zk.g gz395)).tr (zk.w (D := fun y => y = s) wz398 (Or.inl rfl))).tr (zk.g gz403)).tr (zk.w (D := fun y => y = s) wz406 (Or.inl rfl))) fs_ (by rw [zc_rp_0]; exact fr_) ⟨f2_, f3_, f4_⟩ (fun j_ hj_ => absurd hj_ (by omega)) (by omega) (by omega)
set_option maxHeartbeats 4000000 in
theorem zi_past_M {l : Launch} {G : am_G} {X : ck_XT} (g : gM l G X) {p : Nat} {h : List am_C} (hg : am_g G h p = some (1012, [.null, .int 0, .int 0])) (hp_ : 1000 ≤ p) (hl_ : p + 1 = 1000 + h.length) {mc ms : Nat} {Post : am_O → List am_C → Prop} (hmc : 205 ≤ mc) (hms : 1308 ≤ ms)
    (hP : ∀ h', h'.length = h.length + 205 → zk G h h' (fun y => y = p) → zc_p G h' p (fun _ => sp_z) 0 0 → Post (.inl none) h') :
    am_M l G yX5_init (.code yX5_init prog_7_method_1_code 2 none) 3 61 mc ms [.ref p] h Post := by
  refine gh_yX5_init_X g (Nat.le_of_ble_eq_true rfl) fun S SX hs hr hw hx => ?_
  have rv : ∀ x : Int32, ck_fv 0 (.int x) := fun x => ⟨_, rfl⟩
  refine hs 0 _ rfl _ _ _ _ _ _ _ rfl ?_
  refine hs 1 _ rfl _ _ _ _ _ _ rfl (Nat.le_of_ble_eq_true rfl) ?_
  refine hs 2 _ rfl _ _ _ _ _ _ _ rfl ?_
  refine hs 3 _ rfl _ _ _ _ _ _ _ rfl ?_
  refine zw_E2 (G := G) (hs 4 _ rfl) (t := 1054) (N := 12) rfl (by omega) (by omega) (by omega) (by omega) fun hz415 az416 ez417 lz418 gz419 cz420 => ?_
  refine zw_U (hs 5 _ rfl) (by omega) ((gz419.2 _ _ hg)) rfl (Or.inl ⟨_, rfl⟩) fun hz421 wz422 => ?_
  have wz422 : hd_w G hz415 hz421 p (1012, [.ref az416, .int 0, .int 0]) := wz422
  have lwz422 := wz422.1
  refine hs 6 _ rfl _ _ _ _ _ _ _ rfl ?_
  refine hs 7 _ rfl _ _ _ _ _ _ _ rfl ?_
  have loop : ∀ (m_ i_ : Nat) (h1_ : List am_C) (k_ n_ : Nat), i_ + m_ = 12 → h1_.length = h.length + 1 + 17 * i_ → zk G h h1_ (fun y => y = p) → am_g G h1_ p = some (1012, [.ref (p + 1), .int 0, .int 0]) → am_g G h1_ (p + 1) = some (1054, zc_rp 12 i_ (fun i => p + 2 + 17 * i)) → (∀ j_, j_ < i_ → zc_s G h1_ (p + 2 + 17 * j_) sp_z) → k_ = 1 + 17 * i_ → n_ = 12 + 108 * i_ → S 15 [some (.ref p), some (.int (Int32.ofInt (i_ : Int)))] [] h1_ k_ n_ := by
    intro m_
    induction m_ with
    | zero =>
      intro i_ h1_ k_ n_ hi_ hL_ hK_ hS_ hR_ hN_ hk_ hn_
      have i6_ : i_ = 12 := by omega
      refine hs 8 _ rfl _ _ _ _ _ _ _ rfl ?_
      refine hs 9 _ rfl _ _ _ _ _ _ _ rfl ?_
      refine hs 10 _ rfl _ _ _ _ _ _ _ (fun _ => ?_) (fun zq => absurd (hd_c2t (c := 3) (by omega) (by omega) (by omega) (by omega) (by omega : 0 ≤ ((i_ : Int) - (12 : Int)))) zq)
      refine hs 20 _ rfl _ _ _ _ (by omega) (by omega) (hP _ (by omega) hK_ ?_)
      rw [i6_] at hR_ hN_
      exact ⟨hS_, by rw [hR_, zc_rp_n], fun j hj => ⟨hN_ j hj, sp_z_ok⟩, by decide, by decide⟩
    | succ m_ ih =>
      intro i_ h1_ k_ n_ hi_ hL_ hK_ hS_ hR_ hN_ hk_ hn_
      refine hs 8 _ rfl _ _ _ _ _ _ _ rfl ?_
      refine hs 9 _ rfl _ _ _ _ _ _ _ rfl ?_
      refine hs 10 _ rfl _ _ _ _ _ _ _ (fun zq => absurd (hd_c2z (c := 3) (by omega) (by omega) (by omega) (by omega) zq) (by omega : ¬ (0 ≤ ((i_ : Int) - (12 : Int))))) (fun _ => ?_)
      refine hs 11 _ rfl _ _ _ _ _ _ _ rfl ?_
      refine hs 12 _ rfl _ _ _ _ _ _ _ _ _ (hS_) rfl rfl ?_
      refine hs 13 _ rfl _ _ _ _ _ _ _ rfl ?_
      refine zw_W (G := G) (hs 14 _ rfl) (t := 1014) (vs := [.int 0, .null, .int 0, .null, .null, .int 0, .null]) (m := 7) rfl rfl rfl (by omega) (by omega) fun hz423 az424 ez425 lz426 gz427 cz428 => ?_
      refine hs 15 _ rfl _ _ _ _ _ _ _ rfl ?_
      refine zw_cmn (hs 16 _ rfl) (a := [.ref az424]) (st := [.ref az424, .int (Int32.ofInt (i_ : Int)), .ref (p + 1)]) 16 101 rfl rfl (Nat.le_of_ble_eq_true rfl) ⟨_, _, _, rfl, (cz428), rfl⟩ (by omega) (by omega) (⟨zi_state_M g (cz428) (by omega) (by omega) (by omega) (by omega) fun hb_ lb_ kb_ sb9_ => ?_, fun _ _ h9 => h9⟩)
      show S 33 [some (.ref p), some (.int (Int32.ofInt (i_ : Int)))] [.ref az424, .int (Int32.ofInt (i_ : Int)), .ref (p + 1)] _ _ _
      refine zw_Br (hs 17 _ rfl) (by omega) ((kb_.2 _ _ ((gz427.2 _ _ hR_)) (by omega))) (by first | decide | (rw [rfl]; decide)) (by first | decide | (rw [rfl]; decide)) (j := i_) (by omega) (by omega) (by rw [zc_rp_len]; omega) (Or.inr (Or.inr (Or.inr (Or.inr ⟨_, _, _, rfl, sb9_.d, by decide⟩)))) fun hz429 wz430 => ?_
      have lwz430 := wz430.1
      refine hs 18 _ rfl _ _ _ _ _ _ _ (hd_inc rfl) ?_
      refine hs 19 _ rfl _ _ _ _ _ ?_
      have q9_ : az424 = p + 2 + 17 * i_ := by omega
      have kk_ : zk G h1_ _ (fun y => y = p + 1) := ((zk.g (D := fun y => y = p + 1) gz427).tr2 (kb_ : zk _ _ _ (fun y => y = az424)) (fun p_ y1_ (y2_ : p_ = az424) => absurd y1_ (by omega))).tr (zk.w (D := fun y => y = p + 1) wz430 (Or.inl rfl))
      have lk_ := kk_.1
      refine ih (i_ + 1) _ _ _ (by omega) (by omega) (hK_.tr2 kk_ fun p_ y1_ (y2_ : p_ = p + 1) => absurd y1_ (by omega)) (kk_.2 _ _ hS_ (by omega)) ?_ (fun j_ hj_ => ?_) (by omega) (by omega)
      · exact wz430.at.trans (by rw [zc_rp_s (f := fun i => p + 2 + 17 * i) (by omega) q9_])
      · by_cases e_ : j_ = i_
        · rw [e_, ← q9_]
          exact sb9_.k (zk.w (D := fun y => y = p + 1) wz430 (Or.inl rfl)) (fun y h1 h2 (h3 : y = p + 1) => by omega)
        · exact (hN_ j_ (by omega)).k kk_ (fun y h1 h2 (h3 : y = p + 1) => by omega)
  have e1_ : az416 = p + 1 := by omega
  have fs_ := (wz422.at)
  have fr_ := ((wz422.ne (by omega)).trans cz420)
  rw [e1_] at fs_ fr_
  exact loop 12 0 _ _ _ (by omega) (by omega) ((zk.g gz419).tr (zk.w (D := fun y => y = p) wz422 (Or.inl rfl))) fs_ (by rw [zc_rp_0]; exact fr_) (fun j_ hj_ => absurd hj_ (by omega)) (by omega) (by omega)
