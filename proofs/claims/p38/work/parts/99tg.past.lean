/-! THE PAST -/
def zc_put (R : Nat → sp_S) (j : Nat) (c : sp_S) : Nat → sp_S := fun i => if i = j then c else R i
theorem zc_p.mk {G : am_G} {h h' : List am_C} {p : Nat} {R : Nat → sp_S} {old cnt old2 cnt2 j : Nat} {c : sp_S} (a : zc_p G h p R old cnt) (hj : j < 12) (f : ∀ q, p + 2 ≤ q → (q < p + 2 + 17 * j ∨ p + 2 + 17 * j + 17 ≤ q) → am_g G h' q = am_g G h q) (hl : h'.length = h.length) (h1 : am_g G h' p = some (1012, [.ref (p + 1), .int (Int32.ofInt (old2 : Int)), .int (Int32.ofInt (cnt2 : Int))])) (h2 : am_g G h' (p + 1) = am_g G h (p + 1)) (hs : zc_s G h' (p + 2 + 17 * j) c) (hc : sp_ok c) (h3 : old2 ≤ 11) (h4 : cnt2 ≤ 12) : zc_p G h' p (zc_put R j c) old2 cnt2 := by
  obtain ⟨a1_, a2_, a3_, a4_, a5_⟩ := a
  refine ⟨h1, h2.trans a2_, fun i hi => ?_, h3, h4⟩
  unfold zc_put
  by_cases e_ : i = j
  · rw [if_pos e_, e_]
    exact ⟨hs, hc⟩
  · rw [if_neg e_]
    obtain ⟨⟨rs_, zs_, bs_, b1_, b2_, b3_, b4_, b5_, b6_, b7_⟩, b8_⟩ := a3_ i hi
    exact ⟨⟨rs_, zs_, bs_, (f _ (by omega) (by omega)).trans b1_, (f _ (by omega) (by omega)).trans b2_, (f _ (by omega) (by omega)).trans b3_, (f _ (by omega) (by omega)).trans b4_, (f _ (by omega) (by omega)).trans b5_, b6_, fun k hk => (b7_ k hk).keep (f _ (by omega) (by omega)) (f _ (by omega) (by omega))⟩, b8_⟩
set_option maxHeartbeats 4000000 in
theorem zc_keep_M {l : Launch} {G : am_G} {X : ck_XT} (g : gM l G X) {p s old cnt : Nat} {R : Nat → sp_S} {c : sp_S} {h : List am_C} (hp1 : 1000 ≤ p) (hd : s + 17 ≤ p ∨ p + 206 ≤ s) (hi_ : zc_p G h p R old cnt) (hs2 : zc_s G h s c) (hok : sp_ok c) {mc ms : Nat} {Post : am_O → List am_C → Prop}
    (hP : ∀ (h' : List am_C) (old2 cnt2 : Nat), zw_f G h h' p 206 → zc_p G h' p (zc_put R ((old + cnt) % 12) c) old2 cnt2 → old2 = (if cnt < 12 then old else (old + 1) % 12) → cnt2 = (if cnt < 12 then cnt + 1 else 12) → Post (.inl none) h') :
    am_M l G yX5_keep (.code yX5_keep prog_7_method_2_code 2 none) 4 102 mc ms [.ref p, .ref s] h Post := by
  refine gh_yX5_keep_X g (Nat.le_of_ble_eq_true rfl) fun S SX hs hr hw hx => ?_
  have rv : ∀ x : Int32, ck_fv 0 (.int x) := fun x => ⟨_, rfl⟩
  obtain ⟨a1_, a2_, a3_, a4_, a5_⟩ := id hi_
  obtain ⟨b1_, b2_⟩ := a3_ ((old + cnt) % 12) (by omega)
  by_cases hc_ : cnt < 12
  · 
    refine hs 0 _ rfl _ _ _ _ _ _ _ rfl ?_
    refine hs 1 _ rfl _ _ _ _ _ _ _ _ _ (a1_) rfl rfl ?_
    refine hs 2 _ rfl _ _ _ _ _ _ _ rfl ?_
    refine hs 3 _ rfl _ _ _ _ _ _ _ _ _ (a1_) rfl rfl ?_
    refine hs 4 _ rfl _ _ _ _ _ _ _ rfl ?_
    refine hs 5 _ rfl _ _ _ _ _ _ _ _ _ (a1_) rfl rfl ?_
    refine hs 6 _ rfl _ _ _ _ _ _ _ hd_add ?_
    refine hs 7 _ rfl _ _ _ _ _ _ _ rfl ?_
    refine hs 8 _ rfl _ _ _ _ _ _ _ (hd_rem (by omega) (by omega) (by omega) (by omega)) ?_
    refine zw_Ar (hs 9 _ rfl) (a2_) rfl (j := ((old + cnt) % 12)) (by omega) (by omega) (zc_rl_get (by omega)) ?_
    refine hs 10 _ rfl _ _ _ _ _ _ _ rfl ?_
    refine zw_c (hs 11 _ rfl) (a := [.ref (p + 2 + 17 * ((old + cnt) % 12)), .ref s]) (st := []) rfl rfl (Nat.le_of_ble_eq_true rfl) ⟨_, _, _, rfl, b1_.choose_spec.choose_spec.choose_spec.1, rfl⟩ (Nat.zero_le _) (Nat.zero_le _) (zc_become_M g (s := p + 2 + 17 * ((old + cnt) % 12)) (o := s) (by omega) (by omega) b1_ hs2 fun hy_ f1_ n1_ => ?_)
    show S 21 [some (.ref p), some (.ref s)] [] _ _ _
    refine hs 12 _ rfl _ _ _ _ _ _ _ rfl ?_
    refine hs 13 _ rfl _ _ _ _ _ _ _ _ _ (((f1_.2 _ (by omega))).trans a1_) rfl rfl ?_
    refine hs 14 _ rfl _ _ _ _ _ _ _ rfl ?_
    refine hs 15 _ rfl _ _ _ _ _ _ _ (fun zq => absurd (hd_c2z (c := 3) (by omega) (by omega) (by omega) (by omega) zq) (by omega : ¬ (0 ≤ ((cnt : Int) - (12 : Int))))) (fun _ => ?_)
    refine hs 16 _ rfl _ _ _ _ _ _ _ rfl ?_
    refine hs 17 _ rfl _ _ _ _ _ _ _ rfl ?_
    refine hs 18 _ rfl _ _ _ _ _ _ _ _ _ (((f1_.2 _ (by omega))).trans a1_) rfl rfl ?_
    refine hs 19 _ rfl _ _ _ _ _ _ _ rfl ?_
    refine hs 20 _ rfl _ _ _ _ _ _ _ hd_add ?_
    refine zw_U (hs 21 _ rfl) (by omega) (((f1_.2 _ (by omega))).trans a1_) rfl ⟨_, rfl⟩ fun hz65 wz66 => ?_
    have wz66 : hd_w G hy_ hz65 p (1012, [.ref (p + 1), .int (Int32.ofInt (old : Int)), .int (Int32.ofInt ((cnt : Int) + (1 : Int)))]) := wz66
    refine hs 22 _ rfl _ _ _ _ _ ?_
    have e1_ := wz66.at
    rw [show ((cnt : Int) + (1 : Int)) = ((cnt + 1 : Nat) : Int) by omega] at e1_
    refine hs 31 _ rfl _ _ _ _ (Nat.zero_le _) (Nat.zero_le _) (hP _ old (cnt + 1) ((f1_.mono (by omega) (by omega)).tr (zw_f.w wz66 (by omega) (by omega))) (hi_.mk (by omega) (fun q_ h1_ h2_ => (wz66.ne (by omega)).trans (f1_.2 _ (by omega))) (wz66.1.trans f1_.1) e1_ ((wz66.ne (by omega)).trans (f1_.2 _ (by omega))) ?_ hok (by omega) (by omega)) (by exact (if_pos hc_).symm) (by exact (if_pos hc_).symm))
    exact n1_.fr (zw_f.w (lo := p) (n := 1) wz66 (by omega) (by omega)) (by omega)

  · obtain rfl : cnt = 12 := by omega
    refine hs 0 _ rfl _ _ _ _ _ _ _ rfl ?_
    refine hs 1 _ rfl _ _ _ _ _ _ _ _ _ (a1_) rfl rfl ?_
    refine hs 2 _ rfl _ _ _ _ _ _ _ rfl ?_
    refine hs 3 _ rfl _ _ _ _ _ _ _ _ _ (a1_) rfl rfl ?_
    refine hs 4 _ rfl _ _ _ _ _ _ _ rfl ?_
    refine hs 5 _ rfl _ _ _ _ _ _ _ _ _ (a1_) rfl rfl ?_
    refine hs 6 _ rfl _ _ _ _ _ _ _ hd_add ?_
    refine hs 7 _ rfl _ _ _ _ _ _ _ rfl ?_
    refine hs 8 _ rfl _ _ _ _ _ _ _ (hd_rem (by omega) (by omega) (by omega) (by omega)) ?_
    refine zw_Ar (hs 9 _ rfl) (a2_) rfl (j := ((old + 12) % 12)) (by omega) (by omega) (zc_rl_get (by omega)) ?_
    refine hs 10 _ rfl _ _ _ _ _ _ _ rfl ?_
    refine zw_c (hs 11 _ rfl) (a := [.ref (p + 2 + 17 * ((old + 12) % 12)), .ref s]) (st := []) rfl rfl (Nat.le_of_ble_eq_true rfl) ⟨_, _, _, rfl, b1_.choose_spec.choose_spec.choose_spec.1, rfl⟩ (Nat.zero_le _) (Nat.zero_le _) (zc_become_M g (s := p + 2 + 17 * ((old + 12) % 12)) (o := s) (by omega) (by omega) b1_ hs2 fun hy_ f1_ n1_ => ?_)
    show S 21 [some (.ref p), some (.ref s)] [] _ _ _
    refine hs 12 _ rfl _ _ _ _ _ _ _ rfl ?_
    refine hs 13 _ rfl _ _ _ _ _ _ _ _ _ (((f1_.2 _ (by omega))).trans a1_) rfl rfl ?_
    refine hs 14 _ rfl _ _ _ _ _ _ _ rfl ?_
    refine hs 15 _ rfl _ _ _ _ _ _ _ (fun _ => ?_) (fun zq => absurd (hd_c2t (c := 3) (by omega) (by omega) (by omega) (by omega) (by omega : 0 ≤ (((12 : Nat) : Int) - (12 : Int)))) zq)
    refine hs 23 _ rfl _ _ _ _ _ _ _ rfl ?_
    refine hs 24 _ rfl _ _ _ _ _ _ _ rfl ?_
    refine hs 25 _ rfl _ _ _ _ _ _ _ _ _ (((f1_.2 _ (by omega))).trans a1_) rfl rfl ?_
    refine hs 26 _ rfl _ _ _ _ _ _ _ rfl ?_
    refine hs 27 _ rfl _ _ _ _ _ _ _ hd_add ?_
    refine hs 28 _ rfl _ _ _ _ _ _ _ rfl ?_
    refine hs 29 _ rfl _ _ _ _ _ _ _ (hd_rem (by omega) (by omega) (by omega) (by omega)) ?_
    refine zw_U (hs 30 _ rfl) (by omega) (((f1_.2 _ (by omega))).trans a1_) rfl ⟨_, rfl⟩ fun hz67 wz68 => ?_
    have wz68 : hd_w G hy_ hz67 p (1012, [.ref (p + 1), .int (Int32.ofInt (((old : Int) + (1 : Int)) % (12 : Int))), .int (Int32.ofInt ((12 : Nat) : Int))]) := wz68
    have e1_ := wz68.at
    rw [show (((old : Int) + (1 : Int)) % (12 : Int)) = (((old + 1) % 12 : Nat) : Int) by omega] at e1_
    refine hs 31 _ rfl _ _ _ _ (Nat.zero_le _) (Nat.zero_le _) (hP _ ((old + 1) % 12) 12 ((f1_.mono (by omega) (by omega)).tr (zw_f.w wz68 (by omega) (by omega))) (hi_.mk (by omega) (fun q_ h1_ h2_ => (wz68.ne (by omega)).trans (f1_.2 _ (by omega))) (wz68.1.trans f1_.1) e1_ ((wz68.ne (by omega)).trans (f1_.2 _ (by omega))) ?_ hok (by omega) (by omega)) (by exact (if_neg hc_).symm) (by exact (if_neg hc_).symm))
    exact n1_.fr (zw_f.w (lo := p) (n := 1) wz68 (by omega) (by omega)) (by omega)
set_option maxHeartbeats 4000000 in
theorem zc_back_M {l : Launch} {G : am_G} {X : ck_XT} (g : gM l G X) {p s old cnt : Nat} {R : Nat → sp_S} {c : sp_S} {h : List am_C} (hp1 : 1000 ≤ s) (hd : s + 17 = p) (hi_ : zc_p G h p R old cnt) (hs2 : zc_s G h s c) (h0 : 0 < cnt) {mc ms : Nat} {Post : am_O → List am_C → Prop}
    (hP : ∀ (h' : List am_C), zw_f G h h' s 18 → zc_p G h' p R old (cnt - 1) → zc_s G h' s (R ((old + (cnt - 1)) % 12)) → Post (.inl none) h') :
    am_M l G yX5_bringBack (.code yX5_bringBack prog_7_method_3_code 2 none) 4 102 mc ms [.ref p, .ref s] h Post := by
  refine gh_yX5_bringBack_X g (Nat.le_of_ble_eq_true rfl) fun S SX hs hr hw hx => ?_
  have rv : ∀ x : Int32, ck_fv 0 (.int x) := fun x => ⟨_, rfl⟩
  obtain ⟨a1_, a2_, a3_, a4_, a5_⟩ := id hi_
  obtain ⟨b1_, b2_⟩ := a3_ ((old + (cnt - 1)) % 12) (by omega)
  refine hs 0 _ rfl _ _ _ _ _ _ _ rfl ?_
  refine hs 1 _ rfl _ _ _ _ _ _ _ _ _ (a1_) rfl rfl ?_
  refine hs 2 _ rfl _ _ _ _ _ _ (fun zq => absurd (hd_c1z (c := 5) (by omega) (by omega) zq) (by omega : ¬ ((cnt : Int) ≤ 0))) (fun _ => ?_)
  refine hs 3 _ rfl _ _ _ _ _ _ _ rfl ?_
  refine hs 4 _ rfl _ _ _ _ _ _ _ rfl ?_
  refine hs 5 _ rfl _ _ _ _ _ _ _ _ _ (a1_) rfl rfl ?_
  refine hs 6 _ rfl _ _ _ _ _ _ _ rfl ?_
  refine hs 7 _ rfl _ _ _ _ _ _ _ hd_sub ?_
  refine zw_U (hs 8 _ rfl) (by omega) (a1_) rfl ⟨_, rfl⟩ fun hz69 wz70 => ?_
  have wz70 : hd_w G h hz69 p (1012, [.ref (p + 1), .int (Int32.ofInt (old : Int)), .int (Int32.ofInt ((cnt : Int) - (1 : Int)))]) := wz70
  have q1_ := hs2.fr (zw_f.w (lo := p) (n := 1) wz70 (by omega) (by omega)) (by omega)
  have q2_ := b1_.fr (zw_f.w (lo := p) (n := 1) wz70 (by omega) (by omega)) (by omega)
  refine hs 9 _ rfl _ _ _ _ _ _ _ rfl ?_
  refine hs 10 _ rfl _ _ _ _ _ _ _ rfl ?_
  refine hs 11 _ rfl _ _ _ _ _ _ _ _ _ (wz70.at) rfl rfl ?_
  refine hs 12 _ rfl _ _ _ _ _ _ _ rfl ?_
  refine hs 13 _ rfl _ _ _ _ _ _ _ _ _ (wz70.at) rfl rfl ?_
  refine hs 14 _ rfl _ _ _ _ _ _ _ rfl ?_
  refine hs 15 _ rfl _ _ _ _ _ _ _ _ _ (wz70.at) rfl rfl ?_
  refine hs 16 _ rfl _ _ _ _ _ _ _ hd_add ?_
  refine hs 17 _ rfl _ _ _ _ _ _ _ rfl ?_
  refine hs 18 _ rfl _ _ _ _ _ _ _ (hd_rem (by omega) (by omega) (by omega) (by omega)) ?_
  refine zw_Ar (hs 19 _ rfl) ((wz70.ne (by omega)).trans a2_) rfl (j := ((old + (cnt - 1)) % 12)) (by omega) (by omega) (zc_rl_get (by omega)) ?_
  refine zw_c (hs 20 _ rfl) (a := [.ref s, .ref (p + 2 + 17 * ((old + (cnt - 1)) % 12))]) (st := []) rfl rfl (Nat.le_of_ble_eq_true rfl) ⟨_, _, _, rfl, q1_.choose_spec.choose_spec.choose_spec.1, rfl⟩ (Nat.zero_le _) (Nat.zero_le _) (zc_become_M g (s := s) (o := p + 2 + 17 * ((old + (cnt - 1)) % 12)) (by omega) (by omega) q1_ q2_ fun hy_ f1_ n1_ => ?_)
  show S 38 [some (.ref p), some (.ref s)] [] _ _ _
  have e1_ := (f1_.2 p (by omega)).trans wz70.at
  rw [show ((cnt : Int) - (1 : Int)) = ((cnt - 1 : Nat) : Int) by omega] at e1_
  refine hs 21 _ rfl _ _ _ _ (Nat.zero_le _) (Nat.zero_le _) (hP _ ((zw_f.w wz70 (by omega) (by omega)).tr (f1_.mono (by omega) (by omega))) ⟨e1_, (f1_.2 _ (by omega)).trans ((wz70.ne (by omega)).trans a2_), fun j_ hj_ => ⟨((a3_ j_ hj_).1.fr (zw_f.w (lo := p) (n := 1) wz70 (by omega) (by omega)) (by omega)).fr f1_ (by omega), (a3_ j_ hj_).2⟩, a4_, by omega⟩ n1_)
