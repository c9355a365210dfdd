/-! THE REFERENCE JOINS ROWS -/
theorem zw_Nn {S : ck_SS} {pc a b k n : Nat} {h : List am_C} {L : List (Option Value)} {st : List Value} (H : ck_sN S pc a b) (kk : S a L st h k n) : S pc L (.null :: st) h k n := (H L st h k n).1 kk
theorem zw_Nr {S : ck_SS} {pc a b q k n : Nat} {h : List am_C} {L : List (Option Value)} {st : List Value} (H : ck_sN S pc a b) (kk : S b L st h k n) : S pc L (.ref q :: st) h k n := (H L st h k n).2 q kk
theorem zw_E1 {S : ck_SS} {G : am_G} {Rc Rs pc nx ci t N k n : Nat} {e : Int} {h : List am_C} {L : List (Option Value)} {st : List Value} (H : ck_sE S Rc Rs pc nx ci 1) (ht : t % 100 = ci) (he : e = (N : Int)) (hN : N ≤ 1000000) (hk : k + 1 ≤ Rc) (hn : n + N ≤ Rs) (kk : ∀ (h' : List am_C) (a : Nat), a = 1000 + h.length → h'.length = h.length + 1 → zg G h h' → am_g G h' a = some (t, List.replicate N (Value.long 0)) → S nx L (.ref a :: st) h' (k + 1) (n + N)) : S pc L (.int (Int32.ofInt e) :: st) h k n := by
  have hx_ : (Int32.ofInt e).toInt = (N : Int) := by
    rw [hd_oi (by omega) (by omega)]
    exact he
  refine H t L st h _ N k n ht hx_ hN hk hn ?_
  exact kk _ _ rfl (by rw [List.length_append]; rfl) ⟨by rw [List.length_append]; omega, fun p c hg => hd_old hg⟩ hd_new
theorem zt_eq {n w r k m : Int} (h0 : 0 ≤ r) (h1 : r < m) : (n % m + k * (w % m)) % m = r ↔ m ∣ n + w * k - r := by
  have a1_ : k * (w - m * (w / m)) = w * k - m * (k * (w / m)) := by rw [Int.mul_sub, Int.mul_comm k w, Int.mul_left_comm]
  have a2_ : m * (-(n / m) - k * (w / m)) = -(m * (n / m)) - m * (k * (w / m)) := by rw [Int.mul_sub, Int.mul_neg]
  have e_ : (n % m + k * (w % m)) % m = (n + w * k) % m := by
    rw [Int.emod_def n m, Int.emod_def w m, a1_, show n - m * (n / m) + (w * k - m * (k * (w / m))) = n + w * k + m * (-(n / m) - k * (w / m)) by rw [a2_]; omega, Int.add_mul_emod_self_left]
  rw [e_]
  have r_ : r % m = r := Int.emod_eq_of_lt h0 h1
  constructor
  · intro y_
    exact zj_emd (y_.trans r_.symm)
  · rintro ⟨d_, hd_⟩
    rw [show n + w * k = r + m * d_ by omega, Int.add_mul_emod_self_left]
    exact r_
/-- what is tried comes out just if the greatest common divisor goes into the gap -/
theorem zt_gap {n r : Int} {w m : Nat} (hm : 1 ≤ m) : ((Nat.gcd w m : Nat) : Int) ∣ r - n ↔ ∃ k : Nat, k < m ∧ (m : Int) ∣ n + (w : Int) * (k : Int) - r := by
  have gs_ : ((Nat.gcd w m : Nat) : Int) ∣ (m : Int) := Int.natCast_dvd_natCast.mpr (Nat.gcd_dvd_right w m)
  have gw_ : ((Nat.gcd w m : Nat) : Int) ∣ (w : Int) := Int.natCast_dvd_natCast.mpr (Nat.gcd_dvd_left w m)
  constructor
  · intro y_
    obtain ⟨u_, hu_⟩ := zj_solve (by omega) y_
    have hm_ : (m : Int) ≠ 0 := by omega
    refine ⟨(u_ % (m : Int)).toNat, ?_, ?_⟩
    · have b1_ := Int.emod_nonneg u_ hm_
      have b2_ := Int.emod_lt_of_pos u_ (show 0 < (m : Int) by omega)
      omega
    · have b1_ := Int.emod_nonneg u_ hm_
      rw [Int.toNat_of_nonneg b1_, Int.emod_def]
      obtain ⟨d_, hd_⟩ := hu_
      refine ⟨d_ - (w : Int) * (u_ / (m : Int)), ?_⟩
      have c1_ : (w : Int) * (u_ - (m : Int) * (u_ / (m : Int))) = (w : Int) * u_ - (m : Int) * ((w : Int) * (u_ / (m : Int))) := by rw [Int.mul_sub, Int.mul_left_comm]
      have c2_ : (m : Int) * (d_ - (w : Int) * (u_ / (m : Int))) = (m : Int) * d_ - (m : Int) * ((w : Int) * (u_ / (m : Int))) := Int.mul_sub _ _ _
      rw [c1_, c2_]
      omega
  · rintro ⟨k_, -, hk_⟩
    have a_ := Int.dvd_trans gs_ hk_
    have b_ := Int.dvd_mul_of_dvd_left (c := (k_ : Int)) gw_
    have c_ := Int.dvd_sub b_ a_
    rw [show (w : Int) * (k_ : Int) - (n + (w : Int) * (k_ : Int) - r) = r - n by omega] at c_
    exact c_
theorem zt_ad {L : List (Int × Int)} {n r : Int} {w m : Nat} (h : zj_I L 1 n w) (hm : 1 ≤ m) : sp_fit (L ++ [(r, (m : Int))]) ↔ ∃ k : Nat, k < m ∧ (m : Int) ∣ n + (w : Int) * (k : Int) - r := by
  rw [← zj_I.fit h (by omega) (show (m : Int) ∣ r - r by rw [Int.sub_self]; exact Int.dvd_zero _), ← zt_gap hm]
  unfold zj_ad
  exact ⟨fun y_ => y_.2, fun y_ => ⟨rfl, y_⟩⟩
/-- one more row is joined -/
theorem zt_step {L : List (Int × Int)} {n r : Int} {w m t k : Nat} (h : zj_I L 1 n w) (hm : 1 ≤ m) (hm2 : m ≤ 999) (hk : (m : Int) ∣ n + (w : Int) * (k : Int) - r) (hl : ∀ j : Nat, j < k → ¬ (m : Int) ∣ n + (w : Int) * (j : Int) - r) (ht : m = Nat.gcd w m * t) : zj_I (L ++ [(r, (m : Int))]) 1 (n + (k : Int) * (w : Int)) (w * t) := by
  obtain ⟨w_, hw_⟩ := Nat.gcd_dvd_left w m
  have t1_ : 1 ≤ t := by
    apply Nat.pos_of_ne_zero
    intro y_
    rw [y_, Nat.mul_zero] at ht
    omega
  have wt_ : w * t = m * w_ := by
    have a1_ : w * t = Nat.gcd w m * w_ * t := congrArg (· * t) hw_
    have a2_ : m * w_ = Nat.gcd w m * t * w_ := congrArg (· * w_) ht
    rw [a1_, a2_, Nat.mul_right_comm]
  have wtI_ : (w : Int) * (t : Int) = (m : Int) * (w_ : Int) := by
    rw [← Int.natCast_mul, ← Int.natCast_mul, wt_]
  have kt_ : k < t := by
    apply Classical.byContradiction
    intro c_
    apply hl (k - t) (by omega)
    obtain ⟨d_, hd_⟩ := hk
    refine ⟨d_ - (w_ : Int), ?_⟩
    have e1_ : ((k - t : Nat) : Int) = (k : Int) - (t : Int) := by omega
    rw [e1_, Int.mul_sub, Int.mul_sub, ← wtI_]
    omega
  have n_ := h.2.2.1
  have u_ := zj_lt (w := (w : Int)) (n := n) (u := (k : Int)) (t := (t : Int)) n_.1 n_.2 (by omega) (by omega)
  have e_ : n + (k : Int) * (w : Int) = n + (w : Int) * (k : Int) := by rw [Int.mul_comm]
  refine h.one ht hm hm2 rfl ?_ ?_ ?_ ?_
  · rw [e_]
    exact u_.1
  · rw [e_, Int.natCast_mul]
    exact u_.2
  · rw [show n + (k : Int) * (w : Int) - n = (w : Int) * (k : Int) by rw [e_]; omega]
    exact Int.dvd_mul_right _ _
  · rw [e_]
    exact hk
theorem zt_sub {R : List (Int × Int)} {i : Nat} (h : ¬ sp_fit (R.take i)) : ¬ sp_fit R := fun y_ => by
  obtain ⟨m_, hm_⟩ := y_
  exact h ⟨m_, fun p hp => hm_ p (by
    rw [← List.take_append_drop i R]
    exact List.mem_append_left _ hp)⟩
theorem zt_sub2 {R T : List (Int × Int)} (h : ¬ sp_fit R) : ¬ sp_fit (R ++ T) := fun y_ => by
  obtain ⟨m_, hm_⟩ := y_
  exact h ⟨m_, fun p hp => hm_ p (List.mem_append_left _ hp)⟩
theorem zt_take {R : List (Int × Int)} {i : Nat} {p : Int × Int} (h : R[i]? = some p) : R.take (i + 1) = R.take i ++ [p] := by
  rw [List.take_add_one, h]
  rfl
set_option maxHeartbeats 4000000 in
theorem zm_found_M {l : Launch} {G : am_G} {X : ck_XT} (g : gM l G X) {o : Nat → Nat} {q lab : Nat} {vl : List Nat} {R : List (Int × Int)} {h : List am_C} (hl : zm_l G h o q lab vl) (hn : vl.length = R.length ∧ ∀ (i v : Nat) (r : Int × Int), vl[i]? = some v → R[i]? = some r → zm_r G h v r) (hR : R.length ≤ 6 ∧ ∀ p ∈ R, 1 ≤ p.2 ∧ p.2 ≤ 999 ∧ 0 ≤ p.1 ∧ p.1 < p.2) {mc ms : Nat} {Post : am_O → List am_C → Prop} (hmc : 2 ≤ mc) (hms : 6 ≤ ms)
    (hP1 : ∀ (n : Int) (w : Nat), zj_I R 1 n w → ∀ (h' : List am_C) (p : Nat), zg G h h' → am_g G h' p = some (52, [.long (Int64.ofInt n), .long (Int64.ofInt (w : Int))]) → Post (.inl (some (.ref p))) h')
    (hP0 : ¬ sp_fit R → ∀ h', zg G h h' → Post (.inl (some .null)) h') :
    am_M l G yX14_found (.code yX14_found prog_14_method_28_code 8 (some (.array .long))) 3 65 mc ms [.ref q] h Post := by
  refine gh_yX14_found_X g (Nat.le_of_ble_eq_true rfl) fun S SX hs hr hw hx => ?_
  have rv : ∀ x : Int32, ck_fv 0 (.int x) := fun x => ⟨_, rfl⟩
  obtain ⟨p9_, N9_, ml_, L1_, r1_, r2_⟩ := hl.L
  obtain ⟨tl_, trl_, wl_, l1_, l2_, l3_, l4_, -⟩ := id L1_
  have lq_ := zg_lt l1_
  have lp_ := zg_lt l3_
  obtain ⟨hn1_, hn2_⟩ := hn
  obtain ⟨hR1_, hR2_⟩ := hR
  refine hs 0 _ rfl _ _ _ _ _ _ _ rfl ?_
  refine hs 1 _ rfl _ _ _ _ _ _ _ rfl ?_
  refine hs 2 _ rfl _ _ _ _ _ _ _ rfl ?_
  refine hs 3 _ rfl _ _ _ _ _ _ _ rfl ?_
  refine hs 4 _ rfl _ _ _ _ _ _ _ rfl ?_
  refine zw_cm (hs 5 _ rfl) (a := [.ref q]) (st := []) 1 4 rfl rfl (Nat.le_of_ble_eq_true rfl) ⟨_, _, _, rfl, l1_, l2_⟩ (by omega) (by omega) (zl_iter_M g L1_ (by omega) (by omega) fun hj_ e_ gj_ lj_ cj_ => ?_)
  show S 8 [some (.ref q), some (.long (Int64.ofInt (0 : Int))), none, some (.long (Int64.ofInt (1 : Int))), none, none, none, none] [.ref e_] _ _ _
  refine hs 6 _ rfl _ _ _ _ _ _ _ rfl ?_
  have he_ : 1000 + h.length ≤ e_ := lj_
  have loop : ∀ (m_ i_ : Nat) (h1_ : List am_C) (k_ s_ w_ : Nat) (n_ la_ : Int) (u6_ u7_ : Option Value), i_ + m_ = vl.length → zg G h h1_ → zj_I (R.take i_) 1 n_ w_ → am_g G h1_ e_ = some (5, [.int (Int32.ofInt (i_ : Int)), .int (Int32.ofInt la_), .int (Int32.ofInt ml_), .ref q]) → k_ ≤ 1 → s_ ≤ 4 → S 10 [some (.ref q), some (.long (Int64.ofInt n_)), none, some (.long (Int64.ofInt (w_ : Int))), none, some (.ref e_), u6_, u7_] [] h1_ k_ s_ := by
    intro m_
    induction m_ with
    | zero =>
      intro i_ h1_ k_ s_ w_ n_ la_ u6_ u7_ hi_ gh_ hI_ hE_ hk_ hs_
      rw [List.take_of_length_le (by omega)] at hI_
      refine hs 7 _ rfl _ _ _ _ _ _ _ rfl ?_
      refine zw_cn (hs 8 _ rfl) (a := [.ref e_]) (st := []) rfl rfl (Nat.le_of_ble_eq_true rfl) ⟨_, _, _, rfl, hE_, rfl⟩ (by omega) (by omega) (⟨zl_hasNext_M g (zl_L.keep L1_ fun x_ c_ _ hg_ => gh_.2 _ _ hg_) hE_ rfl r1_ r2_ (by omega) (fun y_ => absurd y_ (by omega)) (fun y_ => ?_), fun _ _ h9 => h9⟩)
      show S 17 [some (.ref q), some (.long (Int64.ofInt n_)), none, some (.long (Int64.ofInt (w_ : Int))), none, some (.ref e_), _, _] [.int (Int32.ofInt (0 : Int))] _ _ _
      refine hs 9 _ rfl _ _ _ _ _ _ (fun _ => ?_) (fun zq => absurd (hd_c1t (c := 0) (by omega) (by omega) (by omega : (0 : Int) = 0)) zq)
      refine hs 38 _ rfl _ _ _ _ _ _ _ rfl ?_
      refine zw_E1 (G := G) (hs 39 _ rfl) (t := 52) (N := 2) rfl (by omega) (by omega) (by omega) (by omega) fun hz303 az304 ez305 lz306 gz307 cz308 => ?_
      refine hs 40 _ rfl _ _ _ _ _ _ _ rfl ?_
      refine hs 41 _ rfl _ _ _ _ _ _ _ rfl ?_
      refine hs 42 _ rfl _ _ _ _ _ _ _ rfl ?_
      refine zw_Br (hs 43 _ rfl) (by omega) (cz308) (by first | decide | (rw [rfl]; decide)) (by first | decide | (rw [rfl]; decide)) (j := 0) (by omega) (by omega) (by rw [List.length_replicate]; decide) (Or.inr (Or.inr (Or.inl ⟨rfl, _, rfl⟩))) fun hz309 wz310 => ?_
      refine hs 44 _ rfl _ _ _ _ _ _ _ rfl ?_
      refine hs 45 _ rfl _ _ _ _ _ _ _ rfl ?_
      refine hs 46 _ rfl _ _ _ _ _ _ _ rfl ?_
      refine zw_Br (hs 47 _ rfl) (by omega) (wz310.at) (by first | decide | (rw [rfl]; decide)) (by first | decide | (rw [rfl]; decide)) (j := 1) (by omega) (by omega) (by rw [List.length_set, List.length_replicate]; decide) (Or.inr (Or.inr (Or.inl ⟨rfl, _, rfl⟩))) fun hz311 wz312 => ?_
      refine hs 48 _ rfl _ _ _ _ _ (Or.inl ⟨_, rfl⟩) (by omega) (by omega) (hP1 n_ w_ hI_ _ _ (((gh_.tr gz307).w wz310 ?_).w wz312 ?_) wz312.at)
      · have := gh_.1
        omega
      · have := gh_.1
        omega
    | succ m_ ih =>
      intro i_ h1_ k_ s_ w_ n_ la_ u6_ u7_ hi_ gh_ hI_ hE_ hk_ hs_
      obtain ⟨v_, hv_⟩ : ∃ v_, vl[i_]? = some v_ := ⟨_, List.getElem?_eq_getElem (by omega)⟩
      obtain ⟨p_, hp_⟩ : ∃ p_, R[i_]? = some p_ := ⟨_, List.getElem?_eq_getElem (by omega)⟩
      obtain ⟨tv_, rv1_, rv2_⟩ := hn2_ _ _ _ hv_ hp_
      have hpb_ := hR2_ p_ (List.mem_of_getElem? hp_)
      obtain ⟨M_, hM_⟩ : ∃ M_ : Nat, p_.2 = (M_ : Int) := ⟨p_.2.toNat, by omega⟩
      rw [hM_] at rv1_
      have hpp_ : p_ = (p_.1, (M_ : Int)) := by rw [← hM_]
      have tk_ := zt_take hp_
      rw [hpp_] at tk_
      have big_ := hI_.big (by rw [List.length_take]; omega)
      have w1_ := hI_.1
      have n1_ := hI_.2.2.1
      have hM1_ : 1 ≤ M_ := by omega
      have hM2_ : M_ ≤ 999 := by omega
      have c1_ : 0 ≤ p_.1 := by omega
      have c2_ : p_.1 < (M_ : Int) := by omega
      refine hs 7 _ rfl _ _ _ _ _ _ _ rfl ?_
      refine zw_cn (hs 8 _ rfl) (a := [.ref e_]) (st := []) rfl rfl (Nat.le_of_ble_eq_true rfl) ⟨_, _, _, rfl, hE_, rfl⟩ (by omega) (by omega) (⟨zl_hasNext_M g (zl_L.keep L1_ fun x_ c_ _ hg_ => gh_.2 _ _ hg_) hE_ rfl r1_ r2_ (by omega) (fun y_ => ?_) (fun y_ => absurd y_ (by omega)), fun _ _ h9 => h9⟩)
      show S 17 [some (.ref q), some (.long (Int64.ofInt n_)), none, some (.long (Int64.ofInt (w_ : Int))), none, some (.ref e_), _, _] [.int (Int32.ofInt (1 : Int))] _ _ _
      refine hs 9 _ rfl _ _ _ _ _ _ (fun zq => absurd (hd_c1z (c := 0) (by omega) (by omega) zq) (by omega : ¬ ((1 : Int) = 0))) (fun _ => ?_)
      refine hs 10 _ rfl _ _ _ _ _ _ _ rfl ?_
      refine zw_cn (hs 11 _ rfl) (a := [.ref e_]) (st := []) rfl rfl (Nat.le_of_ble_eq_true rfl) ⟨_, _, _, rfl, hE_, rfl⟩ (by omega) (by omega) (⟨zl_next_M g (zl_L.keep L1_ fun x_ c_ _ hg_ => gh_.2 _ _ hg_) hE_ rfl r1_ r2_ (by omega) hv_ (by omega) (by omega) fun hx_ wx_ => ?_, fun _ _ h9 => h9⟩)
      have gx_ : zg G h hx_ := gh_.w wx_ (by omega)
      have rx_ := gx_.2 _ _ rv1_
      show S 27 [some (.ref q), some (.long (Int64.ofInt n_)), none, some (.long (Int64.ofInt (w_ : Int))), none, some (.ref e_), _, _] [.ref v_] _ _ _
      refine hs 12 _ rfl _ _ _ _ _ _ (Or.inr ⟨_, _, _, rfl, (rx_), List.mem_singleton.mpr rv2_⟩) ?_
      refine hs 13 _ rfl _ _ _ _ _ _ _ rfl ?_
      refine hs 14 _ rfl _ _ _ _ _ _ _ rfl ?_
      refine hs 15 _ rfl _ _ _ _ _ _ _ rfl ?_
      refine hs 16 _ rfl _ _ _ _ _ _ _ rfl ?_
      refine zw_c (hs 17 _ rfl) (a := [.long (Int64.ofInt n_), .long (Int64.ofInt (w_ : Int)), .ref v_]) (st := []) rfl rfl (Nat.le_of_ble_eq_true rfl) trivial (by omega) (by omega) (zy_tried_M g (by omega) (by omega) (by omega) (by omega) (by omega) (by omega) (by omega) rv2_ rx_ (fun k9_ hk1_ hk2_ hk3_ => ?_) (fun hk0_ => ?_))
      · show S 39 [some (.ref q), some (.long (Int64.ofInt n_)), none, some (.long (Int64.ofInt (w_ : Int))), none, some (.ref e_), some (.ref v_), _] [.int (Int32.ofInt (k9_ : Int))] _ _ _
        refine hs 18 _ rfl _ _ _ _ _ _ _ rfl ?_
        refine hs 19 _ rfl _ _ _ _ _ _ _ rfl ?_
        refine hs 20 _ rfl _ _ _ _ _ _ _ rfl ?_
        refine hs 21 _ rfl _ _ _ _ _ _ _ (fun _ => ?_) (fun zq => absurd (hd_c2t (c := 1) (by omega) (by omega) (by omega) (by omega) (by omega : ((k9_ : Int) - (-1 : Int)) ≠ 0)) zq)
        refine hs 24 _ rfl _ _ _ _ _ _ _ rfl ?_
        refine hs 25 _ rfl _ _ _ _ _ _ _ rfl ?_
        refine hs 26 _ rfl _ _ _ _ _ _ _ (hd_i2l (by omega) (by omega)) ?_
        refine hs 27 _ rfl _ _ _ _ _ _ _ rfl ?_
        refine hs 28 _ rfl _ _ _ _ _ _ _ hd_lmul ?_
        refine hs 29 _ rfl _ _ _ _ _ _ _ hd_ladd ?_
        refine hs 30 _ rfl _ _ _ _ _ _ _ rfl ?_
        refine hs 31 _ rfl _ _ _ _ _ _ _ rfl ?_
        refine hs 32 _ rfl _ _ _ _ _ _ _ rfl ?_
        refine hs 33 _ rfl _ _ _ _ _ _ _ rfl ?_
        refine hd_A (hs 34 _ rfl) (by decide) (by decide) (rx_) rv2_ (j := 1) (by omega) (by omega) rfl ?_
        refine zw_c (hs 35 _ rfl) (a := [.long (Int64.ofInt (w_ : Int)), .int (Int32.ofInt (M_ : Int))]) (st := []) rfl rfl (Nat.le_of_ble_eq_true rfl) trivial (by omega) (by omega) (zy_common_M g (by omega) (by omega) (by omega) (by omega) fun t9_ ht9_ => ?_)
        show S 65 [some (.ref q), some (.long (Int64.ofInt (n_ + ((k9_ : Int) * (w_ : Int))))), none, some (.long (Int64.ofInt (w_ : Int))), none, some (.ref e_), some (.ref v_), some (.int (Int32.ofInt (k9_ : Int)))] [.long (Int64.ofInt ((w_ : Int) * (t9_ : Int)))] _ _ _
        refine hs 36 _ rfl _ _ _ _ _ _ _ rfl ?_
        refine hs 37 _ rfl _ _ _ _ _ ?_
        have e9_ : (w_ : Int) * (t9_ : Int) = ((w_ * t9_ : Nat) : Int) := (Int.natCast_mul w_ t9_).symm
        rw [e9_]
        refine ih (i_ + 1) _ _ _ (w_ * t9_) _ (i_ : Int) _ _ (by omega) gx_ ?_ wx_.at (by omega) (by omega)
        rw [tk_]
        exact zt_step hI_ hM1_ hM2_ ((zt_eq c1_ c2_).mp hk2_) (fun j_ hj_ y_ => hk3_ j_ hj_ ((zt_eq c1_ c2_).mpr y_)) ht9_

      · show S 39 [some (.ref q), some (.long (Int64.ofInt n_)), none, some (.long (Int64.ofInt (w_ : Int))), none, some (.ref e_), some (.ref v_), _] [.int (Int32.ofInt (-1 : Int))] _ _ _
        refine hs 18 _ rfl _ _ _ _ _ _ _ rfl ?_
        refine hs 19 _ rfl _ _ _ _ _ _ _ rfl ?_
        refine hs 20 _ rfl _ _ _ _ _ _ _ rfl ?_
        refine hs 21 _ rfl _ _ _ _ _ _ _ (fun zq => absurd (hd_c2z (c := 1) (by omega) (by omega) (by omega) (by omega) zq) (by omega : ¬ (((-1 : Int) - (-1 : Int)) ≠ 0))) (fun _ => ?_)
        refine hs 22 _ rfl _ _ _ _ _ _ _ rfl ?_
        refine hs 23 _ rfl _ _ _ _ _ (Or.inr rfl) (by omega) (by omega) (hP0 (zt_sub (i := i_ + 1) ?_) _ gx_)
        rw [tk_, zt_ad hI_ hM1_]
        rintro ⟨j_, hj_, y_⟩
        exact hk0_ j_ hj_ ((zt_eq c1_ c2_).mpr y_)
  exact loop vl.length 0 _ _ _ 1 0 (-1) _ _ (by omega) gj_ zj_I.nil cj_ (by omega) (by omega)
set_option maxHeartbeats 4000000 in
theorem zm_isFit_M {l : Launch} {G : am_G} {X : ck_XT} (g : gM l G X) {o : Nat → Nat} {x tx now qw : Nat} {th j m k : Int} {c : sp_S} {P : List sp_S} {h : List am_C} (hX : zm_x G h o x tx now qw th j m k c P) (hok : sp_ok c) {f_ : Int} {m_ : Nat} (hf1 : -2147483648 ≤ f_) (hf2 : f_ ≤ 2147483647) (hm1 : 1 ≤ m_) (hm2 : m_ ≤ 999) {mc ms : Nat} {Post : am_O → List am_C → Prop} (hmc : 3 ≤ mc) (hms : 8 ≤ ms)
    (hP1 : sp_fit (c.2.2.1 ++ [(f_ % (m_ : Int), (m_ : Int))]) → ∀ h', zg G h h' → Post (.inl (some (.int (Int32.ofInt 1)))) h')
    (hP0 : ¬ sp_fit (c.2.2.1 ++ [(f_ % (m_ : Int), (m_ : Int))]) → ∀ h', zg G h h' → Post (.inl (some (.int (Int32.ofInt 0)))) h') :
    am_M l G yX14_isFit (.code yX14_isFit prog_14_method_31_code 4 (some .boolean)) 4 92 mc ms [.ref x, .int (Int32.ofInt f_), .int (Int32.ofInt (m_ : Int))] h Post := by
  refine gh_yX14_isFit_X g (Nat.le_of_ble_eq_true rfl) fun S SX hs hr hw hx => ?_
  have rv : ∀ x : Int32, ck_fv 0 (.int x) := fun x => ⟨_, rfl⟩
  obtain ⟨a1_, a2_, a3_, a4_⟩ := id hX
  obtain ⟨t_, qn_, ql_, qb_, vl_, s1_, l1_, ⟨e1_, e2_⟩, up_⟩ := hX.rowL
  have hm9_ : (m_ : Int) ≠ 0 := by omega
  have q1_ := Int.emod_nonneg f_ hm9_
  have q2_ := Int.emod_lt_of_pos f_ (show 0 < (m_ : Int) by omega)
  refine hs 0 _ rfl _ _ _ _ _ _ _ rfl ?_
  refine hs 1 _ rfl _ _ _ _ _ _ _ _ _ (a1_) a2_.1 rfl ?_
  refine hs 2 _ rfl _ _ _ _ _ _ _ _ _ (s1_.1) s1_.2 rfl ?_
  refine zw_cm (hs 3 _ rfl) (a := [.ref ql_]) (st := []) 2 6 rfl rfl (Nat.le_of_ble_eq_true rfl) trivial (by omega) (by omega) (zm_found_M g l1_ ⟨e1_, e2_⟩ hok.2.2.1 (by omega) (by omega) (fun n9_ w9_ hI_ hy_ p9_ gy_ py_ => ?_) (fun hf_ hy_ gy_ => ?_))
  · show S 10 [some (.ref x), some (.int (Int32.ofInt f_)), some (.int (Int32.ofInt (m_ : Int))), none] [.ref p9_] _ _ _
    have big_ := hI_.big hok.2.2.1.1
    have w1_ := hI_.1
    have n1_ := hI_.2.2.1
    have hy9_ := gy_.1
    refine hs 4 _ rfl _ _ _ _ _ _ _ rfl ?_
    refine hs 5 _ rfl _ _ _ _ _ _ _ rfl ?_
    refine zw_Nr (hs 6 _ rfl) ?_
    refine hs 7 _ rfl _ _ _ _ _ _ _ rfl ?_
    refine hs 8 _ rfl _ _ _ _ _ _ _ rfl ?_
    refine zw_Ar (hs 9 _ rfl) (py_) (by first | rfl | (rw [(rfl : 52 % 100 = 52)]; rfl)) (j := 0) (by omega) (by omega) rfl ?_
    refine hs 10 _ rfl _ _ _ _ _ _ _ rfl ?_
    refine hs 11 _ rfl _ _ _ _ _ _ _ rfl ?_
    refine zw_Ar (hs 12 _ rfl) (py_) (by first | rfl | (rw [(rfl : 52 % 100 = 52)]; rfl)) (j := 1) (by omega) (by omega) rfl ?_
    refine hs 13 _ rfl _ _ _ _ _ _ _ rfl ?_
    refine zw_E (G := G) (hs 14 _ rfl) (t := 50) (N := 2) rfl (by omega) (by omega) (by omega) (by omega) fun hz313 az314 ez315 lz316 gz317 cz318 => ?_
    refine hs 15 _ rfl _ _ _ _ _ _ _ rfl ?_
    refine hs 16 _ rfl _ _ _ _ _ _ _ rfl ?_
    refine hs 17 _ rfl _ _ _ _ _ _ _ rfl ?_
    refine hs 18 _ rfl _ _ _ _ _ _ _ rfl ?_
    refine zw_c (hs 19 _ rfl) (a := [.int (Int32.ofInt f_), .int (Int32.ofInt (m_ : Int))]) (st := [.int (Int32.ofInt (0 : Int)), .ref az314, .ref az314, .long (Int64.ofInt (w9_ : Int)), .long (Int64.ofInt n9_)]) rfl rfl (Nat.le_of_ble_eq_true rfl) trivial (by omega) (by omega) (zy_modOf_M g hf1 hf2 hm1 hm2 ?_)
    show S 31 [some (.ref x), some (.int (Int32.ofInt f_)), some (.int (Int32.ofInt (m_ : Int))), some (.ref p9_)] [.int (Int32.ofInt (f_ % (m_ : Int))), .int (Int32.ofInt (0 : Int)), .ref az314, .ref az314, .long (Int64.ofInt (w9_ : Int)), .long (Int64.ofInt n9_)] _ _ _
    refine zw_B (hs 20 _ rfl) (by decide) (by decide) (by omega) (cz318) rfl (j := 0) (by omega) (by omega) (by simp only [List.length_replicate]; decide) fun hz319 wz320 => ?_
    refine hs 21 _ rfl _ _ _ _ _ _ _ rfl ?_
    refine hs 22 _ rfl _ _ _ _ _ _ _ rfl ?_
    refine hs 23 _ rfl _ _ _ _ _ _ _ rfl ?_
    refine zw_B (hs 24 _ rfl) (by decide) (by decide) (by omega) (wz320.at) rfl (j := 1) (by omega) (by omega) (by simp only [List.length_set, List.length_replicate]; decide) fun hz321 wz322 => ?_
    have g4_ : zg G h hz321 := ((gy_.tr gz317).w wz320 (by omega)).w wz322 (by omega)
    refine zw_c (hs 25 _ rfl) (a := [.long (Int64.ofInt n9_), .long (Int64.ofInt (w9_ : Int)), .ref az314]) (st := []) rfl rfl (Nat.le_of_ble_eq_true rfl) trivial (by omega) (by omega) (zy_tried_M g (by omega) (by omega) (by omega) (by omega) (by omega) q1_ q2_ (rfl : 50 % 100 = 50) (wz322.at : am_g G hz321 az314 = some (50, hd_r [f_ % (m_ : Int), (m_ : Int)])) (fun k9_ hk1_ hk2_ hk3_ => ?_) (fun hk0_ => ?_))
    · show S 39 [some (.ref x), some (.int (Int32.ofInt f_)), some (.int (Int32.ofInt (m_ : Int))), some (.ref p9_)] [.int (Int32.ofInt (k9_ : Int))] _ _ _
      refine hs 26 _ rfl _ _ _ _ _ _ _ rfl ?_
      refine hs 27 _ rfl _ _ _ _ _ _ _ (fun zq => absurd (hd_c2z (c := 0) (by omega) (by omega) (by omega) (by omega) zq) (by omega : ¬ (((k9_ : Int) - (-1 : Int)) = 0))) (fun _ => ?_)
      refine hs 28 _ rfl _ _ _ _ _ _ _ rfl ?_
      refine hs 29 _ rfl _ _ _ _ _ ?_
      exact hs 31 _ rfl _ _ _ _ _ ⟨_, rfl, by decide, by decide⟩ (by omega) (by omega) (hP1 ((zt_ad hI_ hm1).mpr ⟨k9_, hk1_, (zt_eq q1_ q2_).mp hk2_⟩) _ g4_)

    · show S 39 [some (.ref x), some (.int (Int32.ofInt f_)), some (.int (Int32.ofInt (m_ : Int))), some (.ref p9_)] [.int (Int32.ofInt (-1 : Int))] _ _ _
      refine hs 26 _ rfl _ _ _ _ _ _ _ rfl ?_
      refine hs 27 _ rfl _ _ _ _ _ _ _ (fun _ => ?_) (fun zq => absurd (hd_c2t (c := 0) (by omega) (by omega) (by omega) (by omega) (by omega : ((-1 : Int) - (-1 : Int)) = 0)) zq)
      refine hs 30 _ rfl _ _ _ _ _ _ _ rfl ?_
      refine hs 31 _ rfl _ _ _ _ _ ⟨_, rfl, by decide, by decide⟩ (by omega) (by omega) (hP0 ?_ _ g4_)
      rw [zt_ad hI_ hm1]
      rintro ⟨j_, hj_, y_⟩
      exact hk0_ j_ hj_ ((zt_eq q1_ q2_).mpr y_)

  · show S 10 [some (.ref x), some (.int (Int32.ofInt f_)), some (.int (Int32.ofInt (m_ : Int))), none] [.null] _ _ _
    refine hs 4 _ rfl _ _ _ _ _ _ _ rfl ?_
    refine hs 5 _ rfl _ _ _ _ _ _ _ rfl ?_
    refine zw_Nn (hs 6 _ rfl) ?_
    refine hs 30 _ rfl _ _ _ _ _ _ _ rfl ?_
    exact hs 31 _ rfl _ _ _ _ _ ⟨_, rfl, by decide, by decide⟩ (by omega) (by omega) (hP0 (zt_sub2 hf_) _ gy_)
