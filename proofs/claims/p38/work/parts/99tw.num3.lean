/-! THE REFERENCE'S NUMBERS: of -/
theorem zx_set : ∀ {ds : List Int} {i : Nat} {d x : Int}, ds[i]? = some d → hd_v (ds.set i x) = hd_v ds + 10 ^ i * (x - d)
  | [], i, d, x, h => by
    rw [List.getElem?_nil] at h
    cases h
  | a :: u, 0, d, x, h => by
    have e_ : a = d := Option.some.inj h
    subst e_
    show x + 10 * hd_v u = a + 10 * hd_v u + 10 ^ 0 * (x - a)
    rw [Int.pow_zero, Int.one_mul]
    omega
  | a :: u, i + 1, d, x, h => by
    have ih_ := zx_set (ds := u) (i := i) (d := d) (x := x) h
    show a + 10 * hd_v (u.set i x) = a + 10 * hd_v u + 10 ^ (i + 1) * (x - d)
    rw [ih_, Int.mul_add, Int.pow_succ, Int.mul_comm (10 ^ i) 10, Int.mul_assoc]
    omega
theorem zx_dset {ds : List Int} (h : hd_d ds) {i : Nat} {x : Int} (h1 : 0 ≤ x) (h2 : x ≤ 9) : hd_d (ds.set i x) := fun d hd => (List.mem_or_eq_of_mem_set hd).elim (h d) (fun y => by rw [y]; exact ⟨h1, h2⟩)
/-- a step of the digits -/
theorem zx_of {md : List Int} {k : Nat} {v u u2 d : Int} (hz : ∀ j : Nat, k ≤ j → j < 20 → md[j]? = some 0) (hk : k < 20) (hv : hd_v md + 10 ^ k * u = v) (hu : u = 10 * u2 + d) : (∀ j : Nat, k + 1 ≤ j → j < 20 → (md.set k d)[j]? = some 0) ∧ hd_v (md.set k d) + 10 ^ (k + 1) * u2 = v := by
  refine ⟨fun j hj hj2 => ?_, ?_⟩
  · rw [List.getElem?_set_ne (by omega)]
    exact hz j (by omega) hj2
  · rw [zx_set (hz k (Nat.le_refl k) hk), Int.sub_zero, ← hv, hu, Int.mul_add, Int.pow_succ, Int.mul_assoc]
    omega
theorem zx_abs (x : Int) : (x.natAbs : Int) = 10 * ((x.tdiv 10).natAbs : Int) + ((x.tmod 10).natAbs : Int) ∧ -9 ≤ x.tmod 10 ∧ x.tmod 10 ≤ 9 := by
  rcases sm_td (x := x) (y := 10) (by decide) with ⟨z1, z2, z3⟩ | ⟨z1, z2, z3, z4⟩ | ⟨z1, z2, z3, z4, z5⟩ <;> omega
set_option maxHeartbeats 4000000 in
theorem zn_of_M {l : Launch} {G : am_G} {X : ck_XT} (g : gM l G X) {v : Int} {h : List am_C} (hv1 : -4000000000000000000 ≤ v) (hv2 : v ≤ 4000000000000000000) {mc ms : Nat} {Post : am_O → List am_C → Prop}
    (hmc : 3 ≤ mc) (hms : 42 ≤ ms)
    (hP : ∀ (h' : List am_C) (p : Nat), zg G h h' → zn_N G h' p v → Post (.inl (some (.ref p))) h') :
    am_M l G yX12_of (.code yX12_of prog_15_method_2_code 6 (some (.object "ClockhouseModel$Num"))) 2 44 mc ms [.long (Int64.ofInt v)] h Post := by
  refine gh_yX12_of_X g (Nat.le_of_ble_eq_true rfl) fun S SX hs hr hw hx => ?_
  have rv : ∀ x : Int32, ck_fv 0 (.int x) := fun x => ⟨_, rfl⟩
  have p20_ : (10 : Int) ^ 20 = 100000000000000000000 := by decide
  have loop_ : ∀ (m_ k_ : Nat) (lf_ : Int) (h1_ : List am_C) (a_ : Nat) (md_ : List Int), k_ + m_ = 20 → 1000 + h.length ≤ a_ → zg G h h1_ → am_g G h1_ a_ = some (50, hd_r md_) → md_.length = 20 → hd_d md_ → (∀ j : Nat, k_ ≤ j → j < 20 → md_[j]? = some 0) → hd_v md_ + 10 ^ k_ * (lf_.natAbs : Int) = (v.natAbs : Int) → -4000000000000000000 ≤ lf_ → lf_ ≤ 4000000000000000000 → S 10 [some (.long (Int64.ofInt v)), none, some (.ref a_), some (.long (Int64.ofInt lf_)), none, some (.int (Int32.ofInt (k_ : Int)))] [] h1_ (0 + 1) (0 + 20) := by
    intro m_
    induction m_ with
    | zero =>
      intro k_ lf_ h1_ a_ md_ hk_ ha_ f1_ g1_ hml_ hd_ hz_ hv_ l1b_ l2b_
      obtain rfl : k_ = 20 := by omega
      rw [p20_] at hv_
      have fl_ := f1_.1
      have nn_ := hd_v_nn hd_
      have hv9_ : hd_v md_ = (v.natAbs : Int) := by omega
      obtain ⟨c_, q1_, q2_, q3_, q4_, q5_⟩ := zj_sg v
      refine hs 7 _ rfl _ _ _ _ _ _ _ rfl ?_
      refine hs 8 _ rfl _ _ _ _ _ _ _ rfl ?_
      refine hs 9 _ rfl _ _ _ _ _ _ _ (fun _ => ?_) (fun zq => absurd (hd_c2t (c := 3) (by omega) (by omega) (by omega) (by omega) (by omega : 0 ≤ (((20 : Nat) : Int) - (20 : Int)))) zq)
      refine zw_W (G := G) (hs 34 _ rfl) (t := 17) (vs := [.int 0, .null]) (m := 2) rfl rfl rfl (by omega) (by omega) fun hz153 az154 ez155 lz156 gz157 cz158 => ?_
      by_cases neg_ : v < 0
      · have c0_ : c_ < 0 := q4_.mpr neg_
        refine hs 35 _ rfl _ _ _ _ _ _ _ rfl ?_
        refine hs 36 _ rfl _ _ _ _ _ _ _ rfl ?_
        refine hs 37 _ rfl _ _ _ _ _ _ _ rfl ?_
        refine hs 38 _ rfl _ _ _ _ _ _ _ (zw_lcmpE (by omega) (by omega) (by decide) (by decide) q1_) ?_
        refine hs 39 _ rfl _ _ _ _ _ _ (fun zq => absurd (hd_c1z (c := 3) (by omega) (by omega) zq) (by omega : ¬ (0 ≤ c_))) (fun _ => ?_)
        refine hs 40 _ rfl _ _ _ _ _ _ _ rfl ?_
        refine hs 41 _ rfl _ _ _ _ _ ?_
        refine hs 43 _ rfl _ _ _ _ _ _ _ rfl ?_
        refine zw_cmn (hs 44 _ rfl) (a := [.ref az154, .int (Int32.ofInt (1 : Int)), .ref a_]) (st := [.ref az154]) 1 md_.length rfl rfl (Nat.le_of_ble_eq_true rfl) ⟨_, _, _, rfl, (cz158), rfl⟩ (by omega) (by omega) (⟨zn_init_M g (ds := md_) (by omega) (Or.inr rfl) rfl rfl (by omega) hd_ (cz158) ((gz157.2 _ _ g1_)) (by decide) (Nat.le_refl _) fun hi1_ d1_ n1_ p1_ e1_ l1_ a1_ a2_ f1b_ => ?_, fun _ _ h9 => h9⟩)
        show S 74 [some (.long (Int64.ofInt v)), none, some (.ref a_), some (.long (Int64.ofInt lf_)), none, some (.int (Int32.ofInt ((20 : Nat) : Int)))] [.ref az154] _ _ _
        exact hs 45 _ rfl _ _ _ _ _ (Or.inl ⟨_, rfl⟩) (by omega) (by omega) (hP _ _ (zg.i (f1_.tr gz157) (by omega) (by omega) f1b_) (zn_N.mk rfl hd_ (Or.inr rfl) p1_ a1_ a2_ (by rw [if_pos rfl]; omega)))
      · have c0_ : 0 ≤ c_ := by omega
        refine hs 35 _ rfl _ _ _ _ _ _ _ rfl ?_
        refine hs 36 _ rfl _ _ _ _ _ _ _ rfl ?_
        refine hs 37 _ rfl _ _ _ _ _ _ _ rfl ?_
        refine hs 38 _ rfl _ _ _ _ _ _ _ (zw_lcmpE (by omega) (by omega) (by decide) (by decide) q1_) ?_
        refine hs 39 _ rfl _ _ _ _ _ _ (fun _ => ?_) (fun zq => absurd (hd_c1t (c := 3) (by omega) (by omega) (by omega : 0 ≤ c_)) zq)
        refine hs 42 _ rfl _ _ _ _ _ _ _ rfl ?_
        refine hs 43 _ rfl _ _ _ _ _ _ _ rfl ?_
        refine zw_cmn (hs 44 _ rfl) (a := [.ref az154, .int (Int32.ofInt (0 : Int)), .ref a_]) (st := [.ref az154]) 1 md_.length rfl rfl (Nat.le_of_ble_eq_true rfl) ⟨_, _, _, rfl, (cz158), rfl⟩ (by omega) (by omega) (⟨zn_init_M g (ds := md_) (by omega) (Or.inl rfl) rfl rfl (by omega) hd_ (cz158) ((gz157.2 _ _ g1_)) (by decide) (Nat.le_refl _) fun hi1_ d1_ n1_ p1_ e1_ l1_ a1_ a2_ f1b_ => ?_, fun _ _ h9 => h9⟩)
        show S 74 [some (.long (Int64.ofInt v)), none, some (.ref a_), some (.long (Int64.ofInt lf_)), none, some (.int (Int32.ofInt ((20 : Nat) : Int)))] [.ref az154] _ _ _
        exact hs 45 _ rfl _ _ _ _ _ (Or.inl ⟨_, rfl⟩) (by omega) (by omega) (hP _ _ (zg.i (f1_.tr gz157) (by omega) (by omega) f1b_) (zn_N.mk rfl hd_ (Or.inl rfl) p1_ a1_ a2_ (by rw [if_neg (by decide)]; omega)))
    | succ m_ ih_ =>
      intro k_ lf_ h1_ a_ md_ hk_ ha_ f1_ g1_ hml_ hd_ hz_ hv_ l1b_ l2b_
      obtain ⟨x1_, x2_, x3_⟩ := zx_abs lf_
      by_cases neg_ : lf_.tmod 10 < 0
      · obtain ⟨y1_, y2_⟩ := zx_of (d := -(lf_.tmod 10)) hz_ (by omega) hv_ (show (lf_.natAbs : Int) = 10 * ((lf_.tdiv 10).natAbs : Int) + -(lf_.tmod 10) by omega)
        have d9_ := zx_dset (i := k_) (x := -(lf_.tmod 10)) hd_ (by omega) (by omega)
        refine hs 7 _ rfl _ _ _ _ _ _ _ rfl ?_
        refine hs 8 _ rfl _ _ _ _ _ _ _ rfl ?_
        refine hs 9 _ rfl _ _ _ _ _ _ _ (fun zq => absurd (hd_c2z (c := 3) (by omega) (by omega) (by omega) (by omega) zq) (by omega : ¬ (0 ≤ ((k_ : Int) - (20 : Int))))) (fun _ => ?_)
        refine hs 10 _ rfl _ _ _ _ _ _ _ rfl ?_
        refine hs 11 _ rfl _ _ _ _ _ _ _ rfl ?_
        refine hs 12 _ rfl _ _ _ _ _ _ _ rfl ?_
        refine hs 13 _ rfl _ _ _ _ _ _ _ rfl ?_
        refine hs 14 _ rfl _ _ _ _ _ _ _ (hd_lremT (by omega) (by omega)) ?_
        refine hs 15 _ rfl _ _ _ _ _ _ _ (hd_l2i (by omega) (by omega)) ?_
        refine zw_B (hs 16 _ rfl) (by decide) (by decide) (by omega) (g1_) rfl (j := k_) (by omega) (by omega) (by omega) fun hz161 wz162 => ?_
        have gk_ : (md_.set k_ (lf_.tmod 10))[k_]? = some (lf_.tmod 10) := List.getElem?_set_self (by omega)
        refine hs 17 _ rfl _ _ _ _ _ _ _ rfl ?_
        refine hs 18 _ rfl _ _ _ _ _ _ _ rfl ?_
        refine hd_A (hs 19 _ rfl) (by decide) (by decide) (wz162.at) rfl (j := k_) (by omega) (by omega) gk_ ?_
        refine hs 20 _ rfl _ _ _ _ _ _ (fun zq => absurd (hd_c1z (c := 3) (by omega) (by omega) zq) (by omega : ¬ (0 ≤ (lf_.tmod 10)))) (fun _ => ?_)
        refine hs 21 _ rfl _ _ _ _ _ _ _ rfl ?_
        refine hs 22 _ rfl _ _ _ _ _ _ _ rfl ?_
        refine hs 23 _ rfl _ _ _ _ _ _ _ rfl ?_
        refine hs 24 _ rfl _ _ _ _ _ _ _ rfl ?_
        refine hd_A (hs 25 _ rfl) (by decide) (by decide) (wz162.at) rfl (j := k_) (by omega) (by omega) gk_ ?_
        refine hs 26 _ rfl _ _ _ _ _ _ _ zw_neg ?_
        refine zw_B (hs 27 _ rfl) (by decide) (by decide) (by omega) (wz162.at) rfl (j := k_) (by omega) (by omega) (by rw [List.length_set]; omega) fun hz163 wz164 => ?_
        refine hs 28 _ rfl _ _ _ _ _ _ _ rfl ?_
        refine hs 29 _ rfl _ _ _ _ _ _ _ rfl ?_
        refine hs 30 _ rfl _ _ _ _ _ _ _ (hd_ldivT (by omega) (by omega)) ?_
        refine hs 31 _ rfl _ _ _ _ _ _ _ rfl ?_
        refine hs 32 _ rfl _ _ _ _ _ _ _ (hd_inc rfl) ?_
        refine hs 33 _ rfl _ _ _ _ _ ?_
        rw [show ((k_ : Int) + (1 : Int)) = ((k_ + 1 : Nat) : Int) by omega]
        have g9_ := wz164.at
        rw [List.set_set] at g9_
        exact ih_ (k_ + 1) _ _ a_ _ (by omega) ha_ ((f1_.w wz162 ha_).w wz164 ha_) g9_ (by rw [List.length_set]; exact hml_) d9_ y1_ y2_ (by omega) (by omega)
      · obtain ⟨y1_, y2_⟩ := zx_of (d := lf_.tmod 10) hz_ (by omega) hv_ (show (lf_.natAbs : Int) = 10 * ((lf_.tdiv 10).natAbs : Int) + lf_.tmod 10 by omega)
        have d9_ := zx_dset (i := k_) (x := lf_.tmod 10) hd_ (by omega) (by omega)
        refine hs 7 _ rfl _ _ _ _ _ _ _ rfl ?_
        refine hs 8 _ rfl _ _ _ _ _ _ _ rfl ?_
        refine hs 9 _ rfl _ _ _ _ _ _ _ (fun zq => absurd (hd_c2z (c := 3) (by omega) (by omega) (by omega) (by omega) zq) (by omega : ¬ (0 ≤ ((k_ : Int) - (20 : Int))))) (fun _ => ?_)
        refine hs 10 _ rfl _ _ _ _ _ _ _ rfl ?_
        refine hs 11 _ rfl _ _ _ _ _ _ _ rfl ?_
        refine hs 12 _ rfl _ _ _ _ _ _ _ rfl ?_
        refine hs 13 _ rfl _ _ _ _ _ _ _ rfl ?_
        refine hs 14 _ rfl _ _ _ _ _ _ _ (hd_lremT (by omega) (by omega)) ?_
        refine hs 15 _ rfl _ _ _ _ _ _ _ (hd_l2i (by omega) (by omega)) ?_
        refine zw_B (hs 16 _ rfl) (by decide) (by decide) (by omega) (g1_) rfl (j := k_) (by omega) (by omega) (by omega) fun hz159 wz160 => ?_
        have gk_ : (md_.set k_ (lf_.tmod 10))[k_]? = some (lf_.tmod 10) := List.getElem?_set_self (by omega)
        refine hs 17 _ rfl _ _ _ _ _ _ _ rfl ?_
        refine hs 18 _ rfl _ _ _ _ _ _ _ rfl ?_
        refine hd_A (hs 19 _ rfl) (by decide) (by decide) (wz160.at) rfl (j := k_) (by omega) (by omega) gk_ ?_
        refine hs 20 _ rfl _ _ _ _ _ _ (fun _ => ?_) (fun zq => absurd (hd_c1t (c := 3) (by omega) (by omega) (by omega : 0 ≤ (lf_.tmod 10))) zq)
        refine hs 28 _ rfl _ _ _ _ _ _ _ rfl ?_
        refine hs 29 _ rfl _ _ _ _ _ _ _ rfl ?_
        refine hs 30 _ rfl _ _ _ _ _ _ _ (hd_ldivT (by omega) (by omega)) ?_
        refine hs 31 _ rfl _ _ _ _ _ _ _ rfl ?_
        refine hs 32 _ rfl _ _ _ _ _ _ _ (hd_inc rfl) ?_
        refine hs 33 _ rfl _ _ _ _ _ ?_
        rw [show ((k_ : Int) + (1 : Int)) = ((k_ + 1 : Nat) : Int) by omega]
        exact ih_ (k_ + 1) _ _ a_ _ (by omega) ha_ (f1_.w wz160 ha_) wz160.at (by rw [List.length_set]; exact hml_) d9_ y1_ y2_ (by omega) (by omega)
  refine hs 0 _ rfl _ _ _ _ _ _ _ rfl ?_
  refine zw_E (G := G) (hs 1 _ rfl) (t := 50) (N := 20) rfl (by omega) (by omega) (by omega) (by omega) fun hz165 az166 ez167 lz168 gz169 cz170 => ?_
  refine hs 2 _ rfl _ _ _ _ _ _ _ rfl ?_
  refine hs 3 _ rfl _ _ _ _ _ _ _ rfl ?_
  refine hs 4 _ rfl _ _ _ _ _ _ _ rfl ?_
  refine hs 5 _ rfl _ _ _ _ _ _ _ rfl ?_
  refine hs 6 _ rfl _ _ _ _ _ _ _ rfl ?_
  refine loop_ 20 0 v _ az166 _ (by omega) (by omega) gz169 cz170 List.length_replicate (fun d hd => by rw [List.eq_of_mem_replicate hd]; decide) (fun j _ hj2 => List.getElem?_replicate_of_lt hj2) ?_ (by omega) (by omega)
  rw [hd_v_zero (ds := List.replicate 20 0) (fun d hd => List.eq_of_mem_replicate hd), Int.pow_zero, Int.one_mul, Int.zero_add]
