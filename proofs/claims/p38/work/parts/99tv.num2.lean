/-! THE REFERENCE'S NUMBERS: plus -/
set_option maxHeartbeats 4000000 in
theorem zn_plus_M {l : Launch} {G : am_G} {X : ck_XT} (g : gM l G X)  {q t d td q2 t2 d2 td2 M : Nat} {b z b2 z2 : Int} {A B : List Int} {h : List am_C} (hg : am_g G h q = some (t, [.int (Int32.ofInt b), .ref d])) (ht : t % 100 = 17) (hgd : am_g G h d = some (td, hd_r A)) (htd : td % 100 = 50) (hi : zn_is A b z) (hg2 : am_g G h q2 = some (t2, [.int (Int32.ofInt b2), .ref d2])) (ht2 : t2 % 100 = 17) (hgd2 : am_g G h d2 = some (td2, hd_r B)) (htd2 : td2 % 100 = 50) (hi2 : zn_is B b2 z2) (hM1 : A.length ≤ M) (hM2 : B.length ≤ M) (hM3 : M = A.length ∨ M = B.length) (hM4 : M ≤ 900) {mc ms : Nat} {Post : am_O → List am_C → Prop}
    (hmc : 3 ≤ mc) (hms : 2 + (M + 1) + (M + 1) ≤ ms)
    (hP : ∀ (h' : List am_C) (p : Nat), zg G h h' → zn_N G h' p (z + z2) → Post (.inl (some (.ref p))) h') :
    am_M l G yX12_plus (.code yX12_plus prog_15_method_10_code 2 (some (.object "ClockhouseModel$Num"))) 3 67 mc ms [.ref q, .ref q2] h Post := by
  refine gh_yX12_plus_X g (Nat.le_of_ble_eq_true rfl) fun S SX hs hr hw hx => ?_
  have rv : ∀ x : Int32, ck_fv 0 (.int x) := fun x => ⟨_, rfl⟩
  have lq_ := zg_lt hg
  obtain ⟨bz1_, bz2_⟩ : (b = 0 ∨ b = 1) ∧ (b2 = 0 ∨ b2 = 1) := ⟨hi.2.2.1, hi2.2.2.1⟩
  rcases (show (b = 0 ∧ b2 = 0) ∨ (b = 1 ∧ b2 = 1) ∨ (b = 0 ∧ b2 = 1) ∨ (b = 1 ∧ b2 = 0) by omega) with ⟨hb_, hb2_⟩ | ⟨hb_, hb2_⟩ | ⟨hb_, hb2_⟩ | ⟨hb_, hb2_⟩
  · have zv1_ : z = hd_v A := by rw [hi.2.2.2.2]; exact if_neg (by omega)
    have zv2_ : z2 = hd_v B := by rw [hi2.2.2.2.2]; exact if_neg (by omega)
    refine hs 0 _ rfl _ _ _ _ _ _ _ rfl ?_
    refine hs 1 _ rfl _ _ _ _ _ _ _ _ _ (hg) ht rfl ?_
    refine hs 2 _ rfl _ _ _ _ _ _ _ rfl ?_
    refine hs 3 _ rfl _ _ _ _ _ _ _ _ _ (hg2) ht2 rfl ?_
    refine hs 4 _ rfl _ _ _ _ _ _ _ (fun zq => absurd (hd_c2z (c := 1) (by omega) (by omega) (by omega) (by omega) zq) (by omega : ¬ ((b - b2) ≠ 0))) (fun _ => ?_)
    refine zw_W (G := G) (hs 5 _ rfl) (t := 17) (vs := [.int 0, .null]) (m := 2) rfl rfl rfl (by omega) (by omega) fun hz123 az124 ez125 lz126 gz127 cz128 => ?_
    refine hs 6 _ rfl _ _ _ _ _ _ _ rfl ?_
    refine hs 7 _ rfl _ _ _ _ _ _ _ rfl ?_
    refine hs 8 _ rfl _ _ _ _ _ _ _ _ _ ((gz127.2 _ _ hg)) ht rfl ?_
    refine hs 9 _ rfl _ _ _ _ _ _ _ rfl ?_
    refine hs 10 _ rfl _ _ _ _ _ _ _ _ _ ((gz127.2 _ _ hg)) ht rfl ?_
    refine hs 11 _ rfl _ _ _ _ _ _ _ rfl ?_
    refine hs 12 _ rfl _ _ _ _ _ _ _ _ _ ((gz127.2 _ _ hg2)) ht2 rfl ?_
    refine hs 13 _ rfl _ _ _ _ _ _ _ rfl ?_
    refine zw_cm (hs 14 _ rfl) (a := [.ref d, .ref d2, .int (Int32.ofInt (1 : Int))]) (st := [.int (Int32.ofInt b), .ref az124, .ref az124]) 1 (M + 1) rfl rfl (Nat.le_of_ble_eq_true rfl) trivial (by omega) (by omega) (zn_joined_M g (M := M) ((gz127.2 _ _ hgd)) htd ((gz127.2 _ _ hgd2)) htd2 hi.1 hi2.1 (Or.inl rfl) hM1 hM2 hM3 hM4 (by decide) (Nat.le_refl _) fun hj_ dj_ res_ fj_ gj_ rl_ re_ => ?_)
    show S 31 [some (.ref q), some (.ref q2)] [.ref dj_, .int (Int32.ofInt b), .ref az124, .ref az124] _ _ _
    obtain ⟨hr_, -, hv1_, hv2_⟩ := zk_res (by_ := 1) (M := M) (Or.inl rfl) hi.1 hi2.1 hM1 hM2
    rw [← re_] at hr_ hv1_ hv2_
    refine zw_cmn (hs 15 _ rfl) (a := [.ref az124, .int (Int32.ofInt b), .ref dj_]) (st := [.ref az124]) 1 res_.length rfl rfl (Nat.le_of_ble_eq_true rfl) ⟨_, _, _, rfl, ((fj_.2 _ _ cz128)), rfl⟩ (by omega) (by omega) (⟨zn_init_M g (ds := res_) (by omega) (Or.inl hb_) rfl rfl (by omega) hr_ ((fj_.2 _ _ cz128)) (gj_) (by decide) (Nat.le_refl _) fun hi1_ d1_ n1_ p1_ e1_ l1_ a1_ a2_ f1_ => ?_, fun _ _ h9 => h9⟩)
    show S 34 [some (.ref q), some (.ref q2)] [.ref az124] _ _ _
    exact hs 16 _ rfl _ _ _ _ _ (Or.inl ⟨_, rfl⟩) (by omega) (by omega) (hP _ _ (zg.i (gz127.tr fj_) (by omega) (by omega) f1_) (zn_N.mk rfl hr_ (Or.inl hb_) p1_ a1_ a2_ (by rw [if_neg (by omega), hv1_ rfl, zv1_, zv2_])))
  · have zv1_ : z = -hd_v A := by rw [hi.2.2.2.2]; exact if_pos hb_
    have zv2_ : z2 = -hd_v B := by rw [hi2.2.2.2.2]; exact if_pos hb2_
    refine hs 0 _ rfl _ _ _ _ _ _ _ rfl ?_
    refine hs 1 _ rfl _ _ _ _ _ _ _ _ _ (hg) ht rfl ?_
    refine hs 2 _ rfl _ _ _ _ _ _ _ rfl ?_
    refine hs 3 _ rfl _ _ _ _ _ _ _ _ _ (hg2) ht2 rfl ?_
    refine hs 4 _ rfl _ _ _ _ _ _ _ (fun zq => absurd (hd_c2z (c := 1) (by omega) (by omega) (by omega) (by omega) zq) (by omega : ¬ ((b - b2) ≠ 0))) (fun _ => ?_)
    refine zw_W (G := G) (hs 5 _ rfl) (t := 17) (vs := [.int 0, .null]) (m := 2) rfl rfl rfl (by omega) (by omega) fun hz117 az118 ez119 lz120 gz121 cz122 => ?_
    refine hs 6 _ rfl _ _ _ _ _ _ _ rfl ?_
    refine hs 7 _ rfl _ _ _ _ _ _ _ rfl ?_
    refine hs 8 _ rfl _ _ _ _ _ _ _ _ _ ((gz121.2 _ _ hg)) ht rfl ?_
    refine hs 9 _ rfl _ _ _ _ _ _ _ rfl ?_
    refine hs 10 _ rfl _ _ _ _ _ _ _ _ _ ((gz121.2 _ _ hg)) ht rfl ?_
    refine hs 11 _ rfl _ _ _ _ _ _ _ rfl ?_
    refine hs 12 _ rfl _ _ _ _ _ _ _ _ _ ((gz121.2 _ _ hg2)) ht2 rfl ?_
    refine hs 13 _ rfl _ _ _ _ _ _ _ rfl ?_
    refine zw_cm (hs 14 _ rfl) (a := [.ref d, .ref d2, .int (Int32.ofInt (1 : Int))]) (st := [.int (Int32.ofInt b), .ref az118, .ref az118]) 1 (M + 1) rfl rfl (Nat.le_of_ble_eq_true rfl) trivial (by omega) (by omega) (zn_joined_M g (M := M) ((gz121.2 _ _ hgd)) htd ((gz121.2 _ _ hgd2)) htd2 hi.1 hi2.1 (Or.inl rfl) hM1 hM2 hM3 hM4 (by decide) (Nat.le_refl _) fun hj_ dj_ res_ fj_ gj_ rl_ re_ => ?_)
    show S 31 [some (.ref q), some (.ref q2)] [.ref dj_, .int (Int32.ofInt b), .ref az118, .ref az118] _ _ _
    obtain ⟨hr_, -, hv1_, hv2_⟩ := zk_res (by_ := 1) (M := M) (Or.inl rfl) hi.1 hi2.1 hM1 hM2
    rw [← re_] at hr_ hv1_ hv2_
    refine zw_cmn (hs 15 _ rfl) (a := [.ref az118, .int (Int32.ofInt b), .ref dj_]) (st := [.ref az118]) 1 res_.length rfl rfl (Nat.le_of_ble_eq_true rfl) ⟨_, _, _, rfl, ((fj_.2 _ _ cz122)), rfl⟩ (by omega) (by omega) (⟨zn_init_M g (ds := res_) (by omega) (Or.inr hb_) rfl rfl (by omega) hr_ ((fj_.2 _ _ cz122)) (gj_) (by decide) (Nat.le_refl _) fun hi1_ d1_ n1_ p1_ e1_ l1_ a1_ a2_ f1_ => ?_, fun _ _ h9 => h9⟩)
    show S 34 [some (.ref q), some (.ref q2)] [.ref az118] _ _ _
    exact hs 16 _ rfl _ _ _ _ _ (Or.inl ⟨_, rfl⟩) (by omega) (by omega) (hP _ _ (zg.i (gz121.tr fj_) (by omega) (by omega) f1_) (zn_N.mk rfl hr_ (Or.inr hb_) p1_ a1_ a2_ (by rw [if_pos hb_, hv1_ rfl, zv1_, zv2_]; omega)))
  · have zv1_ : z = hd_v A := by rw [hi.2.2.2.2]; exact if_neg (by omega)
    have zv2_ : z2 = -hd_v B := by rw [hi2.2.2.2.2]; exact if_pos hb2_
    refine hs 0 _ rfl _ _ _ _ _ _ _ rfl ?_
    refine hs 1 _ rfl _ _ _ _ _ _ _ _ _ (hg) ht rfl ?_
    refine hs 2 _ rfl _ _ _ _ _ _ _ rfl ?_
    refine hs 3 _ rfl _ _ _ _ _ _ _ _ _ (hg2) ht2 rfl ?_
    refine hs 4 _ rfl _ _ _ _ _ _ _ (fun _ => ?_) (fun zq => absurd (hd_c2t (c := 1) (by omega) (by omega) (by omega) (by omega) (by omega : (b - b2) ≠ 0)) zq)
    refine hs 17 _ rfl _ _ _ _ _ _ _ rfl ?_
    refine hs 18 _ rfl _ _ _ _ _ _ _ _ _ (hg) ht rfl ?_
    refine hs 19 _ rfl _ _ _ _ _ _ _ rfl ?_
    refine hs 20 _ rfl _ _ _ _ _ _ _ _ _ (hg2) ht2 rfl ?_
    refine zw_c (hs 21 _ rfl) (a := [.ref d, .ref d2]) (st := []) rfl rfl (Nat.le_of_ble_eq_true rfl) trivial (Nat.zero_le _) (Nat.zero_le _) (zn_compare_M g (hgd) htd (hgd2) htd2 hi.1 hi2.1 hi.2.1 hi2.2.1 (by omega) (by omega) fun c_ hb9_ hc_ => ?_)
    show S 46 [some (.ref q), some (.ref q2)] [.int (Int32.ofInt c_)] _ _ _
    by_cases cc_ : c_ < 0
    · have hle_ : hd_v A < hd_v B := by
        rcases hc_ with y_ | y_ | y_ <;> omega
      refine hs 22 _ rfl _ _ _ _ _ _ (fun _ => ?_) (fun zq => absurd (hd_c1t (c := 2) (by omega) (by omega) (by omega : c_ < 0)) zq)
      refine zw_W (G := G) (hs 35 _ rfl) (t := 17) (vs := [.int 0, .null]) (m := 2) rfl rfl rfl (by omega) (by omega) fun hz129 az130 ez131 lz132 gz133 cz134 => ?_
      refine hs 36 _ rfl _ _ _ _ _ _ _ rfl ?_
      refine hs 37 _ rfl _ _ _ _ _ _ _ rfl ?_
      refine hs 38 _ rfl _ _ _ _ _ _ _ _ _ ((gz133.2 _ _ hg2)) ht2 rfl ?_
      refine hs 39 _ rfl _ _ _ _ _ _ _ rfl ?_
      refine hs 40 _ rfl _ _ _ _ _ _ _ _ _ ((gz133.2 _ _ hg2)) ht2 rfl ?_
      refine hs 41 _ rfl _ _ _ _ _ _ _ rfl ?_
      refine hs 42 _ rfl _ _ _ _ _ _ _ _ _ ((gz133.2 _ _ hg)) ht rfl ?_
      refine hs 43 _ rfl _ _ _ _ _ _ _ rfl ?_
      refine zw_cm (hs 44 _ rfl) (a := [.ref d2, .ref d, .int (Int32.ofInt (-1 : Int))]) (st := [.int (Int32.ofInt b2), .ref az130, .ref az130]) 1 (M + 1) rfl rfl (Nat.le_of_ble_eq_true rfl) trivial (by omega) (by omega) (zn_joined_M g (M := M) ((gz133.2 _ _ hgd2)) htd2 ((gz133.2 _ _ hgd)) htd hi2.1 hi.1 (Or.inr rfl) hM2 hM1 hM3.symm hM4 (by decide) (Nat.le_refl _) fun hj_ dj_ res_ fj_ gj_ rl_ re_ => ?_)
      show S 95 [some (.ref q), some (.ref q2)] [.ref dj_, .int (Int32.ofInt b2), .ref az130, .ref az130] _ _ _
      obtain ⟨hr_, -, hv1_, hv2_⟩ := zk_res (by_ := -1) (M := M) (Or.inr rfl) hi2.1 hi.1 hM2 hM1
      rw [← re_] at hr_ hv1_ hv2_
      refine zw_cmn (hs 45 _ rfl) (a := [.ref az130, .int (Int32.ofInt b2), .ref dj_]) (st := [.ref az130]) 1 res_.length rfl rfl (Nat.le_of_ble_eq_true rfl) ⟨_, _, _, rfl, ((fj_.2 _ _ cz134)), rfl⟩ (by omega) (by omega) (⟨zn_init_M g (ds := res_) (by omega) (Or.inr hb2_) rfl rfl (by omega) hr_ ((fj_.2 _ _ cz134)) (gj_) (by decide) (Nat.le_refl _) fun hi1_ d1_ n1_ p1_ e1_ l1_ a1_ a2_ f1_ => ?_, fun _ _ h9 => h9⟩)
      show S 98 [some (.ref q), some (.ref q2)] [.ref az130] _ _ _
      exact hs 46 _ rfl _ _ _ _ _ (Or.inl ⟨_, rfl⟩) (by omega) (by omega) (hP _ _ (zg.i (gz133.tr fj_) (by omega) (by omega) f1_) (zn_N.mk rfl hr_ (Or.inr hb2_) p1_ a1_ a2_ (by rw [if_pos hb2_, hv2_ rfl (by omega), zv1_, zv2_]; omega)))
    · have hle_ : hd_v B ≤ hd_v A := by
        rcases hc_ with y_ | y_ | y_ <;> omega
      refine hs 22 _ rfl _ _ _ _ _ _ (fun zq => absurd (hd_c1z (c := 2) (by omega) (by omega) zq) (by omega : ¬ (c_ < 0))) (fun _ => ?_)
      refine zw_W (G := G) (hs 23 _ rfl) (t := 17) (vs := [.int 0, .null]) (m := 2) rfl rfl rfl (by omega) (by omega) fun hz135 az136 ez137 lz138 gz139 cz140 => ?_
      refine hs 24 _ rfl _ _ _ _ _ _ _ rfl ?_
      refine hs 25 _ rfl _ _ _ _ _ _ _ rfl ?_
      refine hs 26 _ rfl _ _ _ _ _ _ _ _ _ ((gz139.2 _ _ hg)) ht rfl ?_
      refine hs 27 _ rfl _ _ _ _ _ _ _ rfl ?_
      refine hs 28 _ rfl _ _ _ _ _ _ _ _ _ ((gz139.2 _ _ hg)) ht rfl ?_
      refine hs 29 _ rfl _ _ _ _ _ _ _ rfl ?_
      refine hs 30 _ rfl _ _ _ _ _ _ _ _ _ ((gz139.2 _ _ hg2)) ht2 rfl ?_
      refine hs 31 _ rfl _ _ _ _ _ _ _ rfl ?_
      refine zw_cm (hs 32 _ rfl) (a := [.ref d, .ref d2, .int (Int32.ofInt (-1 : Int))]) (st := [.int (Int32.ofInt b), .ref az136, .ref az136]) 1 (M + 1) rfl rfl (Nat.le_of_ble_eq_true rfl) trivial (by omega) (by omega) (zn_joined_M g (M := M) ((gz139.2 _ _ hgd)) htd ((gz139.2 _ _ hgd2)) htd2 hi.1 hi2.1 (Or.inr rfl) hM1 hM2 hM3 hM4 (by decide) (Nat.le_refl _) fun hj_ dj_ res_ fj_ gj_ rl_ re_ => ?_)
      show S 69 [some (.ref q), some (.ref q2)] [.ref dj_, .int (Int32.ofInt b), .ref az136, .ref az136] _ _ _
      obtain ⟨hr_, -, hv1_, hv2_⟩ := zk_res (by_ := -1) (M := M) (Or.inr rfl) hi.1 hi2.1 hM1 hM2
      rw [← re_] at hr_ hv1_ hv2_
      refine zw_cmn (hs 33 _ rfl) (a := [.ref az136, .int (Int32.ofInt b), .ref dj_]) (st := [.ref az136]) 1 res_.length rfl rfl (Nat.le_of_ble_eq_true rfl) ⟨_, _, _, rfl, ((fj_.2 _ _ cz140)), rfl⟩ (by omega) (by omega) (⟨zn_init_M g (ds := res_) (by omega) (Or.inl hb_) rfl rfl (by omega) hr_ ((fj_.2 _ _ cz140)) (gj_) (by decide) (Nat.le_refl _) fun hi1_ d1_ n1_ p1_ e1_ l1_ a1_ a2_ f1_ => ?_, fun _ _ h9 => h9⟩)
      show S 72 [some (.ref q), some (.ref q2)] [.ref az136] _ _ _
      refine hs 34 _ rfl _ _ _ _ _ ?_
      exact hs 46 _ rfl _ _ _ _ _ (Or.inl ⟨_, rfl⟩) (by omega) (by omega) (hP _ _ (zg.i (gz139.tr fj_) (by omega) (by omega) f1_) (zn_N.mk rfl hr_ (Or.inl hb_) p1_ a1_ a2_ (by rw [if_neg (by omega), hv2_ rfl (by omega), zv1_, zv2_]; omega)))
  · have zv1_ : z = -hd_v A := by rw [hi.2.2.2.2]; exact if_pos hb_
    have zv2_ : z2 = hd_v B := by rw [hi2.2.2.2.2]; exact if_neg (by omega)
    refine hs 0 _ rfl _ _ _ _ _ _ _ rfl ?_
    refine hs 1 _ rfl _ _ _ _ _ _ _ _ _ (hg) ht rfl ?_
    refine hs 2 _ rfl _ _ _ _ _ _ _ rfl ?_
    refine hs 3 _ rfl _ _ _ _ _ _ _ _ _ (hg2) ht2 rfl ?_
    refine hs 4 _ rfl _ _ _ _ _ _ _ (fun _ => ?_) (fun zq => absurd (hd_c2t (c := 1) (by omega) (by omega) (by omega) (by omega) (by omega : (b - b2) ≠ 0)) zq)
    refine hs 17 _ rfl _ _ _ _ _ _ _ rfl ?_
    refine hs 18 _ rfl _ _ _ _ _ _ _ _ _ (hg) ht rfl ?_
    refine hs 19 _ rfl _ _ _ _ _ _ _ rfl ?_
    refine hs 20 _ rfl _ _ _ _ _ _ _ _ _ (hg2) ht2 rfl ?_
    refine zw_c (hs 21 _ rfl) (a := [.ref d, .ref d2]) (st := []) rfl rfl (Nat.le_of_ble_eq_true rfl) trivial (Nat.zero_le _) (Nat.zero_le _) (zn_compare_M g (hgd) htd (hgd2) htd2 hi.1 hi2.1 hi.2.1 hi2.2.1 (by omega) (by omega) fun c_ hb9_ hc_ => ?_)
    show S 46 [some (.ref q), some (.ref q2)] [.int (Int32.ofInt c_)] _ _ _
    by_cases cc_ : c_ < 0
    · have hle_ : hd_v A < hd_v B := by
        rcases hc_ with y_ | y_ | y_ <;> omega
      refine hs 22 _ rfl _ _ _ _ _ _ (fun _ => ?_) (fun zq => absurd (hd_c1t (c := 2) (by omega) (by omega) (by omega : c_ < 0)) zq)
      refine zw_W (G := G) (hs 35 _ rfl) (t := 17) (vs := [.int 0, .null]) (m := 2) rfl rfl rfl (by omega) (by omega) fun hz141 az142 ez143 lz144 gz145 cz146 => ?_
      refine hs 36 _ rfl _ _ _ _ _ _ _ rfl ?_
      refine hs 37 _ rfl _ _ _ _ _ _ _ rfl ?_
      refine hs 38 _ rfl _ _ _ _ _ _ _ _ _ ((gz145.2 _ _ hg2)) ht2 rfl ?_
      refine hs 39 _ rfl _ _ _ _ _ _ _ rfl ?_
      refine hs 40 _ rfl _ _ _ _ _ _ _ _ _ ((gz145.2 _ _ hg2)) ht2 rfl ?_
      refine hs 41 _ rfl _ _ _ _ _ _ _ rfl ?_
      refine hs 42 _ rfl _ _ _ _ _ _ _ _ _ ((gz145.2 _ _ hg)) ht rfl ?_
      refine hs 43 _ rfl _ _ _ _ _ _ _ rfl ?_
      refine zw_cm (hs 44 _ rfl) (a := [.ref d2, .ref d, .int (Int32.ofInt (-1 : Int))]) (st := [.int (Int32.ofInt b2), .ref az142, .ref az142]) 1 (M + 1) rfl rfl (Nat.le_of_ble_eq_true rfl) trivial (by omega) (by omega) (zn_joined_M g (M := M) ((gz145.2 _ _ hgd2)) htd2 ((gz145.2 _ _ hgd)) htd hi2.1 hi.1 (Or.inr rfl) hM2 hM1 hM3.symm hM4 (by decide) (Nat.le_refl _) fun hj_ dj_ res_ fj_ gj_ rl_ re_ => ?_)
      show S 95 [some (.ref q), some (.ref q2)] [.ref dj_, .int (Int32.ofInt b2), .ref az142, .ref az142] _ _ _
      obtain ⟨hr_, -, hv1_, hv2_⟩ := zk_res (by_ := -1) (M := M) (Or.inr rfl) hi2.1 hi.1 hM2 hM1
      rw [← re_] at hr_ hv1_ hv2_
      refine zw_cmn (hs 45 _ rfl) (a := [.ref az142, .int (Int32.ofInt b2), .ref dj_]) (st := [.ref az142]) 1 res_.length rfl rfl (Nat.le_of_ble_eq_true rfl) ⟨_, _, _, rfl, ((fj_.2 _ _ cz146)), rfl⟩ (by omega) (by omega) (⟨zn_init_M g (ds := res_) (by omega) (Or.inl hb2_) rfl rfl (by omega) hr_ ((fj_.2 _ _ cz146)) (gj_) (by decide) (Nat.le_refl _) fun hi1_ d1_ n1_ p1_ e1_ l1_ a1_ a2_ f1_ => ?_, fun _ _ h9 => h9⟩)
      show S 98 [some (.ref q), some (.ref q2)] [.ref az142] _ _ _
      exact hs 46 _ rfl _ _ _ _ _ (Or.inl ⟨_, rfl⟩) (by omega) (by omega) (hP _ _ (zg.i (gz145.tr fj_) (by omega) (by omega) f1_) (zn_N.mk rfl hr_ (Or.inl hb2_) p1_ a1_ a2_ (by rw [if_neg (by omega), hv2_ rfl (by omega), zv1_, zv2_]; omega)))
    · have hle_ : hd_v B ≤ hd_v A := by
        rcases hc_ with y_ | y_ | y_ <;> omega
      refine hs 22 _ rfl _ _ _ _ _ _ (fun zq => absurd (hd_c1z (c := 2) (by omega) (by omega) zq) (by omega : ¬ (c_ < 0))) (fun _ => ?_)
      refine zw_W (G := G) (hs 23 _ rfl) (t := 17) (vs := [.int 0, .null]) (m := 2) rfl rfl rfl (by omega) (by omega) fun hz147 az148 ez149 lz150 gz151 cz152 => ?_
      refine hs 24 _ rfl _ _ _ _ _ _ _ rfl ?_
      refine hs 25 _ rfl _ _ _ _ _ _ _ rfl ?_
      refine hs 26 _ rfl _ _ _ _ _ _ _ _ _ ((gz151.2 _ _ hg)) ht rfl ?_
      refine hs 27 _ rfl _ _ _ _ _ _ _ rfl ?_
      refine hs 28 _ rfl _ _ _ _ _ _ _ _ _ ((gz151.2 _ _ hg)) ht rfl ?_
      refine hs 29 _ rfl _ _ _ _ _ _ _ rfl ?_
      refine hs 30 _ rfl _ _ _ _ _ _ _ _ _ ((gz151.2 _ _ hg2)) ht2 rfl ?_
      refine hs 31 _ rfl _ _ _ _ _ _ _ rfl ?_
      refine zw_cm (hs 32 _ rfl) (a := [.ref d, .ref d2, .int (Int32.ofInt (-1 : Int))]) (st := [.int (Int32.ofInt b), .ref az148, .ref az148]) 1 (M + 1) rfl rfl (Nat.le_of_ble_eq_true rfl) trivial (by omega) (by omega) (zn_joined_M g (M := M) ((gz151.2 _ _ hgd)) htd ((gz151.2 _ _ hgd2)) htd2 hi.1 hi2.1 (Or.inr rfl) hM1 hM2 hM3 hM4 (by decide) (Nat.le_refl _) fun hj_ dj_ res_ fj_ gj_ rl_ re_ => ?_)
      show S 69 [some (.ref q), some (.ref q2)] [.ref dj_, .int (Int32.ofInt b), .ref az148, .ref az148] _ _ _
      obtain ⟨hr_, -, hv1_, hv2_⟩ := zk_res (by_ := -1) (M := M) (Or.inr rfl) hi.1 hi2.1 hM1 hM2
      rw [← re_] at hr_ hv1_ hv2_
      refine zw_cmn (hs 33 _ rfl) (a := [.ref az148, .int (Int32.ofInt b), .ref dj_]) (st := [.ref az148]) 1 res_.length rfl rfl (Nat.le_of_ble_eq_true rfl) ⟨_, _, _, rfl, ((fj_.2 _ _ cz152)), rfl⟩ (by omega) (by omega) (⟨zn_init_M g (ds := res_) (by omega) (Or.inr hb_) rfl rfl (by omega) hr_ ((fj_.2 _ _ cz152)) (gj_) (by decide) (Nat.le_refl _) fun hi1_ d1_ n1_ p1_ e1_ l1_ a1_ a2_ f1_ => ?_, fun _ _ h9 => h9⟩)
      show S 72 [some (.ref q), some (.ref q2)] [.ref az148] _ _ _
      refine hs 34 _ rfl _ _ _ _ _ ?_
      exact hs 46 _ rfl _ _ _ _ _ (Or.inl ⟨_, rfl⟩) (by omega) (by omega) (hP _ _ (zg.i (gz151.tr fj_) (by omega) (by omega) f1_) (zn_N.mk rfl hr_ (Or.inr hb_) p1_ a1_ a2_ (by rw [if_pos hb_, hv2_ rfl (by omega), zv1_, zv2_]; omega)))
