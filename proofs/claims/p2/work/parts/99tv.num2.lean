section
/-! THE REFERENCE'S NUMBERS: plus -/
set_option maxHeartbeats 4000000 in
theorem zn_plus_M {l : Launch} {G : am_G} {X : ck_XT} (g : gM l G X)  {q t d td q2 t2 d2 td2 M : Nat} {b z b2 z2 : Int} {A B : List Int} {h : List am_C} (hg : am_g G h q = some (t, [.int (Int32.ofInt b), .ref d])) (ht : t % 100 = 17) (hgd : am_g G h d = some (td, hd_r A)) (htd : td % 100 = 50) (hi : zn_is A b z) (hg2 : am_g G h q2 = some (t2, [.int (Int32.ofInt b2), .ref d2])) (ht2 : t2 % 100 = 17) (hgd2 : am_g G h d2 = some (td2, hd_r B)) (htd2 : td2 % 100 = 50) (hi2 : zn_is B b2 z2) (hM1 : A.length ≤ M) (hM2 : B.length ≤ M) (hM3 : M = A.length ∨ M = B.length) (hM4 : M ≤ 900) {mc ms : Nat} {Post : am_O → List am_C → Prop}
    (hmc : 3 ≤ mc) (hms : 2 + (M + 1) + (M + 1) ≤ ms)
    (hP : ∀ (h' : List am_C) (p : Nat), zg G h h' → zn_N G h' p (z + z2) → Post (.inl (some (.ref p))) h') :
    am_M l G yX12_plus (.code yX12_plus prog_15_method_10_code 2 (some (.object "ClockhouseModel$Num"))) 3 67 mc ms [.ref q, .ref q2] h Post := by
  refine gh_yX12_plus_X g (Nat.le_of_ble_eq_true rfl) fun S SX hs hr hw hx => ?_
  have rv : ∀ x : Int32, ck_fv 0 (.int x) := fun x => ⟨_, rfl⟩
  have lq_ := zg_lt hg
  obtain ⟨bz1_, bz2_⟩ : (b = 0 ∨ b = 1) ∧ (b2 = 0 ∨ b2 = 1) := ⟨hi.2.2.1, hi2.2.2.1⟩
  rcases (show (b = 0 ∧ b2 = 0) ∨ (b = 1 ∧ b2 = 1) ∨ (b = 0 ∧ b2 = 1) ∨ (b = 1 ∧ b2 = 0) by omega) with ⟨hb_, hb2_⟩ | ⟨hb_, hb2_⟩ | ⟨hb_, hb2_⟩ | ⟨hb_, hb2_⟩
  · have zv1_ : z = hd_v A := by rw [hi.2.2.2.2]; exact if_neg (by omega)
    have zv2_ : z2 = hd_v B := by rw [hi2.2.2.2.2]; exact if_neg (by omega)
    refine hs 0 _ rfl _ _ _ _ _ _ _ rfl ?_
    refine hs 1 _ rfl _ _ _ _ _ _ _ _ _ (hg) ht rfl ?_
    refine hs 2 _ rfl _ _ _ _ _ _ _ rfl ?_
    refine hs 3 _ rfl _ _ _ _ _ _ _ _ _ (hg2) ht2 rfl ?_
    refine hs 4 _ rfl _ _ _ _ _ _ _ (fun zq => absurd (hd_c2z (c := 1) (by omega) (by omega) (by omega) (by omega) zq) (by omega : ¬ ((b - b2) ≠ 0))) (fun _ => ?_)
    refine zw_W (G := G) (hs 5 _ rfl) (t := 17) (vs := [.int 0, .null]) (m := 2) rfl rfl rfl (by omega) (by omega) fun hz123 az124 ez125 lz126 gz127 cz128 => ?_
    refine hs 6 _ rfl _ _ _ _ _ _ _ rfl ?_
    refine hs 7 _ rfl _ _ _ _ _ _ _ rfl ?_
    refine hs 8 _ rfl _ _ _ _ _ _ _ _ _ ((gz127.2 _ _ hg)) ht rfl ?_
    refine hs 9 _ rfl _ _ _ _ _ _ _ rfl ?_
    refine hs 10 _ rfl _ _ _ _ _ _ _ _ _ ((gz127.2 _ _ hg)) ht rfl ?_
    refine hs 11 _ rfl _ _ _ _ _ _ _ rfl ?_
    refine hs 12 _ rfl _ _ _ _ _ _ _ _ _ ((gz127.2 _ _ hg2)) ht2 rfl ?_
    refine hs 13 _ rfl _ _ _ _ _ _ _ rfl ?_
    refine zw_cm (hs 14 _ rfl) (a := [.ref d, .ref d2, .int (Int32.ofInt (1 : Int))]) (st := [.int (Int32.ofInt b), .ref az124, .ref az124]) 1 (M + 1) rfl rfl (Nat.le_of_ble_eq_true rfl) trivial (by omega) (by omega) (zn_joined_M g (M := M) ((gz127.2 _ _ hgd)) htd ((gz127.2 _ _ hgd2)) htd2 hi.1 hi2.1 (Or.inl rfl) hM1 hM2 hM3 hM4 (by decide) (Nat.le_refl _) fun hj_ dj_ res_ fj_ gj_ rl_ re_ => ?_)
    show S 31 [some (.ref q), some (.ref q2)] [.ref dj_, .int (Int32.ofInt b), .ref az124, .ref az124] _ _ _
    obtain ⟨hr_, -, hv1_, hv2_⟩ := zk_res (by_ := 1) (M := M) (Or.inl rfl) hi.1 hi2.1 hM1 hM2
    rw [← re_] at hr_ hv1_ hv2_
    refine zw_cmn (hs 15 _ rfl) (a := [.ref az124, .int (Int32.ofInt b), .ref dj_]) (st := [.ref az124]) 1 res_.length rfl rfl (Nat.le_of_ble_eq_true rfl) ⟨_, _, _, rfl, ((fj_.2 _ _ cz128)), rfl⟩ (by omega) (by omega) (⟨zn_init_M g (ds := res_) (by omega) (Or.inl hb_) rfl rfl (by omega) hr_ ((fj_.2 _ _ cz128)) (gj_) (by decide) (Nat.le_refl _) fun hi1_ d1_ n1_ p1_ e1_ l1_ a1_ a2_ f1_ => ?_, fun _ _ h9 => h9⟩)
    show S 34 [some (.ref q), some (.ref q2)] [.ref az124] _ _ _
    exact hs 16 _ rfl _ _ _ _ _ (Or.inl ⟨_, rfl⟩) (by omega) (by omega) (hP _ _ (zg.i (gz127.tr fj_) (by omega) (by omega) f1_) (zn_N.mk rfl hr_ (Or.inl hb_) p1_ a1_ a2_ (by rw [if_neg (by omega), hv1_ rfl, zv1_, zv2_])))
  · have zv1_ : z = -hd_v A := by rw [hi.2.2.2.2]; exact if_pos hb_
    have zv2_ : z2 = -hd_v B := by rw [hi2.2.2.2.2]; exact if_pos hb2_
    refine hs 0 _ rfl _ _ _ _ _ _ _ rfl ?_
    refine hs 1 _ rfl _ _ _ _ _ _ _ _ _ (hg) ht rfl ?_
    refine hs 2 _ rfl _ _ _ _ _ _ _ rfl ?_
    refine hs 3 _ rfl _ _ _ _ _ _ _ _ _ (hg2) ht2 rfl ?_
    refine hs 4 _ rfl _ _ _ _ _ _ _ (fun zq => absurd (hd_c2z (c := 1) (by omega) (by omega) (by omega) (by omega) zq) (by omega : ¬ ((b - b2) ≠ 0))) (fun _ => ?_)
    refine zw_W (G := G) (hs 5 _ rfl) (t := 17) (vs := [.int 0, .null]) (m := 2) rfl rfl rfl (by omega) (by omega) fun hz117 az118 ez119 lz120 gz121 cz122 => ?_
    refine hs 6 _ rfl _ _ _ _ _ _ _ rfl ?_
    refine hs 7 _ rfl _ _ _ _ _ _ _ rfl ?_
    refine hs 8 _ rfl _ _ _ _ _ _ _ _ _ ((gz121.2 _ _ hg)) ht rfl ?_
    refine hs 9 _ rfl _ _ _ _ _ _ _ rfl ?_
    refine hs 10 _ rfl _ _ _ _ _ _ _ _ _ ((gz121.2 _ _ hg)) ht rfl ?_
    refine hs 11 _ rfl _ _ _ _ _ _ _ rfl ?_
    refine hs 12 _ rfl _ _ _ _ _ _ _ _ _ ((gz121.2 _ _ hg2)) ht2 rfl ?_
    refine hs 13 _ rfl _ _ _ _ _ _ _ rfl ?_
    refine zw_cm (hs 14 _ rfl) (a := [.ref d, .ref d2, .int (Int32.ofInt (1 : Int))]) (st := [.int (Int32.ofInt b), .ref az118, .ref az118]) 1 (M + 1) rfl rfl (Nat.le_of_ble_eq_true rfl) trivial (by omega) (by omega) (zn_joined_M g (M := M) ((gz121.2 _ _ hgd)) htd ((gz121.2 _ _ hgd2)) htd2 hi.1 hi2.1 (Or.inl rfl) hM1 hM2 hM3 hM4 (by decide) (Nat.le_refl _) fun hj_ dj_ res_ fj_ gj_ rl_ re_ => ?_)
    show S 31 [some (.ref q), some (.ref q2)] [.ref dj_, .int (Int32.ofInt b), .ref az118, .ref az118] _ _ _
    obtain ⟨hr_, -, hv1_, hv2_⟩ := zk_res (by_ := 1) (M := M) (Or.inl rfl) hi.1 hi2.1 hM1 hM2
    rw [← re_] at hr_ hv1_ hv2_
    refine zw_cmn (hs 15 _ rfl) (a := [.ref az118, .int (Int32.ofInt b), .ref dj_]) (st := [.ref az118]) 1 res_.length rfl rfl (Nat.le_of_ble_eq_true rfl) ⟨_, _, _, rfl, ((fj_.2 _ _ cz122)), rfl⟩ (by omega) (by omega) (⟨zn_init_M g (ds := res_) (by omega) (Or.inr hb_) rfl rfl (by omega) hr_ ((fj_.2 _ _ cz122)) (gj_) (by decide) (Nat.le_refl _) fun hi1_ d1_ n1_ p1_ e1_ l1_ a1_ a2_ f1_ => ?_, fun _ _ h9 => h9⟩)
    show S 34 [some (.ref q), some (.ref q2)] [.ref az118] _ _ _
    exact hs 16 _ rfl _ _ _ _ _ (Or.inl ⟨_, rfl⟩) (by omega) (by omega) (hP _ _ (zg.i (gz121.tr fj_) (by omega) (by omega) f1_) (zn_N.mk rfl hr_ (Or.inr hb_) p1_ a1_ a2_ (by rw [if_pos hb_, hv1_ rfl, zv1_, zv2_]; omega)))
  · have zv1_ : z = hd_v A := by rw [hi.2.2.2.2]; exact if_neg (by omega)
    have zv2_ : z2 = -hd_v B := by rw [hi2.2.2.2.2]; exact if_pos hb2_
    refine hs 0 _ rfl _ _ _ _ _ _ _ rfl ?_
    refine hs 1 _ rfl _ _ _ _ _ _ _ _ _ (hg) ht rfl ?_
    refine hs 2 _ rfl _ _ _ _ _ _ _ rfl ?_
    refine hs 3 _ rfl _ _ _ _ _ _ _ _ _ (hg2) ht2 rfl ?_
    refine hs 4 _ rfl _ _ _ _ _ _ _ (fun _ => ?_) (fun zq => absurd (hd_c2t (c := 1) (by omega) (by omega) (by omega) (by omega) (by omega : (b - b2) ≠ 0)) zq)
    refine hs 17 _ rfl _ _ _ _ _ _ _ rfl ?_
    refine hs 18 _ rfl _ _ _ _ _ _ _ _ _ (hg) ht rfl ?_
    refine hs 19 _ rfl _ _ _ _ _ _ _ rfl ?_
    refine hs 20 _ rfl _ _ _ _ _ _ _ _ _ (hg2) ht2 rfl ?_
    refine zw_c (hs 21 _ rfl) (a := [.ref d, .ref d2]) (st := []) rfl rfl (Nat.le_of_ble_eq_true rfl) trivial (Nat.zero_le _) (Nat.zero_le _) (zn_compare_M g (hgd) htd (hgd2) htd2 hi.1 hi2.1 hi.2.1 hi2.2.1 (by omega) (by omega) fun c_ hb9_ hc_ => ?_)
    show S 46 [some (.ref q), some (.ref q2)] [.int (Int32.ofInt c_)] _ _ _
    by_cases cc_ : c_ < 0
    · have hle_ : hd_v A < hd_v B := by
        rcases hc_ with y_ | y_ | y_ <;> omega
      refine hs 22 _ rfl _ _ _ _ _ _ (fun _ => ?_) (fun zq => absurd (hd_c1t (c := 2) (by omega) (by omega) (by omega : c_ < 0)) zq)
      refine zw_W (G := G) (hs 35 _ rfl) (t := 17) (vs := [.int 0, .null]) (m := 2) rfl rfl rfl (by omega) (by omega) fun hz129 az130 ez131 lz132 gz133 cz134 => ?_
      refine hs 36 _ rfl _ _ _ _ _ _ _ rfl ?_
      refine hs 37 _ rfl _ _ _ _ _ _ _ rfl ?_
      refine hs 38 _ rfl _ _ _ _ _ _ _ _ _ ((gz133.2 _ _ hg2)) ht2 rfl ?_
      refine hs 39 _ rfl _ _ _ _ _ _ _ rfl ?_
      refine hs 40 _ rfl _ _ _ _ _ _ _ _ _ ((gz133.2 _ _ hg2)) ht2 rfl ?_
      refine hs 41 _ rfl _ _ _ _ _ _ _ rfl ?_
      refine hs 42 _ rfl _ _ _ _ _ _ _ _ _ ((gz133.2 _ _ hg)) ht rfl ?_
      refine hs 43 _ rfl _ _ _ _ _ _ _ rfl ?_
      refine zw_cm (hs 44 _ rfl) (a := [.ref d2, .ref d, .int (Int32.ofInt (-1 : Int))]) (st := [.int (Int32.ofInt b2), .ref az130, .ref az130]) 1 (M + 1) rfl rfl (Nat.le_of_ble_eq_true rfl) trivial (by omega) (by omega) (zn_joined_M g (M := M) ((gz133.2 _ _ hgd2)) htd2 ((gz133.2 _ _ hgd)) htd hi2.1 hi.1 (Or.inr rfl) hM2 hM1 hM3.symm hM4 (by decide) (Nat.le_refl _) fun hj_ dj_ res_ fj_ gj_ rl_ re_ => ?_)
      show S 95 [some (.ref q), some (.ref q2)] [.ref dj_, .int (Int32.ofInt b2), .ref az130, .ref az130] _ _ _
      obtain ⟨hr_, -, hv1_, hv2_⟩ := zk_res (by_ := -1) (M := M) (Or.inr rfl) hi2.1 hi.1 hM2 hM1
      rw [← re_] at hr_ hv1_ hv2_
      refine zw_cmn (hs 45 _ rfl) (a := [.ref az130, .int (Int32.ofInt b2), .ref dj_]) (st := [.ref az130]) 1 res_.length rfl rfl (Nat.le_of_ble_eq_true rfl) ⟨_, _, _, rfl, ((fj_.2 _ _ cz134)), rfl⟩ (by omega) (by omega) (⟨zn_init_M g (ds := res_) (by omega) (Or.inr hb2_) rfl rfl (by omega) hr_ ((fj_.2 _ _ cz134)) (gj_) (by decide) (Nat.le_refl _) fun hi1_ d1_ n1_ p1_ e1_ l1_ a1_ a2_ f1_ => ?_, fun _ _ h9 => h9⟩)
      show S 98 [some (.ref q), some (.ref q2)] [.ref az130] _ _ _
      exact hs 46 _ rfl _ _ _ _ _ (Or.inl ⟨_, rfl⟩) (by omega) (by omega) (hP _ _ (zg.i (gz133.tr fj_) (by omega) (by omega) f1_) (zn_N.mk rfl hr_ (Or.inr hb2_) p1_ a1_ a2_ (by rw [if_pos hb2_, hv2_ rfl (by omega), zv1_, zv2_]; omega)))
    · have hle_ : hd_v B ≤ hd_v A := by
        rcases hc_ with y_ | y_ | y_ <;> omega
      refine hs 22 _ rfl _ _ _ _ _ _ (fun zq => absurd (hd_c1z (c := 2) (by omega) (by omega) zq) (by omega : ¬ (c_ < 0))) (fun _ => ?_)
      refine zw_W (G := G) (hs 23 _ rfl) (t := 17) (vs := [.int 0, .null]) (m := 2) rfl rfl rfl (by omega) (by omega) fun hz135 az136 ez137 lz138 gz139 cz140 => ?_
      refine hs 24 _ rfl _ _ _ _ _ _ _ rfl ?_
      refine hs 25 _ rfl _ _ _ _ _ _ _ rfl ?_
      refine hs 26 _ rfl _ _ _ _ _ _ _ _ _ ((gz139.2 _ _ hg)) ht rfl ?_
      refine hs 27 _ rfl _ _ _ _ _ _ _ rfl ?_
      refine hs 28 _ rfl _ _ _ _ _ _ _ _ _ ((gz139.2 _ _ hg)) ht rfl ?_
      refine hs 29 _ rfl _ _ _ _ _ _ _ rfl ?_
      refine hs 30 _ rfl _ _ _ _ _ _ _ _ _ ((gz139.2 _ _ hg2)) ht2 rfl ?_
      refine hs 31 _ rfl _ _ _ _ _ _ _ rfl ?_
      refine zw_cm (hs 32 _ rfl) (a := [.ref d, .ref d2, .int (Int32.ofInt (-1 : Int))]) (st := [.int (Int32.ofInt b), .ref az136, .ref az136]) 1 (M + 1) rfl rfl (Nat.le_of_ble_eq_true rfl) trivial (by omega) (by omega) (zn_joined_M g (M := M) ((gz139.2 _ _ hgd)) htd ((gz139.2 _ _ hgd2)) htd2 hi.1 hi2.1 (Or.inr rfl) hM1 hM2 hM3 hM4 (by decide) (Nat.le_refl _) fun hj_ dj_ res_ fj_ gj_ rl_ re_ => ?_)
      show S 69 [some (.ref q), some (.ref q2)] [.ref dj_, .int (Int32.ofInt b), .ref az136, .ref az136] _ _ _
      obtain ⟨hr_, -, hv1_, hv2_⟩ := zk_res (by_ := -1) (M := M) (Or.inr rfl) hi.1 hi2.1 hM1 hM2
      rw [← re_] at hr_ hv1_ hv2_
      refine zw_cmn (hs 33 _ rfl) (a := [.ref az136, .int (Int32.ofInt b), .ref dj_]) (st := [.ref az136]) 1 res_.length rfl rfl (Nat.le_of_ble_eq_true rfl) ⟨_, _, _, rfl, ((fj_.2 _ _ cz140)), rfl⟩ (by omega) (by omega) (⟨zn_init_M g (ds := res_) (by omega) (Or.inl hb_) rfl rfl (by omega) hr_ ((fj_.2 _ _ cz140)) (gj_) (by decide) (Nat.le_refl _) fun hi1_ d1_ n1_ p1_ e1_ l1_ a1_ a2_ f1_ => ?_, fun _ _ h9 => h9⟩)
      show S 72 [some (.ref q), some (.ref q2)] [.ref az136] _ _ _
      refine hs 34 _ rfl _ _ _ _ _ ?_
      exact hs 46 _ rfl _ _ _ _ _ (Or.inl ⟨_, rfl⟩) (by omega) (by omega) (hP _ _ (zg.i (gz139.tr fj_) (by omega) (by omega) f1_) (zn_N.mk rfl hr_ (Or.inl hb_) p1_ a1_ a2_ (by rw [if_neg (by omega), hv2_ rfl (by omega), zv1_, zv2_]; omega)))
  · have zv1_ : z = -hd_v A := by rw [hi.2.2.2.2]; exact if_pos hb_
    have zv2_ : z2 = hd_v B := by rw [hi2.2.2.2.2]; exact if_neg (by omega)
    refine hs 0 _ rfl _ _ _ _ _ _ _ rfl ?_
    refine hs 1 _ rfl _ _ _ _ _ _ _ _ _ (hg) ht rfl ?_
    refine hs 2 _ rfl _ _ _ _ _ _ _ rfl ?_
    refine hs 3 _ rfl _ _ _ _ _ _ _ _ _ (hg2) ht2 rfl ?_
    refine hs 4 _ rfl _ _ _ _ _ _ _ (fun _ => ?_) (fun zq => absurd (hd_c2t (c := 1) (by omega) (by omega) (by omega) (by omega) (by omega : (b - b2) ≠ 0)) zq)
    refine hs 17 _ rfl _ _ _ _ _ _ _ rfl ?_
    refine hs 18 _ rfl _ _ _ _ _ _ _ _ _ (hg) ht rfl ?_
    refine hs 19 _ rfl _ _ _ _ _ _ _ rfl ?_
    refine hs 20 _ rfl _ _ _ _ _ _ _ _ _ (hg2) ht2 rfl ?_
    refine zw_c (hs 21 _ rfl) (a := [.ref d, .ref d2]) (st := []) rfl rfl (Nat.le_of_ble_eq_true rfl) trivial (Nat.zero_le _) (Nat.zero_le _) (zn_compare_M g (hgd) htd (hgd2) htd2 hi.1 hi2.1 hi.2.1 hi2.2.1 (by omega) (by omega) fun c_ hb9_ hc_ => ?_)
    show S 46 [some (.ref q), some (.ref q2)] [.int (Int32.ofInt c_)] _ _ _
    by_cases cc_ : c_ < 0
    · have hle_ : hd_v A < hd_v B := by
        rcases hc_ with y_ | y_ | y_ <;> omega
      refine hs 22 _ rfl _ _ _ _ _ _ (fun _ => ?_) (fun zq => absurd (hd_c1t (c := 2) (by omega) (by omega) (by omega : c_ < 0)) zq)
      refine zw_W (G := G) (hs 35 _ rfl) (t := 17) (vs := [.int 0, .null]) (m := 2) rfl rfl rfl (by omega) (by omega) fun hz141 az142 ez143 lz144 gz145 cz146 => ?_
      refine hs 36 _ rfl _ _ _ _ _ _ _ rfl ?_
      refine hs 37 _ rfl _ _ _ _ _ _ _ rfl ?_
      refine hs 38 _ rfl _ _ _ _ _ _ _ _ _ ((gz145.2 _ _ hg2)) ht2 rfl ?_
      refine hs 39 _ rfl _ _ _ _ _ _ _ rfl ?_
      refine hs 40 _ rfl _ _ _ _ _ _ _ _ _ ((gz145.2 _ _ hg2)) ht2 rfl ?_
      refine hs 41 _ rfl _ _ _ _ _ _ _ rfl ?_
      refine hs 42 _ rfl _ _ _ _ _ _ _ _ _ ((gz145.2 _ _ hg)) ht rfl ?_
      refine hs 43 _ rfl _ _ _ _ _ _ _ rfl ?_
      refine zw_cm (hs 44 _ rfl) (a := [.ref d2, .ref d, .int (Int32.ofInt (-1 : Int))]) (st := [.int (Int32.ofInt b2), .ref az142, .ref az142]) 1 (M + 1) rfl rfl (Nat.le_of_ble_eq_true rfl) trivial (by omega) (by omega) (zn_joined_M g (M := M) ((gz145.2 _ _ hgd2)) htd2 ((gz145.2 _ _ hgd)) htd hi2.1 hi.1 (Or.inr rfl) hM2 hM1 hM3.symm hM4 (by decide) (Nat.le_refl _) fun hj_ dj_ res_ fj_ gj_ rl_ re_ => ?_)
      show S 95 [some (.ref q), some (.ref q2)] [.ref dj_, .int (Int32.ofInt b2), .ref az142, .ref az142] _ _ _
      obtain ⟨hr_, -, hv1_, hv2_⟩ := zk_res (by_ := -1) (M := M) (Or.inr rfl) hi2.1 hi.1 hM2 hM1
      rw [← re_] at hr_ hv1_ hv2_
      refine zw_cmn (hs 45 _ rfl) (a := [.ref az142, .int (Int32.ofInt b2), .ref dj_]) (st := [.ref az142]) 1 res_.length rfl rfl (Nat.le_of_ble_eq_true rfl) ⟨_, _, _, rfl, ((fj_.2 _ _ cz146)), rfl⟩ (by omega) (by omega) (⟨zn_init_M g (ds := res_) (by omega) (Or.inl hb2_) rfl rfl (by omega) hr_ ((fj_.2 _ _ cz146)) (gj_) (by decide) (Nat.le_refl _) fun hi1_ d1_ n1_ p1_ e1_ l1_ a1_ a2_ f1_ => ?_, fun _ _ h9 => h9⟩)
      show S 98 [some (.ref q), some (.ref q2)] [.ref az142] _ _ _
      exact hs 46 _ rfl _ _ _ _ _ (Or.inl ⟨_, rfl⟩) (by omega) (by omega) (hP _ _ (zg.i (gz145.tr fj_) (by omega) (by omega) f1_) (zn_N.mk rfl hr_ (Or.inl hb2_) p1_ a1_ a2_ (by rw [if_neg (by omega), hv2_ rfl (by omega), zv1_, zv2_]; omega)))
    · have hle_ : hd_v B ≤ hd_v A := by
        rcases hc_ with y_ | y_ | y_ <;> omega
      refine hs 22 _ rfl _ _ _ _ _ _ (fun zq => absurd (hd_c1z (c := 2) (by omega) (by omega) zq) (by omega : ¬ (c_ < 0))) (fun _ => ?_)
      refine zw_W (G := G) (hs 23 _ rfl) (t := 17) (vs := [.int 0, .null]) (m := 2) rfl rfl rfl (by omega) (by omega) fun hz147 az148 ez149 lz150 gz151 cz152 => ?_
      refine hs 24 _ rfl _ _ _ _ _ _ _ rfl ?_
      refine hs 25 _ rfl _ _ _ _ _ _ _ rfl ?_
      refine hs 26 _ rfl _ _ _ _ _ _ _ _ _ ((gz151.2 _ _ hg)) ht rfl ?_
      refine hs 27 _ rfl _ _ _ _ _ _ _ rfl ?_
      refine hs 28 _ rfl _ _ _ _ _ _ _ _ _ ((gz151.2 _ _ hg)) ht rfl ?_
      refine hs 29 _ rfl _ _ _ _ _ _ _ rfl ?_
      refine hs 30 _ rfl _ _ _ _ _ _ _ _ _ ((gz151.2 _ _ hg2)) ht2 rfl ?_
      refine hs 31 _ rfl _ _ _ _ _ _ _ rfl ?_
      refine zw_cm (hs 32 _ rfl) (a := [.ref d, .ref d2, .int (Int32.ofInt (-1 : Int))]) (st := [.int (Int32.ofInt b), .ref az148, .ref az148]) 1 (M + 1) rfl rfl (Nat.le_of_ble_eq_true rfl) trivial (by omega) (by omega) (zn_joined_M g (M := M) ((gz151.2 _ _ hgd)) htd ((gz151.2 _ _ hgd2)) htd2 hi.1 hi2.1 (Or.inr rfl) hM1 hM2 hM3 hM4 (by decide) (Nat.le_refl _) fun hj_ dj_ res_ fj_ gj_ rl_ re_ => ?_)
      show S 69 [some (.ref q), some (.ref q2)] [.ref dj_, .int (Int32.ofInt b), .ref az148, .ref az148] _ _ _
      obtain ⟨hr_, -, hv1_, hv2_⟩ := zk_res (by_ := -1) (M := M) (Or.inr rfl) hi.1 hi2.1 hM1 hM2
      rw [← re_] at hr_ hv1_ hv2_
      refine zw_cmn (hs 33 _ rfl) (a := [.ref az148, .int (Int32.ofInt b), .ref dj_]) (st := [.ref az148]) 1 res_.length rfl rfl (Nat.le_of_ble_eq_true rfl) ⟨_, _, _, rfl, ((fj_.2 _ _ cz152)), rfl⟩ (by omega) (by omega) (⟨zn_init_M g (ds := res_) (by omega) (Or.inr hb_) rfl rfl (by omega) hr_ ((fj_.2 _ _ cz152)) (gj_) (by decide) (Nat.le_refl _) fun hi1_ d1_ n1_ p1_ e1_ l1_ a1_ a2_ f1_ => ?_, fun _ _ h9 => h9⟩)
      show S 72 [some (.ref q), some (.ref q2)] [.ref az148] _ _ _
      refine hs 34 _ rfl _ _ _ _ _ ?_
      exact hs 46 _ rfl _ _ _ _ _ (Or.inl ⟨_, rfl⟩) (by omega) (by omega) (hP _ _ (zg.i (gz151.tr fj_) (by omega) (by omega) f1_) (zn_N.mk rfl hr_ (Or.inr hb_) p1_ a1_ a2_ (by rw [if_pos hb_, hv2_ rfl (by omega), zv1_, zv2_]; omega)))
end
section
/-! THE REFERENCE'S NUMBERS: of -/
theorem zx_set : ∀ {ds : List Int} {i : Nat} {d x : Int}, ds[i]? = some d → hd_v (ds.set i x) = hd_v ds + 10 ^ i * (x - d)
  | [], i, d, x, h => by
    rw [List.getElem?_nil] at h
    cases h
  | a :: u, 0, d, x, h => by
    have e_ : a = d := Option.some.inj h
    subst e_
    show x + 10 * hd_v u = a + 10 * hd_v u + 10 ^ 0 * (x - a)
    rw [Int.pow_zero, Int.one_mul]
    omega
  | a :: u, i + 1, d, x, h => by
    have ih_ := zx_set (ds := u) (i := i) (d := d) (x := x) h
    show a + 10 * hd_v (u.set i x) = a + 10 * hd_v u + 10 ^ (i + 1) * (x - d)
    rw [ih_, Int.mul_add, Int.pow_succ, Int.mul_comm (10 ^ i) 10, Int.mul_assoc]
    omega
theorem zx_dset {ds : List Int} (h : hd_d ds) {i : Nat} {x : Int} (h1 : 0 ≤ x) (h2 : x ≤ 9) : hd_d (ds.set i x) := fun d hd => (List.mem_or_eq_of_mem_set hd).elim (h d) (fun y => by rw [y]; exact ⟨h1, h2⟩)
/-- a step of the digits -/
theorem zx_of {md : List Int} {k : Nat} {v u u2 d : Int} (hz : ∀ j : Nat, k ≤ j → j < 20 → md[j]? = some 0) (hk : k < 20) (hv : hd_v md + 10 ^ k * u = v) (hu : u = 10 * u2 + d) : (∀ j : Nat, k + 1 ≤ j → j < 20 → (md.set k d)[j]? = some 0) ∧ hd_v (md.set k d) + 10 ^ (k + 1) * u2 = v := by
  refine ⟨fun j hj hj2 => ?_, ?_⟩
  · rw [List.getElem?_set_ne (by omega)]
    exact hz j (by omega) hj2
  · rw [zx_set (hz k (Nat.le_refl k) hk), Int.sub_zero, ← hv, hu, Int.mul_add, Int.pow_succ, Int.mul_assoc]
    omega
theorem zx_abs (x : Int) : (x.natAbs : Int) = 10 * ((x.tdiv 10).natAbs : Int) + ((x.tmod 10).natAbs : Int) ∧ -9 ≤ x.tmod 10 ∧ x.tmod 10 ≤ 9 := by
  rcases sm_td (x := x) (y := 10) (by decide) with ⟨z1, z2, z3⟩ | ⟨z1, z2, z3, z4⟩ | ⟨z1, z2, z3, z4, z5⟩ <;> omega
set_option maxHeartbeats 4000000 in
theorem zn_of_M {l : Launch} {G : am_G} {X : ck_XT} (g : gM l G X) {v : Int} {h : List am_C} (hv1 : -4000000000000000000 ≤ v) (hv2 : v ≤ 4000000000000000000) {mc ms : Nat} {Post : am_O → List am_C → Prop}
    (hmc : 3 ≤ mc) (hms : 42 ≤ ms)
    (hP : ∀ (h' : List am_C) (p : Nat), zg G h h' → zn_N G h' p v → Post (.inl (some (.ref p))) h') :
    am_M l G yX12_of (.code yX12_of prog_15_method_2_code 6 (some (.object "ClockhouseModel$Num"))) 2 44 mc ms [.long (Int64.ofInt v)] h Post := by
  refine gh_yX12_of_X g (Nat.le_of_ble_eq_true rfl) fun S SX hs hr hw hx => ?_
  have rv : ∀ x : Int32, ck_fv 0 (.int x) := fun x => ⟨_, rfl⟩
  have p20_ : (10 : Int) ^ 20 = 100000000000000000000 := by decide
  have loop_ : ∀ (m_ k_ : Nat) (lf_ : Int) (h1_ : List am_C) (a_ : Nat) (md_ : List Int), k_ + m_ = 20 → 1000 + h.length ≤ a_ → zg G h h1_ → am_g G h1_ a_ = some (50, hd_r md_) → md_.length = 20 → hd_d md_ → (∀ j : Nat, k_ ≤ j → j < 20 → md_[j]? = some 0) → hd_v md_ + 10 ^ k_ * (lf_.natAbs : Int) = (v.natAbs : Int) → -4000000000000000000 ≤ lf_ → lf_ ≤ 4000000000000000000 → S 10 [some (.long (Int64.ofInt v)), none, some (.ref a_), some (.long (Int64.ofInt lf_)), none, some (.int (Int32.ofInt (k_ : Int)))] [] h1_ (0 + 1) (0 + 20) := by
    intro m_
    induction m_ with
    | zero =>
      intro k_ lf_ h1_ a_ md_ hk_ ha_ f1_ g1_ hml_ hd_ hz_ hv_ l1b_ l2b_
      obtain rfl : k_ = 20 := by omega
      rw [p20_] at hv_
      have fl_ := f1_.1
      have nn_ := hd_v_nn hd_
      have hv9_ : hd_v md_ = (v.natAbs : Int) := by omega
      obtain ⟨c_, q1_, q2_, q3_, q4_, q5_⟩ := zj_sg v
      refine hs 7 _ rfl _ _ _ _ _ _ _ rfl ?_
      refine hs 8 _ rfl _ _ _ _ _ _ _ rfl ?_
      refine hs 9 _ rfl _ _ _ _ _ _ _ (fun _ => ?_) (fun zq => absurd (hd_c2t (c := 3) (by omega) (by omega) (by omega) (by omega) (by omega : 0 ≤ (((20 : Nat) : Int) - (20 : Int)))) zq)
      refine zw_W (G := G) (hs 34 _ rfl) (t := 17) (vs := [.int 0, .null]) (m := 2) rfl rfl rfl (by omega) (by omega) fun hz153 az154 ez155 lz156 gz157 cz158 => ?_
      by_cases neg_ : v < 0
      · have c0_ : c_ < 0 := q4_.mpr neg_
        refine hs 35 _ rfl _ _ _ _ _ _ _ rfl ?_
        refine hs 36 _ rfl _ _ _ _ _ _ _ rfl ?_
        refine hs 37 _ rfl _ _ _ _ _ _ _ rfl ?_
        refine hs 38 _ rfl _ _ _ _ _ _ _ (zw_lcmpE (by omega) (by omega) (by decide) (by decide) q1_) ?_
        refine hs 39 _ rfl _ _ _ _ _ _ (fun zq => absurd (hd_c1z (c := 3) (by omega) (by omega) zq) (by omega : ¬ (0 ≤ c_))) (fun _ => ?_)
        refine hs 40 _ rfl _ _ _ _ _ _ _ rfl ?_
        refine hs 41 _ rfl _ _ _ _ _ ?_
        refine hs 43 _ rfl _ _ _ _ _ _ _ rfl ?_
        refine zw_cmn (hs 44 _ rfl) (a := [.ref az154, .int (Int32.ofInt (1 : Int)), .ref a_]) (st := [.ref az154]) 1 md_.length rfl rfl (Nat.le_of_ble_eq_true rfl) ⟨_, _, _, rfl, (cz158), rfl⟩ (by omega) (by omega) (⟨zn_init_M g (ds := md_) (by omega) (Or.inr rfl) rfl rfl (by omega) hd_ (cz158) ((gz157.2 _ _ g1_)) (by decide) (Nat.le_refl _) fun hi1_ d1_ n1_ p1_ e1_ l1_ a1_ a2_ f1b_ => ?_, fun _ _ h9 => h9⟩)
        show S 74 [some (.long (Int64.ofInt v)), none, some (.ref a_), some (.long (Int64.ofInt lf_)), none, some (.int (Int32.ofInt ((20 : Nat) : Int)))] [.ref az154] _ _ _
        exact hs 45 _ rfl _ _ _ _ _ (Or.inl ⟨_, rfl⟩) (by omega) (by omega) (hP _ _ (zg.i (f1_.tr gz157) (by omega) (by omega) f1b_) (zn_N.mk rfl hd_ (Or.inr rfl) p1_ a1_ a2_ (by rw [if_pos rfl]; omega)))
      · have c0_ : 0 ≤ c_ := by omega
        refine hs 35 _ rfl _ _ _ _ _ _ _ rfl ?_
        refine hs 36 _ rfl _ _ _ _ _ _ _ rfl ?_
        refine hs 37 _ rfl _ _ _ _ _ _ _ rfl ?_
        refine hs 38 _ rfl _ _ _ _ _ _ _ (zw_lcmpE (by omega) (by omega) (by decide) (by decide) q1_) ?_
        refine hs 39 _ rfl _ _ _ _ _ _ (fun _ => ?_) (fun zq => absurd (hd_c1t (c := 3) (by omega) (by omega) (by omega : 0 ≤ c_)) zq)
        refine hs 42 _ rfl _ _ _ _ _ _ _ rfl ?_
        refine hs 43 _ rfl _ _ _ _ _ _ _ rfl ?_
        refine zw_cmn (hs 44 _ rfl) (a := [.ref az154, .int (Int32.ofInt (0 : Int)), .ref a_]) (st := [.ref az154]) 1 md_.length rfl rfl (Nat.le_of_ble_eq_true rfl) ⟨_, _, _, rfl, (cz158), rfl⟩ (by omega) (by omega) (⟨zn_init_M g (ds := md_) (by omega) (Or.inl rfl) rfl rfl (by omega) hd_ (cz158) ((gz157.2 _ _ g1_)) (by decide) (Nat.le_refl _) fun hi1_ d1_ n1_ p1_ e1_ l1_ a1_ a2_ f1b_ => ?_, fun _ _ h9 => h9⟩)
        show S 74 [some (.long (Int64.ofInt v)), none, some (.ref a_), some (.long (Int64.ofInt lf_)), none, some (.int (Int32.ofInt ((20 : Nat) : Int)))] [.ref az154] _ _ _
        exact hs 45 _ rfl _ _ _ _ _ (Or.inl ⟨_, rfl⟩) (by omega) (by omega) (hP _ _ (zg.i (f1_.tr gz157) (by omega) (by omega) f1b_) (zn_N.mk rfl hd_ (Or.inl rfl) p1_ a1_ a2_ (by rw [if_neg (by decide)]; omega)))
    | succ m_ ih_ =>
      intro k_ lf_ h1_ a_ md_ hk_ ha_ f1_ g1_ hml_ hd_ hz_ hv_ l1b_ l2b_
      obtain ⟨x1_, x2_, x3_⟩ := zx_abs lf_
      by_cases neg_ : lf_.tmod 10 < 0
      · obtain ⟨y1_, y2_⟩ := zx_of (d := -(lf_.tmod 10)) hz_ (by omega) hv_ (show (lf_.natAbs : Int) = 10 * ((lf_.tdiv 10).natAbs : Int) + -(lf_.tmod 10) by omega)
        have d9_ := zx_dset (i := k_) (x := -(lf_.tmod 10)) hd_ (by omega) (by omega)
        refine hs 7 _ rfl _ _ _ _ _ _ _ rfl ?_
        refine hs 8 _ rfl _ _ _ _ _ _ _ rfl ?_
        refine hs 9 _ rfl _ _ _ _ _ _ _ (fun zq => absurd (hd_c2z (c := 3) (by omega) (by omega) (by omega) (by omega) zq) (by omega : ¬ (0 ≤ ((k_ : Int) - (20 : Int))))) (fun _ => ?_)
        refine hs 10 _ rfl _ _ _ _ _ _ _ rfl ?_
        refine hs 11 _ rfl _ _ _ _ _ _ _ rfl ?_
        refine hs 12 _ rfl _ _ _ _ _ _ _ rfl ?_
        refine hs 13 _ rfl _ _ _ _ _ _ _ rfl ?_
        refine hs 14 _ rfl _ _ _ _ _ _ _ (hd_lremT (by omega) (by omega)) ?_
        refine hs 15 _ rfl _ _ _ _ _ _ _ (hd_l2i (by omega) (by omega)) ?_
        refine zw_B (hs 16 _ rfl) (by decide) (by decide) (by omega) (g1_) rfl (j := k_) (by omega) (by omega) (by omega) fun hz161 wz162 => ?_
        have gk_ : (md_.set k_ (lf_.tmod 10))[k_]? = some (lf_.tmod 10) := List.getElem?_set_self (by omega)
        refine hs 17 _ rfl _ _ _ _ _ _ _ rfl ?_
        refine hs 18 _ rfl _ _ _ _ _ _ _ rfl ?_
        refine hd_A (hs 19 _ rfl) (by decide) (by decide) (wz162.at) rfl (j := k_) (by omega) (by omega) gk_ ?_
        refine hs 20 _ rfl _ _ _ _ _ _ (fun zq => absurd (hd_c1z (c := 3) (by omega) (by omega) zq) (by omega : ¬ (0 ≤ (lf_.tmod 10)))) (fun _ => ?_)
        refine hs 21 _ rfl _ _ _ _ _ _ _ rfl ?_
        refine hs 22 _ rfl _ _ _ _ _ _ _ rfl ?_
        refine hs 23 _ rfl _ _ _ _ _ _ _ rfl ?_
        refine hs 24 _ rfl _ _ _ _ _ _ _ rfl ?_
        refine hd_A (hs 25 _ rfl) (by decide) (by decide) (wz162.at) rfl (j := k_) (by omega) (by omega) gk_ ?_
        refine hs 26 _ rfl _ _ _ _ _ _ _ zw_neg ?_
        refine zw_B (hs 27 _ rfl) (by decide) (by decide) (by omega) (wz162.at) rfl (j := k_) (by omega) (by omega) (by rw [List.length_set]; omega) fun hz163 wz164 => ?_
        refine hs 28 _ rfl _ _ _ _ _ _ _ rfl ?_
        refine hs 29 _ rfl _ _ _ _ _ _ _ rfl ?_
        refine hs 30 _ rfl _ _ _ _ _ _ _ (hd_ldivT (by omega) (by omega)) ?_
        refine hs 31 _ rfl _ _ _ _ _ _ _ rfl ?_
        refine hs 32 _ rfl _ _ _ _ _ _ _ (hd_inc rfl) ?_
        refine hs 33 _ rfl _ _ _ _ _ ?_
        rw [show ((k_ : Int) + (1 : Int)) = ((k_ + 1 : Nat) : Int) by omega]
        have g9_ := wz164.at
        rw [List.set_set] at g9_
        exact ih_ (k_ + 1) _ _ a_ _ (by omega) ha_ ((f1_.w wz162 ha_).w wz164 ha_) g9_ (by rw [List.length_set]; exact hml_) d9_ y1_ y2_ (by omega) (by omega)
      · obtain ⟨y1_, y2_⟩ := zx_of (d := lf_.tmod 10) hz_ (by omega) hv_ (show (lf_.natAbs : Int) = 10 * ((lf_.tdiv 10).natAbs : Int) + lf_.tmod 10 by omega)
        have d9_ := zx_dset (i := k_) (x := lf_.tmod 10) hd_ (by omega) (by omega)
        refine hs 7 _ rfl _ _ _ _ _ _ _ rfl ?_
        refine hs 8 _ rfl _ _ _ _ _ _ _ rfl ?_
        refine hs 9 _ rfl _ _ _ _ _ _ _ (fun zq => absurd (hd_c2z (c := 3) (by omega) (by omega) (by omega) (by omega) zq) (by omega : ¬ (0 ≤ ((k_ : Int) - (20 : Int))))) (fun _ => ?_)
        refine hs 10 _ rfl _ _ _ _ _ _ _ rfl ?_
        refine hs 11 _ rfl _ _ _ _ _ _ _ rfl ?_
        refine hs 12 _ rfl _ _ _ _ _ _ _ rfl ?_
        refine hs 13 _ rfl _ _ _ _ _ _ _ rfl ?_
        refine hs 14 _ rfl _ _ _ _ _ _ _ (hd_lremT (by omega) (by omega)) ?_
        refine hs 15 _ rfl _ _ _ _ _ _ _ (hd_l2i (by omega) (by omega)) ?_
        refine zw_B (hs 16 _ rfl) (by decide) (by decide) (by omega) (g1_) rfl (j := k_) (by omega) (by omega) (by omega) fun hz159 wz160 => ?_
        have gk_ : (md_.set k_ (lf_.tmod 10))[k_]? = some (lf_.tmod 10) := List.getElem?_set_self (by omega)
        refine hs 17 _ rfl _ _ _ _ _ _ _ rfl ?_
        refine hs 18 _ rfl _ _ _ _ _ _ _ rfl ?_
        refine hd_A (hs 19 _ rfl) (by decide) (by decide) (wz160.at) rfl (j := k_) (by omega) (by omega) gk_ ?_
        refine hs 20 _ rfl _ _ _ _ _ _ (fun _ => ?_) (fun zq => absurd (hd_c1t (c := 3) (by omega) (by omega) (by omega : 0 ≤ (lf_.tmod 10))) zq)
        refine hs 28 _ rfl _ _ _ _ _ _ _ rfl ?_
        refine hs 29 _ rfl _ _ _ _ _ _ _ rfl ?_
        refine hs 30 _ rfl _ _ _ _ _ _ _ (hd_ldivT (by omega) (by omega)) ?_
        refine hs 31 _ rfl _ _ _ _ _ _ _ rfl ?_
        refine hs 32 _ rfl _ _ _ _ _ _ _ (hd_inc rfl) ?_
        refine hs 33 _ rfl _ _ _ _ _ ?_
        rw [show ((k_ : Int) + (1 : Int)) = ((k_ + 1 : Nat) : Int) by omega]
        exact ih_ (k_ + 1) _ _ a_ _ (by omega) ha_ (f1_.w wz160 ha_) wz160.at (by rw [List.length_set]; exact hml_) d9_ y1_ y2_ (by omega) (by omega)
  refine hs 0 _ rfl _ _ _ _ _ _ _ rfl ?_
  refine zw_E (G := G) (hs 1 _ rfl) (t := 50) (N := 20) rfl (by omega) (by omega) (by omega) (by omega) fun hz165 az166 ez167 lz168 gz169 cz170 => ?_
  refine hs 2 _ rfl _ _ _ _ _ _ _ rfl ?_
  refine hs 3 _ rfl _ _ _ _ _ _ _ rfl ?_
  refine hs 4 _ rfl _ _ _ _ _ _ _ rfl ?_
  refine hs 5 _ rfl _ _ _ _ _ _ _ rfl ?_
  refine hs 6 _ rfl _ _ _ _ _ _ _ rfl ?_
  refine loop_ 20 0 v _ az166 _ (by omega) (by omega) gz169 cz170 List.length_replicate (fun d hd => by rw [List.eq_of_mem_replicate hd]; decide) (fun j _ hj2 => List.getElem?_replicate_of_lt hj2) ?_ (by omega) (by omega)
  rw [hd_v_zero (ds := List.replicate 20 0) (fun d hd => List.eq_of_mem_replicate hd), Int.pow_zero, Int.one_mul, Int.zero_add]
end
section
/-! THE REFERENCE'S NUMBERS: times -/
theorem zx_dr {B : List Int} {j : Nat} : hd_v (B.drop j) = (B.drop j).headD 0 + 10 * hd_v (B.drop (j + 1)) := by
  rw [← List.tail_drop]
  generalize B.drop j = l_
  cases l_ with
  | nil => rfl
  | cons a u => rfl
theorem zx_mul {md : List Int} {i : Nat} {e o x b W W2 t C : Int} (he : md[i]? = some e) (hW : W = b + 10 * W2) (ht : e + o + x * b = t) (hC : hd_v md + 10 ^ i * (o + x * W) = C) : hd_v (md.set i (t % 10)) + 10 ^ (i + 1) * (t / 10 + x * W2) = C := by
  have k_ : t % 10 - e + 10 * (t / 10 + x * W2) = o + x * (b + 10 * W2) := by
    rw [Int.mul_add x b (10 * W2), Int.mul_left_comm x 10 W2]
    omega
  rw [zx_set he, ← hC, Int.pow_succ, hW, Int.mul_assoc, Int.add_assoc, ← Int.mul_add, k_]
theorem zx_bd {md : List Int} {i j n : Nat} {o C : Int} (hd : hd_d md) (ho : 0 < o) (hC : hd_v md + 10 ^ (i + j) * o = C) (hC2 : C < 10 ^ (i + 1 + n)) : j ≤ n := by
  apply Nat.not_lt.mp
  intro y_
  have p_ := hd_pow (show i + 1 + n ≤ i + j by omega)
  have nn_ := hd_v_nn hd
  have q_ : (10 : Int) ^ (i + j) * 1 ≤ 10 ^ (i + j) * o := Int.mul_le_mul_of_nonneg_left (by omega) (Int.pow_nonneg (by decide))
  rw [Int.mul_one] at q_
  generalize (10 : Int) ^ (i + j) * o = z_ at *
  omega
theorem zx_tk {A : List Int} {i : Nat} {x : Int} (h : A[i]? = some x) : hd_v (A.take (i + 1)) = hd_v (A.take i) + 10 ^ i * x := by
  have l_ := (List.getElem?_eq_some_iff.mp h).1
  have e_ : A.take (i + 1) = A.take i ++ [x] := by
    rw [List.take_add_one, h]
    rfl
  rw [e_, hd_v_app, List.length_take, Nat.min_eq_left (by omega)]
  show hd_v (A.take i) + 10 ^ i * (x + 10 * 0) = _
  rw [Int.mul_zero, Int.add_zero]
theorem zx_pr {A B : List Int} {i : Nat} (hA : hd_d A) (hB : hd_d B) (hi : i < A.length) : hd_v (A.take (i + 1)) * hd_v B < 10 ^ (i + 1 + B.length) := by
  have a1_ := hd_v_nn (hA.take (i + 1))
  have a2_ := hd_v_lt (hA.take (i + 1))
  rw [List.length_take, Nat.min_eq_left (by omega)] at a2_
  have b1_ := hd_v_nn hB
  have b2_ := hd_v_lt hB
  have p_ : (0 : Int) < 10 ^ B.length := Int.lt_of_le_of_lt b1_ b2_
  have c1_ : hd_v (A.take (i + 1)) * hd_v B ≤ hd_v (A.take (i + 1)) * 10 ^ B.length := Int.mul_le_mul_of_nonneg_left (Int.le_of_lt b2_) a1_
  have c2_ : hd_v (A.take (i + 1)) * 10 ^ B.length < 10 ^ (i + 1) * 10 ^ B.length := Int.mul_lt_mul_of_pos_right a2_ p_
  rw [Int.pow_add]
  exact Int.lt_of_le_of_lt c1_ c2_
theorem zx_sg {A B : List Int} {b z b2 z2 : Int} (hi : zn_is A b z) (hi2 : zn_is B b2 z2) : (b = b2 → hd_v A * hd_v B = z * z2) ∧ (b ≠ b2 → -(hd_v A * hd_v B) = z * z2) := by
  have e1_ := hi.2.2.2.2
  have e2_ := hi2.2.2.2.2
  rcases hi.2.2.1 with c_ | c_
  · rw [if_neg (by omega)] at e1_
    rcases hi2.2.2.1 with d_ | d_
    · rw [if_neg (by omega)] at e2_
      exact ⟨fun _ => by rw [e1_, e2_], fun y_ => absurd (c_.trans d_.symm) y_⟩
    · rw [if_pos d_] at e2_
      exact ⟨fun y_ => by omega, fun _ => by rw [e1_, e2_, Int.mul_neg]⟩
  · rw [if_pos c_] at e1_
    rcases hi2.2.2.1 with d_ | d_
    · rw [if_neg (by omega)] at e2_
      exact ⟨fun y_ => by omega, fun _ => by rw [e1_, e2_, Int.neg_mul]⟩
    · rw [if_pos d_] at e2_
      exact ⟨fun _ => by rw [e1_, e2_, Int.neg_mul_neg], fun y_ => absurd (c_.trans d_.symm) y_⟩
set_option maxHeartbeats 4000000 in
theorem zn_times_M {l : Launch} {G : am_G} {X : ck_XT} (g : gM l G X)  {q t d td q2 t2 d2 td2 : Nat} {b z b2 z2 : Int} {A B : List Int} {h : List am_C} (hg : am_g G h q = some (t, [.int (Int32.ofInt b), .ref d])) (ht : t % 100 = 17) (hgd : am_g G h d = some (td, hd_r A)) (htd : td % 100 = 50) (hi : zn_is A b z) (hg2 : am_g G h q2 = some (t2, [.int (Int32.ofInt b2), .ref d2])) (ht2 : t2 % 100 = 17) (hgd2 : am_g G h d2 = some (td2, hd_r B)) (htd2 : td2 % 100 = 50) (hi2 : zn_is B b2 z2) (hla : A.length ≤ 400) (hlb : B.length ≤ 400) {mc ms : Nat} {Post : am_O → List am_C → Prop}
    (hmc : 3 ≤ mc) (hms : 2 + (A.length + B.length + 1) + (A.length + B.length + 1) ≤ ms)
    (hP : ∀ (h' : List am_C) (p : Nat), zg G h h' → zn_N G h' p (z * z2) → Post (.inl (some (.ref p))) h') :
    am_M l G yX12_times (.code yX12_times prog_15_method_11_code 7 (some (.object "ClockhouseModel$Num"))) 2 44 mc ms [.ref q, .ref q2] h Post := by
  refine gh_yX12_times_X g (Nat.le_of_ble_eq_true rfl) fun S SX hs hr hw hx => ?_
  have rv : ∀ x : Int32, ck_fv 0 (.int x) := fun x => ⟨_, rfl⟩
  have inner_ : ∀ (mr_ i_ : Nat) (x_ : Int), 1000 + h.length ≤ mr_ → A[i_]? = some x_ → (∀ (h1_ : List am_C) (md_ : List Int) (o_ : Int) (j_ : Nat) (w_ : Option Value), zg G h h1_ → am_g G h1_ mr_ = some (50, hd_r md_) → md_.length = A.length + B.length + 1 → hd_d md_ → hd_v md_ = hd_v (A.take (i_ + 1)) * hd_v B → S 112 [some (.ref q), some (.ref q2), some (.ref mr_), some (.int (Int32.ofInt (i_ : Int))), some (.int (Int32.ofInt o_)), some (.int (Int32.ofInt (j_ : Int))), w_] [] h1_ (0 + 1) (0 + (A.length + B.length + 1))) → ∀ (m_ j_ : Nat) (o_ : Int) (h1_ : List am_C) (md_ : List Int) (w_ : Option Value), j_ + m_ = B.length + 2 → zg G h h1_ → am_g G h1_ mr_ = some (50, hd_r md_) → md_.length = A.length + B.length + 1 → hd_d md_ → (0 ≤ o_ ∧ o_ ≤ 9) → hd_v md_ + 10 ^ (i_ + j_) * (o_ + x_ * hd_v (B.drop j_)) = hd_v (A.take (i_ + 1)) * hd_v B → S 33 [some (.ref q), some (.ref q2), some (.ref mr_), some (.int (Int32.ofInt (i_ : Int))), some (.int (Int32.ofInt o_)), some (.int (Int32.ofInt (j_ : Int))), w_] [] h1_ (0 + 1) (0 + (A.length + B.length + 1)) := by
    intro mr_ i_ x_ hmr_ gx_ kk_ m_
    have hia_ := (List.getElem?_eq_some_iff.mp gx_).1
    have hx_ := hi.1.at gx_
    have pr_ := zx_pr (i := i_) hi.1 hi2.1 hia_
    induction m_ with
    | zero =>
      intro j_ o_ h1_ md_ w_ hj_ f1_ g1_ hml_ hd_ ho_ hv_
      rw [List.drop_of_length_le (show B.length ≤ j_ by omega)] at hv_
      have hv_ : hd_v md_ + 10 ^ (i_ + j_) * (o_ + x_ * 0) = hd_v (A.take (i_ + 1)) * hd_v B := hv_
      rw [Int.mul_zero, Int.add_zero] at hv_
      have o0_ : o_ = 0 := by
        apply Int.le_antisymm
        · apply Int.not_lt.mp
          intro y_
          have := zx_bd hd_ y_ hv_ pr_
          omega
        · exact ho_.1
      rw [o0_, Int.mul_zero, Int.add_zero] at hv_
      refine hs 22 _ rfl _ _ _ _ _ _ _ rfl ?_
      refine hs 23 _ rfl _ _ _ _ _ _ _ rfl ?_
      refine hs 24 _ rfl _ _ _ _ _ _ _ _ _ ((f1_.2 _ _ hg2)) ht2 rfl ?_
      refine hd_Ln (hs 25 _ rfl) ((f1_.2 _ _ hgd2)) htd2 ?_
      refine hs 26 _ rfl _ _ _ _ _ _ _ (fun zq => absurd (hd_c2z (c := 2) (by omega) (by omega) (by omega) (by omega) zq) (by omega : ¬ (((j_ : Int) - (B.length : Int)) < 0))) (fun _ => ?_)
      refine hs 27 _ rfl _ _ _ _ _ _ _ rfl ?_
      refine hs 28 _ rfl _ _ _ _ _ _ (fun _ => ?_) (fun zq => absurd (hd_c1t (c := 5) (by omega) (by omega) (by omega : o_ ≤ 0)) zq)
      exact kk_ h1_ md_ _ _ _ f1_ g1_ hml_ hd_ hv_
    | succ m_ ih_ =>
      intro j_ o_ h1_ md_ w_ hj_ f1_ g1_ hml_ hd_ ho_ hv_
      have f48_ : i_ + j_ < A.length + B.length + 1 → S 48 [some (.ref q), some (.ref q2), some (.ref mr_), some (.int (Int32.ofInt (i_ : Int))), some (.int (Int32.ofInt o_)), some (.int (Int32.ofInt (j_ : Int))), w_] [] h1_ (0 + 1) (0 + (A.length + B.length + 1)) := by
        intro hij_
        obtain ⟨e_, gm_⟩ : ∃ e_ : Int, md_[i_ + j_]? = some e_ := ⟨_, List.getElem?_eq_getElem (by omega)⟩
        obtain ⟨b9_, hb9_⟩ : ∃ b9_ : Int, (B.drop j_).headD 0 = b9_ := ⟨_, rfl⟩
        have he_ := hd_.at gm_
        have b9b_ : 0 ≤ b9_ ∧ b9_ ≤ 9 := by rw [← hb9_]; exact hd_head (hi2.1.drop j_)
        have xb0_ := Int.mul_nonneg hx_.1 b9b_.1
        have xb1_ : x_ * b9_ ≤ 9 * 9 := Int.mul_le_mul hx_.2 b9b_.2 b9b_.1 (by decide)
        obtain ⟨t_, ht_⟩ : ∃ t_ : Int, e_ + o_ + x_ * b9_ = t_ := ⟨_, rfl⟩
        have v9_ := zx_mul gm_ (zx_dr.trans (by rw [hb9_])) ht_ hv_
        have d9_ := zx_dset (i := i_ + j_) (x := t_ % 10) hd_ (by omega) (by omega)
        by_cases cj_ : j_ < B.length
        · have gb_ : B[j_]? = some b9_ := by rw [← hb9_]; exact zk_h1 cj_
          refine hs 29 _ rfl _ _ _ _ _ _ _ rfl ?_
          refine hs 30 _ rfl _ _ _ _ _ _ _ rfl ?_
          refine hs 31 _ rfl _ _ _ _ _ _ _ rfl ?_
          refine hs 32 _ rfl _ _ _ _ _ _ _ hd_add ?_
          refine hd_A (hs 33 _ rfl) (by decide) (by decide) (g1_) rfl (j := (i_ + j_)) (by omega) (by omega) gm_ ?_
          refine hs 34 _ rfl _ _ _ _ _ _ _ rfl ?_
          refine hs 35 _ rfl _ _ _ _ _ _ _ hd_add ?_
          refine hs 36 _ rfl _ _ _ _ _ _ _ rfl ?_
          refine hs 37 _ rfl _ _ _ _ _ _ _ rfl ?_
          refine hs 38 _ rfl _ _ _ _ _ _ _ _ _ ((f1_.2 _ _ hg2)) ht2 rfl ?_
          refine hd_Ln (hs 39 _ rfl) ((f1_.2 _ _ hgd2)) htd2 ?_
          refine hs 40 _ rfl _ _ _ _ _ _ _ (fun zq => absurd (hd_c2z (c := 3) (by omega) (by omega) (by omega) (by omega) zq) (by omega : ¬ (0 ≤ ((j_ : Int) - (B.length : Int))))) (fun _ => ?_)
          refine hs 41 _ rfl _ _ _ _ _ _ _ rfl ?_
          refine hs 42 _ rfl _ _ _ _ _ _ _ _ _ ((f1_.2 _ _ hg)) ht rfl ?_
          refine hs 43 _ rfl _ _ _ _ _ _ _ rfl ?_
          refine hd_A (hs 44 _ rfl) (by decide) (by decide) ((f1_.2 _ _ hgd)) htd (j := i_) (by omega) (by omega) gx_ ?_
          refine hs 45 _ rfl _ _ _ _ _ _ _ rfl ?_
          refine hs 46 _ rfl _ _ _ _ _ _ _ _ _ ((f1_.2 _ _ hg2)) ht2 rfl ?_
          refine hs 47 _ rfl _ _ _ _ _ _ _ rfl ?_
          refine hd_A (hs 48 _ rfl) (by decide) (by decide) ((f1_.2 _ _ hgd2)) htd2 (j := j_) (by omega) (by omega) gb_ ?_
          refine hs 49 _ rfl _ _ _ _ _ _ _ hd_mul ?_
          refine hs 50 _ rfl _ _ _ _ _ ?_
          refine hs 52 _ rfl _ _ _ _ _ _ _ (zk_addE ht_) ?_
          refine hs 53 _ rfl _ _ _ _ _ _ _ rfl ?_
          refine hs 54 _ rfl _ _ _ _ _ _ _ rfl ?_
          refine hs 55 _ rfl _ _ _ _ _ _ _ rfl ?_
          refine hs 56 _ rfl _ _ _ _ _ _ _ rfl ?_
          refine hs 57 _ rfl _ _ _ _ _ _ _ hd_add ?_
          refine hs 58 _ rfl _ _ _ _ _ _ _ rfl ?_
          refine hs 59 _ rfl _ _ _ _ _ _ _ rfl ?_
          refine hs 60 _ rfl _ _ _ _ _ _ _ (hd_rem (by omega) (by omega) (by omega) (by omega)) ?_
          refine zw_B (hs 61 _ rfl) (by decide) (by decide) (by omega) (g1_) rfl (j := (i_ + j_)) (by omega) (by omega) (by omega) fun hz171 wz172 => ?_
          refine hs 62 _ rfl _ _ _ _ _ _ _ rfl ?_
          refine hs 63 _ rfl _ _ _ _ _ _ _ rfl ?_
          refine hs 64 _ rfl _ _ _ _ _ _ _ (hd_div (by omega) (by omega) (by omega) (by omega)) ?_
          refine hs 65 _ rfl _ _ _ _ _ _ _ rfl ?_
          refine hs 66 _ rfl _ _ _ _ _ _ _ (hd_inc rfl) ?_
          refine hs 67 _ rfl _ _ _ _ _ ?_
          rw [show ((j_ : Int) + (1 : Int)) = ((j_ + 1 : Nat) : Int) by omega]
          exact ih_ (j_ + 1) _ _ _ _ (by omega) (f1_.w wz172 hmr_) wz172.at (by rw [List.length_set]; exact hml_) d9_ ⟨by omega, by omega⟩ v9_
        · have b0_ : b9_ = 0 := by rw [← hb9_]; exact zk_h0 (by omega)
          rw [b0_, Int.mul_zero] at ht_
          refine hs 29 _ rfl _ _ _ _ _ _ _ rfl ?_
          refine hs 30 _ rfl _ _ _ _ _ _ _ rfl ?_
          refine hs 31 _ rfl _ _ _ _ _ _ _ rfl ?_
          refine hs 32 _ rfl _ _ _ _ _ _ _ hd_add ?_
          refine hd_A (hs 33 _ rfl) (by decide) (by decide) (g1_) rfl (j := (i_ + j_)) (by omega) (by omega) gm_ ?_
          refine hs 34 _ rfl _ _ _ _ _ _ _ rfl ?_
          refine hs 35 _ rfl _ _ _ _ _ _ _ hd_add ?_
          refine hs 36 _ rfl _ _ _ _ _ _ _ rfl ?_
          refine hs 37 _ rfl _ _ _ _ _ _ _ rfl ?_
          refine hs 38 _ rfl _ _ _ _ _ _ _ _ _ ((f1_.2 _ _ hg2)) ht2 rfl ?_
          refine hd_Ln (hs 39 _ rfl) ((f1_.2 _ _ hgd2)) htd2 ?_
          refine hs 40 _ rfl _ _ _ _ _ _ _ (fun _ => ?_) (fun zq => absurd (hd_c2t (c := 3) (by omega) (by omega) (by omega) (by omega) (by omega : 0 ≤ ((j_ : Int) - (B.length : Int)))) zq)
          refine hs 51 _ rfl _ _ _ _ _ _ _ rfl ?_
          refine hs 52 _ rfl _ _ _ _ _ _ _ (zk_addE ht_) ?_
          refine hs 53 _ rfl _ _ _ _ _ _ _ rfl ?_
          refine hs 54 _ rfl _ _ _ _ _ _ _ rfl ?_
          refine hs 55 _ rfl _ _ _ _ _ _ _ rfl ?_
          refine hs 56 _ rfl _ _ _ _ _ _ _ rfl ?_
          refine hs 57 _ rfl _ _ _ _ _ _ _ hd_add ?_
          refine hs 58 _ rfl _ _ _ _ _ _ _ rfl ?_
          refine hs 59 _ rfl _ _ _ _ _ _ _ rfl ?_
          refine hs 60 _ rfl _ _ _ _ _ _ _ (hd_rem (by omega) (by omega) (by omega) (by omega)) ?_
          refine zw_B (hs 61 _ rfl) (by decide) (by decide) (by omega) (g1_) rfl (j := (i_ + j_)) (by omega) (by omega) (by omega) fun hz173 wz174 => ?_
          refine hs 62 _ rfl _ _ _ _ _ _ _ rfl ?_
          refine hs 63 _ rfl _ _ _ _ _ _ _ rfl ?_
          refine hs 64 _ rfl _ _ _ _ _ _ _ (hd_div (by omega) (by omega) (by omega) (by omega)) ?_
          refine hs 65 _ rfl _ _ _ _ _ _ _ rfl ?_
          refine hs 66 _ rfl _ _ _ _ _ _ _ (hd_inc rfl) ?_
          refine hs 67 _ rfl _ _ _ _ _ ?_
          rw [show ((j_ : Int) + (1 : Int)) = ((j_ + 1 : Nat) : Int) by omega]
          exact ih_ (j_ + 1) _ _ _ _ (by omega) (f1_.w wz174 hmr_) wz174.at (by rw [List.length_set]; exact hml_) d9_ ⟨by omega, by omega⟩ v9_
      by_cases cj_ : j_ < B.length
      · 
        refine hs 22 _ rfl _ _ _ _ _ _ _ rfl ?_
        refine hs 23 _ rfl _ _ _ _ _ _ _ rfl ?_
        refine hs 24 _ rfl _ _ _ _ _ _ _ _ _ ((f1_.2 _ _ hg2)) ht2 rfl ?_
        refine hd_Ln (hs 25 _ rfl) ((f1_.2 _ _ hgd2)) htd2 ?_
        refine hs 26 _ rfl _ _ _ _ _ _ _ (fun _ => ?_) (fun zq => absurd (hd_c2t (c := 2) (by omega) (by omega) (by omega) (by omega) (by omega : ((j_ : Int) - (B.length : Int)) < 0)) zq)
        exact f48_ (by omega)
      · have hv2_ := hv_
        rw [List.drop_of_length_le (show B.length ≤ j_ by omega)] at hv2_
        have hv2_ : hd_v md_ + 10 ^ (i_ + j_) * (o_ + x_ * 0) = hd_v (A.take (i_ + 1)) * hd_v B := hv2_
        rw [Int.mul_zero, Int.add_zero] at hv2_
        by_cases o0_ : o_ = 0
        · rw [o0_, Int.mul_zero, Int.add_zero] at hv2_
          refine hs 22 _ rfl _ _ _ _ _ _ _ rfl ?_
          refine hs 23 _ rfl _ _ _ _ _ _ _ rfl ?_
          refine hs 24 _ rfl _ _ _ _ _ _ _ _ _ ((f1_.2 _ _ hg2)) ht2 rfl ?_
          refine hd_Ln (hs 25 _ rfl) ((f1_.2 _ _ hgd2)) htd2 ?_
          refine hs 26 _ rfl _ _ _ _ _ _ _ (fun zq => absurd (hd_c2z (c := 2) (by omega) (by omega) (by omega) (by omega) zq) (by omega : ¬ (((j_ : Int) - (B.length : Int)) < 0))) (fun _ => ?_)
          refine hs 27 _ rfl _ _ _ _ _ _ _ rfl ?_
          refine hs 28 _ rfl _ _ _ _ _ _ (fun _ => ?_) (fun zq => absurd (hd_c1t (c := 5) (by omega) (by omega) (by omega : o_ ≤ 0)) zq)
          exact kk_ h1_ md_ _ _ _ f1_ g1_ hml_ hd_ hv2_
        · have jl_ := zx_bd hd_ (show 0 < o_ by omega) hv2_ pr_
          refine hs 22 _ rfl _ _ _ _ _ _ _ rfl ?_
          refine hs 23 _ rfl _ _ _ _ _ _ _ rfl ?_
          refine hs 24 _ rfl _ _ _ _ _ _ _ _ _ ((f1_.2 _ _ hg2)) ht2 rfl ?_
          refine hd_Ln (hs 25 _ rfl) ((f1_.2 _ _ hgd2)) htd2 ?_
          refine hs 26 _ rfl _ _ _ _ _ _ _ (fun zq => absurd (hd_c2z (c := 2) (by omega) (by omega) (by omega) (by omega) zq) (by omega : ¬ (((j_ : Int) - (B.length : Int)) < 0))) (fun _ => ?_)
          refine hs 27 _ rfl _ _ _ _ _ _ _ rfl ?_
          refine hs 28 _ rfl _ _ _ _ _ _ (fun zq => absurd (hd_c1z (c := 5) (by omega) (by omega) zq) (by omega : ¬ (o_ ≤ 0))) (fun _ => ?_)
          exact f48_ (by omega)
  have outer_ : ∀ (n_ i_ mr_ : Nat) (h1_ : List am_C) (md_ : List Int) (w4_ w5_ w6_ : Option Value), i_ + n_ = A.length → 1000 + h.length ≤ mr_ → zg G h h1_ → am_g G h1_ mr_ = some (50, hd_r md_) → md_.length = A.length + B.length + 1 → hd_d md_ → hd_v md_ = hd_v (A.take i_) * hd_v B → S 18 [some (.ref q), some (.ref q2), some (.ref mr_), some (.int (Int32.ofInt (i_ : Int))), w4_, w5_, w6_] [] h1_ (0 + 1) (0 + (A.length + B.length + 1)) := by
    intro n_
    induction n_ with
    | zero =>
      intro i_ mr_ h1_ md_ w4_ w5_ w6_ hi_ hmr_ f1_ g1_ hml_ hd_ hv_
      have fl_ := f1_.1
      rw [List.take_of_length_le (by omega)] at hv_
      have bz1_ := hi.2.2.1
      have bz2_ := hi2.2.2.1
      refine hs 13 _ rfl _ _ _ _ _ _ _ rfl ?_
      refine hs 14 _ rfl _ _ _ _ _ _ _ rfl ?_
      refine hs 15 _ rfl _ _ _ _ _ _ _ _ _ ((f1_.2 _ _ hg)) ht rfl ?_
      refine hd_Ln (hs 16 _ rfl) ((f1_.2 _ _ hgd)) htd ?_
      refine hs 17 _ rfl _ _ _ _ _ _ _ (fun _ => ?_) (fun zq => absurd (hd_c2t (c := 3) (by omega) (by omega) (by omega) (by omega) (by omega : 0 ≤ ((i_ : Int) - (A.length : Int)))) zq)
      refine zw_W (G := G) (hs 70 _ rfl) (t := 17) (vs := [.int 0, .null]) (m := 2) rfl rfl rfl (by omega) (by omega) fun hz175 az176 ez177 lz178 gz179 cz180 => ?_
      refine hs 71 _ rfl _ _ _ _ _ _ _ rfl ?_
      by_cases bb_ : b ≠ b2
      · 
        refine hs 72 _ rfl _ _ _ _ _ _ _ rfl ?_
        refine hs 73 _ rfl _ _ _ _ _ _ _ _ _ ((gz179.2 _ _ ((f1_.2 _ _ hg)))) ht rfl ?_
        refine hs 74 _ rfl _ _ _ _ _ _ _ rfl ?_
        refine hs 75 _ rfl _ _ _ _ _ _ _ _ _ ((gz179.2 _ _ ((f1_.2 _ _ hg2)))) ht2 rfl ?_
        refine hs 76 _ rfl _ _ _ _ _ _ _ (fun zq => absurd (hd_c2z (c := 0) (by omega) (by omega) (by omega) (by omega) zq) (by omega : ¬ ((b - b2) = 0))) (fun _ => ?_)
        refine hs 77 _ rfl _ _ _ _ _ _ _ rfl ?_
        refine hs 78 _ rfl _ _ _ _ _ ?_
        refine hs 80 _ rfl _ _ _ _ _ _ _ rfl ?_
        refine zw_cmn (hs 81 _ rfl) (a := [.ref az176, .int (Int32.ofInt (1 : Int)), .ref mr_]) (st := [.ref az176]) 1 md_.length rfl rfl (Nat.le_of_ble_eq_true rfl) ⟨_, _, _, rfl, (cz180), rfl⟩ (by omega) (by omega) (⟨zn_init_M g (ds := md_) (by omega) (Or.inr rfl) rfl rfl (by omega) hd_ (cz180) ((gz179.2 _ _ g1_)) (by decide) (Nat.le_refl _) fun hi1_ d1_ n1_ p1_ e1_ l1_ a1_ a2_ f1b_ => ?_, fun _ _ h9 => h9⟩)
        show S 142 [some (.ref q), some (.ref q2), some (.ref mr_), some (.int (Int32.ofInt (i_ : Int))), _, _, _] [.ref az176] _ _ _
        exact hs 82 _ rfl _ _ _ _ _ (Or.inl ⟨_, rfl⟩) (by omega) (by omega) (hP _ _ (zg.i (f1_.tr gz179) (by omega) (by omega) f1b_) (zn_N.mk rfl hd_ (Or.inr rfl) p1_ a1_ a2_ (by rw [if_pos rfl, hv_]; exact (zx_sg hi hi2).2 bb_)))
      · 
        refine hs 72 _ rfl _ _ _ _ _ _ _ rfl ?_
        refine hs 73 _ rfl _ _ _ _ _ _ _ _ _ ((gz179.2 _ _ ((f1_.2 _ _ hg)))) ht rfl ?_
        refine hs 74 _ rfl _ _ _ _ _ _ _ rfl ?_
        refine hs 75 _ rfl _ _ _ _ _ _ _ _ _ ((gz179.2 _ _ ((f1_.2 _ _ hg2)))) ht2 rfl ?_
        refine hs 76 _ rfl _ _ _ _ _ _ _ (fun _ => ?_) (fun zq => absurd (hd_c2t (c := 0) (by omega) (by omega) (by omega) (by omega) (by omega : (b - b2) = 0)) zq)
        refine hs 79 _ rfl _ _ _ _ _ _ _ rfl ?_
        refine hs 80 _ rfl _ _ _ _ _ _ _ rfl ?_
        refine zw_cmn (hs 81 _ rfl) (a := [.ref az176, .int (Int32.ofInt (0 : Int)), .ref mr_]) (st := [.ref az176]) 1 md_.length rfl rfl (Nat.le_of_ble_eq_true rfl) ⟨_, _, _, rfl, (cz180), rfl⟩ (by omega) (by omega) (⟨zn_init_M g (ds := md_) (by omega) (Or.inl rfl) rfl rfl (by omega) hd_ (cz180) ((gz179.2 _ _ g1_)) (by decide) (Nat.le_refl _) fun hi1_ d1_ n1_ p1_ e1_ l1_ a1_ a2_ f1b_ => ?_, fun _ _ h9 => h9⟩)
        show S 142 [some (.ref q), some (.ref q2), some (.ref mr_), some (.int (Int32.ofInt (i_ : Int))), _, _, _] [.ref az176] _ _ _
        exact hs 82 _ rfl _ _ _ _ _ (Or.inl ⟨_, rfl⟩) (by omega) (by omega) (hP _ _ (zg.i (f1_.tr gz179) (by omega) (by omega) f1b_) (zn_N.mk rfl hd_ (Or.inl rfl) p1_ a1_ a2_ (by rw [if_neg (by decide), hv_]; exact (zx_sg hi hi2).1 (by omega))))
    | succ n_ ih_ =>
      intro i_ mr_ h1_ md_ w4_ w5_ w6_ hi_ hmr_ f1_ g1_ hml_ hd_ hv_
      obtain ⟨x_, gx_⟩ : ∃ x_ : Int, A[i_]? = some x_ := ⟨_, List.getElem?_eq_getElem (by omega)⟩
      refine hs 13 _ rfl _ _ _ _ _ _ _ rfl ?_
      refine hs 14 _ rfl _ _ _ _ _ _ _ rfl ?_
      refine hs 15 _ rfl _ _ _ _ _ _ _ _ _ ((f1_.2 _ _ hg)) ht rfl ?_
      refine hd_Ln (hs 16 _ rfl) ((f1_.2 _ _ hgd)) htd ?_
      refine hs 17 _ rfl _ _ _ _ _ _ _ (fun zq => absurd (hd_c2z (c := 3) (by omega) (by omega) (by omega) (by omega) zq) (by omega : ¬ (0 ≤ ((i_ : Int) - (A.length : Int))))) (fun _ => ?_)
      refine hs 18 _ rfl _ _ _ _ _ _ _ rfl ?_
      refine hs 19 _ rfl _ _ _ _ _ _ _ rfl ?_
      refine hs 20 _ rfl _ _ _ _ _ _ _ rfl ?_
      refine hs 21 _ rfl _ _ _ _ _ _ _ rfl ?_
      refine inner_ mr_ i_ x_ hmr_ gx_ (fun h1_ md_ o_ j_ w_ f1_ g1_ hml_ hd_ hv_ => ?_) (B.length + 2) 0 0 h1_ md_ _ (by omega) f1_ g1_ hml_ hd_ ⟨by decide, by decide⟩ ?_
      rotate_left
      · rw [List.drop_zero, hv_, zx_tk gx_, Int.add_mul, Int.mul_assoc, Int.zero_add]
        rfl
      refine hs 68 _ rfl _ _ _ _ _ _ _ (hd_inc rfl) ?_
      refine hs 69 _ rfl _ _ _ _ _ ?_
      rw [show ((i_ : Int) + (1 : Int)) = ((i_ + 1 : Nat) : Int) by omega]
      exact ih_ (i_ + 1) mr_ h1_ md_ _ _ _ (by omega) hmr_ f1_ g1_ hml_ hd_ hv_
  refine hs 0 _ rfl _ _ _ _ _ _ _ rfl ?_
  refine hs 1 _ rfl _ _ _ _ _ _ _ _ _ (hg) ht rfl ?_
  refine hd_Ln (hs 2 _ rfl) (hgd) htd ?_
  refine hs 3 _ rfl _ _ _ _ _ _ _ rfl ?_
  refine hs 4 _ rfl _ _ _ _ _ _ _ _ _ (hg2) ht2 rfl ?_
  refine hd_Ln (hs 5 _ rfl) (hgd2) htd2 ?_
  refine hs 6 _ rfl _ _ _ _ _ _ _ hd_add ?_
  refine hs 7 _ rfl _ _ _ _ _ _ _ rfl ?_
  refine hs 8 _ rfl _ _ _ _ _ _ _ hd_add ?_
  refine zw_E (G := G) (hs 9 _ rfl) (t := 50) (N := (A.length + B.length + 1)) rfl (by omega) (by omega) (by omega) (by omega) fun hz181 az182 ez183 lz184 gz185 cz186 => ?_
  refine hs 10 _ rfl _ _ _ _ _ _ _ rfl ?_
  refine hs 11 _ rfl _ _ _ _ _ _ _ rfl ?_
  refine hs 12 _ rfl _ _ _ _ _ _ _ rfl ?_
  refine outer_ A.length 0 az182 _ _ _ _ _ (by omega) (by omega) gz185 cz186 List.length_replicate (fun d hd => by rw [List.eq_of_mem_replicate hd]; decide) ?_
  rw [hd_v_zero (ds := List.replicate _ 0) (fun d hd => List.eq_of_mem_replicate hd), List.take_zero]
  exact (Int.zero_mul _).symm
end
section
/-! SMALL METHODS OF THE REFERENCE, TO BE WALKED BY HAND -/
def gt_yX14_modOf_X : ck_TB := ([], [], [], [], [], [], [], [], ([], [], [], []), [], [], [], 0)
def ge_yX14_modOf_X : ck_E := (gT, [], (([], [], [], 0, []), ((0, []), (0, [])), [], [], ([], [], [], 0, []), []), 2, [(0, (0, 3, 0, 0, 1, 0, [])), (1, (0, 3, 1, 0, 2, 0, [])), (2, (0, 15, 4, 0, 3, 0, [])), (3, (0, 3, 1, 0, 4, 0, [])), (4, (0, 15, 0, 0, 5, 0, [])), (5, (0, 3, 1, 0, 6, 0, [])), (6, (0, 15, 4, 0, 7, 0, [])), (7, (14, 0, 0, 0, 0, 0, []))], [], [], [], [])
theorem gd_yX14_modOf_X : ck_dec prog_14_method_7_code gt_yX14_modOf_X ge_yX14_modOf_X.2.2.2.2.1 = true := by decide +kernel
theorem gh_yX14_modOf_X {l : Launch} {G : am_G} {X : ck_XT} (g : gM l G X) {a : List Value} {h : List am_C} {mc ms : Nat} {Post : am_O → List am_C → Prop} (hay : (am_lay a).length ≤ 2) (H : ∀ (S : ck_SS) (SX : Nat → ck_SX), ck_hs G S SX Post mc ms (ck_cms []) ge_yX14_modOf_X → (∀ pc, ck_sR G S pc) → ck_hw S → zw_hx SX Post mc ms → S 0 (am_ent a 2) [] h 0 0) : am_M l G yX14_modOf (.code yX14_modOf prog_14_method_7_code 2 (some .int)) 1 20 mc ms a h Post :=
  zw_handX (E := ge_yX14_modOf_X) (tb := gt_yX14_modOf_X) (init := false) (cm := (ck_cms [])) g.1.1 (by decide +kernel) rfl gd_yX14_modOf_X ⟨(List.forall_mem_nil _), (List.forall_mem_nil _), (List.forall_mem_nil _), (List.forall_mem_nil _), (List.forall_mem_nil _), (List.forall_mem_nil _), (List.forall_mem_nil _), (List.forall_mem_nil _)⟩ (List.forall_mem_nil _) (fun h => nomatch h) ⟨_, rfl, rfl⟩ (by decide) (by decide) g_oi g_ar
    (fun s hk _ => (List.forall_mem_nil _)) (fun s hk => (List.forall_mem_nil _))
    (List.forall_mem_nil _) (List.forall_mem_nil _) (List.forall_mem_nil _) (List.forall_mem_nil _)
    (List.forall_mem_nil _) hay H
def gt_yX14_common_X : ck_TB := ([], [], [], [], [], [], [], [], ([], [], [(157, 0)], []), [], [], [], 3)
def ge_yX14_common_X : ck_E := (gT, [], (([], [], [], 0, []), ((0, []), (0, [])), [], [], ([], [], [], 0, []), []), 3, [(0, (0, 4, 0, 0, 1, 0, [])), (1, (0, 4, 0, 0, 2, 0, [])), (2, (0, 3, 2, 0, 3, 0, [])), (3, (0, 19, 0, 0, 4, 0, [])), (4, (0, 16, 4, 0, 5, 0, [])), (5, (0, 20, 0, 0, 6, 0, [])), (6, (0, 3, 2, 0, 7, 0, [])), (7, (16, 0, 0, 0, 10, 0, [])), (10, (0, 19, 0, 0, 11, 0, [])), (11, (0, 16, 3, 0, 12, 0, [])), (12, (0, 3, 2, 0, 13, 0, [])), (13, (0, 19, 0, 0, 14, 0, [])), (14, (0, 16, 2, 0, 15, 0, [])), (15, (14, 0, 0, 3, 0, 0, []))], [(none, 2, [])], [], [], [])
theorem gd_yX14_common_X : ck_dec prog_14_method_30_code gt_yX14_common_X ge_yX14_common_X.2.2.2.2.1 = true := by decide +kernel
theorem gh_yX14_common_X {l : Launch} {G : am_G} {X : ck_XT} (g : gM l G X) {a : List Value} {h : List am_C} {mc ms : Nat} {Post : am_O → List am_C → Prop} (hay : (am_lay a).length ≤ 3) (H : ∀ (S : ck_SS) (SX : Nat → ck_SX), ck_hs G S SX Post mc ms (ck_cms [am_cm l G yX14_gcdOf (.code yX14_gcdOf prog_14_method_8_code 4 (some .int)) 1 20]) ge_yX14_common_X → (∀ pc, ck_sR G S pc) → ck_hw S → zw_hx SX Post mc ms → S 0 (am_ent a 3) [] h 0 0) : am_M l G yX14_common (.code yX14_common prog_14_method_30_code 3 (some .long)) 2 43 mc ms a h Post :=
  zw_handX (E := ge_yX14_common_X) (tb := gt_yX14_common_X) (init := false) (cm := (ck_cms [am_cm l G yX14_gcdOf (.code yX14_gcdOf prog_14_method_8_code 4 (some .int)) 1 20])) g.1.1 (by decide +kernel) rfl gd_yX14_common_X ⟨(List.forall_mem_nil _), (List.forall_mem_nil _), (List.forall_mem_nil _), (List.forall_mem_nil _), (List.forall_mem_nil _), (List.forall_mem_nil _), (List.forall_mem_nil _), (List.forall_mem_nil _)⟩ (List.forall_mem_nil _) (fun h => nomatch h) ⟨_, rfl, rfl⟩ (by decide) (by decide) g_oi g_ar
    (fun s hk _ => (List.forall_mem_nil _)) (fun s hk => (List.forall_mem_nil _))
    (List.forall_mem_nil _) (List.forall_mem_nil _) (List.forall_mem_cons.mpr ⟨(ck_kS g_y_yX14_gcdOf w2056 w2057 (by decide) (by decide)), (List.forall_mem_nil _)⟩) (List.forall_mem_nil _)
    (List.forall_mem_nil _) hay H
def gt_yX14_tried_X : ck_TB := ([], [], [], [], [], [], [], [], ([], [], [], []), [], [], [], 0)
def ge_yX14_tried_X : ck_E := (gT, [], (([], [], [], 0, []), ((0, []), (0, [])), [], [], ([], [], [], 0, []), []), 6, [(0, (0, 0, 0, 0, 1, 0, [])), (1, (0, 6, 5, 0, 3, 0, [])), (3, (0, 3, 5, 0, 5, 0, [])), (5, (0, 5, 4, 0, 7, 0, [])), (7, (0, 0, 0, 1, 8, 0, [])), (8, (12, 50, 50, 0, 9, 0, [])), (9, (2, 3, 0, 0, 12, 55, [])), (12, (0, 4, 0, 0, 13, 0, [])), (13, (0, 5, 4, 0, 15, 0, [])), (15, (0, 0, 0, 1, 16, 0, [])), (16, (12, 50, 50, 0, 17, 0, [])), (17, (0, 19, 0, 0, 18, 0, [])), (18, (0, 16, 4, 0, 19, 0, [])), (19, (0, 3, 5, 0, 21, 0, [])), (21, (0, 19, 0, 0, 22, 0, [])), (22, (0, 4, 2, 0, 23, 0, [])), (23, (0, 5, 4, 0, 25, 0, [])), (25, (0, 0, 0, 1, 26, 0, [])), (26, (12, 50, 50, 0, 27, 0, [])), (27, (0, 19, 0, 0, 28, 0, [])), (28, (0, 16, 4, 0, 29, 0, [])), (29, (0, 16, 2, 0, 30, 0, [])), (30, (0, 16, 0, 0, 31, 0, [])), (31, (0, 5, 4, 0, 33, 0, [])), (33, (0, 0, 0, 1, 34, 0, [])), (34, (12, 50, 50, 0, 35, 0, [])), (35, (0, 19, 0, 0, 36, 0, [])), (36, (0, 16, 4, 0, 37, 0, [])), (37, (0, 5, 4, 0, 39, 0, [])), (39, (0, 0, 0, 0, 40, 0, [])), (40, (12, 50, 50, 0, 41, 0, [])), (41, (0, 19, 0, 0, 42, 0, [])), (42, (0, 21, 0, 0, 43, 0, [])), (43, (1, 1, 0, 0, 46, 49, [])), (46, (0, 3, 5, 0, 48, 0, [])), (48, (14, 0, 0, 0, 0, 0, [])), (49, (0, 9, 5, 1, 52, 0, [])), (52, (3, 0, 0, 0, 0, 3, [])), (55, (0, 0, 0, (-1), 56, 0, [])), (56, (14, 0, 0, 0, 0, 0, []))], [], [], [], [])
theorem gd_yX14_tried_X : ck_dec prog_14_method_29_code gt_yX14_tried_X ge_yX14_tried_X.2.2.2.2.1 = true := by decide +kernel
theorem gh_yX14_tried_X {l : Launch} {G : am_G} {X : ck_XT} (g : gM l G X) {a : List Value} {h : List am_C} {mc ms : Nat} {Post : am_O → List am_C → Prop} (hay : (am_lay a).length ≤ 6) (H : ∀ (S : ck_SS) (SX : Nat → ck_SX), ck_hs G S SX Post mc ms (ck_cms []) ge_yX14_tried_X → (∀ pc, ck_sR G S pc) → ck_hw S → zw_hx SX Post mc ms → S 0 (am_ent a 6) [] h 0 0) : am_M l G yX14_tried (.code yX14_tried prog_14_method_29_code 6 (some .int)) 1 20 mc ms a h Post :=
  zw_handX (E := ge_yX14_tried_X) (tb := gt_yX14_tried_X) (init := false) (cm := (ck_cms [])) g.1.1 (by decide +kernel) rfl gd_yX14_tried_X ⟨(List.forall_mem_nil _), (List.forall_mem_nil _), (List.forall_mem_nil _), (List.forall_mem_nil _), (List.forall_mem_nil _), (List.forall_mem_nil _), (List.forall_mem_nil _), (List.forall_mem_nil _)⟩ (List.forall_mem_nil _) (fun h => nomatch h) ⟨_, rfl, rfl⟩ (by decide) (by decide) g_oi g_ar
    (fun s hk _ => (List.forall_mem_nil _)) (fun s hk => (List.forall_mem_nil _))
    (List.forall_mem_nil _) (List.forall_mem_nil _) (List.forall_mem_nil _) (List.forall_mem_nil _)
    (List.forall_mem_nil _) hay H
end
section
/-! THE REFERENCE: modOf, common, tried -/
theorem zy_mod {x m : Int} : (x.tmod m + m) % m = x % m := by
  have e_ := Int.tdiv_mul_add_tmod x m
  have f_ : x.tmod m + m = x + m * (1 - x.tdiv m) := by
    rw [Int.mul_sub, Int.mul_one, Int.mul_comm m (x.tdiv m)]
    omega
  rw [f_, Int.add_mul_emod_self_left]
theorem zy_sg (x y : Int) : ∃ c : Int, (if y < x then 1 else if x < y then -1 else 0 : Int) = c ∧ (-1 ≤ c ∧ c ≤ 1) ∧ (c = 0 ↔ x = y) := by
  rcases Int.lt_trichotomy x y with h_ | h_ | h_
  · exact ⟨-1, by rw [if_neg (by omega), if_pos h_], by omega, by omega⟩
  · exact ⟨0, by rw [if_neg (by omega), if_neg (by omega)], by omega, by omega⟩
  · exact ⟨1, by rw [if_pos h_], by omega, by omega⟩
set_option maxHeartbeats 4000000 in
theorem zy_modOf_M {l : Launch} {G : am_G} {X : ck_XT} (g : gM l G X) {x : Int} {m : Nat} {h : List am_C} (hx : -2147483648 ≤ x) (hx2 : x ≤ 2147483647) (hm : 1 ≤ m) (hm2 : m ≤ 999) {mc ms : Nat} {Post : am_O → List am_C → Prop} (hP : Post (.inl (some (.int (Int32.ofInt (x % (m : Int)))))) h) :
    am_M l G yX14_modOf (.code yX14_modOf prog_14_method_7_code 2 (some .int)) 1 20 mc ms [.int (Int32.ofInt x), .int (Int32.ofInt (m : Int))] h Post := by
  refine gh_yX14_modOf_X g (Nat.le_of_ble_eq_true rfl) fun S SX hs hr hw hx => ?_
  have rv : ∀ x : Int32, ck_fv 0 (.int x) := fun x => ⟨_, rfl⟩
  have tb_ : -(m : Int) < x.tmod (m : Int) ∧ x.tmod (m : Int) < (m : Int) := by
    have hl_ := Int.emod_lt_of_pos x (b := (m : Int)) (by omega)
    have hl0_ := Int.emod_nonneg x (b := (m : Int)) (by omega)
    rcases sm_td (x := x) (y := (m : Int)) (by omega) with ⟨z1, z2, z3⟩ | ⟨z1, z2, z3, z4⟩ | ⟨z1, z2, z3, z4, z5⟩ <;> omega
  refine hs 0 _ rfl _ _ _ _ _ _ _ rfl ?_
  refine hs 1 _ rfl _ _ _ _ _ _ _ rfl ?_
  refine hs 2 _ rfl _ _ _ _ _ _ _ (sm_trem (by omega) (by omega) (by omega) (by omega)) ?_
  refine hs 3 _ rfl _ _ _ _ _ _ _ rfl ?_
  refine hs 4 _ rfl _ _ _ _ _ _ _ hd_add ?_
  refine hs 5 _ rfl _ _ _ _ _ _ _ rfl ?_
  refine hs 6 _ rfl _ _ _ _ _ _ _ (hd_rem (by omega) (by omega) (by omega) (by omega)) ?_
  exact hs 7 _ rfl _ _ _ _ _ (rv _) (Nat.zero_le _) (Nat.zero_le _) (by rw [zy_mod]; exact hP)
theorem zy_gcd_M {l : Launch} {G : am_G} {X : ck_XT} (g : gM l G X) {w m : Nat} {h : List am_C} (hs : 1 ≤ m) (hs2 : m ≤ 999) {mc ms : Nat} {Post : am_O → List am_C → Prop} (hP : Post (.inl (some (.int (Int32.ofInt ((Nat.gcd w m : Nat) : Int))))) h) :
    am_M l G yX14_gcdOf (.code yX14_gcdOf prog_14_method_8_code 4 (some .int)) 1 20 mc ms [.int (Int32.ofInt ((w : Int) % (m : Int))), .int (Int32.ofInt (m : Int))] h Post := by
  rw [show (w : Int) % (m : Int) = ((w % m : Nat) : Int) from (Int.natCast_emod w m).symm]
  have l_ := Nat.mod_lt w (y := m) (by omega)
  refine nu_gcd_M g.1 (by omega) (by omega) ?_
  rw [nu_gcd_mod]
  exact hP
set_option maxHeartbeats 4000000 in
theorem zy_common_M {l : Launch} {G : am_G} {X : ck_XT} (g : gM l G X) {w m : Nat} {h : List am_C} (hw1 : 1 ≤ w) (hw2 : w ≤ 1000000000000000000) (hm : 1 ≤ m) (hm2 : m ≤ 999) {mc ms : Nat} {Post : am_O → List am_C → Prop}
    (hP : ∀ t : Nat, m = Nat.gcd w m * t → Post (.inl (some (.long (Int64.ofInt ((w : Int) * (t : Int)))))) h) :
    am_M l G yX14_common (.code yX14_common prog_14_method_30_code 3 (some .long)) 2 43 mc ms [.long (Int64.ofInt (w : Int)), .int (Int32.ofInt (m : Int))] h Post := by
  refine gh_yX14_common_X g (Nat.le_of_ble_eq_true rfl) fun S SX hs hr hw hx => ?_
  have rv : ∀ x : Int32, ck_fv 0 (.int x) := fun x => ⟨_, rfl⟩
  obtain ⟨w_, t_, hw_, ht_, hc_, h0_, g0_⟩ := zj_parts w m (by omega)
  have gl_ : Nat.gcd w m ≤ m := Nat.gcd_le_right w (by omega)
  have rm0_ := Int.emod_nonneg (w : Int) (b := (m : Int)) (by omega)
  have rm1_ := Int.emod_lt_of_pos (w : Int) (b := (m : Int)) (by omega)
  have e1_ : (w : Int) / ((Nat.gcd w m : Nat) : Int) = (w_ : Int) := Int.ediv_eq_of_eq_mul_right (by omega) (by rw [← Int.natCast_mul, ← hw_])
  have wt_ : (w_ : Int) * (m : Int) = (w : Int) * (t_ : Int) := by
    have a_ : w_ * m = w * t_ := by
      have a1_ : w * t_ = Nat.gcd w m * w_ * t_ := congrArg (· * t_) hw_
      have a2_ : w_ * m = w_ * (Nat.gcd w m * t_) := congrArg (w_ * ·) ht_
      rw [a1_, a2_, Nat.mul_assoc, Nat.mul_left_comm]
    rw [← Int.natCast_mul, ← Int.natCast_mul, a_]
  refine hs 0 _ rfl _ _ _ _ _ _ _ rfl ?_
  refine hs 1 _ rfl _ _ _ _ _ _ _ rfl ?_
  refine hs 2 _ rfl _ _ _ _ _ _ _ rfl ?_
  refine hs 3 _ rfl _ _ _ _ _ _ _ (hd_i2l (by omega) (by omega)) ?_
  refine hs 4 _ rfl _ _ _ _ _ _ _ (hd_lrem (by omega) (by omega) (by omega) (by omega)) ?_
  refine hs 5 _ rfl _ _ _ _ _ _ _ (hd_l2i (by omega) (by omega)) ?_
  refine hs 6 _ rfl _ _ _ _ _ _ _ rfl ?_
  refine zw_c (hs 7 _ rfl) (a := [.int (Int32.ofInt ((w : Int) % (m : Int))), .int (Int32.ofInt (m : Int))]) (st := [.long (Int64.ofInt (w : Int))]) rfl rfl (Nat.le_of_ble_eq_true rfl) trivial (Nat.zero_le _) (Nat.zero_le _) (zy_gcd_M g (by omega) (by omega) ?_)
  show S 10 [some (.long (Int64.ofInt (w : Int))), none, some (.int (Int32.ofInt (m : Int)))] [.int (Int32.ofInt ((Nat.gcd w m : Nat) : Int)), .long (Int64.ofInt (w : Int))] _ _ _
  refine hs 8 _ rfl _ _ _ _ _ _ _ (hd_i2l (by omega) (by omega)) ?_
  refine hs 9 _ rfl _ _ _ _ _ _ _ (zj_ldivE (by omega) (by omega) (by omega) (by omega) e1_) ?_
  refine hs 10 _ rfl _ _ _ _ _ _ _ rfl ?_
  refine hs 11 _ rfl _ _ _ _ _ _ _ (hd_i2l (by omega) (by omega)) ?_
  refine hs 12 _ rfl _ _ _ _ _ _ _ hd_lmul ?_
  exact hs 13 _ rfl _ _ _ _ _ ⟨_, rfl⟩ (Nat.zero_le _) (Nat.zero_le _) (by rw [wt_]; exact hP t_ ht_)
set_option maxHeartbeats 4000000 in
theorem zy_tried_M {l : Launch} {G : am_G} {X : ck_XT} (g : gM l G X) {n r_ : Int} {w m q t : Nat} {h : List am_C} (hn0 : 0 ≤ n) (hn1 : n ≤ 1000000000000000000) (hw2 : w ≤ 1000000000000000000) (hm : 1 ≤ m) (hm2 : m ≤ 999) (hr0 : 0 ≤ r_) (hr1 : r_ < (m : Int)) (ht : t % 100 = 50) (hg : am_g G h q = some (t, hd_r [r_, (m : Int)])) {mc ms : Nat} {Post : am_O → List am_C → Prop}
    (hP1 : ∀ k : Nat, k < m → (n % (m : Int) + (k : Int) * ((w : Int) % (m : Int))) % (m : Int) = r_ → (∀ j : Nat, j < k → ¬ (n % (m : Int) + (j : Int) * ((w : Int) % (m : Int))) % (m : Int) = r_) → Post (.inl (some (.int (Int32.ofInt (k : Int))))) h)
    (hP0 : (∀ j : Nat, j < m → ¬ (n % (m : Int) + (j : Int) * ((w : Int) % (m : Int))) % (m : Int) = r_) → Post (.inl (some (.int (Int32.ofInt (-1))))) h) :
    am_M l G yX14_tried (.code yX14_tried prog_14_method_29_code 6 (some .int)) 1 20 mc ms [.long (Int64.ofInt n), .long (Int64.ofInt (w : Int)), .ref q] h Post := by
  refine gh_yX14_tried_X g (Nat.le_of_ble_eq_true rfl) fun S SX hs hr hw hx => ?_
  have rv : ∀ x : Int32, ck_fv 0 (.int x) := fun x => ⟨_, rfl⟩
  have n0_ := Int.emod_nonneg n (b := (m : Int)) (by omega)
  have n1_ := Int.emod_lt_of_pos n (b := (m : Int)) (by omega)
  have s0_ := Int.emod_nonneg (w : Int) (b := (m : Int)) (by omega)
  have s1_ := Int.emod_lt_of_pos (w : Int) (b := (m : Int)) (by omega)
  have loop_ : ∀ (m_ k_ : Nat), k_ + m_ = m → (∀ j : Nat, j < k_ → ¬ (n % (m : Int) + (j : Int) * ((w : Int) % (m : Int))) % (m : Int) = r_) → S 3 [some (.long (Int64.ofInt n)), none, some (.long (Int64.ofInt (w : Int))), none, some (.ref q), some (.int (Int32.ofInt (k_ : Int)))] [] h 0 0 := by
    intro m_
    induction m_ with
    | zero =>
      intro k_ hk_ hn_
      refine hs 2 _ rfl _ _ _ _ _ _ _ rfl ?_
      refine hs 3 _ rfl _ _ _ _ _ _ _ rfl ?_
      refine hs 4 _ rfl _ _ _ _ _ _ _ rfl ?_
      refine hd_A (hs 5 _ rfl) (by decide) (by decide) (hg) ht (j := 1) (by omega) (by omega) rfl ?_
      refine hs 6 _ rfl _ _ _ _ _ _ _ (fun _ => ?_) (fun zq => absurd (hd_c2t (c := 3) (by omega) (by omega) (by omega) (by omega) (by omega : 0 ≤ ((k_ : Int) - (m : Int)))) zq)
      refine hs 38 _ rfl _ _ _ _ _ _ _ rfl ?_
      exact hs 39 _ rfl _ _ _ _ _ (rv _) (Nat.zero_le _) (Nat.zero_le _) (hP0 fun j hj => hn_ j (by omega))
    | succ m_ ih_ =>
      intro k_ hk_ hn_
      have p0_ := Int.mul_nonneg (show (0 : Int) ≤ (k_ : Int) by omega) s0_
      have p1_ : (k_ : Int) * ((w : Int) % (m : Int)) ≤ 1000 * 1000 := Int.mul_le_mul (by omega) (by omega) s0_ (by decide)
      have u0_ := Int.emod_nonneg (n % (m : Int) + (k_ : Int) * ((w : Int) % (m : Int))) (b := (m : Int)) (by omega)
      have u1_ := Int.emod_lt_of_pos (n % (m : Int) + (k_ : Int) * ((w : Int) % (m : Int))) (b := (m : Int)) (by omega)
      obtain ⟨c_, q1_, q2_, q3_⟩ := zy_sg ((n % (m : Int) + (k_ : Int) * ((w : Int) % (m : Int))) % (m : Int)) r_
      by_cases c0_ : c_ = 0
      · 
        refine hs 2 _ rfl _ _ _ _ _ _ _ rfl ?_
        refine hs 3 _ rfl _ _ _ _ _ _ _ rfl ?_
        refine hs 4 _ rfl _ _ _ _ _ _ _ rfl ?_
        refine hd_A (hs 5 _ rfl) (by decide) (by decide) (hg) ht (j := 1) (by omega) (by omega) rfl ?_
        refine hs 6 _ rfl _ _ _ _ _ _ _ (fun zq => absurd (hd_c2z (c := 3) (by omega) (by omega) (by omega) (by omega) zq) (by omega : ¬ (0 ≤ ((k_ : Int) - (m : Int))))) (fun _ => ?_)
        refine hs 7 _ rfl _ _ _ _ _ _ _ rfl ?_
        refine hs 8 _ rfl _ _ _ _ _ _ _ rfl ?_
        refine hs 9 _ rfl _ _ _ _ _ _ _ rfl ?_
        refine hd_A (hs 10 _ rfl) (by decide) (by decide) (hg) ht (j := 1) (by omega) (by omega) rfl ?_
        refine hs 11 _ rfl _ _ _ _ _ _ _ (hd_i2l (by omega) (by omega)) ?_
        refine hs 12 _ rfl _ _ _ _ _ _ _ (hd_lrem (by omega) (by omega) (by omega) (by omega)) ?_
        refine hs 13 _ rfl _ _ _ _ _ _ _ rfl ?_
        refine hs 14 _ rfl _ _ _ _ _ _ _ (hd_i2l (by omega) (by omega)) ?_
        refine hs 15 _ rfl _ _ _ _ _ _ _ rfl ?_
        refine hs 16 _ rfl _ _ _ _ _ _ _ rfl ?_
        refine hs 17 _ rfl _ _ _ _ _ _ _ rfl ?_
        refine hd_A (hs 18 _ rfl) (by decide) (by decide) (hg) ht (j := 1) (by omega) (by omega) rfl ?_
        refine hs 19 _ rfl _ _ _ _ _ _ _ (hd_i2l (by omega) (by omega)) ?_
        refine hs 20 _ rfl _ _ _ _ _ _ _ (hd_lrem (by omega) (by omega) (by omega) (by omega)) ?_
        refine hs 21 _ rfl _ _ _ _ _ _ _ hd_lmul ?_
        refine hs 22 _ rfl _ _ _ _ _ _ _ hd_ladd ?_
        refine hs 23 _ rfl _ _ _ _ _ _ _ rfl ?_
        refine hs 24 _ rfl _ _ _ _ _ _ _ rfl ?_
        refine hd_A (hs 25 _ rfl) (by decide) (by decide) (hg) ht (j := 1) (by omega) (by omega) rfl ?_
        refine hs 26 _ rfl _ _ _ _ _ _ _ (hd_i2l (by omega) (by omega)) ?_
        refine hs 27 _ rfl _ _ _ _ _ _ _ (hd_lrem (by omega) (by omega) (by omega) (by omega)) ?_
        refine hs 28 _ rfl _ _ _ _ _ _ _ rfl ?_
        refine hs 29 _ rfl _ _ _ _ _ _ _ rfl ?_
        refine hd_A (hs 30 _ rfl) (by decide) (by decide) (hg) ht (j := 0) (by omega) (by omega) rfl ?_
        refine hs 31 _ rfl _ _ _ _ _ _ _ (hd_i2l (by omega) (by omega)) ?_
        refine hs 32 _ rfl _ _ _ _ _ _ _ (zw_lcmpE (by omega) (by omega) (by omega) (by omega) q1_) ?_
        refine hs 33 _ rfl _ _ _ _ _ _ (fun zq => absurd (hd_c1z (c := 1) (by omega) (by omega) zq) (by omega : ¬ (c_ ≠ 0))) (fun _ => ?_)
        refine hs 34 _ rfl _ _ _ _ _ _ _ rfl ?_
        exact hs 35 _ rfl _ _ _ _ _ (rv _) (Nat.zero_le _) (Nat.zero_le _) (hP1 k_ (by omega) (q3_.mp c0_) hn_)
      · 
        refine hs 2 _ rfl _ _ _ _ _ _ _ rfl ?_
        refine hs 3 _ rfl _ _ _ _ _ _ _ rfl ?_
        refine hs 4 _ rfl _ _ _ _ _ _ _ rfl ?_
        refine hd_A (hs 5 _ rfl) (by decide) (by decide) (hg) ht (j := 1) (by omega) (by omega) rfl ?_
        refine hs 6 _ rfl _ _ _ _ _ _ _ (fun zq => absurd (hd_c2z (c := 3) (by omega) (by omega) (by omega) (by omega) zq) (by omega : ¬ (0 ≤ ((k_ : Int) - (m : Int))))) (fun _ => ?_)
        refine hs 7 _ rfl _ _ _ _ _ _ _ rfl ?_
        refine hs 8 _ rfl _ _ _ _ _ _ _ rfl ?_
        refine hs 9 _ rfl _ _ _ _ _ _ _ rfl ?_
        refine hd_A (hs 10 _ rfl) (by decide) (by decide) (hg) ht (j := 1) (by omega) (by omega) rfl ?_
        refine hs 11 _ rfl _ _ _ _ _ _ _ (hd_i2l (by omega) (by omega)) ?_
        refine hs 12 _ rfl _ _ _ _ _ _ _ (hd_lrem (by omega) (by omega) (by omega) (by omega)) ?_
        refine hs 13 _ rfl _ _ _ _ _ _ _ rfl ?_
        refine hs 14 _ rfl _ _ _ _ _ _ _ (hd_i2l (by omega) (by omega)) ?_
        refine hs 15 _ rfl _ _ _ _ _ _ _ rfl ?_
        refine hs 16 _ rfl _ _ _ _ _ _ _ rfl ?_
        refine hs 17 _ rfl _ _ _ _ _ _ _ rfl ?_
        refine hd_A (hs 18 _ rfl) (by decide) (by decide) (hg) ht (j := 1) (by omega) (by omega) rfl ?_
        refine hs 19 _ rfl _ _ _ _ _ _ _ (hd_i2l (by omega) (by omega)) ?_
        refine hs 20 _ rfl _ _ _ _ _ _ _ (hd_lrem (by omega) (by omega) (by omega) (by omega)) ?_
        refine hs 21 _ rfl _ _ _ _ _ _ _ hd_lmul ?_
        refine hs 22 _ rfl _ _ _ _ _ _ _ hd_ladd ?_
        refine hs 23 _ rfl _ _ _ _ _ _ _ rfl ?_
        refine hs 24 _ rfl _ _ _ _ _ _ _ rfl ?_
        refine hd_A (hs 25 _ rfl) (by decide) (by decide) (hg) ht (j := 1) (by omega) (by omega) rfl ?_
        refine hs 26 _ rfl _ _ _ _ _ _ _ (hd_i2l (by omega) (by omega)) ?_
        refine hs 27 _ rfl _ _ _ _ _ _ _ (hd_lrem (by omega) (by omega) (by omega) (by omega)) ?_
        refine hs 28 _ rfl _ _ _ _ _ _ _ rfl ?_
        refine hs 29 _ rfl _ _ _ _ _ _ _ rfl ?_
        refine hd_A (hs 30 _ rfl) (by decide) (by decide) (hg) ht (j := 0) (by omega) (by omega) rfl ?_
        refine hs 31 _ rfl _ _ _ _ _ _ _ (hd_i2l (by omega) (by omega)) ?_
        refine hs 32 _ rfl _ _ _ _ _ _ _ (zw_lcmpE (by omega) (by omega) (by omega) (by omega) q1_) ?_
        refine hs 33 _ rfl _ _ _ _ _ _ (fun _ => ?_) (fun zq => absurd (hd_c1t (c := 1) (by omega) (by omega) (by omega : c_ ≠ 0)) zq)
        refine hs 36 _ rfl _ _ _ _ _ _ _ (hd_inc rfl) ?_
        refine hs 37 _ rfl _ _ _ _ _ ?_
        rw [show ((k_ : Int) + (1 : Int)) = ((k_ + 1 : Nat) : Int) by omega]
        refine ih_ (k_ + 1) (by omega) fun j hj => ?_
        by_cases jk_ : j = k_
        · rw [jk_]
          exact fun y_ => c0_ (q3_.mpr y_)
        · exact hn_ j (by omega)
  refine hs 0 _ rfl _ _ _ _ _ _ _ rfl ?_
  refine hs 1 _ rfl _ _ _ _ _ _ _ rfl ?_
  exact loop_ m 0 (by omega) fun j hj => absurd hj (Nat.not_lt_zero _)
end
section
/-! LISTS, TO BE WALKED BY HAND -/
def gt_yJx4a65c_size_8abf5_X : ck_TB := ([], [], [], [(48, 6, 2)], [], [], [], [], ([], [], [], []), [], [], [], 0)
def ge_yJx4a65c_size_8abf5_X : ck_E := (gT, [], (([], [], [], 0, []), ((0, []), (0, [])), [], [], ([], [], [], 0, []), []), 1, [(0, (0, 5, 0, 0, 1, 0, [])), (1, (7, 6, 2, 0, 4, 0, [])), (4, (14, 0, 0, 0, 0, 0, []))], [], [], [], [])
theorem gd_yJx4a65c_size_8abf5_X : ck_dec prog_46_method_8_code gt_yJx4a65c_size_8abf5_X ge_yJx4a65c_size_8abf5_X.2.2.2.2.1 = true := by decide +kernel
theorem gh_yJx4a65c_size_8abf5_X {l : Launch} {G : am_G} {X : ck_XT} (g : gM l G X) {a : List Value} {h : List am_C} {mc ms : Nat} {Post : am_O → List am_C → Prop} (hay : (am_lay a).length ≤ 1) (H : ∀ (S : ck_SS) (SX : Nat → ck_SX), ck_hs G S SX Post mc ms (ck_cms []) ge_yJx4a65c_size_8abf5_X → (∀ pc, ck_sR G S pc) → ck_hw S → zw_hx SX Post mc ms → S 0 (am_ent a 1) [] h 0 0) : am_M l G yJx4a65c_size_8abf5 (.code yJx4a65c_size_8abf5 prog_46_method_8_code 1 (some .int)) 1 20 mc ms a h Post :=
  zw_handX (E := ge_yJx4a65c_size_8abf5_X) (tb := gt_yJx4a65c_size_8abf5_X) (init := false) (cm := (ck_cms [])) g.1.1 (by decide +kernel) rfl gd_yJx4a65c_size_8abf5_X ⟨(List.forall_mem_nil _), (List.forall_mem_nil _), (List.forall_mem_nil _), (List.forall_mem_cons.mpr ⟨⟨⟨_, _, _, rfl, Or.inl w1686⟩, by decide, _, _, g_fd6_2⟩, (List.forall_mem_nil _)⟩), (List.forall_mem_nil _), (List.forall_mem_nil _), (List.forall_mem_nil _), (List.forall_mem_nil _)⟩ (List.forall_mem_nil _) (fun h => nomatch h) ⟨_, rfl, rfl⟩ (by decide) (by decide) g_oi g_ar
    (fun s hk _ => (List.forall_mem_nil _)) (fun s hk => (List.forall_mem_nil _))
    (List.forall_mem_nil _) (List.forall_mem_nil _) (List.forall_mem_nil _) (List.forall_mem_nil _)
    (List.forall_mem_nil _) hay H
def gt_yJx4a65c_isEmpty_aae02_X : ck_TB := ([], [], [], [(48, 6, 2)], [], [], [], [], ([], [], [], []), [], [], [], 1)
def ge_yJx4a65c_isEmpty_aae02_X : ck_E := (gT, [], (([], [], [], 0, []), ((0, []), (0, [])), [], [], ([], [], [], 0, []), []), 1, [(0, (0, 5, 0, 0, 1, 0, [])), (1, (7, 6, 2, 0, 4, 0, [])), (4, (1, 1, 0, 0, 7, 11, [])), (7, (0, 0, 0, 1, 8, 0, [])), (8, (3, 0, 0, 0, 0, 12, [])), (11, (0, 0, 0, 0, 12, 0, [])), (12, (14, 0, 0, 1, 0, 0, []))], [], [], [], [])
theorem gd_yJx4a65c_isEmpty_aae02_X : ck_dec prog_46_method_9_code gt_yJx4a65c_isEmpty_aae02_X ge_yJx4a65c_isEmpty_aae02_X.2.2.2.2.1 = true := by decide +kernel
theorem gh_yJx4a65c_isEmpty_aae02_X {l : Launch} {G : am_G} {X : ck_XT} (g : gM l G X) {a : List Value} {h : List am_C} {mc ms : Nat} {Post : am_O → List am_C → Prop} (hay : (am_lay a).length ≤ 1) (H : ∀ (S : ck_SS) (SX : Nat → ck_SX), ck_hs G S SX Post mc ms (ck_cms []) ge_yJx4a65c_isEmpty_aae02_X → (∀ pc, ck_sR G S pc) → ck_hw S → zw_hx SX Post mc ms → S 0 (am_ent a 1) [] h 0 0) : am_M l G yJx4a65c_isEmpty_aae02 (.code yJx4a65c_isEmpty_aae02 prog_46_method_9_code 1 (some .boolean)) 1 20 mc ms a h Post :=
  zw_handX (E := ge_yJx4a65c_isEmpty_aae02_X) (tb := gt_yJx4a65c_isEmpty_aae02_X) (init := false) (cm := (ck_cms [])) g.1.1 (by decide +kernel) rfl gd_yJx4a65c_isEmpty_aae02_X ⟨(List.forall_mem_nil _), (List.forall_mem_nil _), (List.forall_mem_nil _), (List.forall_mem_cons.mpr ⟨⟨⟨_, _, _, rfl, Or.inl w1686⟩, by decide, _, _, g_fd6_2⟩, (List.forall_mem_nil _)⟩), (List.forall_mem_nil _), (List.forall_mem_nil _), (List.forall_mem_nil _), (List.forall_mem_nil _)⟩ (List.forall_mem_nil _) (fun h => nomatch h) ⟨_, rfl, rfl⟩ (by decide) (by decide) g_oi g_ar
    (fun s hk _ => (List.forall_mem_nil _)) (fun s hk => (List.forall_mem_nil _))
    (List.forall_mem_nil _) (List.forall_mem_nil _) (List.forall_mem_nil _) (List.forall_mem_nil _)
    (List.forall_mem_nil _) hay H
def gt_yJx4a65c_elementData_915e3_X : ck_TB := ([], [], [], [(9, 6, 1)], [], [], [], [], ([], [], [], []), [], [], [], 4)
def ge_yJx4a65c_elementData_915e3_X : ck_E := (gT, [], (([], [], [], 0, []), ((0, []), (0, [])), [], [], ([], [], [], 0, []), []), 2, [(0, (0, 5, 0, 0, 1, 0, [])), (1, (7, 6, 1, 0, 4, 0, [])), (4, (0, 3, 1, 0, 5, 0, [])), (5, (12, 53, 58, 0, 6, 0, [])), (6, (14, 0, 0, 4, 0, 0, []))], [], [], [], [])
theorem gd_yJx4a65c_elementData_915e3_X : ck_dec prog_46_method_18_code gt_yJx4a65c_elementData_915e3_X ge_yJx4a65c_elementData_915e3_X.2.2.2.2.1 = true := by decide +kernel
theorem gh_yJx4a65c_elementData_915e3_X {l : Launch} {G : am_G} {X : ck_XT} (g : gM l G X) {a : List Value} {h : List am_C} {mc ms : Nat} {Post : am_O → List am_C → Prop} (hay : (am_lay a).length ≤ 2) (H : ∀ (S : ck_SS) (SX : Nat → ck_SX), ck_hs G S SX Post mc ms (ck_cms []) ge_yJx4a65c_elementData_915e3_X → (∀ pc, ck_sR G S pc) → ck_hw S → zw_hx SX Post mc ms → S 0 (am_ent a 2) [] h 0 0) : am_M l G yJx4a65c_elementData_915e3 (.code yJx4a65c_elementData_915e3 prog_46_method_18_code 2 (some (.object "java/lang/Object"))) 1 20 mc ms a h Post :=
  zw_handX (E := ge_yJx4a65c_elementData_915e3_X) (tb := gt_yJx4a65c_elementData_915e3_X) (init := false) (cm := (ck_cms [])) g.1.1 (by decide +kernel) rfl gd_yJx4a65c_elementData_915e3_X ⟨(List.forall_mem_nil _), (List.forall_mem_nil _), (List.forall_mem_nil _), (List.forall_mem_cons.mpr ⟨⟨⟨_, _, _, rfl, Or.inl w1683⟩, by decide, _, _, g_fd6_1⟩, (List.forall_mem_nil _)⟩), (List.forall_mem_nil _), (List.forall_mem_nil _), (List.forall_mem_nil _), (List.forall_mem_nil _)⟩ (List.forall_mem_nil _) (fun h => nomatch h) ⟨_, rfl, Or.inl ⟨_, rfl⟩⟩ (by decide) (by decide) g_oi g_ar
    (fun s hk _ => (List.forall_mem_nil _)) (fun s hk => (List.forall_mem_nil _))
    (List.forall_mem_nil _) (List.forall_mem_nil _) (List.forall_mem_nil _) (List.forall_mem_nil _)
    (List.forall_mem_nil _) hay H
def gt_yJx35411_checkForComodification_da8c8_X : ck_TB := ([], [], [], [(1, 5, 3), (17, 6, 0), (22, 5, 2)], [], [], [], [], ([], [], [], []), [], [], [], 9)
def ge_yJx35411_checkForComodification_da8c8_X : ck_E := (gT, [], (([], [], [], 0, []), ((0, []), (0, [])), [], [], ([], [], [], 0, []), []), 1, [(0, (0, 5, 0, 0, 1, 0, [])), (1, (7, 5, 3, 0, 4, 0, [])), (4, (7, 6, 0, 0, 7, 0, [])), (7, (0, 5, 0, 0, 8, 0, [])), (8, (7, 5, 2, 0, 11, 0, [])), (11, (2, 0, 0, 0, 14, 22, [])), (22, (15, 0, 0, 0, 0, 0, []))], [], [], [], [])
theorem gd_yJx35411_checkForComodification_da8c8_X : ck_dec prog_47_method_6_code gt_yJx35411_checkForComodification_da8c8_X ge_yJx35411_checkForComodification_da8c8_X.2.2.2.2.1 = true := by decide +kernel
theorem gh_yJx35411_checkForComodification_da8c8_X {l : Launch} {G : am_G} {X : ck_XT} (g : gM l G X) {a : List Value} {h : List am_C} {mc ms : Nat} {Post : am_O → List am_C → Prop} (hay : (am_lay a).length ≤ 1) (H : ∀ (S : ck_SS) (SX : Nat → ck_SX), ck_hs G S SX Post mc ms (ck_cms []) ge_yJx35411_checkForComodification_da8c8_X → (∀ pc, ck_sR G S pc) → ck_hw S → zw_hx SX Post mc ms → S 0 (am_ent a 1) [] h 0 0) : am_M l G yJx35411_checkForComodification_da8c8 (.code yJx35411_checkForComodification_da8c8 prog_47_method_6_code 1 none) 1 20 mc ms a h Post :=
  zw_handX (E := ge_yJx35411_checkForComodification_da8c8_X) (tb := gt_yJx35411_checkForComodification_da8c8_X) (init := false) (cm := (ck_cms [])) g.1.1 (by decide +kernel) rfl gd_yJx35411_checkForComodification_da8c8_X ⟨(List.forall_mem_nil _), (List.forall_mem_nil _), (List.forall_mem_nil _), (List.forall_mem_cons.mpr ⟨⟨⟨_, _, _, rfl, Or.inl w1783⟩, by decide, _, _, g_fd5_3⟩, (List.forall_mem_cons.mpr ⟨⟨⟨_, _, _, rfl, Or.inr (Or.inr ⟨_, w1688, w1689⟩)⟩, by decide, _, _, g_fd6_0⟩, (List.forall_mem_cons.mpr ⟨⟨⟨_, _, _, rfl, Or.inl w1782⟩, by decide, _, _, g_fd5_2⟩, (List.forall_mem_nil _)⟩)⟩)⟩), (List.forall_mem_nil _), (List.forall_mem_nil _), (List.forall_mem_nil _), (List.forall_mem_nil _)⟩ (List.forall_mem_nil _) (fun h => nomatch h) rfl (by decide) (by decide) g_oi g_ar
    (fun s hk _ => (List.forall_mem_nil _)) (fun s hk => (List.forall_mem_nil _))
    (List.forall_mem_nil _) (List.forall_mem_nil _) (List.forall_mem_nil _) (List.forall_mem_nil _)
    (List.forall_mem_nil _) hay H
def gt_yJx35411_hasNext_aae02_X : ck_TB := ([], [], [], [(1, 5, 3), (25, 5, 0), (28, 6, 2)], [], [], [], [], ([], [], [], []), [], [], [], 1)
def ge_yJx35411_hasNext_aae02_X : ck_E := (gT, [], (([], [], [], 0, []), ((0, []), (0, [])), [], [], ([], [], [], 0, []), []), 1, [(0, (0, 5, 0, 0, 1, 0, [])), (1, (7, 5, 0, 0, 4, 0, [])), (4, (0, 5, 0, 0, 5, 0, [])), (5, (7, 5, 3, 0, 8, 0, [])), (8, (7, 6, 2, 0, 11, 0, [])), (11, (2, 0, 0, 0, 14, 18, [])), (14, (0, 0, 0, 1, 15, 0, [])), (15, (3, 0, 0, 0, 0, 19, [])), (18, (0, 0, 0, 0, 19, 0, [])), (19, (14, 0, 0, 1, 0, 0, []))], [], [], [], [])
theorem gd_yJx35411_hasNext_aae02_X : ck_dec prog_47_method_2_code gt_yJx35411_hasNext_aae02_X ge_yJx35411_hasNext_aae02_X.2.2.2.2.1 = true := by decide +kernel
theorem gh_yJx35411_hasNext_aae02_X {l : Launch} {G : am_G} {X : ck_XT} (g : gM l G X) {a : List Value} {h : List am_C} {mc ms : Nat} {Post : am_O → List am_C → Prop} (hay : (am_lay a).length ≤ 1) (H : ∀ (S : ck_SS) (SX : Nat → ck_SX), ck_hs G S SX Post mc ms (ck_cms []) ge_yJx35411_hasNext_aae02_X → (∀ pc, ck_sR G S pc) → ck_hw S → zw_hx SX Post mc ms → S 0 (am_ent a 1) [] h 0 0) : am_M l G yJx35411_hasNext_aae02 (.code yJx35411_hasNext_aae02 prog_47_method_2_code 1 (some .boolean)) 1 20 mc ms a h Post :=
  zw_handX (E := ge_yJx35411_hasNext_aae02_X) (tb := gt_yJx35411_hasNext_aae02_X) (init := false) (cm := (ck_cms [])) g.1.1 (by decide +kernel) rfl gd_yJx35411_hasNext_aae02_X ⟨(List.forall_mem_nil _), (List.forall_mem_nil _), (List.forall_mem_nil _), (List.forall_mem_cons.mpr ⟨⟨⟨_, _, _, rfl, Or.inl w1783⟩, by decide, _, _, g_fd5_3⟩, (List.forall_mem_cons.mpr ⟨⟨⟨_, _, _, rfl, Or.inl w1780⟩, by decide, _, _, g_fd5_0⟩, (List.forall_mem_cons.mpr ⟨⟨⟨_, _, _, rfl, Or.inr (Or.inl ⟨_, w1685⟩)⟩, by decide, _, _, g_fd6_2⟩, (List.forall_mem_nil _)⟩)⟩)⟩), (List.forall_mem_nil _), (List.forall_mem_nil _), (List.forall_mem_nil _), (List.forall_mem_nil _)⟩ (List.forall_mem_nil _) (fun h => nomatch h) ⟨_, rfl, rfl⟩ (by decide) (by decide) g_oi g_ar
    (fun s hk _ => (List.forall_mem_nil _)) (fun s hk => (List.forall_mem_nil _))
    (List.forall_mem_nil _) (List.forall_mem_nil _) (List.forall_mem_nil _) (List.forall_mem_nil _)
    (List.forall_mem_nil _) hay H
def gt_yJx35411_next_0502b_X : ck_TB := ([], [], [], [(1, 5, 3), (25, 5, 0), (28, 6, 2), (37, 6, 1)], [(13, 5, 1, 0), (25, 5, 0, 0)], [], [], [], ([(31, 0)], [], [], []), [], [], [], 4)
def ge_yJx35411_next_0502b_X : ck_E := (gT, [], (([], [], [], 0, []), ((0, []), (0, [])), [], [], ([], [], [], 0, []), []), 3, [(0, (0, 5, 0, 0, 1, 0, [])), (1, (16, 0, 0, 0, 4, 0, [])), (4, (0, 5, 0, 0, 5, 0, [])), (5, (7, 5, 0, 0, 8, 0, [])), (8, (0, 6, 1, 0, 9, 0, [])), (9, (0, 3, 1, 0, 10, 0, [])), (10, (0, 5, 0, 0, 11, 0, [])), (11, (7, 5, 3, 0, 14, 0, [])), (14, (7, 6, 2, 0, 17, 0, [])), (17, (2, 2, 0, 0, 20, 28, [])), (28, (0, 5, 0, 0, 29, 0, [])), (29, (7, 5, 3, 0, 32, 0, [])), (32, (7, 6, 1, 0, 35, 0, [])), (35, (0, 8, 2, 0, 36, 0, [])), (36, (0, 3, 1, 0, 37, 0, [])), (37, (0, 5, 2, 0, 38, 0, [])), (38, (11, 0, 0, 0, 39, 0, [])), (39, (2, 2, 0, 0, 42, 50, [])), (50, (0, 5, 0, 0, 51, 0, [])), (51, (0, 3, 1, 0, 52, 0, [])), (52, (0, 0, 0, 1, 53, 0, [])), (53, (0, 15, 0, 0, 54, 0, [])), (54, (8, 5, 0, 0, 57, 0, [])), (57, (0, 5, 2, 0, 58, 0, [])), (58, (0, 5, 0, 0, 59, 0, [])), (59, (0, 3, 1, 0, 60, 0, [])), (60, (0, 13, 0, 0, 61, 0, [])), (61, (8, 5, 1, 0, 64, 0, [])), (64, (12, 53, 58, 0, 65, 0, [])), (65, (14, 0, 0, 4, 0, 0, []))], [(some 5, 1, [])], [], [], [])
theorem gd_yJx35411_next_0502b_X : ck_dec prog_47_method_3_code gt_yJx35411_next_0502b_X ge_yJx35411_next_0502b_X.2.2.2.2.1 = true := by decide +kernel
theorem gh_yJx35411_next_0502b_X {l : Launch} {G : am_G} {X : ck_XT} (g : gM l G X) {a : List Value} {h : List am_C} {mc ms : Nat} {Post : am_O → List am_C → Prop} (hay : (am_lay a).length ≤ 3) (H : ∀ (S : ck_SS) (SX : Nat → ck_SX), ck_hs G S SX Post mc ms (ck_cms [am_cm l G yJx35411_checkForComodification_da8c8 (.code yJx35411_checkForComodification_da8c8 prog_47_method_6_code 1 none) 1 20]) ge_yJx35411_next_0502b_X → (∀ pc, ck_sR G S pc) → ck_hw S → zw_hx SX Post mc ms → S 0 (am_ent a 3) [] h 0 0) : am_M l G yJx35411_next_0502b (.code yJx35411_next_0502b prog_47_method_3_code 3 (some (.object "java/lang/Object"))) 2 40 mc ms a h Post :=
  zw_handX (E := ge_yJx35411_next_0502b_X) (tb := gt_yJx35411_next_0502b_X) (init := false) (cm := (ck_cms [am_cm l G yJx35411_checkForComodification_da8c8 (.code yJx35411_checkForComodification_da8c8 prog_47_method_6_code 1 none) 1 20])) g.1.1 (by decide +kernel) rfl gd_yJx35411_next_0502b_X ⟨(List.forall_mem_nil _), (List.forall_mem_nil _), (List.forall_mem_nil _), (List.forall_mem_cons.mpr ⟨⟨⟨_, _, _, rfl, Or.inl w1783⟩, by decide, _, _, g_fd5_3⟩, (List.forall_mem_cons.mpr ⟨⟨⟨_, _, _, rfl, Or.inl w1780⟩, by decide, _, _, g_fd5_0⟩, (List.forall_mem_cons.mpr ⟨⟨⟨_, _, _, rfl, Or.inr (Or.inl ⟨_, w1685⟩)⟩, by decide, _, _, g_fd6_2⟩, (List.forall_mem_cons.mpr ⟨⟨⟨_, _, _, rfl, Or.inl w1684⟩, by decide, _, _, g_fd6_1⟩, (List.forall_mem_nil _)⟩)⟩)⟩)⟩), (List.forall_mem_nil _), (List.forall_mem_nil _), (List.forall_mem_nil _), (List.forall_mem_nil _)⟩ (List.forall_mem_cons.mpr ⟨⟨⟨_, _, _, rfl, Or.inl w1781⟩, by decide, _, rfl, Or.inl g_fd5_1⟩, (List.forall_mem_cons.mpr ⟨⟨⟨_, _, _, rfl, Or.inl w1780⟩, by decide, _, rfl, Or.inl g_fd5_0⟩, (List.forall_mem_nil _)⟩)⟩) (fun h => nomatch h) ⟨_, rfl, Or.inl ⟨_, rfl⟩⟩ (by decide) (by decide) g_oi g_ar
    (fun s hk _ => (List.forall_mem_nil _)) (fun s hk => (List.forall_mem_nil _))
    (List.forall_mem_cons.mpr ⟨(ck_kV g_y_yJx35411_checkForComodification_da8c8 w1812 w1813 w1814 (T := TJx35411) (N := 4) rfl (by decide) (by decide) (by decide)), (List.forall_mem_nil _)⟩) (List.forall_mem_nil _) (List.forall_mem_nil _) (List.forall_mem_nil _)
    (List.forall_mem_nil _) hay H
def gt_yJx35411_init_45d68_X : ck_TB := ([], [], [], [(1, 5, 3), (17, 6, 0)], [(1, 5, 3, 4), (13, 5, 1, 0), (22, 5, 2, 0)], [], [], [], ([], [], [], []), [], [7], [], 9)
def ge_yJx35411_init_45d68_X : ck_E := (gT, [], (([], [], [], 0, []), ((0, []), (0, [])), [], [], ([], [], [], 0, []), []), 2, [(0, (0, 5, 0, 0, 1, 0, [])), (1, (0, 5, 1, 0, 2, 0, [])), (2, (8, 5, 3, 4, 5, 0, [])), (5, (0, 5, 0, 0, 6, 0, [])), (6, (18, 0, 0, 0, 9, 0, [])), (9, (0, 5, 0, 0, 10, 0, [])), (10, (0, 0, 0, (-1), 11, 0, [])), (11, (8, 5, 1, 0, 14, 0, [])), (14, (0, 5, 0, 0, 15, 0, [])), (15, (0, 5, 0, 0, 16, 0, [])), (16, (7, 5, 3, 0, 19, 0, [])), (19, (7, 6, 0, 0, 22, 0, [])), (22, (8, 5, 2, 0, 25, 0, [])), (25, (15, 0, 0, 0, 0, 0, []))], [], [], [], [])
theorem gd_yJx35411_init_45d68_X : ck_dec prog_47_method_1_code gt_yJx35411_init_45d68_X ge_yJx35411_init_45d68_X.2.2.2.2.1 = true := by decide +kernel
theorem gh_yJx35411_init_45d68_X {l : Launch} {G : am_G} {X : ck_XT} (g : gM l G X) {a : List Value} {h : List am_C} {mc ms : Nat} {Post : am_O → List am_C → Prop} (hay : (am_lay a).length ≤ 2) (H : ∀ (S : ck_SS) (SX : Nat → ck_SX), ck_hs G S SX Post mc ms (ck_cms []) ge_yJx35411_init_45d68_X → (∀ pc, ck_sR G S pc) → ck_hw S → zw_hx SX Post mc ms → S 0 (am_ent a 2) [] h 0 0) : am_M l G yJx35411_init_45d68 (.code yJx35411_init_45d68 prog_47_method_1_code 2 none) 1 20 mc ms a h Post :=
  zw_handX (E := ge_yJx35411_init_45d68_X) (tb := gt_yJx35411_init_45d68_X) (init := true) (cm := (ck_cms [])) g.1.1 (by decide +kernel) rfl gd_yJx35411_init_45d68_X ⟨(List.forall_mem_nil _), (List.forall_mem_nil _), (List.forall_mem_nil _), (List.forall_mem_cons.mpr ⟨⟨⟨_, _, _, rfl, Or.inl w1783⟩, by decide, _, _, g_fd5_3⟩, (List.forall_mem_cons.mpr ⟨⟨⟨_, _, _, rfl, Or.inr (Or.inr ⟨_, w1688, w1689⟩)⟩, by decide, _, _, g_fd6_0⟩, (List.forall_mem_nil _)⟩)⟩), (List.forall_mem_nil _), (List.forall_mem_nil _), (List.forall_mem_cons.mpr ⟨w1779, (List.forall_mem_nil _)⟩), (List.forall_mem_nil _)⟩ (List.forall_mem_cons.mpr ⟨⟨⟨_, _, _, rfl, Or.inl w1783⟩, by decide, _, Or.inl ⟨_, rfl⟩, Or.inr ⟨g_fd5_3, rfl, fun r hr => by cases hr; rfl⟩⟩, (List.forall_mem_cons.mpr ⟨⟨⟨_, _, _, rfl, Or.inl w1781⟩, by decide, _, rfl, Or.inl g_fd5_1⟩, (List.forall_mem_cons.mpr ⟨⟨⟨_, _, _, rfl, Or.inl w1782⟩, by decide, _, rfl, Or.inl g_fd5_2⟩, (List.forall_mem_nil _)⟩)⟩)⟩) (fun _ => rfl) rfl (by decide) (by decide) g_oi g_ar
    (fun s hk _ => (List.forall_mem_nil _)) (fun s hk => (List.forall_mem_nil _))
    (List.forall_mem_nil _) (List.forall_mem_nil _) (List.forall_mem_nil _) (List.forall_mem_nil _)
    (List.forall_mem_nil _) hay H
def gt_yJx4a65c_iterator_32c93_X : ck_TB := ([], [], [], [], [], [(267, 5, [0, 0, 0, 2])], [], [], ([], [(269, 0)], [], []), [], [], [], 4)
def ge_yJx4a65c_iterator_32c93_X : ck_E := (gT, [], (([], [], [], 0, []), ((0, []), (0, [])), [], [], ([], [], [], 0, []), []), 1, [(0, (9, 5, 5, 0, 3, 0, [(0, 0), (0, 0), (0, 0), (0, 2)])), (3, (0, 12, 0, 0, 4, 0, [])), (4, (0, 5, 0, 0, 5, 0, [])), (5, (16, 0, 0, 0, 8, 0, [])), (8, (14, 0, 0, 4, 0, 0, []))], [(some 5, 2, [])], [], [], [])
theorem gd_yJx4a65c_iterator_32c93_X : ck_dec prog_46_method_55_code gt_yJx4a65c_iterator_32c93_X ge_yJx4a65c_iterator_32c93_X.2.2.2.2.1 = true := by decide +kernel
theorem gh_yJx4a65c_iterator_32c93_X {l : Launch} {G : am_G} {X : ck_XT} (g : gM l G X) {a : List Value} {h : List am_C} {mc ms : Nat} {Post : am_O → List am_C → Prop} (hay : (am_lay a).length ≤ 1) (H : ∀ (S : ck_SS) (SX : Nat → ck_SX), ck_hs G S SX Post mc ms (ck_cms [am_cn l G yJx35411_init_45d68 (.code yJx35411_init_45d68 prog_47_method_1_code 2 none) 1 20]) ge_yJx4a65c_iterator_32c93_X → (∀ pc, ck_sR G S pc) → ck_hw S → zw_hx SX Post mc ms → S 0 (am_ent a 1) [] h 0 0) : am_M l G yJx4a65c_iterator_32c93 (.code yJx4a65c_iterator_32c93 prog_46_method_55_code 1 (some (.object "java/util/Iterator"))) 2 41 mc ms a h Post :=
  zw_handX (E := ge_yJx4a65c_iterator_32c93_X) (tb := gt_yJx4a65c_iterator_32c93_X) (init := false) (cm := (ck_cms [am_cn l G yJx35411_init_45d68 (.code yJx35411_init_45d68 prog_47_method_1_code 2 none) 1 20])) g.1.1 (by decide +kernel) rfl gd_yJx4a65c_iterator_32c93_X ⟨(List.forall_mem_nil _), (List.forall_mem_nil _), (List.forall_mem_nil _), (List.forall_mem_nil _), (List.forall_mem_cons.mpr ⟨⟨_, _, _, g_nw5, rfl, w1774, by decide⟩, (List.forall_mem_nil _)⟩), (List.forall_mem_nil _), (List.forall_mem_nil _), (List.forall_mem_nil _)⟩ (List.forall_mem_nil _) (fun h => nomatch h) ⟨_, rfl, Or.inl ⟨_, rfl⟩⟩ (by decide) (by decide) g_oi g_ar
    (fun s hk _ => (List.forall_mem_nil _)) (fun s hk => (List.forall_mem_nil _))
    (List.forall_mem_nil _) (List.forall_mem_cons.mpr ⟨(ck_kI g_y_yJx35411_init_45d68 w1776 w1777 rfl (by decide) (by decide)), (List.forall_mem_nil _)⟩) (List.forall_mem_nil _) (List.forall_mem_nil _)
    (List.forall_mem_nil _) hay H
end
section
/-! LISTS, EXACTLY: what reads them -/
theorem zw_Ln {G : am_G} {S : ck_SS} {pc nx q t k n N : Nat} {vs : List Value} {h : List am_C} {L : List (Option Value)} {st : List Value} (H : ck_sL G S pc nx) (hg : am_g G h q = some (t, vs)) (ht : t % 100 = 56) (hN : vs.length = N) (kk : S nx L (.int (Int32.ofInt (N : Int)) :: st) h k n) : S pc L (.ref q :: st) h k n := by
  refine H L st h k n q t _ hg (by omega) (by omega) ?_
  rw [hN, ← Int32.ofInt_eq_ofNat]
  exact kk
/-- a list at q with the row p behind it: it holds the references vs -/
def zl_L (G : am_G) (h : List am_C) (q p N : Nat) (mo : Int) (vs : List Nat) : Prop := ∃ (t tr : Nat) (ws : List Value), am_g G h q = some (t, [.int (Int32.ofInt mo), .ref p, .int (Int32.ofInt (vs.length : Int))]) ∧ t % 100 = 6 ∧ am_g G h p = some (tr, ws) ∧ tr % 100 = 56 ∧ ws.length = N ∧ vs.length ≤ N ∧ N ≤ 100 ∧ ∀ (i v : Nat), vs[i]? = some v → ws[i]? = some (.ref v)
theorem zl_L.keep {G : am_G} {h h' : List am_C} {q p N : Nat} {mo : Int} {vs : List Nat} (a : zl_L G h q p N mo vs) (f : ∀ (x : Nat) (c : am_C), (x = q ∨ x = p) → am_g G h x = some c → am_g G h' x = some c) : zl_L G h' q p N mo vs := by
  obtain ⟨t_, tr_, ws_, a1_, a2_, a3_, a4_⟩ := a
  exact ⟨t_, tr_, ws_, f _ _ (Or.inl rfl) a1_, a2_, f _ _ (Or.inr rfl) a3_, a4_⟩
set_option maxHeartbeats 4000000 in
theorem zl_size_M {l : Launch} {G : am_G} {X : ck_XT} (g : gM l G X) {q p N : Nat} {mo : Int} {vs : List Nat} {h : List am_C} (hl : zl_L G h q p N mo vs) {mc ms : Nat} {Post : am_O → List am_C → Prop} (hP : Post (.inl (some (.int (Int32.ofInt (vs.length : Int))))) h) :
    am_M l G yJx4a65c_size_8abf5 (.code yJx4a65c_size_8abf5 prog_46_method_8_code 1 (some .int)) 1 20 mc ms [.ref q] h Post := by
  refine gh_yJx4a65c_size_8abf5_X g (Nat.le_of_ble_eq_true rfl) fun S SX hs hr hw hx => ?_
  have rv : ∀ x : Int32, ck_fv 0 (.int x) := fun x => ⟨_, rfl⟩
  obtain ⟨t_, tr_, ws_, a1_, a2_, a3_, a4_, a5_, a6_, a7_, a8_⟩ := hl
  have al_ : ck_al 53 58 (tr_ % 100) = true := by rw [a4_]; rfl
  refine hs 0 _ rfl _ _ _ _ _ _ _ rfl ?_
  refine hs 1 _ rfl _ _ _ _ _ _ _ _ _ (a1_) a2_ rfl ?_
  exact hs 2 _ rfl _ _ _ _ _ (rv _) (Nat.zero_le _) (Nat.zero_le _) hP
set_option maxHeartbeats 4000000 in
theorem zl_isEmpty_M {l : Launch} {G : am_G} {X : ck_XT} (g : gM l G X) {q p N : Nat} {mo : Int} {vs : List Nat} {h : List am_C} (hl : zl_L G h q p N mo vs) {mc ms : Nat} {Post : am_O → List am_C → Prop} (hP1 : vs = [] → Post (.inl (some (.int (Int32.ofInt 1)))) h) (hP0 : vs ≠ [] → Post (.inl (some (.int (Int32.ofInt 0)))) h) :
    am_M l G yJx4a65c_isEmpty_aae02 (.code yJx4a65c_isEmpty_aae02 prog_46_method_9_code 1 (some .boolean)) 1 20 mc ms [.ref q] h Post := by
  refine gh_yJx4a65c_isEmpty_aae02_X g (Nat.le_of_ble_eq_true rfl) fun S SX hs hr hw hx => ?_
  have rv : ∀ x : Int32, ck_fv 0 (.int x) := fun x => ⟨_, rfl⟩
  obtain ⟨t_, tr_, ws_, a1_, a2_, a3_, a4_, a5_, a6_, a7_, a8_⟩ := hl
  have al_ : ck_al 53 58 (tr_ % 100) = true := by rw [a4_]; rfl
  by_cases c_ : vs.length = 0
  · 
    refine hs 0 _ rfl _ _ _ _ _ _ _ rfl ?_
    refine hs 1 _ rfl _ _ _ _ _ _ _ _ _ (a1_) a2_ rfl ?_
    refine hs 2 _ rfl _ _ _ _ _ _ (fun zq => absurd (hd_c1z (c := 1) (by omega) (by omega) zq) (by omega : ¬ ((vs.length : Int) ≠ 0))) (fun _ => ?_)
    refine hs 3 _ rfl _ _ _ _ _ _ _ rfl ?_
    refine hs 4 _ rfl _ _ _ _ _ ?_
    exact hs 6 _ rfl _ _ _ _ _ ⟨_, rfl, by decide, by decide⟩ (Nat.zero_le _) (Nat.zero_le _) (hP1 (List.length_eq_zero_iff.mp c_))
  · 
    refine hs 0 _ rfl _ _ _ _ _ _ _ rfl ?_
    refine hs 1 _ rfl _ _ _ _ _ _ _ _ _ (a1_) a2_ rfl ?_
    refine hs 2 _ rfl _ _ _ _ _ _ (fun _ => ?_) (fun zq => absurd (hd_c1t (c := 1) (by omega) (by omega) (by omega : (vs.length : Int) ≠ 0)) zq)
    refine hs 5 _ rfl _ _ _ _ _ _ _ rfl ?_
    exact hs 6 _ rfl _ _ _ _ _ ⟨_, rfl, by decide, by decide⟩ (Nat.zero_le _) (Nat.zero_le _) (hP0 fun y_ => c_ (by rw [y_]; rfl))
set_option maxHeartbeats 4000000 in
theorem zl_hasNext_M {l : Launch} {G : am_G} {X : ck_XT} (g : gM l G X) {q p N : Nat} {mo : Int} {vs : List Nat} {h : List am_C} (hl : zl_L G h q p N mo vs) {e te : Nat} {cu la : Int} (hie : am_g G h e = some (te, [.int (Int32.ofInt cu), .int (Int32.ofInt la), .int (Int32.ofInt mo), .ref q])) (hte : te % 100 = 5) (hmo1 : -2147483648 ≤ mo) (hmo2 : mo ≤ 2147483647) (hcu : 0 ≤ cu ∧ cu ≤ (vs.length : Int)) {mc ms : Nat} {Post : am_O → List am_C → Prop} (hP1 : cu < (vs.length : Int) → Post (.inl (some (.int (Int32.ofInt 1)))) h) (hP0 : cu = (vs.length : Int) → Post (.inl (some (.int (Int32.ofInt 0)))) h) :
    am_M l G yJx35411_hasNext_aae02 (.code yJx35411_hasNext_aae02 prog_47_method_2_code 1 (some .boolean)) 1 20 mc ms [.ref e] h Post := by
  refine gh_yJx35411_hasNext_aae02_X g (Nat.le_of_ble_eq_true rfl) fun S SX hs hr hw hx => ?_
  have rv : ∀ x : Int32, ck_fv 0 (.int x) := fun x => ⟨_, rfl⟩
  obtain ⟨t_, tr_, ws_, a1_, a2_, a3_, a4_, a5_, a6_, a7_, a8_⟩ := hl
  have al_ : ck_al 53 58 (tr_ % 100) = true := by rw [a4_]; rfl
  by_cases c_ : cu < (vs.length : Int)
  · 
    refine hs 0 _ rfl _ _ _ _ _ _ _ rfl ?_
    refine hs 1 _ rfl _ _ _ _ _ _ _ _ _ (hie) hte rfl ?_
    refine hs 2 _ rfl _ _ _ _ _ _ _ rfl ?_
    refine hs 3 _ rfl _ _ _ _ _ _ _ _ _ (hie) hte rfl ?_
    refine hs 4 _ rfl _ _ _ _ _ _ _ _ _ (a1_) a2_ rfl ?_
    refine hs 5 _ rfl _ _ _ _ _ _ _ (fun zq => absurd (hd_c2z (c := 0) (by omega) (by omega) (by omega) (by omega) zq) (by omega : ¬ ((cu - (vs.length : Int)) = 0))) (fun _ => ?_)
    refine hs 6 _ rfl _ _ _ _ _ _ _ rfl ?_
    refine hs 7 _ rfl _ _ _ _ _ ?_
    exact hs 9 _ rfl _ _ _ _ _ ⟨_, rfl, by decide, by decide⟩ (Nat.zero_le _) (Nat.zero_le _) (hP1 c_)
  · 
    refine hs 0 _ rfl _ _ _ _ _ _ _ rfl ?_
    refine hs 1 _ rfl _ _ _ _ _ _ _ _ _ (hie) hte rfl ?_
    refine hs 2 _ rfl _ _ _ _ _ _ _ rfl ?_
    refine hs 3 _ rfl _ _ _ _ _ _ _ _ _ (hie) hte rfl ?_
    refine hs 4 _ rfl _ _ _ _ _ _ _ _ _ (a1_) a2_ rfl ?_
    refine hs 5 _ rfl _ _ _ _ _ _ _ (fun _ => ?_) (fun zq => absurd (hd_c2t (c := 0) (by omega) (by omega) (by omega) (by omega) (by omega : (cu - (vs.length : Int)) = 0)) zq)
    refine hs 8 _ rfl _ _ _ _ _ _ _ rfl ?_
    exact hs 9 _ rfl _ _ _ _ _ ⟨_, rfl, by decide, by decide⟩ (Nat.zero_le _) (Nat.zero_le _) (hP0 (by omega))
set_option maxHeartbeats 4000000 in
theorem zl_check_M {l : Launch} {G : am_G} {X : ck_XT} (g : gM l G X) {q p N : Nat} {mo : Int} {vs : List Nat} {h : List am_C} (hl : zl_L G h q p N mo vs) {e te : Nat} {cu la : Int} (hie : am_g G h e = some (te, [.int (Int32.ofInt cu), .int (Int32.ofInt la), .int (Int32.ofInt mo), .ref q])) (hte : te % 100 = 5) (hmo1 : -2147483648 ≤ mo) (hmo2 : mo ≤ 2147483647) {mc ms : Nat} {Post : am_O → List am_C → Prop} (hP : Post (.inl none) h) :
    am_M l G yJx35411_checkForComodification_da8c8 (.code yJx35411_checkForComodification_da8c8 prog_47_method_6_code 1 none) 1 20 mc ms [.ref e] h Post := by
  refine gh_yJx35411_checkForComodification_da8c8_X g (Nat.le_of_ble_eq_true rfl) fun S SX hs hr hw hx => ?_
  have rv : ∀ x : Int32, ck_fv 0 (.int x) := fun x => ⟨_, rfl⟩
  obtain ⟨t_, tr_, ws_, a1_, a2_, a3_, a4_, a5_, a6_, a7_, a8_⟩ := hl
  have al_ : ck_al 53 58 (tr_ % 100) = true := by rw [a4_]; rfl
  refine hs 0 _ rfl _ _ _ _ _ _ _ rfl ?_
  refine hs 1 _ rfl _ _ _ _ _ _ _ _ _ (hie) hte rfl ?_
  refine hs 2 _ rfl _ _ _ _ _ _ _ _ _ (a1_) a2_ rfl ?_
  refine hs 3 _ rfl _ _ _ _ _ _ _ rfl ?_
  refine hs 4 _ rfl _ _ _ _ _ _ _ _ _ (hie) hte rfl ?_
  refine hs 5 _ rfl _ _ _ _ _ _ _ (fun _ => ?_) (fun zq => absurd (hd_c2t (c := 0) (by omega) (by omega) (by omega) (by omega) (by omega : (mo - mo) = 0)) zq)
  exact hs 6 _ rfl _ _ _ _ (Nat.zero_le _) (Nat.zero_le _) hP
set_option maxHeartbeats 4000000 in
theorem zl_next_M {l : Launch} {G : am_G} {X : ck_XT} (g : gM l G X) {q p N : Nat} {mo : Int} {vs : List Nat} {h : List am_C} (hl : zl_L G h q p N mo vs) {e te : Nat} {la : Int} {i_ v_ : Nat} (hie : am_g G h e = some (te, [.int (Int32.ofInt (i_ : Int)), .int (Int32.ofInt la), .int (Int32.ofInt mo), .ref q])) (hte : te % 100 = 5) (hmo1 : -2147483648 ≤ mo) (hmo2 : mo ≤ 2147483647) (he : 1000 ≤ e) (hv : vs[i_]? = some v_) (hq : q ≠ e) (hp : p ≠ e) {mc ms : Nat} {Post : am_O → List am_C → Prop}
    (hP : ∀ h', hd_w G h h' e (te, [.int (Int32.ofInt ((i_ + 1 : Nat) : Int)), .int (Int32.ofInt (i_ : Int)), .int (Int32.ofInt mo), .ref q]) → Post (.inl (some (.ref v_))) h') :
    am_M l G yJx35411_next_0502b (.code yJx35411_next_0502b prog_47_method_3_code 3 (some (.object "java/lang/Object"))) 2 40 mc ms [.ref e] h Post := by
  refine gh_yJx35411_next_0502b_X g (Nat.le_of_ble_eq_true rfl) fun S SX hs hr hw hx => ?_
  have rv : ∀ x : Int32, ck_fv 0 (.int x) := fun x => ⟨_, rfl⟩
  have hl0_ := hl
  obtain ⟨t_, tr_, ws_, a1_, a2_, a3_, a4_, a5_, a6_, a7_, a8_⟩ := hl0_
  have al_ : ck_al 53 58 (tr_ % 100) = true := by rw [a4_]; rfl
  have iv_ := (List.getElem?_eq_some_iff.mp hv).1
  refine hs 0 _ rfl _ _ _ _ _ _ _ rfl ?_
  refine zw_c (hs 1 _ rfl) (a := [.ref e]) (st := []) rfl rfl (Nat.le_of_ble_eq_true rfl) ⟨_, _, _, rfl, hie, hte⟩ (Nat.zero_le _) (Nat.zero_le _) (zl_check_M g hl hie hte hmo1 hmo2 ?_)
  show S 4 [some (.ref e), none, none] [] _ _ _
  refine hs 2 _ rfl _ _ _ _ _ _ _ rfl ?_
  refine hs 3 _ rfl _ _ _ _ _ _ _ _ _ (hie) hte rfl ?_
  refine hs 4 _ rfl _ _ _ _ _ _ _ rfl ?_
  refine hs 5 _ rfl _ _ _ _ _ _ _ rfl ?_
  refine hs 6 _ rfl _ _ _ _ _ _ _ rfl ?_
  refine hs 7 _ rfl _ _ _ _ _ _ _ _ _ (hie) hte rfl ?_
  refine hs 8 _ rfl _ _ _ _ _ _ _ _ _ (a1_) a2_ rfl ?_
  refine hs 9 _ rfl _ _ _ _ _ _ _ (fun _ => ?_) (fun zq => absurd (hd_c2t (c := 2) (by omega) (by omega) (by omega) (by omega) (by omega : ((i_ : Int) - (vs.length : Int)) < 0)) zq)
  refine hs 10 _ rfl _ _ _ _ _ _ _ rfl ?_
  refine hs 11 _ rfl _ _ _ _ _ _ _ _ _ (hie) hte rfl ?_
  refine hs 12 _ rfl _ _ _ _ _ _ _ _ _ (a1_) a2_ rfl ?_
  refine hs 13 _ rfl _ _ _ _ _ _ _ rfl ?_
  refine hs 14 _ rfl _ _ _ _ _ _ _ rfl ?_
  refine hs 15 _ rfl _ _ _ _ _ _ _ rfl ?_
  refine zw_Ln (hs 16 _ rfl) (a3_) a4_ a5_ ?_
  refine hs 17 _ rfl _ _ _ _ _ _ _ (fun _ => ?_) (fun zq => absurd (hd_c2t (c := 2) (by omega) (by omega) (by omega) (by omega) (by omega : ((i_ : Int) - (N : Int)) < 0)) zq)
  refine hs 18 _ rfl _ _ _ _ _ _ _ rfl ?_
  refine hs 19 _ rfl _ _ _ _ _ _ _ rfl ?_
  refine hs 20 _ rfl _ _ _ _ _ _ _ rfl ?_
  refine hs 21 _ rfl _ _ _ _ _ _ _ hd_add ?_
  refine zw_U (hs 22 _ rfl) (by omega) (hie) hte ⟨_, rfl⟩ fun hz187 wz188 => ?_
  have wz188 : hd_w G h hz187 e (te, [.int (Int32.ofInt ((i_ : Int) + (1 : Int))), .int (Int32.ofInt la), .int (Int32.ofInt mo), .ref q]) := wz188
  refine hs 23 _ rfl _ _ _ _ _ _ _ rfl ?_
  refine hs 24 _ rfl _ _ _ _ _ _ _ rfl ?_
  refine hs 25 _ rfl _ _ _ _ _ _ _ rfl ?_
  refine hs 26 _ rfl _ _ _ _ _ _ _ rfl ?_
  refine zw_U (hs 27 _ rfl) (by omega) (wz188.at) hte ⟨_, rfl⟩ fun hz189 wz190 => ?_
  have wz190 : hd_w G hz187 hz189 e (te, [.int (Int32.ofInt ((i_ : Int) + (1 : Int))), .int (Int32.ofInt (i_ : Int)), .int (Int32.ofInt mo), .ref q]) := wz190
  refine zw_Ar (hs 28 _ rfl) ((wz190.ne (by omega)).trans ((wz188.ne (by omega)).trans a3_)) al_ (j := i_) (by omega) (by omega) (a8_ i_ v_ hv) ?_
  have ww_ := hd_w.tr wz188 wz190
  exact hs 29 _ rfl _ _ _ _ _ (Or.inl ⟨_, rfl⟩) (Nat.zero_le _) (Nat.zero_le _) (hP _ ww_)
end
section
/-! LISTS, EXACTLY: iterators -/
set_option maxHeartbeats 4000000 in
theorem zl_itr_M {l : Launch} {G : am_G} {X : ck_XT} (g : gM l G X) {q p N : Nat} {mo : Int} {vs : List Nat} {h : List am_C} (hl : zl_L G h q p N mo vs) {e te : Nat} (hie : am_g G h e = some (te, [.int 0, .int 0, .int 0, .null])) (hte : te % 100 = 5) (he : 1000 ≤ e) (hq : q ≠ e) (hp : p ≠ e) {mc ms : Nat} {Post : am_O → List am_C → Prop}
    (hP : ∀ h', hd_w G h h' e (te, [.int (Int32.ofInt 0), .int (Int32.ofInt (-1)), .int (Int32.ofInt mo), .ref q]) → Post (.inl none) h') :
    am_M l G yJx35411_init_45d68 (.code yJx35411_init_45d68 prog_47_method_1_code 2 none) 1 20 mc ms [.ref e, .ref q] h Post := by
  refine gh_yJx35411_init_45d68_X g (Nat.le_of_ble_eq_true rfl) fun S SX hs hr hw hx => ?_
  have rv : ∀ x : Int32, ck_fv 0 (.int x) := fun x => ⟨_, rfl⟩
  obtain ⟨t_, tr_, ws_, a1_, a2_, a3_, a4_, a5_, a6_, a7_, a8_⟩ := hl
  have al_ : ck_al 53 58 (tr_ % 100) = true := by rw [a4_]; rfl
  refine hs 0 _ rfl _ _ _ _ _ _ _ rfl ?_
  refine hs 1 _ rfl _ _ _ _ _ _ _ rfl ?_
  refine zw_U (hs 2 _ rfl) (by omega) (hie) hte (Or.inl ⟨_, rfl⟩) fun hz191 wz192 => ?_
  have wz192 : hd_w G h hz191 e (te, [.int 0, .int 0, .int 0, .ref q]) := wz192
  refine hs 3 _ rfl _ _ _ _ _ _ _ rfl ?_
  refine hs 4 _ rfl _ _ _ _ _ _ rfl (Nat.le_of_ble_eq_true rfl) ?_
  refine hs 5 _ rfl _ _ _ _ _ _ _ rfl ?_
  refine hs 6 _ rfl _ _ _ _ _ _ _ rfl ?_
  refine zw_U (hs 7 _ rfl) (by omega) (wz192.at) hte ⟨_, rfl⟩ fun hz193 wz194 => ?_
  have wz194 : hd_w G hz191 hz193 e (te, [.int 0, .int (Int32.ofInt (-1 : Int)), .int 0, .ref q]) := wz194
  refine hs 8 _ rfl _ _ _ _ _ _ _ rfl ?_
  refine hs 9 _ rfl _ _ _ _ _ _ _ rfl ?_
  refine hs 10 _ rfl _ _ _ _ _ _ _ _ _ (wz194.at) hte rfl ?_
  refine hs 11 _ rfl _ _ _ _ _ _ _ _ _ ((wz194.ne (by omega)).trans ((wz192.ne (by omega)).trans a1_)) a2_ rfl ?_
  refine zw_U (hs 12 _ rfl) (by omega) (wz194.at) hte ⟨_, rfl⟩ fun hz195 wz196 => ?_
  have wz196 : hd_w G hz193 hz195 e (te, [.int 0, .int (Int32.ofInt (-1 : Int)), .int (Int32.ofInt mo), .ref q]) := wz196
  exact hs 13 _ rfl _ _ _ _ (Nat.zero_le _) (Nat.zero_le _) (hP _ (hd_w.tr (hd_w.tr wz192 wz194) wz196))
set_option maxHeartbeats 4000000 in
theorem zl_iter_M {l : Launch} {G : am_G} {X : ck_XT} (g : gM l G X) {q p N : Nat} {mo : Int} {vs : List Nat} {h : List am_C} (hl : zl_L G h q p N mo vs) {mc ms : Nat} {Post : am_O → List am_C → Prop}
    (hmc : 1 ≤ mc) (hms : 4 ≤ ms)
    (hP : ∀ (h' : List am_C) (e : Nat), zg G h h' → 1000 + h.length ≤ e → am_g G h' e = some (5, [.int (Int32.ofInt 0), .int (Int32.ofInt (-1)), .int (Int32.ofInt mo), .ref q]) → Post (.inl (some (.ref e))) h') :
    am_M l G yJx4a65c_iterator_32c93 (.code yJx4a65c_iterator_32c93 prog_46_method_55_code 1 (some (.object "java/util/Iterator"))) 2 41 mc ms [.ref q] h Post := by
  refine gh_yJx4a65c_iterator_32c93_X g (Nat.le_of_ble_eq_true rfl) fun S SX hs hr hw hx => ?_
  have rv : ∀ x : Int32, ck_fv 0 (.int x) := fun x => ⟨_, rfl⟩
  have hl0_ := hl
  obtain ⟨t_, tr_, ws_, a1_, a2_, a3_, a4_, a5_, a6_, a7_, a8_⟩ := hl0_
  have lq_ := zg_lt a1_
  have lp_ := zg_lt a3_
  refine zw_W (G := G) (hs 0 _ rfl) (t := 5) (vs := [.int 0, .int 0, .int 0, .null]) (m := 4) rfl rfl rfl (by omega) (by omega) fun hz197 az198 ez199 lz200 gz201 cz202 => ?_
  refine hs 1 _ rfl _ _ _ _ _ _ _ rfl ?_
  refine hs 2 _ rfl _ _ _ _ _ _ _ rfl ?_
  refine zw_cn (hs 3 _ rfl) (a := [.ref az198, .ref q]) (st := [.ref az198]) rfl rfl (Nat.le_of_ble_eq_true rfl) ⟨_, _, _, rfl, (cz202), rfl⟩ (by omega) (by omega) (⟨zl_itr_M g (zl_L.keep hl fun x c _ hg => gz201.2 _ _ hg) (cz202) rfl (by omega) (by omega) (by omega) fun hi_ wi_ => ?_, fun _ _ h9 => h9⟩)
  show S 8 [some (.ref q)] [.ref az198] _ _ _
  exact hs 4 _ rfl _ _ _ _ _ (Or.inl ⟨_, rfl⟩) (by omega) (by omega) (hP _ _ (gz201.w wi_ (by omega)) (by omega) wi_.at)
end
section
/-! A NEW LIST, TO BE WALKED BY HAND -/
def gt_yJxa1e45_init_da8c8_X : ck_TB := ([], [], [], [], [], [], [], [], ([], [], [], []), [], [1], [], 9)
def ge_yJxa1e45_init_da8c8_X : ck_E := (gT, [], (([], [], [], 0, []), ((0, []), (0, [])), [], [], ([], [], [], 0, []), []), 1, [(0, (0, 5, 0, 0, 1, 0, [])), (1, (18, 0, 0, 0, 4, 0, [])), (4, (15, 0, 0, 0, 0, 0, []))], [], [], [], [])
theorem gd_yJxa1e45_init_da8c8_X : ck_dec prog_44_method_1_code gt_yJxa1e45_init_da8c8_X ge_yJxa1e45_init_da8c8_X.2.2.2.2.1 = true := by decide +kernel
theorem gh_yJxa1e45_init_da8c8_X {l : Launch} {G : am_G} {X : ck_XT} (g : gM l G X) {a : List Value} {h : List am_C} {mc ms : Nat} {Post : am_O → List am_C → Prop} (hay : (am_lay a).length ≤ 1) (H : ∀ (S : ck_SS) (SX : Nat → ck_SX), ck_hs G S SX Post mc ms (ck_cms []) ge_yJxa1e45_init_da8c8_X → (∀ pc, ck_sR G S pc) → ck_hw S → zw_hx SX Post mc ms → S 0 (am_ent a 1) [] h 0 0) : am_M l G yJxa1e45_init_da8c8 (.code yJxa1e45_init_da8c8 prog_44_method_1_code 1 none) 1 20 mc ms a h Post :=
  zw_handX (E := ge_yJxa1e45_init_da8c8_X) (tb := gt_yJxa1e45_init_da8c8_X) (init := true) (cm := (ck_cms [])) g.1.1 (by decide +kernel) rfl gd_yJxa1e45_init_da8c8_X ⟨(List.forall_mem_nil _), (List.forall_mem_nil _), (List.forall_mem_nil _), (List.forall_mem_nil _), (List.forall_mem_nil _), (List.forall_mem_nil _), (List.forall_mem_cons.mpr ⟨w1680, (List.forall_mem_nil _)⟩), (List.forall_mem_nil _)⟩ (List.forall_mem_nil _) (fun _ => rfl) rfl (by decide) (by decide) g_oi g_ar
    (fun s hk _ => (List.forall_mem_nil _)) (fun s hk => (List.forall_mem_nil _))
    (List.forall_mem_nil _) (List.forall_mem_nil _) (List.forall_mem_nil _) (List.forall_mem_nil _)
    (List.forall_mem_nil _) hay H
def gt_yJxc12de_init_da8c8_X : ck_TB := ([], [], [], [], [(7, 6, 0, 0)], [], [], [], ([], [(1, 0)], [], []), [], [], [], 9)
def ge_yJxc12de_init_da8c8_X : ck_E := (gT, [], (([], [], [], 0, []), ((0, []), (0, [])), [], [], ([], [], [], 0, []), []), 1, [(0, (0, 5, 0, 0, 1, 0, [])), (1, (16, 0, 0, 0, 4, 0, [])), (4, (0, 5, 0, 0, 5, 0, [])), (5, (0, 0, 0, 0, 6, 0, [])), (6, (8, 6, 0, 0, 9, 0, [])), (9, (15, 0, 0, 0, 0, 0, []))], [(some 6, 1, [])], [], [], [])
theorem gd_yJxc12de_init_da8c8_X : ck_dec prog_45_method_1_code gt_yJxc12de_init_da8c8_X ge_yJxc12de_init_da8c8_X.2.2.2.2.1 = true := by decide +kernel
theorem gh_yJxc12de_init_da8c8_X {l : Launch} {G : am_G} {X : ck_XT} (g : gM l G X) {a : List Value} {h : List am_C} {mc ms : Nat} {Post : am_O → List am_C → Prop} (hay : (am_lay a).length ≤ 1) (H : ∀ (S : ck_SS) (SX : Nat → ck_SX), ck_hs G S SX Post mc ms (ck_cms [am_cn l G yJxa1e45_init_da8c8 (.code yJxa1e45_init_da8c8 prog_44_method_1_code 1 none) 1 20]) ge_yJxc12de_init_da8c8_X → (∀ pc, ck_sR G S pc) → ck_hw S → zw_hx SX Post mc ms → S 0 (am_ent a 1) [] h 0 0) : am_M l G yJxc12de_init_da8c8 (.code yJxc12de_init_da8c8 prog_45_method_1_code 1 none) 2 40 mc ms a h Post :=
  zw_handX (E := ge_yJxc12de_init_da8c8_X) (tb := gt_yJxc12de_init_da8c8_X) (init := true) (cm := (ck_cms [am_cn l G yJxa1e45_init_da8c8 (.code yJxa1e45_init_da8c8 prog_44_method_1_code 1 none) 1 20])) g.1.1 (by decide +kernel) rfl gd_yJxc12de_init_da8c8_X ⟨(List.forall_mem_nil _), (List.forall_mem_nil _), (List.forall_mem_nil _), (List.forall_mem_nil _), (List.forall_mem_nil _), (List.forall_mem_nil _), (List.forall_mem_nil _), (List.forall_mem_nil _)⟩ (List.forall_mem_cons.mpr ⟨⟨⟨_, _, _, rfl, Or.inl w1687⟩, by decide, _, rfl, Or.inl g_fd6_0⟩, (List.forall_mem_nil _)⟩) (fun _ => rfl) rfl (by decide) (by decide) g_oi g_ar
    (fun s hk _ => (List.forall_mem_nil _)) (fun s hk => (List.forall_mem_nil _))
    (List.forall_mem_nil _) (List.forall_mem_cons.mpr ⟨(ck_kI g_y_yJxa1e45_init_da8c8 w1677 w1678 rfl (by decide) (by decide)), (List.forall_mem_nil _)⟩) (List.forall_mem_nil _) (List.forall_mem_nil _)
    (List.forall_mem_nil _) hay H
def gt_yJx4a65c_init_da8c8_X : ck_TB := ([], [], [], [], [(9, 6, 1, 4)], [], [], [], ([], [(1, 0)], [], []), [], [], [(39, 1, 4)], 9)
def ge_yJx4a65c_init_da8c8_X : ck_E := (gT, [], (([], [], [], 0, []), ((0, []), (0, [])), [], [], ([], [], [], 0, []), []), 1, [(0, (0, 5, 0, 0, 1, 0, [])), (1, (16, 0, 0, 0, 4, 0, [])), (4, (0, 5, 0, 0, 5, 0, [])), (5, (0, 22, 4, 0, 8, 0, [])), (8, (8, 6, 1, 4, 11, 0, [])), (11, (15, 0, 0, 0, 0, 0, []))], [(some 6, 1, [])], [], [], [])
theorem gd_yJx4a65c_init_da8c8_X : ck_dec prog_46_method_2_code gt_yJx4a65c_init_da8c8_X ge_yJx4a65c_init_da8c8_X.2.2.2.2.1 = true := by decide +kernel
theorem gh_yJx4a65c_init_da8c8_X {l : Launch} {G : am_G} {X : ck_XT} (g : gM l G X) {a : List Value} {h : List am_C} {mc ms : Nat} {Post : am_O → List am_C → Prop} (hay : (am_lay a).length ≤ 1) (H : ∀ (S : ck_SS) (SX : Nat → ck_SX), ck_hs G S SX Post mc ms (ck_cms [am_cn l G yJxc12de_init_da8c8 (.code yJxc12de_init_da8c8 prog_45_method_1_code 1 none) 2 40]) ge_yJx4a65c_init_da8c8_X → (∀ pc, ck_sR G S pc) → ck_hw S → zw_hx SX Post mc ms → S 0 (am_ent a 1) [] h 0 0) : am_M l G yJx4a65c_init_da8c8 (.code yJx4a65c_init_da8c8 prog_46_method_2_code 1 none) 3 60 mc ms a h Post :=
  zw_handX (E := ge_yJx4a65c_init_da8c8_X) (tb := gt_yJx4a65c_init_da8c8_X) (init := true) (cm := (ck_cms [am_cn l G yJxc12de_init_da8c8 (.code yJxc12de_init_da8c8 prog_45_method_1_code 1 none) 2 40])) g.1.1 (by decide +kernel) rfl gd_yJx4a65c_init_da8c8_X ⟨(List.forall_mem_nil _), (List.forall_mem_nil _), (List.forall_mem_nil _), (List.forall_mem_nil _), (List.forall_mem_nil _), (List.forall_mem_nil _), (List.forall_mem_nil _), (List.forall_mem_cons.mpr ⟨⟨_, List.mem_of_getElem? (i := 5) rfl, w1681, Or.inr ⟨rfl, 4, rfl, rfl⟩⟩, (List.forall_mem_nil _)⟩)⟩ (List.forall_mem_cons.mpr ⟨⟨⟨_, _, _, rfl, Or.inl w1683⟩, by decide, _, Or.inr ⟨_, rfl⟩, Or.inl g_fd6_1⟩, (List.forall_mem_nil _)⟩) (fun _ => rfl) rfl (by decide) (by decide) g_oi g_ar
    (fun s hk _ => (List.forall_mem_nil _)) (fun s hk => (List.forall_mem_nil _))
    (List.forall_mem_nil _) (List.forall_mem_cons.mpr ⟨(ck_kI g_y_yJxc12de_init_da8c8 w1674 w1675 rfl (by decide) (by decide)), (List.forall_mem_nil _)⟩) (List.forall_mem_nil _) (List.forall_mem_nil _)
    (List.forall_mem_nil _) hay H
end
section
/-! A NEW LIST -/
set_option maxHeartbeats 4000000 in
theorem zl_init0_M {l : Launch} {G : am_G} {X : ck_XT} (g : gM l G X) {q t : Nat} {x0 x1 x2 : Value} {h : List am_C} (hg : am_g G h q = some (t, [x0, x1, x2])) (ht : t % 100 = 6) (hq : 1000 ≤ q) {mc ms : Nat} {Post : am_O → List am_C → Prop} (hP : Post (.inl none) h) :
    am_M l G yJxa1e45_init_da8c8 (.code yJxa1e45_init_da8c8 prog_44_method_1_code 1 none) 1 20 mc ms [.ref q] h Post := by
  refine gh_yJxa1e45_init_da8c8_X g (Nat.le_of_ble_eq_true rfl) fun S SX hs hr hw hx => ?_
  have rv : ∀ x : Int32, ck_fv 0 (.int x) := fun x => ⟨_, rfl⟩
  refine hs 0 _ rfl _ _ _ _ _ _ _ rfl ?_
  refine hs 1 _ rfl _ _ _ _ _ _ rfl (Nat.le_of_ble_eq_true rfl) ?_
  exact hs 2 _ rfl _ _ _ _ (Nat.zero_le _) (Nat.zero_le _) hP
set_option maxHeartbeats 4000000 in
theorem zl_init1_M {l : Launch} {G : am_G} {X : ck_XT} (g : gM l G X) {q t : Nat} {x0 x1 x2 : Value} {h : List am_C} (hg : am_g G h q = some (t, [x0, x1, x2])) (ht : t % 100 = 6) (hq : 1000 ≤ q) {mc ms : Nat} {Post : am_O → List am_C → Prop} (hP : ∀ h', hd_w G h h' q (t, [.int (Int32.ofInt 0), x1, x2]) → Post (.inl none) h') :
    am_M l G yJxc12de_init_da8c8 (.code yJxc12de_init_da8c8 prog_45_method_1_code 1 none) 2 40 mc ms [.ref q] h Post := by
  refine gh_yJxc12de_init_da8c8_X g (Nat.le_of_ble_eq_true rfl) fun S SX hs hr hw hx => ?_
  have rv : ∀ x : Int32, ck_fv 0 (.int x) := fun x => ⟨_, rfl⟩
  refine hs 0 _ rfl _ _ _ _ _ _ _ rfl ?_
  refine zw_cn (hs 1 _ rfl) (a := [.ref q]) (st := []) rfl rfl (Nat.le_of_ble_eq_true rfl) ⟨_, _, _, rfl, (hg), ht⟩ (Nat.zero_le _) (Nat.zero_le _) (⟨zl_init0_M g hg ht hq ?_, fun _ _ h9 => h9⟩)
  show S 4 [some (.ref q)] [] _ _ _
  refine hs 2 _ rfl _ _ _ _ _ _ _ rfl ?_
  refine hs 3 _ rfl _ _ _ _ _ _ _ rfl ?_
  refine zw_U (hs 4 _ rfl) (by omega) (hg) ht ⟨_, rfl⟩ fun hz203 wz204 => ?_
  have wz204 : hd_w G h hz203 q (t, [.int (Int32.ofInt (0 : Int)), x1, x2]) := wz204
  exact hs 5 _ rfl _ _ _ _ (Nat.zero_le _) (Nat.zero_le _) (hP _ wz204)
set_option maxHeartbeats 4000000 in
theorem zl_init_M {l : Launch} {G : am_G} {X : ck_XT} (g : gM l G X) {q t : Nat} {x0 x1 x2 : Value} {h : List am_C} (hg : am_g G h q = some (t, [x0, x1, x2])) (ht : t % 100 = 6) (hq : 1000 ≤ q) {mc ms : Nat} {Post : am_O → List am_C → Prop} (hP : ∀ h', hd_w G h h' q (t, [.int (Int32.ofInt 0), .ref 4, x2]) → Post (.inl none) h') :
    am_M l G yJx4a65c_init_da8c8 (.code yJx4a65c_init_da8c8 prog_46_method_2_code 1 none) 3 60 mc ms [.ref q] h Post := by
  refine gh_yJx4a65c_init_da8c8_X g (Nat.le_of_ble_eq_true rfl) fun S SX hs hr hw hx => ?_
  have rv : ∀ x : Int32, ck_fv 0 (.int x) := fun x => ⟨_, rfl⟩
  refine hs 0 _ rfl _ _ _ _ _ _ _ rfl ?_
  refine zw_cn (hs 1 _ rfl) (a := [.ref q]) (st := []) rfl rfl (Nat.le_of_ble_eq_true rfl) ⟨_, _, _, rfl, (hg), ht⟩ (Nat.zero_le _) (Nat.zero_le _) (⟨zl_init1_M g hg ht hq fun h1_ w1_ => ?_, fun _ _ h9 => h9⟩)
  show S 4 [some (.ref q)] [] _ _ _
  refine hs 2 _ rfl _ _ _ _ _ _ _ rfl ?_
  refine hs 3 _ rfl _ _ _ _ _ _ _ rfl ?_
  refine zw_U (hs 4 _ rfl) (by omega) (w1_.at) ht (Or.inl ⟨_, rfl⟩) fun hz205 wz206 => ?_
  have wz206 : hd_w G h1_ hz205 q (t, [.int (Int32.ofInt (0 : Int)), .ref 4, x2]) := wz206
  exact hs 5 _ rfl _ _ _ _ (Nat.zero_le _) (Nat.zero_le _) (hP _ (hd_w.tr w1_ wz206))
end
section
/-! A REFERENCE IS WRITTEN INTO A ROW -/
theorem zw_Br {G : am_G} {pr : List (Nat × Nat)} {S : ck_SS} {pc nx lo hi q t j k n : Nat} {e : Int} {vs : List Value} {v : Value} {h : List am_C} {L : List (Option Value)} {st : List Value} (H : ck_sB G pr S pc nx lo hi) (hq : 1000 ≤ q) (hg : am_g G h q = some (t, vs)) (h1 : lo ≤ t % 100) (h2 : t % 100 ≤ hi) (he : e = (j : Int)) (hj : j ≤ 2147483647) (hl : j < vs.length) (hw : ck_fw pr (am_g G h) (t % 100) v) (kk : ∀ h', hd_w G h h' q (t, vs.set j v) → S nx L st h' k n) : S pc L (v :: .int (Int32.ofInt e) :: .ref q :: st) h k n := by
  have hx_ : (Int32.ofInt e).toInt = (j : Int) := by
    rw [hd_oi (by omega) (by omega)]
    exact he
  refine H L st h k n q t _ _ _ hq hg h1 h2 (by omega) (by rw [hx_]; exact hl) hw ?_
  rw [hx_, Int.toNat_natCast]
  exact kk _ (hd_w.s hq hg)
end
section
/-! LISTS THAT ARE WRITTEN, TO BE WALKED BY HAND -/
def gt_yJ9_min_7cf53_X : ck_TB := ([], [], [], [], [], [], [], [], ([], [], [], []), [], [], [], 0)
def ge_yJ9_min_7cf53_X : ck_E := (gT, [], (([], [], [], 0, []), ((0, []), (0, [])), [], [], ([], [], [], 0, []), []), 2, [(0, (0, 3, 0, 0, 1, 0, [])), (1, (0, 3, 1, 0, 2, 0, [])), (2, (2, 4, 0, 0, 5, 9, [])), (5, (0, 3, 0, 0, 6, 0, [])), (6, (3, 0, 0, 0, 0, 10, [])), (9, (0, 3, 1, 0, 10, 0, [])), (10, (14, 0, 0, 0, 0, 0, []))], [], [], [], [])
theorem gd_yJ9_min_7cf53_X : ck_dec prog_32_method_69_code gt_yJ9_min_7cf53_X ge_yJ9_min_7cf53_X.2.2.2.2.1 = true := by decide +kernel
theorem gh_yJ9_min_7cf53_X {l : Launch} {G : am_G} {X : ck_XT} (g : gM l G X) {a : List Value} {h : List am_C} {mc ms : Nat} {Post : am_O → List am_C → Prop} (hay : (am_lay a).length ≤ 2) (H : ∀ (S : ck_SS) (SX : Nat → ck_SX), ck_hs G S SX Post mc ms (ck_cms []) ge_yJ9_min_7cf53_X → (∀ pc, ck_sR G S pc) → ck_hw S → zw_hx SX Post mc ms → S 0 (am_ent a 2) [] h 0 0) : am_M l G yJ9_min_7cf53 (.code yJ9_min_7cf53 prog_32_method_69_code 2 (some .int)) 1 20 mc ms a h Post :=
  zw_handX (E := ge_yJ9_min_7cf53_X) (tb := gt_yJ9_min_7cf53_X) (init := false) (cm := (ck_cms [])) g.1.1 (by decide +kernel) rfl gd_yJ9_min_7cf53_X ⟨(List.forall_mem_nil _), (List.forall_mem_nil _), (List.forall_mem_nil _), (List.forall_mem_nil _), (List.forall_mem_nil _), (List.forall_mem_nil _), (List.forall_mem_nil _), (List.forall_mem_nil _)⟩ (List.forall_mem_nil _) (fun h => nomatch h) ⟨_, rfl, rfl⟩ (by decide) (by decide) g_oi g_ar
    (fun s hk _ => (List.forall_mem_nil _)) (fun s hk => (List.forall_mem_nil _))
    (List.forall_mem_nil _) (List.forall_mem_nil _) (List.forall_mem_nil _) (List.forall_mem_nil _)
    (List.forall_mem_nil _) hay H
def gt_yJ8_newLength_cabcc_X : ck_TB := ([(200, 2147483639)], [], [], [], [], [], [], [], ([], [], [(194, 0)], []), [], [], [], 0)
def ge_yJ8_newLength_cabcc_X : ck_E := (gT, [], (([], [], [], 0, []), ((0, []), (0, [])), [], [], ([], [], [], 0, []), []), 4, [(0, (0, 3, 0, 0, 1, 0, [])), (1, (0, 3, 1, 0, 2, 0, [])), (2, (0, 3, 2, 0, 3, 0, [])), (3, (16, 0, 0, 0, 6, 0, [])), (6, (0, 15, 0, 0, 7, 0, [])), (7, (0, 6, 3, 0, 8, 0, [])), (8, (0, 0, 0, 0, 9, 0, [])), (9, (0, 3, 3, 0, 10, 0, [])), (10, (2, 3, 0, 0, 13, 21, [])), (13, (0, 3, 3, 0, 14, 0, [])), (14, (0, 0, 0, 2147483639, 16, 0, [])), (16, (2, 4, 0, 0, 19, 21, [])), (19, (0, 3, 3, 0, 20, 0, [])), (20, (14, 0, 0, 0, 0, 0, [])), (21, (0, 3, 0, 0, 22, 0, [])), (22, (0, 3, 1, 0, 23, 0, []))], [(none, 2, [])], [], [], [])
theorem gd_yJ8_newLength_cabcc_X : ck_dec prog_55_method_27_code gt_yJ8_newLength_cabcc_X ge_yJ8_newLength_cabcc_X.2.2.2.2.1 = true := by decide +kernel
theorem gh_yJ8_newLength_cabcc_X {l : Launch} {G : am_G} {X : ck_XT} (g : gM l G X) {a : List Value} {h : List am_C} {mc ms : Nat} {Post : am_O → List am_C → Prop} (hay : (am_lay a).length ≤ 4) (H : ∀ (S : ck_SS) (SX : Nat → ck_SX), ck_hs G S SX Post mc ms (ck_cms [am_cm l G yJ9_max_7cf53 (.code yJ9_max_7cf53 prog_32_method_65_code 2 (some .int)) 1 20]) ge_yJ8_newLength_cabcc_X → (∀ pc, ck_sR G S pc) → ck_hw S → zw_hx SX Post mc ms → S 0 (am_ent a 4) [] h 0 0) : am_M l G yJ8_newLength_cabcc (.code yJ8_newLength_cabcc prog_55_method_27_code 4 (some .int)) 2 41 mc ms a h Post :=
  zw_handX (E := ge_yJ8_newLength_cabcc_X) (tb := gt_yJ8_newLength_cabcc_X) (init := false) (cm := (ck_cms [am_cm l G yJ9_max_7cf53 (.code yJ9_max_7cf53 prog_32_method_65_code 2 (some .int)) 1 20])) g.1.1 (by decide +kernel) rfl gd_yJ8_newLength_cabcc_X ⟨(List.forall_mem_cons.mpr ⟨ck_cst (by decide +kernel) w518, (List.forall_mem_nil _)⟩), (List.forall_mem_nil _), (List.forall_mem_nil _), (List.forall_mem_nil _), (List.forall_mem_nil _), (List.forall_mem_nil _), (List.forall_mem_nil _), (List.forall_mem_nil _)⟩ (List.forall_mem_nil _) (fun h => nomatch h) ⟨_, rfl, rfl⟩ (by decide) (by decide) g_oi g_ar
    (fun s hk _ => (List.forall_mem_nil _)) (fun s hk => (List.forall_mem_nil _))
    (List.forall_mem_nil _) (List.forall_mem_nil _) (List.forall_mem_cons.mpr ⟨(ck_kS g_y_yJ9_max_7cf53 w515 w516 (by decide) (by decide)), (List.forall_mem_nil _)⟩) (List.forall_mem_nil _)
    (List.forall_mem_nil _) hay H
def gt_yJ7_copyOf_6403c_X : ck_TB := ([], [], [(110, 5)], [], [], [], [(2, 56)], [], ([], [], [(150, 1), (304, 0)], []), [], [], [], 4)
def ge_yJ7_copyOf_6403c_X : ck_E := (gT, [], (([], [], [], 0, []), ((0, []), (0, [])), [], [], ([], [], [], 0, []), []), 4, [(0, (0, 5, 2, 0, 1, 0, [])), (1, (0, 22, 5, 0, 3, 0, [])), (3, (20, 0, 0, 0, 6, 13, [])), (6, (0, 3, 1, 0, 7, 0, [])), (7, (10, 56, 56, 2, 10, 0, [])), (10, (3, 0, 0, 0, 0, 24, [])), (13, (0, 5, 2, 0, 14, 0, [])), (24, (0, 8, 3, 0, 25, 0, [])), (25, (0, 5, 0, 0, 26, 0, [])), (26, (0, 0, 0, 0, 27, 0, [])), (27, (0, 5, 3, 0, 28, 0, [])), (28, (0, 0, 0, 0, 29, 0, [])), (29, (0, 5, 0, 0, 30, 0, [])), (30, (11, 0, 0, 0, 31, 0, [])), (31, (0, 3, 1, 0, 32, 0, [])), (32, (16, 0, 0, 0, 35, 0, [])), (35, (16, 1, 0, 0, 38, 0, [])), (38, (0, 5, 3, 0, 39, 0, [])), (39, (14, 0, 0, 4, 0, 0, []))], [(none, 2, []), (none, 5, [])], [], [], [])
theorem gd_yJ7_copyOf_6403c_X : ck_dec prog_48_method_120_code gt_yJ7_copyOf_6403c_X ge_yJ7_copyOf_6403c_X.2.2.2.2.1 = true := by decide +kernel
theorem gh_yJ7_copyOf_6403c_X {l : Launch} {G : am_G} {X : ck_XT} (g : gM l G X) {a : List Value} {h : List am_C} {mc ms : Nat} {Post : am_O → List am_C → Prop} (hay : (am_lay a).length ≤ 4) (H : ∀ (S : ck_SS) (SX : Nat → ck_SX), ck_hs G S SX Post mc ms (ck_cms [am_cm l G yJ9_min_7cf53 (.code yJ9_min_7cf53 prog_32_method_69_code 2 (some .int)) 1 20, ck_arM G]) ge_yJ7_copyOf_6403c_X → (∀ pc, ck_sR G S pc) → ck_hw S → zw_hx SX Post mc ms → S 0 (am_ent a 4) [] h 0 0) : am_M l G yJ7_copyOf_6403c (.code yJ7_copyOf_6403c prog_48_method_120_code 4 (some (.array (.object "java/lang/Object")))) 2 59 mc ms a h Post :=
  zw_handX (E := ge_yJ7_copyOf_6403c_X) (tb := gt_yJ7_copyOf_6403c_X) (init := false) (cm := (ck_cms [am_cm l G yJ9_min_7cf53 (.code yJ9_min_7cf53 prog_32_method_69_code 2 (some .int)) 1 20, ck_arM G])) g.1.1 (by decide +kernel) rfl gd_yJ7_copyOf_6403c_X ⟨(List.forall_mem_nil _), (List.forall_mem_nil _), (List.forall_mem_cons.mpr ⟨Or.inr ⟨rfl, w1867⟩, (List.forall_mem_nil _)⟩), (List.forall_mem_nil _), (List.forall_mem_nil _), (List.forall_mem_cons.mpr ⟨Or.inl ⟨_, rfl, by decide, by decide, w1869, w1868⟩, (List.forall_mem_nil _)⟩), (List.forall_mem_nil _), (List.forall_mem_nil _)⟩ (List.forall_mem_nil _) (fun h => nomatch h) ⟨_, rfl, Or.inr ⟨_, rfl⟩⟩ (by decide) (by decide) g_oi g_ar
    (fun s hk _ => (List.forall_mem_nil _)) (fun s hk => (List.forall_mem_nil _))
    (List.forall_mem_nil _) (List.forall_mem_nil _) (List.forall_mem_cons.mpr ⟨(ck_kAR w536 w538 w537 w105 w2528 w2503 w2513 (by decide) (by decide +kernel)), (List.forall_mem_cons.mpr ⟨(ck_kS g_y_yJ9_min_7cf53 w533 w534 (by decide) (by decide)), (List.forall_mem_nil _)⟩)⟩) (List.forall_mem_nil _)
    (List.forall_mem_nil _) hay H
def gt_yJ7_copyOf_1904c_X : ck_TB := ([], [], [], [], [], [], [], [], ([(86, 0)], [], [(300, 1)], []), [], [], [], 4)
def ge_yJ7_copyOf_1904c_X : ck_E := (gT, [], (([], [], [], 0, []), ((0, []), (0, [])), [], [], ([], [], [], 0, []), []), 2, [(0, (0, 5, 0, 0, 1, 0, [])), (1, (0, 3, 1, 0, 2, 0, [])), (2, (0, 5, 0, 0, 3, 0, [])), (3, (16, 0, 0, 0, 6, 0, [])), (6, (16, 1, 0, 0, 9, 0, [])), (9, (14, 0, 0, 4, 0, 0, []))], [(some 56, 1, []), (none, 3, [])], [], [], [])
theorem gd_yJ7_copyOf_1904c_X : ck_dec prog_48_method_119_code gt_yJ7_copyOf_1904c_X ge_yJ7_copyOf_1904c_X.2.2.2.2.1 = true := by decide +kernel
theorem gh_yJ7_copyOf_1904c_X {l : Launch} {G : am_G} {X : ck_XT} (g : gM l G X) {a : List Value} {h : List am_C} {mc ms : Nat} {Post : am_O → List am_C → Prop} (hay : (am_lay a).length ≤ 2) (H : ∀ (S : ck_SS) (SX : Nat → ck_SX), ck_hs G S SX Post mc ms (ck_cms [ck_gcM G, am_cm l G yJ7_copyOf_6403c (.code yJ7_copyOf_6403c prog_48_method_120_code 4 (some (.array (.object "java/lang/Object")))) 2 59]) ge_yJ7_copyOf_1904c_X → (∀ pc, ck_sR G S pc) → ck_hw S → zw_hx SX Post mc ms → S 0 (am_ent a 2) [] h 0 0) : am_M l G yJ7_copyOf_1904c (.code yJ7_copyOf_1904c prog_48_method_119_code 2 (some (.array (.object "java/lang/Object")))) 3 82 mc ms a h Post :=
  zw_handX (E := ge_yJ7_copyOf_1904c_X) (tb := gt_yJ7_copyOf_1904c_X) (init := false) (cm := (ck_cms [ck_gcM G, am_cm l G yJ7_copyOf_6403c (.code yJ7_copyOf_6403c prog_48_method_120_code 4 (some (.array (.object "java/lang/Object")))) 2 59])) g.1.1 (by decide +kernel) rfl gd_yJ7_copyOf_1904c_X ⟨(List.forall_mem_nil _), (List.forall_mem_nil _), (List.forall_mem_nil _), (List.forall_mem_nil _), (List.forall_mem_nil _), (List.forall_mem_nil _), (List.forall_mem_nil _), (List.forall_mem_nil _)⟩ (List.forall_mem_nil _) (fun h => nomatch h) ⟨_, rfl, Or.inr ⟨_, rfl⟩⟩ (by decide) (by decide) g_oi g_ar
    (fun s hk _ => (List.forall_mem_nil _)) (fun s hk => (List.forall_mem_nil _))
    (List.forall_mem_cons.mpr ⟨(ck_kGC w1837 w2526 w2525 w1838 w1863 (by decide) (by decide)), (List.forall_mem_nil _)⟩) (List.forall_mem_nil _) (List.forall_mem_cons.mpr ⟨(ck_kS g_y_yJ7_copyOf_6403c w1864 w1865 (by decide) (by decide)), (List.forall_mem_nil _)⟩) (List.forall_mem_nil _)
    (List.forall_mem_nil _) hay H
def gt_yJx4a65c_grow_92f84_X : ck_TB := ([], [], [], [(9, 6, 1)], [(9, 6, 1, 4)], [], [(7, 56)], [], ([], [], [(66, 1), (73, 0), (79, 2)], []), [], [], [(39, 1, 4)], 4)
def ge_yJx4a65c_grow_92f84_X : ck_E := (gT, [], (([], [], [], 0, []), ((0, []), (0, [])), [], [], ([], [], [], 0, []), []), 4, [(0, (0, 5, 0, 0, 1, 0, [])), (1, (7, 6, 1, 0, 4, 0, [])), (4, (11, 0, 0, 0, 5, 0, [])), (5, (0, 6, 2, 0, 6, 0, [])), (6, (0, 3, 2, 0, 7, 0, [])), (7, (1, 4, 0, 0, 10, 20, [])), (10, (0, 5, 0, 0, 11, 0, [])), (11, (7, 6, 1, 0, 14, 0, [])), (14, (0, 22, 4, 0, 17, 0, [])), (17, (20, 1, 0, 0, 20, 45, [])), (20, (0, 3, 2, 0, 21, 0, [])), (21, (0, 3, 1, 0, 22, 0, [])), (22, (0, 3, 2, 0, 23, 0, [])), (23, (0, 15, 1, 0, 24, 0, [])), (24, (0, 3, 2, 0, 25, 0, [])), (25, (0, 0, 0, 1, 26, 0, [])), (26, (0, 15, 9, 0, 27, 0, [])), (27, (16, 0, 0, 0, 30, 0, [])), (30, (0, 6, 3, 0, 31, 0, [])), (31, (0, 5, 0, 0, 32, 0, [])), (32, (0, 5, 0, 0, 33, 0, [])), (33, (7, 6, 1, 0, 36, 0, [])), (36, (0, 3, 3, 0, 37, 0, [])), (37, (16, 1, 0, 0, 40, 0, [])), (40, (0, 13, 0, 0, 41, 0, [])), (41, (8, 6, 1, 4, 44, 0, [])), (44, (14, 0, 0, 4, 0, 0, [])), (45, (0, 5, 0, 0, 46, 0, [])), (46, (0, 0, 0, 10, 48, 0, [])), (48, (0, 3, 1, 0, 49, 0, [])), (49, (16, 2, 0, 0, 52, 0, [])), (52, (10, 56, 56, 2, 55, 0, [])), (55, (0, 13, 0, 0, 56, 0, [])), (56, (8, 6, 1, 4, 59, 0, [])), (59, (14, 0, 0, 4, 0, 0, []))], [(none, 3, []), (none, 2, []), (none, 2, [])], [], [], [])
theorem gd_yJx4a65c_grow_92f84_X : ck_dec prog_46_method_6_code gt_yJx4a65c_grow_92f84_X ge_yJx4a65c_grow_92f84_X.2.2.2.2.1 = true := by decide +kernel
theorem gh_yJx4a65c_grow_92f84_X {l : Launch} {G : am_G} {X : ck_XT} (g : gM l G X) {a : List Value} {h : List am_C} {mc ms : Nat} {Post : am_O → List am_C → Prop} (hay : (am_lay a).length ≤ 4) (H : ∀ (S : ck_SS) (SX : Nat → ck_SX), ck_hs G S SX Post mc ms (ck_cms [am_cm l G yJ8_newLength_cabcc (.code yJ8_newLength_cabcc prog_55_method_27_code 4 (some .int)) 2 41, am_cm l G yJ7_copyOf_1904c (.code yJ7_copyOf_1904c prog_48_method_119_code 2 (some (.array (.object "java/lang/Object")))) 3 82, am_cm l G yJ9_max_7cf53 (.code yJ9_max_7cf53 prog_32_method_65_code 2 (some .int)) 1 20]) ge_yJx4a65c_grow_92f84_X → (∀ pc, ck_sR G S pc) → ck_hw S → zw_hx SX Post mc ms → S 0 (am_ent a 4) [] h 0 0) : am_M l G yJx4a65c_grow_92f84 (.code yJx4a65c_grow_92f84 prog_46_method_6_code 4 (some (.array (.object "java/lang/Object")))) 5 140 mc ms a h Post :=
  zw_handX (E := ge_yJx4a65c_grow_92f84_X) (tb := gt_yJx4a65c_grow_92f84_X) (init := false) (cm := (ck_cms [am_cm l G yJ8_newLength_cabcc (.code yJ8_newLength_cabcc prog_55_method_27_code 4 (some .int)) 2 41, am_cm l G yJ7_copyOf_1904c (.code yJ7_copyOf_1904c prog_48_method_119_code 2 (some (.array (.object "java/lang/Object")))) 3 82, am_cm l G yJ9_max_7cf53 (.code yJ9_max_7cf53 prog_32_method_65_code 2 (some .int)) 1 20])) g.1.1 (by decide +kernel) rfl gd_yJx4a65c_grow_92f84_X ⟨(List.forall_mem_nil _), (List.forall_mem_nil _), (List.forall_mem_nil _), (List.forall_mem_cons.mpr ⟨⟨⟨_, _, _, rfl, Or.inl w1683⟩, by decide, _, _, g_fd6_1⟩, (List.forall_mem_nil _)⟩), (List.forall_mem_nil _), (List.forall_mem_cons.mpr ⟨Or.inl ⟨_, rfl, by decide, by decide, w1871, w1868⟩, (List.forall_mem_nil _)⟩), (List.forall_mem_nil _), (List.forall_mem_cons.mpr ⟨⟨_, List.mem_of_getElem? (i := 5) rfl, w1681, Or.inr ⟨rfl, 4, rfl, rfl⟩⟩, (List.forall_mem_nil _)⟩)⟩ (List.forall_mem_cons.mpr ⟨⟨⟨_, _, _, rfl, Or.inl w1683⟩, by decide, _, Or.inr ⟨_, rfl⟩, Or.inl g_fd6_1⟩, (List.forall_mem_nil _)⟩) (fun h => nomatch h) ⟨_, rfl, Or.inr ⟨_, rfl⟩⟩ (by decide) (by decide) g_oi g_ar
    (fun s hk _ => (List.forall_mem_nil _)) (fun s hk => (List.forall_mem_nil _))
    (List.forall_mem_nil _) (List.forall_mem_nil _) (List.forall_mem_cons.mpr ⟨(ck_kS g_y_yJ7_copyOf_1904c w1834 w1835 (by decide) (by decide)), (List.forall_mem_cons.mpr ⟨(ck_kS g_y_yJ8_newLength_cabcc w1833 w513 (by decide) (by decide)), (List.forall_mem_cons.mpr ⟨(ck_kS g_y_yJ9_max_7cf53 w1870 w516 (by decide) (by decide)), (List.forall_mem_nil _)⟩)⟩)⟩) (List.forall_mem_nil _)
    (List.forall_mem_nil _) hay H
def gt_yJx4a65c_grow_d5877_X : ck_TB := ([], [], [], [(48, 6, 2)], [], [], [], [], ([(69, 0)], [], [], []), [], [], [], 4)
def ge_yJx4a65c_grow_d5877_X : ck_E := (gT, [], (([], [], [], 0, []), ((0, []), (0, [])), [], [], ([], [], [], 0, []), []), 1, [(0, (0, 5, 0, 0, 1, 0, [])), (1, (0, 5, 0, 0, 2, 0, [])), (2, (7, 6, 2, 0, 5, 0, [])), (5, (0, 0, 0, 1, 6, 0, [])), (6, (0, 15, 0, 0, 7, 0, [])), (7, (16, 0, 0, 0, 10, 0, [])), (10, (14, 0, 0, 4, 0, 0, []))], [(some 6, 2, [])], [], [], [])
theorem gd_yJx4a65c_grow_d5877_X : ck_dec prog_46_method_7_code gt_yJx4a65c_grow_d5877_X ge_yJx4a65c_grow_d5877_X.2.2.2.2.1 = true := by decide +kernel
theorem gh_yJx4a65c_grow_d5877_X {l : Launch} {G : am_G} {X : ck_XT} (g : gM l G X) {a : List Value} {h : List am_C} {mc ms : Nat} {Post : am_O → List am_C → Prop} (hay : (am_lay a).length ≤ 1) (H : ∀ (S : ck_SS) (SX : Nat → ck_SX), ck_hs G S SX Post mc ms (ck_cms [am_cm l G yJx4a65c_grow_92f84 (.code yJx4a65c_grow_92f84 prog_46_method_6_code 4 (some (.array (.object "java/lang/Object")))) 5 140]) ge_yJx4a65c_grow_d5877_X → (∀ pc, ck_sR G S pc) → ck_hw S → zw_hx SX Post mc ms → S 0 (am_ent a 1) [] h 0 0) : am_M l G yJx4a65c_grow_d5877 (.code yJx4a65c_grow_d5877 prog_46_method_7_code 1 (some (.array (.object "java/lang/Object")))) 6 170 mc ms a h Post :=
  zw_handX (E := ge_yJx4a65c_grow_d5877_X) (tb := gt_yJx4a65c_grow_d5877_X) (init := false) (cm := (ck_cms [am_cm l G yJx4a65c_grow_92f84 (.code yJx4a65c_grow_92f84 prog_46_method_6_code 4 (some (.array (.object "java/lang/Object")))) 5 140])) g.1.1 (by decide +kernel) rfl gd_yJx4a65c_grow_d5877_X ⟨(List.forall_mem_nil _), (List.forall_mem_nil _), (List.forall_mem_nil _), (List.forall_mem_cons.mpr ⟨⟨⟨_, _, _, rfl, Or.inl w1686⟩, by decide, _, _, g_fd6_2⟩, (List.forall_mem_nil _)⟩), (List.forall_mem_nil _), (List.forall_mem_nil _), (List.forall_mem_nil _), (List.forall_mem_nil _)⟩ (List.forall_mem_nil _) (fun h => nomatch h) ⟨_, rfl, Or.inr ⟨_, rfl⟩⟩ (by decide) (by decide) g_oi g_ar
    (fun s hk _ => (List.forall_mem_nil _)) (fun s hk => (List.forall_mem_nil _))
    (List.forall_mem_cons.mpr ⟨(ck_kV g_y_yJx4a65c_grow_92f84 w1829 w1831 w36 (T := TJx4a65c) (N := 3) rfl (by decide) (by decide) (by decide)), (List.forall_mem_nil _)⟩) (List.forall_mem_nil _) (List.forall_mem_nil _) (List.forall_mem_nil _)
    (List.forall_mem_nil _) hay H
def gt_yJx4a65c_add_72be8_X : ck_TB := ([], [], [], [], [(48, 6, 2, 0)], [], [], [], ([(129, 0)], [], [], []), [], [], [], 9)
def ge_yJx4a65c_add_72be8_X : ck_E := (gT, [(56, 50), (56, 2), (56, 18)], (([], [], [], 0, []), ((0, []), (0, [])), [], [], ([], [], [], 0, []), []), 4, [(0, (0, 3, 3, 0, 1, 0, [])), (1, (0, 5, 2, 0, 2, 0, [])), (2, (11, 0, 0, 0, 3, 0, [])), (3, (2, 1, 0, 0, 6, 11, [])), (6, (0, 5, 0, 0, 7, 0, [])), (7, (16, 0, 0, 0, 10, 0, [])), (10, (0, 8, 2, 0, 11, 0, [])), (11, (0, 5, 2, 0, 12, 0, [])), (12, (0, 3, 3, 0, 13, 0, [])), (13, (0, 5, 1, 0, 14, 0, [])), (14, (13, 53, 57, 0, 15, 0, [])), (15, (0, 5, 0, 0, 16, 0, [])), (16, (0, 3, 3, 0, 17, 0, [])), (17, (0, 0, 0, 1, 18, 0, [])), (18, (0, 15, 0, 0, 19, 0, [])), (19, (8, 6, 2, 0, 22, 0, [])), (22, (15, 0, 0, 0, 0, 0, []))], [(some 6, 1, [])], [], [], [])
theorem gd_yJx4a65c_add_72be8_X : ck_dec prog_46_method_24_code gt_yJx4a65c_add_72be8_X ge_yJx4a65c_add_72be8_X.2.2.2.2.1 = true := by decide +kernel
theorem gh_yJx4a65c_add_72be8_X {l : Launch} {G : am_G} {X : ck_XT} (g : gM l G X) {a : List Value} {h : List am_C} {mc ms : Nat} {Post : am_O → List am_C → Prop} (hay : (am_lay a).length ≤ 4) (H : ∀ (S : ck_SS) (SX : Nat → ck_SX), ck_hs G S SX Post mc ms (ck_cms [am_cm l G yJx4a65c_grow_d5877 (.code yJx4a65c_grow_d5877 prog_46_method_7_code 1 (some (.array (.object "java/lang/Object")))) 6 170]) ge_yJx4a65c_add_72be8_X → (∀ pc, ck_sR G S pc) → ck_hw S → zw_hx SX Post mc ms → S 0 (am_ent a 4) [] h 0 0) : am_M l G yJx4a65c_add_72be8 (.code yJx4a65c_add_72be8 prog_46_method_24_code 4 none) 7 200 mc ms a h Post :=
  zw_handX (E := ge_yJx4a65c_add_72be8_X) (tb := gt_yJx4a65c_add_72be8_X) (init := false) (cm := (ck_cms [am_cm l G yJx4a65c_grow_d5877 (.code yJx4a65c_grow_d5877 prog_46_method_7_code 1 (some (.array (.object "java/lang/Object")))) 6 170])) g.1.1 (by decide +kernel) rfl gd_yJx4a65c_add_72be8_X ⟨(List.forall_mem_nil _), (List.forall_mem_nil _), (List.forall_mem_nil _), (List.forall_mem_nil _), (List.forall_mem_nil _), (List.forall_mem_nil _), (List.forall_mem_nil _), (List.forall_mem_nil _)⟩ (List.forall_mem_cons.mpr ⟨⟨⟨_, _, _, rfl, Or.inl w1686⟩, by decide, _, rfl, Or.inl g_fd6_2⟩, (List.forall_mem_nil _)⟩) (fun h => nomatch h) rfl (by decide) (by decide) g_oi g_ar
    (fun s hk _ => (List.forall_mem_cons.mpr ⟨⟨by decide, by decide, am_asg_arr hk w2528⟩, (List.forall_mem_cons.mpr ⟨⟨by decide, by decide, am_asg_obj hk (ci := 2) rfl (by decide) w2503⟩, (List.forall_mem_cons.mpr ⟨⟨by decide, by decide, am_asg_obj hk (ci := 18) rfl (by decide) w2513⟩, (List.forall_mem_nil _)⟩)⟩)⟩)) (fun s hk => (List.forall_mem_nil _))
    (List.forall_mem_cons.mpr ⟨(ck_kV g_y_yJx4a65c_grow_d5877 w1825 w1827 w35 (T := TJx4a65c) (N := 3) rfl (by decide) (by decide) (by decide)), (List.forall_mem_nil _)⟩) (List.forall_mem_nil _) (List.forall_mem_nil _) (List.forall_mem_nil _)
    (List.forall_mem_nil _) hay H
def gt_yJx4a65c_add_9ea2d_X : ck_TB := ([], [], [], [(9, 6, 1), (48, 6, 2), (63, 6, 0)], [(63, 6, 0, 0)], [], [], [], ([(131, 0)], [], [], []), [], [], [], 1)
def ge_yJx4a65c_add_9ea2d_X : ck_E := (gT, [], (([], [], [], 0, []), ((0, []), (0, [])), [], [], ([], [], [], 0, []), []), 2, [(0, (0, 5, 0, 0, 1, 0, [])), (1, (0, 12, 0, 0, 2, 0, [])), (2, (7, 6, 0, 0, 5, 0, [])), (5, (0, 0, 0, 1, 6, 0, [])), (6, (0, 15, 0, 0, 7, 0, [])), (7, (8, 6, 0, 0, 10, 0, [])), (10, (0, 5, 0, 0, 11, 0, [])), (11, (0, 5, 1, 0, 12, 0, [])), (12, (0, 5, 0, 0, 13, 0, [])), (13, (7, 6, 1, 0, 16, 0, [])), (16, (0, 5, 0, 0, 17, 0, [])), (17, (7, 6, 2, 0, 20, 0, [])), (20, (16, 0, 0, 0, 23, 0, [])), (23, (0, 0, 0, 1, 24, 0, [])), (24, (14, 0, 0, 1, 0, 0, []))], [(some 6, 4, [])], [], [], [])
theorem gd_yJx4a65c_add_9ea2d_X : ck_dec prog_46_method_25_code gt_yJx4a65c_add_9ea2d_X ge_yJx4a65c_add_9ea2d_X.2.2.2.2.1 = true := by decide +kernel
theorem gh_yJx4a65c_add_9ea2d_X {l : Launch} {G : am_G} {X : ck_XT} (g : gM l G X) {a : List Value} {h : List am_C} {mc ms : Nat} {Post : am_O → List am_C → Prop} (hay : (am_lay a).length ≤ 2) (H : ∀ (S : ck_SS) (SX : Nat → ck_SX), ck_hs G S SX Post mc ms (ck_cms [am_cm l G yJx4a65c_add_72be8 (.code yJx4a65c_add_72be8 prog_46_method_24_code 4 none) 7 200]) ge_yJx4a65c_add_9ea2d_X → (∀ pc, ck_sR G S pc) → ck_hw S → zw_hx SX Post mc ms → S 0 (am_ent a 2) [] h 0 0) : am_M l G yJx4a65c_add_9ea2d (.code yJx4a65c_add_9ea2d prog_46_method_25_code 2 (some .boolean)) 8 230 mc ms a h Post :=
  zw_handX (E := ge_yJx4a65c_add_9ea2d_X) (tb := gt_yJx4a65c_add_9ea2d_X) (init := false) (cm := (ck_cms [am_cm l G yJx4a65c_add_72be8 (.code yJx4a65c_add_72be8 prog_46_method_24_code 4 none) 7 200])) g.1.1 (by decide +kernel) rfl gd_yJx4a65c_add_9ea2d_X ⟨(List.forall_mem_nil _), (List.forall_mem_nil _), (List.forall_mem_nil _), (List.forall_mem_cons.mpr ⟨⟨⟨_, _, _, rfl, Or.inl w1683⟩, by decide, _, _, g_fd6_1⟩, (List.forall_mem_cons.mpr ⟨⟨⟨_, _, _, rfl, Or.inl w1686⟩, by decide, _, _, g_fd6_2⟩, (List.forall_mem_cons.mpr ⟨⟨⟨_, _, _, rfl, Or.inr (Or.inr ⟨_, w1690, w1689⟩)⟩, by decide, _, _, g_fd6_0⟩, (List.forall_mem_nil _)⟩)⟩)⟩), (List.forall_mem_nil _), (List.forall_mem_nil _), (List.forall_mem_nil _), (List.forall_mem_nil _)⟩ (List.forall_mem_cons.mpr ⟨⟨⟨_, _, _, rfl, Or.inr (Or.inr ⟨_, w1690, w1689⟩)⟩, by decide, _, rfl, Or.inl g_fd6_0⟩, (List.forall_mem_nil _)⟩) (fun h => nomatch h) ⟨_, rfl, rfl⟩ (by decide) (by decide) g_oi g_ar
    (fun s hk _ => (List.forall_mem_nil _)) (fun s hk => (List.forall_mem_nil _))
    (List.forall_mem_cons.mpr ⟨(ck_kV g_y_yJx4a65c_add_72be8 w1821 w1823 w34 (T := TJx4a65c) (N := 3) rfl (by decide) (by decide) (by decide)), (List.forall_mem_nil _)⟩) (List.forall_mem_nil _) (List.forall_mem_nil _) (List.forall_mem_nil _)
    (List.forall_mem_nil _) hay H
def gt_yJ3_checkIndex_8e157_X : ck_TB := ([], [], [], [], [], [], [], [], ([], [], [], []), [], [], [], 0)
def ge_yJ3_checkIndex_8e157_X : ck_E := (gT, [], (([], [], [], 0, []), ((0, []), (0, [])), [], [], ([], [], [], 0, []), []), 3, [(0, (0, 3, 0, 0, 1, 0, [])), (1, (1, 2, 0, 0, 4, 9, [])), (4, (0, 3, 0, 0, 5, 0, [])), (5, (0, 3, 1, 0, 6, 0, [])), (6, (2, 2, 0, 0, 9, 16, [])), (9, (0, 5, 2, 0, 10, 0, [])), (10, (0, 3, 0, 0, 11, 0, [])), (11, (0, 3, 1, 0, 12, 0, [])), (16, (0, 3, 0, 0, 17, 0, [])), (17, (14, 0, 0, 0, 0, 0, []))], [], [], [], [])
theorem gd_yJ3_checkIndex_8e157_X : ck_dec prog_56_method_11_code gt_yJ3_checkIndex_8e157_X ge_yJ3_checkIndex_8e157_X.2.2.2.2.1 = true := by decide +kernel
theorem gh_yJ3_checkIndex_8e157_X {l : Launch} {G : am_G} {X : ck_XT} (g : gM l G X) {a : List Value} {h : List am_C} {mc ms : Nat} {Post : am_O → List am_C → Prop} (hay : (am_lay a).length ≤ 3) (H : ∀ (S : ck_SS) (SX : Nat → ck_SX), ck_hs G S SX Post mc ms (ck_cms []) ge_yJ3_checkIndex_8e157_X → (∀ pc, ck_sR G S pc) → ck_hw S → zw_hx SX Post mc ms → S 0 (am_ent a 3) [] h 0 0) : am_M l G yJ3_checkIndex_8e157 (.code yJ3_checkIndex_8e157 prog_56_method_11_code 3 (some .int)) 1 20 mc ms a h Post :=
  zw_handX (E := ge_yJ3_checkIndex_8e157_X) (tb := gt_yJ3_checkIndex_8e157_X) (init := false) (cm := (ck_cms [])) g.1.1 (by decide +kernel) rfl gd_yJ3_checkIndex_8e157_X ⟨(List.forall_mem_nil _), (List.forall_mem_nil _), (List.forall_mem_nil _), (List.forall_mem_nil _), (List.forall_mem_nil _), (List.forall_mem_nil _), (List.forall_mem_nil _), (List.forall_mem_nil _)⟩ (List.forall_mem_nil _) (fun h => nomatch h) ⟨_, rfl, rfl⟩ (by decide) (by decide) g_oi g_ar
    (fun s hk _ => (List.forall_mem_nil _)) (fun s hk => (List.forall_mem_nil _))
    (List.forall_mem_nil _) (List.forall_mem_nil _) (List.forall_mem_nil _) (List.forall_mem_nil _)
    (List.forall_mem_nil _) hay H
def gt_yJ15_checkIndex_7cf53_X : ck_TB := ([], [], [], [], [], [], [], [], ([], [], [(105, 0)], []), [], [], [], 0)
def ge_yJ15_checkIndex_7cf53_X : ck_E := (gT, [], (([], [], [], 0, []), ((0, []), (0, [])), [], [], ([], [], [], 0, []), []), 2, [(0, (0, 3, 0, 0, 1, 0, [])), (1, (0, 3, 1, 0, 2, 0, [])), (2, (0, 2, 0, 0, 3, 0, [])), (3, (16, 0, 0, 0, 6, 0, [])), (6, (14, 0, 0, 0, 0, 0, []))], [(none, 3, [])], [], [], [])
theorem gd_yJ15_checkIndex_7cf53_X : ck_dec prog_52_method_17_code gt_yJ15_checkIndex_7cf53_X ge_yJ15_checkIndex_7cf53_X.2.2.2.2.1 = true := by decide +kernel
theorem gh_yJ15_checkIndex_7cf53_X {l : Launch} {G : am_G} {X : ck_XT} (g : gM l G X) {a : List Value} {h : List am_C} {mc ms : Nat} {Post : am_O → List am_C → Prop} (hay : (am_lay a).length ≤ 2) (H : ∀ (S : ck_SS) (SX : Nat → ck_SX), ck_hs G S SX Post mc ms (ck_cms [am_cm l G yJ3_checkIndex_8e157 (.code yJ3_checkIndex_8e157 prog_56_method_11_code 3 (some .int)) 1 20]) ge_yJ15_checkIndex_7cf53_X → (∀ pc, ck_sR G S pc) → ck_hw S → zw_hx SX Post mc ms → S 0 (am_ent a 2) [] h 0 0) : am_M l G yJ15_checkIndex_7cf53 (.code yJ15_checkIndex_7cf53 prog_52_method_17_code 2 (some .int)) 2 42 mc ms a h Post :=
  zw_handX (E := ge_yJ15_checkIndex_7cf53_X) (tb := gt_yJ15_checkIndex_7cf53_X) (init := false) (cm := (ck_cms [am_cm l G yJ3_checkIndex_8e157 (.code yJ3_checkIndex_8e157 prog_56_method_11_code 3 (some .int)) 1 20])) g.1.1 (by decide +kernel) rfl gd_yJ15_checkIndex_7cf53_X ⟨(List.forall_mem_nil _), (List.forall_mem_nil _), (List.forall_mem_nil _), (List.forall_mem_nil _), (List.forall_mem_nil _), (List.forall_mem_nil _), (List.forall_mem_nil _), (List.forall_mem_nil _)⟩ (List.forall_mem_nil _) (fun h => nomatch h) ⟨_, rfl, rfl⟩ (by decide) (by decide) g_oi g_ar
    (fun s hk _ => (List.forall_mem_nil _)) (fun s hk => (List.forall_mem_nil _))
    (List.forall_mem_nil _) (List.forall_mem_nil _) (List.forall_mem_cons.mpr ⟨(ck_kS g_y_yJ3_checkIndex_8e157 w1909 w846 (by decide) (by decide)), (List.forall_mem_nil _)⟩) (List.forall_mem_nil _)
    (List.forall_mem_nil _) hay H
def gt_yJx4a65c_fastRemove_b59b0_X : ck_TB := ([], [], [], [(48, 6, 2), (63, 6, 0)], [(48, 6, 2, 0), (63, 6, 0, 0)], [], [], [], ([], [], [(112, 0)], []), [], [], [], 9)
def ge_yJx4a65c_fastRemove_b59b0_X : ck_E := (gT, [], (([], [], [], 0, []), ((0, []), (0, [])), [], [], ([], [], [], 0, []), []), 4, [(0, (0, 5, 0, 0, 1, 0, [])), (1, (0, 12, 0, 0, 2, 0, [])), (2, (7, 6, 0, 0, 5, 0, [])), (5, (0, 0, 0, 1, 6, 0, [])), (6, (0, 15, 0, 0, 7, 0, [])), (7, (8, 6, 0, 0, 10, 0, [])), (10, (0, 5, 0, 0, 11, 0, [])), (11, (7, 6, 2, 0, 14, 0, [])), (14, (0, 0, 0, 1, 15, 0, [])), (15, (0, 15, 1, 0, 16, 0, [])), (16, (0, 12, 0, 0, 17, 0, [])), (17, (0, 6, 3, 0, 18, 0, [])), (18, (0, 3, 2, 0, 19, 0, [])), (19, (2, 5, 0, 0, 22, 34, [])), (22, (0, 5, 1, 0, 23, 0, [])), (23, (0, 3, 2, 0, 24, 0, [])), (24, (0, 0, 0, 1, 25, 0, [])), (25, (0, 15, 0, 0, 26, 0, [])), (26, (0, 5, 1, 0, 27, 0, [])), (27, (0, 3, 2, 0, 28, 0, [])), (28, (0, 3, 3, 0, 29, 0, [])), (29, (0, 3, 2, 0, 30, 0, [])), (30, (0, 15, 1, 0, 31, 0, [])), (31, (16, 0, 0, 0, 34, 0, [])), (34, (0, 5, 1, 0, 35, 0, [])), (35, (0, 5, 0, 0, 36, 0, [])), (36, (0, 3, 3, 0, 37, 0, [])), (37, (0, 13, 0, 0, 38, 0, [])), (38, (8, 6, 2, 0, 41, 0, [])), (41, (0, 2, 0, 0, 42, 0, [])), (42, (13, 53, 57, 0, 43, 0, [])), (43, (15, 0, 0, 0, 0, 0, []))], [(none, 5, [])], [], [], [])
theorem gd_yJx4a65c_fastRemove_b59b0_X : ck_dec prog_46_method_39_code gt_yJx4a65c_fastRemove_b59b0_X ge_yJx4a65c_fastRemove_b59b0_X.2.2.2.2.1 = true := by decide +kernel
theorem gh_yJx4a65c_fastRemove_b59b0_X {l : Launch} {G : am_G} {X : ck_XT} (g : gM l G X) {a : List Value} {h : List am_C} {mc ms : Nat} {Post : am_O → List am_C → Prop} (hay : (am_lay a).length ≤ 4) (H : ∀ (S : ck_SS) (SX : Nat → ck_SX), ck_hs G S SX Post mc ms (ck_cms [ck_arM G]) ge_yJx4a65c_fastRemove_b59b0_X → (∀ pc, ck_sR G S pc) → ck_hw S → zw_hx SX Post mc ms → S 0 (am_ent a 4) [] h 0 0) : am_M l G yJx4a65c_fastRemove_b59b0 (.code yJx4a65c_fastRemove_b59b0 prog_46_method_39_code 4 none) 2 59 mc ms a h Post :=
  zw_handX (E := ge_yJx4a65c_fastRemove_b59b0_X) (tb := gt_yJx4a65c_fastRemove_b59b0_X) (init := false) (cm := (ck_cms [ck_arM G])) g.1.1 (by decide +kernel) rfl gd_yJx4a65c_fastRemove_b59b0_X ⟨(List.forall_mem_nil _), (List.forall_mem_nil _), (List.forall_mem_nil _), (List.forall_mem_cons.mpr ⟨⟨⟨_, _, _, rfl, Or.inl w1686⟩, by decide, _, _, g_fd6_2⟩, (List.forall_mem_cons.mpr ⟨⟨⟨_, _, _, rfl, Or.inr (Or.inr ⟨_, w1690, w1689⟩)⟩, by decide, _, _, g_fd6_0⟩, (List.forall_mem_nil _)⟩)⟩), (List.forall_mem_nil _), (List.forall_mem_nil _), (List.forall_mem_nil _), (List.forall_mem_nil _)⟩ (List.forall_mem_cons.mpr ⟨⟨⟨_, _, _, rfl, Or.inl w1686⟩, by decide, _, rfl, Or.inl g_fd6_2⟩, (List.forall_mem_cons.mpr ⟨⟨⟨_, _, _, rfl, Or.inr (Or.inr ⟨_, w1690, w1689⟩)⟩, by decide, _, rfl, Or.inl g_fd6_0⟩, (List.forall_mem_nil _)⟩)⟩) (fun h => nomatch h) rfl (by decide) (by decide) g_oi g_ar
    (fun s hk _ => (List.forall_mem_nil _)) (fun s hk => (List.forall_mem_nil _))
    (List.forall_mem_nil _) (List.forall_mem_nil _) (List.forall_mem_cons.mpr ⟨(ck_kAR w1914 w538 w537 w105 w2528 w2503 w2513 (by decide) (by decide +kernel)), (List.forall_mem_nil _)⟩) (List.forall_mem_nil _)
    (List.forall_mem_nil _) hay H
def gt_yJx4a65c_remove_915e3_X : ck_TB := ([], [], [], [(9, 6, 1), (48, 6, 2)], [], [], [], [], ([(144, 1)], [], [(118, 0)], []), [], [], [], 4)
def ge_yJx4a65c_remove_915e3_X : ck_E := (gT, [], (([], [], [], 0, []), ((0, []), (0, [])), [], [], ([], [], [], 0, []), []), 4, [(0, (0, 3, 1, 0, 1, 0, [])), (1, (0, 5, 0, 0, 2, 0, [])), (2, (7, 6, 2, 0, 5, 0, [])), (5, (16, 0, 0, 0, 8, 0, [])), (8, (0, 10, 0, 0, 9, 0, [])), (9, (0, 5, 0, 0, 10, 0, [])), (10, (7, 6, 1, 0, 13, 0, [])), (13, (0, 8, 2, 0, 14, 0, [])), (14, (0, 5, 2, 0, 15, 0, [])), (15, (0, 3, 1, 0, 16, 0, [])), (16, (12, 53, 58, 0, 17, 0, [])), (17, (0, 8, 3, 0, 18, 0, [])), (18, (0, 5, 0, 0, 19, 0, [])), (19, (0, 5, 2, 0, 20, 0, [])), (20, (0, 3, 1, 0, 21, 0, [])), (21, (16, 1, 0, 0, 24, 0, [])), (24, (0, 5, 3, 0, 25, 0, [])), (25, (14, 0, 0, 4, 0, 0, []))], [(none, 2, []), (some 6, 3, [])], [], [], [])
theorem gd_yJx4a65c_remove_915e3_X : ck_dec prog_46_method_29_code gt_yJx4a65c_remove_915e3_X ge_yJx4a65c_remove_915e3_X.2.2.2.2.1 = true := by decide +kernel
theorem gh_yJx4a65c_remove_915e3_X {l : Launch} {G : am_G} {X : ck_XT} (g : gM l G X) {a : List Value} {h : List am_C} {mc ms : Nat} {Post : am_O → List am_C → Prop} (hay : (am_lay a).length ≤ 4) (H : ∀ (S : ck_SS) (SX : Nat → ck_SX), ck_hs G S SX Post mc ms (ck_cms [am_cm l G yJ15_checkIndex_7cf53 (.code yJ15_checkIndex_7cf53 prog_52_method_17_code 2 (some .int)) 2 42, am_cm l G yJx4a65c_fastRemove_b59b0 (.code yJx4a65c_fastRemove_b59b0 prog_46_method_39_code 4 none) 2 59]) ge_yJx4a65c_remove_915e3_X → (∀ pc, ck_sR G S pc) → ck_hw S → zw_hx SX Post mc ms → S 0 (am_ent a 4) [] h 0 0) : am_M l G yJx4a65c_remove_915e3 (.code yJx4a65c_remove_915e3 prog_46_method_29_code 4 (some (.object "java/lang/Object"))) 3 82 mc ms a h Post :=
  zw_handX (E := ge_yJx4a65c_remove_915e3_X) (tb := gt_yJx4a65c_remove_915e3_X) (init := false) (cm := (ck_cms [am_cm l G yJ15_checkIndex_7cf53 (.code yJ15_checkIndex_7cf53 prog_52_method_17_code 2 (some .int)) 2 42, am_cm l G yJx4a65c_fastRemove_b59b0 (.code yJx4a65c_fastRemove_b59b0 prog_46_method_39_code 4 none) 2 59])) g.1.1 (by decide +kernel) rfl gd_yJx4a65c_remove_915e3_X ⟨(List.forall_mem_nil _), (List.forall_mem_nil _), (List.forall_mem_nil _), (List.forall_mem_cons.mpr ⟨⟨⟨_, _, _, rfl, Or.inl w1683⟩, by decide, _, _, g_fd6_1⟩, (List.forall_mem_cons.mpr ⟨⟨⟨_, _, _, rfl, Or.inl w1686⟩, by decide, _, _, g_fd6_2⟩, (List.forall_mem_nil _)⟩)⟩), (List.forall_mem_nil _), (List.forall_mem_nil _), (List.forall_mem_nil _), (List.forall_mem_nil _)⟩ (List.forall_mem_nil _) (fun h => nomatch h) ⟨_, rfl, Or.inl ⟨_, rfl⟩⟩ (by decide) (by decide) g_oi g_ar
    (fun s hk _ => (List.forall_mem_nil _)) (fun s hk => (List.forall_mem_nil _))
    (List.forall_mem_cons.mpr ⟨(ck_kV g_y_yJx4a65c_fastRemove_b59b0 w1910 w1912 w37 (T := TJx4a65c) (N := 3) rfl (by decide) (by decide) (by decide)), (List.forall_mem_nil _)⟩) (List.forall_mem_nil _) (List.forall_mem_cons.mpr ⟨(ck_kS g_y_yJ15_checkIndex_7cf53 w1906 w1907 (by decide) (by decide)), (List.forall_mem_nil _)⟩) (List.forall_mem_nil _)
    (List.forall_mem_nil _) hay H
end
