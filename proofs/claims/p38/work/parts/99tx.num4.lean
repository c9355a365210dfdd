/-! THE REFERENCE'S NUMBERS: times -/
theorem zx_dr {B : List Int} {j : Nat} : hd_v (B.drop j) = (B.drop j).headD 0 + 10 * hd_v (B.drop (j + 1)) := by
  rw [← List.tail_drop]
  generalize B.drop j = l_
  cases l_ with
  | nil => rfl
  | cons a u => rfl
theorem zx_mul {md : List Int} {i : Nat} {e o x b W W2 t C : Int} (he : md[i]? = some e) (hW : W = b + 10 * W2) (ht : e + o + x * b = t) (hC : hd_v md + 10 ^ i * (o + x * W) = C) : hd_v (md.set i (t % 10)) + 10 ^ (i + 1) * (t / 10 + x * W2) = C := by
  have k_ : t % 10 - e + 10 * (t / 10 + x * W2) = o + x * (b + 10 * W2) := by
    rw [Int.mul_add x b (10 * W2), Int.mul_left_comm x 10 W2]
    omega
  rw [zx_set he, ← hC, Int.pow_succ, hW, Int.mul_assoc, Int.add_assoc, ← Int.mul_add, k_]
theorem zx_bd {md : List Int} {i j n : Nat} {o C : Int} (hd : hd_d md) (ho : 0 < o) (hC : hd_v md + 10 ^ (i + j) * o = C) (hC2 : C < 10 ^ (i + 1 + n)) : j ≤ n := by
  apply Nat.not_lt.mp
  intro y_
  have p_ := hd_pow (show i + 1 + n ≤ i + j by omega)
  have nn_ := hd_v_nn hd
  have q_ : (10 : Int) ^ (i + j) * 1 ≤ 10 ^ (i + j) * o := Int.mul_le_mul_of_nonneg_left (by omega) (Int.pow_nonneg (by decide))
  rw [Int.mul_one] at q_
  generalize (10 : Int) ^ (i + j) * o = z_ at *
  omega
theorem zx_tk {A : List Int} {i : Nat} {x : Int} (h : A[i]? = some x) : hd_v (A.take (i + 1)) = hd_v (A.take i) + 10 ^ i * x := by
  have l_ := (List.getElem?_eq_some_iff.mp h).1
  have e_ : A.take (i + 1) = A.take i ++ [x] := by
    rw [List.take_add_one, h]
    rfl
  rw [e_, hd_v_app, List.length_take, Nat.min_eq_left (by omega)]
  show hd_v (A.take i) + 10 ^ i * (x + 10 * 0) = _
  rw [Int.mul_zero, Int.add_zero]
theorem zx_pr {A B : List Int} {i : Nat} (hA : hd_d A) (hB : hd_d B) (hi : i < A.length) : hd_v (A.take (i + 1)) * hd_v B < 10 ^ (i + 1 + B.length) := by
  have a1_ := hd_v_nn (hA.take (i + 1))
  have a2_ := hd_v_lt (hA.take (i + 1))
  rw [List.length_take, Nat.min_eq_left (by omega)] at a2_
  have b1_ := hd_v_nn hB
  have b2_ := hd_v_lt hB
  have p_ : (0 : Int) < 10 ^ B.length := Int.lt_of_le_of_lt b1_ b2_
  have c1_ : hd_v (A.take (i + 1)) * hd_v B ≤ hd_v (A.take (i + 1)) * 10 ^ B.length := Int.mul_le_mul_of_nonneg_left (Int.le_of_lt b2_) a1_
  have c2_ : hd_v (A.take (i + 1)) * 10 ^ B.length < 10 ^ (i + 1) * 10 ^ B.length := Int.mul_lt_mul_of_pos_right a2_ p_
  rw [Int.pow_add]
  exact Int.lt_of_le_of_lt c1_ c2_
theorem zx_sg {A B : List Int} {b z b2 z2 : Int} (hi : zn_is A b z) (hi2 : zn_is B b2 z2) : (b = b2 → hd_v A * hd_v B = z * z2) ∧ (b ≠ b2 → -(hd_v A * hd_v B) = z * z2) := by
  have e1_ := hi.2.2.2.2
  have e2_ := hi2.2.2.2.2
  rcases hi.2.2.1 with c_ | c_
  · rw [if_neg (by omega)] at e1_
    rcases hi2.2.2.1 with d_ | d_
    · rw [if_neg (by omega)] at e2_
      exact ⟨fun _ => by rw [e1_, e2_], fun y_ => absurd (c_.trans d_.symm) y_⟩
    · rw [if_pos d_] at e2_
      exact ⟨fun y_ => by omega, fun _ => by rw [e1_, e2_, Int.mul_neg]⟩
  · rw [if_pos c_] at e1_
    rcases hi2.2.2.1 with d_ | d_
    · rw [if_neg (by omega)] at e2_
      exact ⟨fun y_ => by omega, fun _ => by rw [e1_, e2_, Int.neg_mul]⟩
    · rw [if_pos d_] at e2_
      exact ⟨fun _ => by rw [e1_, e2_, Int.neg_mul_neg], fun y_ => absurd (c_.trans d_.symm) y_⟩
set_option maxHeartbeats 4000000 in
theorem zn_times_M {l : Launch} {G : am_G} {X : ck_XT} (g : gM l G X)  {q t d td q2 t2 d2 td2 : Nat} {b z b2 z2 : Int} {A B : List Int} {h : List am_C} (hg : am_g G h q = some (t, [.int (Int32.ofInt b), .ref d])) (ht : t % 100 = 17) (hgd : am_g G h d = some (td, hd_r A)) (htd : td % 100 = 50) (hi : zn_is A b z) (hg2 : am_g G h q2 = some (t2, [.int (Int32.ofInt b2), .ref d2])) (ht2 : t2 % 100 = 17) (hgd2 : am_g G h d2 = some (td2, hd_r B)) (htd2 : td2 % 100 = 50) (hi2 : zn_is B b2 z2) (hla : A.length ≤ 400) (hlb : B.length ≤ 400) {mc ms : Nat} {Post : am_O → List am_C → Prop}
    (hmc : 3 ≤ mc) (hms : 2 + (A.length + B.length + 1) + (A.length + B.length + 1) ≤ ms)
    (hP : ∀ (h' : List am_C) (p : Nat), zg G h h' → zn_N G h' p (z * z2) → Post (.inl (some (.ref p))) h') :
    am_M l G yX12_times (.code yX12_times prog_15_method_11_code 7 (some (.object "ClockhouseModel$Num"))) 2 44 mc ms [.ref q, .ref q2] h Post := by
  refine gh_yX12_times_X g (Nat.le_of_ble_eq_true rfl) fun S SX hs hr hw hx => ?_
  have rv : ∀ x : Int32, ck_fv 0 (.int x) := fun x => ⟨_, rfl⟩
  have inner_ : ∀ (mr_ i_ : Nat) (x_ : Int), 1000 + h.length ≤ mr_ → A[i_]? = some x_ → (∀ (h1_ : List am_C) (md_ : List Int) (o_ : Int) (j_ : Nat) (w_ : Option Value), zg G h h1_ → am_g G h1_ mr_ = some (50, hd_r md_) → md_.length = A.length + B.length + 1 → hd_d md_ → hd_v md_ = hd_v (A.take (i_ + 1)) * hd_v B → S 112 [some (.ref q), some (.ref q2), some (.ref mr_), some (.int (Int32.ofInt (i_ : Int))), some (.int (Int32.ofInt o_)), some (.int (Int32.ofInt (j_ : Int))), w_] [] h1_ (0 + 1) (0 + (A.length + B.length + 1))) → ∀ (m_ j_ : Nat) (o_ : Int) (h1_ : List am_C) (md_ : List Int) (w_ : Option Value), j_ + m_ = B.length + 2 → zg G h h1_ → am_g G h1_ mr_ = some (50, hd_r md_) → md_.length = A.length + B.length + 1 → hd_d md_ → (0 ≤ o_ ∧ o_ ≤ 9) → hd_v md_ + 10 ^ (i_ + j_) * (o_ + x_ * hd_v (B.drop j_)) = hd_v (A.take (i_ + 1)) * hd_v B → S 33 [some (.ref q), some (.ref q2), some (.ref mr_), some (.int (Int32.ofInt (i_ : Int))), some (.int (Int32.ofInt o_)), some (.int (Int32.ofInt (j_ : Int))), w_] [] h1_ (0 + 1) (0 + (A.length + B.length + 1)) := by
    intro mr_ i_ x_ hmr_ gx_ kk_ m_
    have hia_ := (List.getElem?_eq_some_iff.mp gx_).1
    have hx_ := hi.1.at gx_
    have pr_ := zx_pr (i := i_) hi.1 hi2.1 hia_
    induction m_ with
    | zero =>
      intro j_ o_ h1_ md_ w_ hj_ f1_ g1_ hml_ hd_ ho_ hv_
      rw [List.drop_of_length_le (show B.length ≤ j_ by omega)] at hv_
      have hv_ : hd_v md_ + 10 ^ (i_ + j_) * (o_ + x_ * 0) = hd_v (A.take (i_ + 1)) * hd_v B := hv_
      rw [Int.mul_zero, Int.add_zero] at hv_
      have o0_ : o_ = 0 := by
        apply Int.le_antisymm
        · apply Int.not_lt.mp
          intro y_
          have := zx_bd hd_ y_ hv_ pr_
          omega
        · exact ho_.1
      rw [o0_, Int.mul_zero, Int.add_zero] at hv_
      refine hs 22 _ rfl _ _ _ _ _ _ _ rfl ?_
      refine hs 23 _ rfl _ _ _ _ _ _ _ rfl ?_
      refine hs 24 _ rfl _ _ _ _ _ _ _ _ _ ((f1_.2 _ _ hg2)) ht2 rfl ?_
      refine hd_Ln (hs 25 _ rfl) ((f1_.2 _ _ hgd2)) htd2 ?_
      refine hs 26 _ rfl _ _ _ _ _ _ _ (fun zq => absurd (hd_c2z (c := 2) (by omega) (by omega) (by omega) (by omega) zq) (by omega : ¬ (((j_ : Int) - (B.length : Int)) < 0))) (fun _ => ?_)
      refine hs 27 _ rfl _ _ _ _ _ _ _ rfl ?_
      refine hs 28 _ rfl _ _ _ _ _ _ (fun _ => ?_) (fun zq => absurd (hd_c1t (c := 5) (by omega) (by omega) (by omega : o_ ≤ 0)) zq)
      exact kk_ h1_ md_ _ _ _ f1_ g1_ hml_ hd_ hv_
    | succ m_ ih_ =>
      intro j_ o_ h1_ md_ w_ hj_ f1_ g1_ hml_ hd_ ho_ hv_
      have f48_ : i_ + j_ < A.length + B.length + 1 → S 48 [some (.ref q), some (.ref q2), some (.ref mr_), some (.int (Int32.ofInt (i_ : Int))), some (.int (Int32.ofInt o_)), some (.int (Int32.ofInt (j_ : Int))), w_] [] h1_ (0 + 1) (0 + (A.length + B.length + 1)) := by
        intro hij_
        obtain ⟨e_, gm_⟩ : ∃ e_ : Int, md_[i_ + j_]? = some e_ := ⟨_, List.getElem?_eq_getElem (by omega)⟩
        obtain ⟨b9_, hb9_⟩ : ∃ b9_ : Int, (B.drop j_).headD 0 = b9_ := ⟨_, rfl⟩
        have he_ := hd_.at gm_
        have b9b_ : 0 ≤ b9_ ∧ b9_ ≤ 9 := by rw [← hb9_]; exact hd_head (hi2.1.drop j_)
        have xb0_ := Int.mul_nonneg hx_.1 b9b_.1
        have xb1_ : x_ * b9_ ≤ 9 * 9 := Int.mul_le_mul hx_.2 b9b_.2 b9b_.1 (by decide)
        obtain ⟨t_, ht_⟩ : ∃ t_ : Int, e_ + o_ + x_ * b9_ = t_ := ⟨_, rfl⟩
        have v9_ := zx_mul gm_ (zx_dr.trans (by rw [hb9_])) ht_ hv_
        have d9_ := zx_dset (i := i_ + j_) (x := t_ % 10) hd_ (by omega) (by omega)
        by_cases cj_ : j_ < B.length
        · have gb_ : B[j_]? = some b9_ := by rw [← hb9_]; exact zk_h1 cj_
          refine hs 29 _ rfl _ _ _ _ _ _ _ rfl ?_
          refine hs 30 _ rfl _ _ _ _ _ _ _ rfl ?_
          refine hs 31 _ rfl _ _ _ _ _ _ _ rfl ?_
          refine hs 32 _ rfl _ _ _ _ _ _ _ hd_add ?_
          refine hd_A (hs 33 _ rfl) (by decide) (by decide) (g1_) rfl (j := (i_ + j_)) (by omega) (by omega) gm_ ?_
          refine hs 34 _ rfl _ _ _ _ _ _ _ rfl ?_
          refine hs 35 _ rfl _ _ _ _ _ _ _ hd_add ?_
          refine hs 36 _ rfl _ _ _ _ _ _ _ rfl ?_
          refine hs 37 _ rfl _ _ _ _ _ _ _ rfl ?_
          refine hs 38 _ rfl _ _ _ _ _ _ _ _ _ ((f1_.2 _ _ hg2)) ht2 rfl ?_
          refine hd_Ln (hs 39 _ rfl) ((f1_.2 _ _ hgd2)) htd2 ?_
          refine hs 40 _ rfl _ _ _ _ _ _ _ (fun zq => absurd (hd_c2z (c := 3) (by omega) (by omega) (by omega) (by omega) zq) (by omega : ¬ (0 ≤ ((j_ : Int) - (B.length : Int))))) (fun _ => ?_)
          refine hs 41 _ rfl _ _ _ _ _ _ _ rfl ?_
          refine hs 42 _ rfl _ _ _ _ _ _ _ _ _ ((f1_.2 _ _ hg)) ht rfl ?_
          refine hs 43 _ rfl _ _ _ _ _ _ _ rfl ?_
          refine hd_A (hs 44 _ rfl) (by decide) (by decide) ((f1_.2 _ _ hgd)) htd (j := i_) (by omega) (by omega) gx_ ?_
          refine hs 45 _ rfl _ _ _ _ _ _ _ rfl ?_
          refine hs 46 _ rfl _ _ _ _ _ _ _ _ _ ((f1_.2 _ _ hg2)) ht2 rfl ?_
          refine hs 47 _ rfl _ _ _ _ _ _ _ rfl ?_
          refine hd_A (hs 48 _ rfl) (by decide) (by decide) ((f1_.2 _ _ hgd2)) htd2 (j := j_) (by omega) (by omega) gb_ ?_
          refine hs 49 _ rfl _ _ _ _ _ _ _ hd_mul ?_
          refine hs 50 _ rfl _ _ _ _ _ ?_
          refine hs 52 _ rfl _ _ _ _ _ _ _ (zk_addE ht_) ?_
          refine hs 53 _ rfl _ _ _ _ _ _ _ rfl ?_
          refine hs 54 _ rfl _ _ _ _ _ _ _ rfl ?_
          refine hs 55 _ rfl _ _ _ _ _ _ _ rfl ?_
          refine hs 56 _ rfl _ _ _ _ _ _ _ rfl ?_
          refine hs 57 _ rfl _ _ _ _ _ _ _ hd_add ?_
          refine hs 58 _ rfl _ _ _ _ _ _ _ rfl ?_
          refine hs 59 _ rfl _ _ _ _ _ _ _ rfl ?_
          refine hs 60 _ rfl _ _ _ _ _ _ _ (hd_rem (by omega) (by omega) (by omega) (by omega)) ?_
          refine zw_B (hs 61 _ rfl) (by decide) (by decide) (by omega) (g1_) rfl (j := (i_ + j_)) (by omega) (by omega) (by omega) fun hz171 wz172 => ?_
          refine hs 62 _ rfl _ _ _ _ _ _ _ rfl ?_
          refine hs 63 _ rfl _ _ _ _ _ _ _ rfl ?_
          refine hs 64 _ rfl _ _ _ _ _ _ _ (hd_div (by omega) (by omega) (by omega) (by omega)) ?_
          refine hs 65 _ rfl _ _ _ _ _ _ _ rfl ?_
          refine hs 66 _ rfl _ _ _ _ _ _ _ (hd_inc rfl) ?_
          refine hs 67 _ rfl _ _ _ _ _ ?_
          rw [show ((j_ : Int) + (1 : Int)) = ((j_ + 1 : Nat) : Int) by omega]
          exact ih_ (j_ + 1) _ _ _ _ (by omega) (f1_.w wz172 hmr_) wz172.at (by rw [List.length_set]; exact hml_) d9_ ⟨by omega, by omega⟩ v9_
        · have b0_ : b9_ = 0 := by rw [← hb9_]; exact zk_h0 (by omega)
          rw [b0_, Int.mul_zero] at ht_
          refine hs 29 _ rfl _ _ _ _ _ _ _ rfl ?_
          refine hs 30 _ rfl _ _ _ _ _ _ _ rfl ?_
          refine hs 31 _ rfl _ _ _ _ _ _ _ rfl ?_
          refine hs 32 _ rfl _ _ _ _ _ _ _ hd_add ?_
          refine hd_A (hs 33 _ rfl) (by decide) (by decide) (g1_) rfl (j := (i_ + j_)) (by omega) (by omega) gm_ ?_
          refine hs 34 _ rfl _ _ _ _ _ _ _ rfl ?_
          refine hs 35 _ rfl _ _ _ _ _ _ _ hd_add ?_
          refine hs 36 _ rfl _ _ _ _ _ _ _ rfl ?_
          refine hs 37 _ rfl _ _ _ _ _ _ _ rfl ?_
          refine hs 38 _ rfl _ _ _ _ _ _ _ _ _ ((f1_.2 _ _ hg2)) ht2 rfl ?_
          refine hd_Ln (hs 39 _ rfl) ((f1_.2 _ _ hgd2)) htd2 ?_
          refine hs 40 _ rfl _ _ _ _ _ _ _ (fun _ => ?_) (fun zq => absurd (hd_c2t (c := 3) (by omega) (by omega) (by omega) (by omega) (by omega : 0 ≤ ((j_ : Int) - (B.length : Int)))) zq)
          refine hs 51 _ rfl _ _ _ _ _ _ _ rfl ?_
          refine hs 52 _ rfl _ _ _ _ _ _ _ (zk_addE ht_) ?_
          refine hs 53 _ rfl _ _ _ _ _ _ _ rfl ?_
          refine hs 54 _ rfl _ _ _ _ _ _ _ rfl ?_
          refine hs 55 _ rfl _ _ _ _ _ _ _ rfl ?_
          refine hs 56 _ rfl _ _ _ _ _ _ _ rfl ?_
          refine hs 57 _ rfl _ _ _ _ _ _ _ hd_add ?_
          refine hs 58 _ rfl _ _ _ _ _ _ _ rfl ?_
          refine hs 59 _ rfl _ _ _ _ _ _ _ rfl ?_
          refine hs 60 _ rfl _ _ _ _ _ _ _ (hd_rem (by omega) (by omega) (by omega) (by omega)) ?_
          refine zw_B (hs 61 _ rfl) (by decide) (by decide) (by omega) (g1_) rfl (j := (i_ + j_)) (by omega) (by omega) (by omega) fun hz173 wz174 => ?_
          refine hs 62 _ rfl _ _ _ _ _ _ _ rfl ?_
          refine hs 63 _ rfl _ _ _ _ _ _ _ rfl ?_
          refine hs 64 _ rfl _ _ _ _ _ _ _ (hd_div (by omega) (by omega) (by omega) (by omega)) ?_
          refine hs 65 _ rfl _ _ _ _ _ _ _ rfl ?_
          refine hs 66 _ rfl _ _ _ _ _ _ _ (hd_inc rfl) ?_
          refine hs 67 _ rfl _ _ _ _ _ ?_
          rw [show ((j_ : Int) + (1 : Int)) = ((j_ + 1 : Nat) : Int) by omega]
          exact ih_ (j_ + 1) _ _ _ _ (by omega) (f1_.w wz174 hmr_) wz174.at (by rw [List.length_set]; exact hml_) d9_ ⟨by omega, by omega⟩ v9_
      by_cases cj_ : j_ < B.length
      · 
        refine hs 22 _ rfl _ _ _ _ _ _ _ rfl ?_
        refine hs 23 _ rfl _ _ _ _ _ _ _ rfl ?_
        refine hs 24 _ rfl _ _ _ _ _ _ _ _ _ ((f1_.2 _ _ hg2)) ht2 rfl ?_
        refine hd_Ln (hs 25 _ rfl) ((f1_.2 _ _ hgd2)) htd2 ?_
        refine hs 26 _ rfl _ _ _ _ _ _ _ (fun _ => ?_) (fun zq => absurd (hd_c2t (c := 2) (by omega) (by omega) (by omega) (by omega) (by omega : ((j_ : Int) - (B.length : Int)) < 0)) zq)
        exact f48_ (by omega)
      · have hv2_ := hv_
        rw [List.drop_of_length_le (show B.length ≤ j_ by omega)] at hv2_
        have hv2_ : hd_v md_ + 10 ^ (i_ + j_) * (o_ + x_ * 0) = hd_v (A.take (i_ + 1)) * hd_v B := hv2_
        rw [Int.mul_zero, Int.add_zero] at hv2_
        by_cases o0_ : o_ = 0
        · rw [o0_, Int.mul_zero, Int.add_zero] at hv2_
          refine hs 22 _ rfl _ _ _ _ _ _ _ rfl ?_
          refine hs 23 _ rfl _ _ _ _ _ _ _ rfl ?_
          refine hs 24 _ rfl _ _ _ _ _ _ _ _ _ ((f1_.2 _ _ hg2)) ht2 rfl ?_
          refine hd_Ln (hs 25 _ rfl) ((f1_.2 _ _ hgd2)) htd2 ?_
          refine hs 26 _ rfl _ _ _ _ _ _ _ (fun zq => absurd (hd_c2z (c := 2) (by omega) (by omega) (by omega) (by omega) zq) (by omega : ¬ (((j_ : Int) - (B.length : Int)) < 0))) (fun _ => ?_)
          refine hs 27 _ rfl _ _ _ _ _ _ _ rfl ?_
          refine hs 28 _ rfl _ _ _ _ _ _ (fun _ => ?_) (fun zq => absurd (hd_c1t (c := 5) (by omega) (by omega) (by omega : o_ ≤ 0)) zq)
          exact kk_ h1_ md_ _ _ _ f1_ g1_ hml_ hd_ hv2_
        · have jl_ := zx_bd hd_ (show 0 < o_ by omega) hv2_ pr_
          refine hs 22 _ rfl _ _ _ _ _ _ _ rfl ?_
          refine hs 23 _ rfl _ _ _ _ _ _ _ rfl ?_
          refine hs 24 _ rfl _ _ _ _ _ _ _ _ _ ((f1_.2 _ _ hg2)) ht2 rfl ?_
          refine hd_Ln (hs 25 _ rfl) ((f1_.2 _ _ hgd2)) htd2 ?_
          refine hs 26 _ rfl _ _ _ _ _ _ _ (fun zq => absurd (hd_c2z (c := 2) (by omega) (by omega) (by omega) (by omega) zq) (by omega : ¬ (((j_ : Int) - (B.length : Int)) < 0))) (fun _ => ?_)
          refine hs 27 _ rfl _ _ _ _ _ _ _ rfl ?_
          refine hs 28 _ rfl _ _ _ _ _ _ (fun zq => absurd (hd_c1z (c := 5) (by omega) (by omega) zq) (by omega : ¬ (o_ ≤ 0))) (fun _ => ?_)
          exact f48_ (by omega)
  have outer_ : ∀ (n_ i_ mr_ : Nat) (h1_ : List am_C) (md_ : List Int) (w4_ w5_ w6_ : Option Value), i_ + n_ = A.length → 1000 + h.length ≤ mr_ → zg G h h1_ → am_g G h1_ mr_ = some (50, hd_r md_) → md_.length = A.length + B.length + 1 → hd_d md_ → hd_v md_ = hd_v (A.take i_) * hd_v B → S 18 [some (.ref q), some (.ref q2), some (.ref mr_), some (.int (Int32.ofInt (i_ : Int))), w4_, w5_, w6_] [] h1_ (0 + 1) (0 + (A.length + B.length + 1)) := by
    intro n_
    induction n_ with
    | zero =>
      intro i_ mr_ h1_ md_ w4_ w5_ w6_ hi_ hmr_ f1_ g1_ hml_ hd_ hv_
      have fl_ := f1_.1
      rw [List.take_of_length_le (by omega)] at hv_
      have bz1_ := hi.2.2.1
      have bz2_ := hi2.2.2.1
      refine hs 13 _ rfl _ _ _ _ _ _ _ rfl ?_
      refine hs 14 _ rfl _ _ _ _ _ _ _ rfl ?_
      refine hs 15 _ rfl _ _ _ _ _ _ _ _ _ ((f1_.2 _ _ hg)) ht rfl ?_
      refine hd_Ln (hs 16 _ rfl) ((f1_.2 _ _ hgd)) htd ?_
      refine hs 17 _ rfl _ _ _ _ _ _ _ (fun _ => ?_) (fun zq => absurd (hd_c2t (c := 3) (by omega) (by omega) (by omega) (by omega) (by omega : 0 ≤ ((i_ : Int) - (A.length : Int)))) zq)
      refine zw_W (G := G) (hs 70 _ rfl) (t := 17) (vs := [.int 0, .null]) (m := 2) rfl rfl rfl (by omega) (by omega) fun hz175 az176 ez177 lz178 gz179 cz180 => ?_
      refine hs 71 _ rfl _ _ _ _ _ _ _ rfl ?_
      by_cases bb_ : b ≠ b2
      · 
        refine hs 72 _ rfl _ _ _ _ _ _ _ rfl ?_
        refine hs 73 _ rfl _ _ _ _ _ _ _ _ _ ((gz179.2 _ _ ((f1_.2 _ _ hg)))) ht rfl ?_
        refine hs 74 _ rfl _ _ _ _ _ _ _ rfl ?_
        refine hs 75 _ rfl _ _ _ _ _ _ _ _ _ ((gz179.2 _ _ ((f1_.2 _ _ hg2)))) ht2 rfl ?_
        refine hs 76 _ rfl _ _ _ _ _ _ _ (fun zq => absurd (hd_c2z (c := 0) (by omega) (by omega) (by omega) (by omega) zq) (by omega : ¬ ((b - b2) = 0))) (fun _ => ?_)
        refine hs 77 _ rfl _ _ _ _ _ _ _ rfl ?_
        refine hs 78 _ rfl _ _ _ _ _ ?_
        refine hs 80 _ rfl _ _ _ _ _ _ _ rfl ?_
        refine zw_cmn (hs 81 _ rfl) (a := [.ref az176, .int (Int32.ofInt (1 : Int)), .ref mr_]) (st := [.ref az176]) 1 md_.length rfl rfl (Nat.le_of_ble_eq_true rfl) ⟨_, _, _, rfl, (cz180), rfl⟩ (by omega) (by omega) (⟨zn_init_M g (ds := md_) (by omega) (Or.inr rfl) rfl rfl (by omega) hd_ (cz180) ((gz179.2 _ _ g1_)) (by decide) (Nat.le_refl _) fun hi1_ d1_ n1_ p1_ e1_ l1_ a1_ a2_ f1b_ => ?_, fun _ _ h9 => h9⟩)
        show S 142 [some (.ref q), some (.ref q2), some (.ref mr_), some (.int (Int32.ofInt (i_ : Int))), _, _, _] [.ref az176] _ _ _
        exact hs 82 _ rfl _ _ _ _ _ (Or.inl ⟨_, rfl⟩) (by omega) (by omega) (hP _ _ (zg.i (f1_.tr gz179) (by omega) (by omega) f1b_) (zn_N.mk rfl hd_ (Or.inr rfl) p1_ a1_ a2_ (by rw [if_pos rfl, hv_]; exact (zx_sg hi hi2).2 bb_)))
      · 
        refine hs 72 _ rfl _ _ _ _ _ _ _ rfl ?_
        refine hs 73 _ rfl _ _ _ _ _ _ _ _ _ ((gz179.2 _ _ ((f1_.2 _ _ hg)))) ht rfl ?_
        refine hs 74 _ rfl _ _ _ _ _ _ _ rfl ?_
        refine hs 75 _ rfl _ _ _ _ _ _ _ _ _ ((gz179.2 _ _ ((f1_.2 _ _ hg2)))) ht2 rfl ?_
        refine hs 76 _ rfl _ _ _ _ _ _ _ (fun _ => ?_) (fun zq => absurd (hd_c2t (c := 0) (by omega) (by omega) (by omega) (by omega) (by omega : (b - b2) = 0)) zq)
        refine hs 79 _ rfl _ _ _ _ _ _ _ rfl ?_
        refine hs 80 _ rfl _ _ _ _ _ _ _ rfl ?_
        refine zw_cmn (hs 81 _ rfl) (a := [.ref az176, .int (Int32.ofInt (0 : Int)), .ref mr_]) (st := [.ref az176]) 1 md_.length rfl rfl (Nat.le_of_ble_eq_true rfl) ⟨_, _, _, rfl, (cz180), rfl⟩ (by omega) (by omega) (⟨zn_init_M g (ds := md_) (by omega) (Or.inl rfl) rfl rfl (by omega) hd_ (cz180) ((gz179.2 _ _ g1_)) (by decide) (Nat.le_refl _) fun hi1_ d1_ n1_ p1_ e1_ l1_ a1_ a2_ f1b_ => ?_, fun _ _ h9 => h9⟩)
        show S 142 [some (.ref q), some (.ref q2), some (.ref mr_), some (.int (Int32.ofInt (i_ : Int))), _, _, _] [.ref az176] _ _ _
        exact hs 82 _ rfl _ _ _ _ _ (Or.inl ⟨_, rfl⟩) (by omega) (by omega) (hP _ _ (zg.i (f1_.tr gz179) (by omega) (by omega) f1b_) (zn_N.mk rfl hd_ (Or.inl rfl) p1_ a1_ a2_ (by rw [if_neg (by decide), hv_]; exact (zx_sg hi hi2).1 (by omega))))
    | succ n_ ih_ =>
      intro i_ mr_ h1_ md_ w4_ w5_ w6_ hi_ hmr_ f1_ g1_ hml_ hd_ hv_
      obtain ⟨x_, gx_⟩ : ∃ x_ : Int, A[i_]? = some x_ := ⟨_, List.getElem?_eq_getElem (by omega)⟩
      refine hs 13 _ rfl _ _ _ _ _ _ _ rfl ?_
      refine hs 14 _ rfl _ _ _ _ _ _ _ rfl ?_
      refine hs 15 _ rfl _ _ _ _ _ _ _ _ _ ((f1_.2 _ _ hg)) ht rfl ?_
      refine hd_Ln (hs 16 _ rfl) ((f1_.2 _ _ hgd)) htd ?_
      refine hs 17 _ rfl _ _ _ _ _ _ _ (fun zq => absurd (hd_c2z (c := 3) (by omega) (by omega) (by omega) (by omega) zq) (by omega : ¬ (0 ≤ ((i_ : Int) - (A.length : Int))))) (fun _ => ?_)
      refine hs 18 _ rfl _ _ _ _ _ _ _ rfl ?_
      refine hs 19 _ rfl _ _ _ _ _ _ _ rfl ?_
      refine hs 20 _ rfl _ _ _ _ _ _ _ rfl ?_
      refine hs 21 _ rfl _ _ _ _ _ _ _ rfl ?_
      refine inner_ mr_ i_ x_ hmr_ gx_ (fun h1_ md_ o_ j_ w_ f1_ g1_ hml_ hd_ hv_ => ?_) (B.length + 2) 0 0 h1_ md_ _ (by omega) f1_ g1_ hml_ hd_ ⟨by decide, by decide⟩ ?_
      rotate_left
      · rw [List.drop_zero, hv_, zx_tk gx_, Int.add_mul, Int.mul_assoc, Int.zero_add]
        rfl
      refine hs 68 _ rfl _ _ _ _ _ _ _ (hd_inc rfl) ?_
      refine hs 69 _ rfl _ _ _ _ _ ?_
      rw [show ((i_ : Int) + (1 : Int)) = ((i_ + 1 : Nat) : Int) by omega]
      exact ih_ (i_ + 1) mr_ h1_ md_ _ _ _ (by omega) hmr_ f1_ g1_ hml_ hd_ hv_
  refine hs 0 _ rfl _ _ _ _ _ _ _ rfl ?_
  refine hs 1 _ rfl _ _ _ _ _ _ _ _ _ (hg) ht rfl ?_
  refine hd_Ln (hs 2 _ rfl) (hgd) htd ?_
  refine hs 3 _ rfl _ _ _ _ _ _ _ rfl ?_
  refine hs 4 _ rfl _ _ _ _ _ _ _ _ _ (hg2) ht2 rfl ?_
  refine hd_Ln (hs 5 _ rfl) (hgd2) htd2 ?_
  refine hs 6 _ rfl _ _ _ _ _ _ _ hd_add ?_
  refine hs 7 _ rfl _ _ _ _ _ _ _ rfl ?_
  refine hs 8 _ rfl _ _ _ _ _ _ _ hd_add ?_
  refine zw_E (G := G) (hs 9 _ rfl) (t := 50) (N := (A.length + B.length + 1)) rfl (by omega) (by omega) (by omega) (by omega) fun hz181 az182 ez183 lz184 gz185 cz186 => ?_
  refine hs 10 _ rfl _ _ _ _ _ _ _ rfl ?_
  refine hs 11 _ rfl _ _ _ _ _ _ _ rfl ?_
  refine hs 12 _ rfl _ _ _ _ _ _ _ rfl ?_
  refine outer_ A.length 0 az182 _ _ _ _ _ (by omega) (by omega) gz185 cz186 List.length_replicate (fun d hd => by rw [List.eq_of_mem_replicate hd]; decide) ?_
  rw [hd_v_zero (ds := List.replicate _ 0) (fun d hd => List.eq_of_mem_replicate hd), List.take_zero]
  exact (Int.zero_mul _).symm
