/-! THE REFERENCE'S NUMBERS: sums -/
set_option maxHeartbeats 4000000 in
theorem zn_max_M {l : Launch} {G : am_G} {X : ck_XT} (g : gM l G X) {a_ b_ M : Nat} {h : List am_C} (h1 : a_ ≤ M) (h2 : b_ ≤ M) (h3 : M = a_ ∨ M = b_) (h4 : M ≤ 1000) {mc ms : Nat} {Post : am_O → List am_C → Prop} (hP : Post (.inl (some (.int (Int32.ofInt (M : Int))))) h) :
    am_M l G yJ9_max_7cf53 (.code yJ9_max_7cf53 prog_32_method_65_code 2 (some .int)) 1 20 mc ms [.int (Int32.ofInt (a_ : Int)), .int (Int32.ofInt (b_ : Int))] h Post := by
  refine gh_yJ9_max_7cf53_X g (Nat.le_of_ble_eq_true rfl) fun S SX hs hr hw hx => ?_
  have rv : ∀ x : Int32, ck_fv 0 (.int x) := fun x => ⟨_, rfl⟩
  by_cases c_ : a_ < b_
  · 
    refine hs 0 _ rfl _ _ _ _ _ _ _ rfl ?_
    refine hs 1 _ rfl _ _ _ _ _ _ _ rfl ?_
    refine hs 2 _ rfl _ _ _ _ _ _ _ (fun _ => ?_) (fun zq => absurd (hd_c2t (c := 2) (by omega) (by omega) (by omega) (by omega) (by omega : ((a_ : Int) - (b_ : Int)) < 0)) zq)
    refine hs 5 _ rfl _ _ _ _ _ _ _ rfl ?_
    exact hs 6 _ rfl _ _ _ _ _ (rv _) (Nat.zero_le _) (Nat.zero_le _) (by rw [show b_ = M by omega]; exact hP)
  · 
    refine hs 0 _ rfl _ _ _ _ _ _ _ rfl ?_
    refine hs 1 _ rfl _ _ _ _ _ _ _ rfl ?_
    refine hs 2 _ rfl _ _ _ _ _ _ _ (fun zq => absurd (hd_c2z (c := 2) (by omega) (by omega) (by omega) (by omega) zq) (by omega : ¬ (((a_ : Int) - (b_ : Int)) < 0))) (fun _ => ?_)
    refine hs 3 _ rfl _ _ _ _ _ _ _ rfl ?_
    refine hs 4 _ rfl _ _ _ _ _ ?_
    exact hs 6 _ rfl _ _ _ _ _ (rv _) (Nat.zero_le _) (Nat.zero_le _) (by rw [show a_ = M by omega]; exact hP)
theorem zk_h1 {B : List Int} {k : Nat} (h : k < B.length) : B[k]? = some ((B.drop k).headD 0) := by
  rw [List.drop_eq_getElem_cons h, List.getElem?_eq_getElem h]
  rfl
theorem zk_h0 {B : List Int} {k : Nat} (h : B.length ≤ k) : (B.drop k).headD 0 = 0 := by
  rw [List.drop_of_length_le h]
  rfl
theorem zk_R {A : List Int} {N k : Nat} (hA : A.length ≤ N) (hk : k < N) : (A ++ List.replicate (N - A.length) 0).drop k = (A.drop k).headD 0 :: (A ++ List.replicate (N - A.length) 0).drop (k + 1) := by
  have l_ : (A ++ List.replicate (N - A.length) (0 : Int)).length = N := by
    rw [List.length_append, List.length_replicate]
    omega
  have g_ : (A ++ List.replicate (N - A.length) (0 : Int))[k]? = some ((A.drop k).headD 0) := by
    by_cases c_ : k < A.length
    · rw [List.getElem?_append_left c_]
      exact zk_h1 c_
    · rw [List.getElem?_append_right (by omega), List.getElem?_replicate_of_lt (by omega), zk_h0 (by omega)]
  have k_ : k < (A ++ List.replicate (N - A.length) (0 : Int)).length := by
    rw [l_]
    exact hk
  rw [List.drop_eq_getElem_cons k_]
  have e_ := List.getElem?_eq_getElem k_
  rw [g_] at e_
  rw [← Option.some.inj e_]
theorem zk_step {by_ o a b t : Int} {R B : List Int} {k : Nat} (hR : R.drop k = a :: R.drop (k + 1)) (hb : (B.drop k).headD 0 = b) (ht : a + o + by_ * b = t) : hd_chg by_ o (R.drop k) (B.drop k) = (if t < 0 then t + 10 else t % 10) :: hd_chg by_ (if t < 0 then -1 else t / 10) (R.drop (k + 1)) (B.drop (k + 1)) := by
  rw [hR]
  conv => lhs; unfold hd_chg
  rw [hb, ht, List.tail_drop]
theorem zk_cons {l u : List Int} {d : Int} {k : Nat} (h : l.drop k = d :: u) : l[k]? = some d ∧ l.drop (k + 1) = u := by
  constructor
  · have e_ : (l.drop k)[0]? = some d := by rw [h]; rfl
    rw [List.getElem?_drop] at e_
    exact e_
  · rw [← List.tail_drop, h]
    rfl
theorem zk_addE {L : List (Option Value)} {st : List Value} {v x y z : Int} (e : x + y = z) : ck_cf 15 0 v L (.int (Int32.ofInt y) :: .int (Int32.ofInt x) :: st) = some (L, .int (Int32.ofInt z) :: st) := by
  rw [← e]
  exact hd_add
theorem zk_pad {A : List Int} {m : Nat} : hd_v (A ++ List.replicate m 0) = hd_v A := by
  rw [hd_v_app, hd_v_zero (ds := List.replicate m 0) (fun d hd => List.eq_of_mem_replicate hd), Int.mul_zero, Int.add_zero]
theorem zk_padd {A : List Int} {m : Nat} (h : hd_d A) : hd_d (A ++ List.replicate m 0) := h.app fun d hd => by
  rw [List.eq_of_mem_replicate hd]
  decide
/-- what is joined -/
theorem zk_res {by_ : Int} {A B : List Int} {M : Nat} (hby : by_ = 1 ∨ by_ = -1) (hA : hd_d A) (hB : hd_d B) (h1 : A.length ≤ M) (h2 : B.length ≤ M) : hd_d (hd_chg by_ 0 (A ++ List.replicate (M + 1 - A.length) 0) B) ∧ (hd_chg by_ 0 (A ++ List.replicate (M + 1 - A.length) 0) B).length = M + 1 ∧ (by_ = 1 → hd_v (hd_chg by_ 0 (A ++ List.replicate (M + 1 - A.length) 0) B) = hd_v A + hd_v B) ∧ (by_ = -1 → hd_v B ≤ hd_v A → hd_v (hd_chg by_ 0 (A ++ List.replicate (M + 1 - A.length) 0) B) = hd_v A - hd_v B) := by
  have hR_ := zk_padd (m := M + 1 - A.length) hA
  have l_ : (A ++ List.replicate (M + 1 - A.length) (0 : Int)).length = M + 1 := by
    rw [List.length_append, List.length_replicate]
    omega
  have bo_ : hd_bo by_ 0 := by
    rcases hby with c_ | c_
    · exact Or.inl ⟨c_, by decide, by decide⟩
    · exact Or.inr ⟨c_, by decide, by decide⟩
  obtain ⟨r1_, r2_, c_, r3_⟩ := hd_chg_ok hR_ hB bo_
  have t_ : B.take (A ++ List.replicate (M + 1 - A.length) (0 : Int)).length = B := List.take_of_length_le (by omega)
  rw [l_] at r2_
  refine ⟨r1_, r2_, fun e_ => ?_, fun e_ hle_ => ?_⟩
  · rw [t_, zk_pad, l_, e_, Int.one_mul, Int.zero_add] at r3_
    rw [e_] at r1_ r2_
    have a1_ := hd_v_nn r1_
    have a2_ := hd_v_lt r1_
    rw [r2_] at a2_
    have b1_ := hd_v_nn hA
    have b2_ := hd_v_lt hA
    have b3_ := hd_pow h1
    have d1_ := hd_v_nn hB
    have d2_ := hd_v_lt hB
    have d3_ := hd_pow h2
    have p_ : (10 : Int) ^ (M + 1) = 10 ^ M * 10 := Int.pow_succ _ _
    have s_ : hd_v A + hd_v B < 10 ^ (M + 1) := by
      rw [p_]
      generalize (10 : Int) ^ M = x_ at *
      generalize (10 : Int) ^ A.length = y_ at *
      generalize (10 : Int) ^ B.length = w_ at *
      omega
    rw [e_]
    have m1_ := Int.emod_eq_of_lt a1_ a2_
    have m2_ := Int.emod_eq_of_lt (show 0 ≤ hd_v A + hd_v B by omega) s_
    rw [← m1_, ← m2_, ← r3_, Int.add_mul_emod_self_left]
  · have z_ := hd_chg_sub hR_ hB (by rw [t_, zk_pad]; exact hle_)
    rw [t_, zk_pad] at z_
    rw [e_]
    exact z_
set_option maxHeartbeats 4000000 in
theorem zn_joined_M {l : Launch} {G : am_G} {X : ck_XT} (g : gM l G X) {p q tp tq M : Nat} {by_ : Int} {A B : List Int} {h : List am_C} (hgp : am_g G h p = some (tp, hd_r A)) (htp : tp % 100 = 50) (hgq : am_g G h q = some (tq, hd_r B)) (htq : tq % 100 = 50) (hda : hd_d A) (hdb : hd_d B) (hby : by_ = 1 ∨ by_ = -1) (hM1 : A.length ≤ M) (hM2 : B.length ≤ M) (hM3 : M = A.length ∨ M = B.length) (hM4 : M ≤ 900) {mc ms : Nat} {Post : am_O → List am_C → Prop}
    (hmc : 1 ≤ mc) (hms : M + 1 ≤ ms)
    (hP : ∀ (h' : List am_C) (d : Nat) (res : List Int), zg G h h' → am_g G h' d = some (50, hd_r res) → res.length = M + 1 → res = hd_chg by_ 0 (A ++ List.replicate (M + 1 - A.length) 0) B → Post (.inl (some (.ref d))) h') :
    am_M l G yX12_joined (.code yX12_joined prog_15_method_9_code 7 (some (.array .int))) 2 41 mc ms [.ref p, .ref q, .int (Int32.ofInt by_)] h Post := by
  refine gh_yX12_joined_X g (Nat.le_of_ble_eq_true rfl) fun S SX hs hr hw hx => ?_
  have rv : ∀ x : Int32, ck_fv 0 (.int x) := fun x => ⟨_, rfl⟩
  obtain ⟨x1_, x2_, -, -⟩ := zk_res hby hda hdb hM1 hM2
  obtain ⟨R_, hR_⟩ : ∃ R_ : List Int, R_ = A ++ List.replicate (M + 1 - A.length) 0 := ⟨_, rfl⟩
  rw [← hR_] at x1_ x2_ hP
  obtain ⟨res_, hres_⟩ : ∃ res_ : List Int, res_ = hd_chg by_ 0 R_ B := ⟨_, rfl⟩
  rw [← hres_] at x1_ x2_ hP
  have loop_ : ∀ (m_ k_ : Nat) (o_ : Int) (h1_ : List am_C) (a_ : Nat) (w_ : Option Value) (md_ : List Int), k_ + m_ = M + 1 → 1000 + h.length ≤ a_ → zg G h h1_ → md_ = res_.take k_ ++ List.replicate (M + 1 - k_) 0 → md_.length = M + 1 → am_g G h1_ a_ = some (50, hd_r md_) → res_.drop k_ = hd_chg by_ o_ (R_.drop k_) (B.drop k_) → hd_bo by_ o_ → S 18 [some (.ref p), some (.ref q), some (.int (Int32.ofInt by_)), some (.ref a_), some (.int (Int32.ofInt o_)), some (.int (Int32.ofInt (k_ : Int))), w_] [] h1_ (0 + 1) (0 + (M + 1)) := by
    intro m_
    induction m_ with
    | zero =>
      intro k_ o_ h1_ a_ w_ md_ hk_ ha_ f1_ hmd_ hml_ g1_ hdr_ hbo_
      have hend_ : md_ = res_ := by
        rw [hmd_, List.take_of_length_le (by omega), show M + 1 - k_ = 0 by omega]
        exact List.append_nil _
      refine hs 13 _ rfl _ _ _ _ _ _ _ rfl ?_
      refine hs 14 _ rfl _ _ _ _ _ _ _ rfl ?_
      refine hd_Ln (hs 15 _ rfl) (g1_) rfl ?_
      refine hs 16 _ rfl _ _ _ _ _ _ _ (fun _ => ?_) (fun zq => absurd (hd_c2t (c := 3) (by omega) (by omega) (by omega) (by omega) (by omega : 0 ≤ ((k_ : Int) - (md_.length : Int)))) zq)
      refine hs 63 _ rfl _ _ _ _ _ _ _ rfl ?_
      exact hs 64 _ rfl _ _ _ _ _ (Or.inl ⟨_, rfl⟩) (by omega) (by omega) (hP _ _ _ f1_ g1_ hml_ hend_)
    | succ m_ ih_ =>
      intro k_ o_ h1_ a_ w_ md_ hk_ ha_ f1_ hmd_ hml_ g1_ hdr_ hbo_
      obtain ⟨a9_, ha9_⟩ : ∃ a9_ : Int, (A.drop k_).headD 0 = a9_ := ⟨_, rfl⟩
      obtain ⟨b9_, hb9_⟩ : ∃ b9_ : Int, (B.drop k_).headD 0 = b9_ := ⟨_, rfl⟩
      have a9b_ : 0 ≤ a9_ ∧ a9_ ≤ 9 := by rw [← ha9_]; exact hd_head (hda.drop k_)
      have b9b_ : 0 ≤ b9_ ∧ b9_ ≤ 9 := by rw [← hb9_]; exact hd_head (hdb.drop k_)
      have hRk_ : R_.drop k_ = a9_ :: R_.drop (k_ + 1) := by rw [hR_, ← ha9_]; exact zk_R (by omega) (by omega)
      obtain ⟨hh1_, hh2_⟩ := hbo_.here a9b_ b9b_
      obtain ⟨t_, htt_⟩ : ∃ t_ : Int, a9_ + o_ + by_ * b9_ = t_ := ⟨_, rfl⟩
      have ht_ : o_ + a9_ + by_ * b9_ = t_ := by rw [← htt_, Int.add_comm o_ a9_]
      rw [zk_step hRk_ hb9_ htt_] at hdr_
      obtain ⟨hr_, hn_⟩ := zk_cons hdr_
      rw [htt_] at hh1_ hh2_
      have hob_ : -1 ≤ o_ ∧ o_ ≤ 1 := by
        rcases hbo_ with y_ | y_ <;> omega
      have f59_ : ∀ w_ : Option Value, S 59 [some (.ref p), some (.ref q), some (.int (Int32.ofInt by_)), some (.ref a_), some (.int (Int32.ofInt o_)), some (.int (Int32.ofInt (k_ : Int))), w_] [.int (Int32.ofInt b9_), .int (Int32.ofInt by_), .int (Int32.ofInt (o_ + a9_))] h1_ (0 + 1) (0 + (M + 1)) := by
        intro w_
        by_cases t0_ : t_ < 0
        · rw [if_pos t0_] at hr_ hn_ hh2_
          refine hs 38 _ rfl _ _ _ _ _ _ _ hd_mul ?_
          refine hs 39 _ rfl _ _ _ _ _ _ _ (zk_addE ht_) ?_
          refine hs 40 _ rfl _ _ _ _ _ _ _ rfl ?_
          refine hs 41 _ rfl _ _ _ _ _ _ _ rfl ?_
          refine hs 42 _ rfl _ _ _ _ _ _ (fun zq => absurd (hd_c1z (c := 3) (by omega) (by omega) zq) (by omega : ¬ (0 ≤ t_))) (fun _ => ?_)
          refine hs 43 _ rfl _ _ _ _ _ _ _ rfl ?_
          refine hs 44 _ rfl _ _ _ _ _ ?_
          refine hs 48 _ rfl _ _ _ _ _ _ _ rfl ?_
          refine hs 49 _ rfl _ _ _ _ _ _ _ rfl ?_
          refine hs 50 _ rfl _ _ _ _ _ _ _ rfl ?_
          refine hs 51 _ rfl _ _ _ _ _ _ _ rfl ?_
          refine hs 52 _ rfl _ _ _ _ _ _ (fun zq => absurd (hd_c1z (c := 3) (by omega) (by omega) zq) (by omega : ¬ (0 ≤ t_))) (fun _ => ?_)
          refine hs 53 _ rfl _ _ _ _ _ _ _ rfl ?_
          refine hs 54 _ rfl _ _ _ _ _ _ _ rfl ?_
          refine hs 55 _ rfl _ _ _ _ _ _ _ hd_add ?_
          refine hs 56 _ rfl _ _ _ _ _ ?_
          refine zw_B (hs 60 _ rfl) (by decide) (by decide) (by omega) (g1_) rfl (j := k_) (by omega) (by omega) (by omega) fun hz107 wz108 => ?_
          refine hs 61 _ rfl _ _ _ _ _ _ _ (hd_inc rfl) ?_
          refine hs 62 _ rfl _ _ _ _ _ ?_
          rw [show ((k_ : Int) + (1 : Int)) = ((k_ + 1 : Nat) : Int) by omega]
          exact ih_ (k_ + 1) _ _ a_ _ _ (by omega) ha_ (f1_.w wz108 ha_) (by rw [hmd_]; exact hd_fill hr_ (by omega)) (by rw [List.length_set]; exact hml_) wz108.at hn_ hh2_
        · rw [if_neg t0_] at hr_ hn_ hh2_
          refine hs 38 _ rfl _ _ _ _ _ _ _ hd_mul ?_
          refine hs 39 _ rfl _ _ _ _ _ _ _ (zk_addE ht_) ?_
          refine hs 40 _ rfl _ _ _ _ _ _ _ rfl ?_
          refine hs 41 _ rfl _ _ _ _ _ _ _ rfl ?_
          refine hs 42 _ rfl _ _ _ _ _ _ (fun _ => ?_) (fun zq => absurd (hd_c1t (c := 3) (by omega) (by omega) (by omega : 0 ≤ t_)) zq)
          refine hs 45 _ rfl _ _ _ _ _ _ _ rfl ?_
          refine hs 46 _ rfl _ _ _ _ _ _ _ rfl ?_
          refine hs 47 _ rfl _ _ _ _ _ _ _ (hd_div (by omega) (by omega) (by omega) (by omega)) ?_
          refine hs 48 _ rfl _ _ _ _ _ _ _ rfl ?_
          refine hs 49 _ rfl _ _ _ _ _ _ _ rfl ?_
          refine hs 50 _ rfl _ _ _ _ _ _ _ rfl ?_
          refine hs 51 _ rfl _ _ _ _ _ _ _ rfl ?_
          refine hs 52 _ rfl _ _ _ _ _ _ (fun _ => ?_) (fun zq => absurd (hd_c1t (c := 3) (by omega) (by omega) (by omega : 0 ≤ t_)) zq)
          refine hs 57 _ rfl _ _ _ _ _ _ _ rfl ?_
          refine hs 58 _ rfl _ _ _ _ _ _ _ rfl ?_
          refine hs 59 _ rfl _ _ _ _ _ _ _ (hd_rem (by omega) (by omega) (by omega) (by omega)) ?_
          refine zw_B (hs 60 _ rfl) (by decide) (by decide) (by omega) (g1_) rfl (j := k_) (by omega) (by omega) (by omega) fun hz109 wz110 => ?_
          refine hs 61 _ rfl _ _ _ _ _ _ _ (hd_inc rfl) ?_
          refine hs 62 _ rfl _ _ _ _ _ ?_
          rw [show ((k_ : Int) + (1 : Int)) = ((k_ + 1 : Nat) : Int) by omega]
          exact ih_ (k_ + 1) _ _ a_ _ _ (by omega) ha_ (f1_.w wz110 ha_) (by rw [hmd_]; exact hd_fill hr_ (by omega)) (by rw [List.length_set]; exact hml_) wz110.at hn_ hh2_
      have f42_ : ∀ w_ : Option Value, S 42 [some (.ref p), some (.ref q), some (.int (Int32.ofInt by_)), some (.ref a_), some (.int (Int32.ofInt o_)), some (.int (Int32.ofInt (k_ : Int))), w_] [.int (Int32.ofInt a9_), .int (Int32.ofInt o_)] h1_ (0 + 1) (0 + (M + 1)) := by
        intro w_
        by_cases cb_ : k_ < B.length
        · have gb_ : B[k_]? = some b9_ := by rw [← hb9_]; exact zk_h1 cb_
          refine hs 27 _ rfl _ _ _ _ _ _ _ hd_add ?_
          refine hs 28 _ rfl _ _ _ _ _ _ _ rfl ?_
          refine hs 29 _ rfl _ _ _ _ _ _ _ rfl ?_
          refine hs 30 _ rfl _ _ _ _ _ _ _ rfl ?_
          refine hd_Ln (hs 31 _ rfl) ((f1_.2 _ _ hgq)) htq ?_
          refine hs 32 _ rfl _ _ _ _ _ _ _ (fun zq => absurd (hd_c2z (c := 3) (by omega) (by omega) (by omega) (by omega) zq) (by omega : ¬ (0 ≤ ((k_ : Int) - (B.length : Int))))) (fun _ => ?_)
          refine hs 33 _ rfl _ _ _ _ _ _ _ rfl ?_
          refine hs 34 _ rfl _ _ _ _ _ _ _ rfl ?_
          refine hd_A (hs 35 _ rfl) (by decide) (by decide) ((f1_.2 _ _ hgq)) htq (j := k_) (by omega) (by omega) gb_ ?_
          refine hs 36 _ rfl _ _ _ _ _ ?_
          exact f59_ w_
        · have b0_ : b9_ = 0 := by rw [← hb9_]; exact zk_h0 (by omega)
          rw [b0_] at f59_
          refine hs 27 _ rfl _ _ _ _ _ _ _ hd_add ?_
          refine hs 28 _ rfl _ _ _ _ _ _ _ rfl ?_
          refine hs 29 _ rfl _ _ _ _ _ _ _ rfl ?_
          refine hs 30 _ rfl _ _ _ _ _ _ _ rfl ?_
          refine hd_Ln (hs 31 _ rfl) ((f1_.2 _ _ hgq)) htq ?_
          refine hs 32 _ rfl _ _ _ _ _ _ _ (fun _ => ?_) (fun zq => absurd (hd_c2t (c := 3) (by omega) (by omega) (by omega) (by omega) (by omega : 0 ≤ ((k_ : Int) - (B.length : Int)))) zq)
          refine hs 37 _ rfl _ _ _ _ _ _ _ rfl ?_
          exact f59_ w_
      by_cases ca_ : k_ < A.length
      · have ga_ : A[k_]? = some a9_ := by rw [← ha9_]; exact zk_h1 ca_
        refine hs 13 _ rfl _ _ _ _ _ _ _ rfl ?_
        refine hs 14 _ rfl _ _ _ _ _ _ _ rfl ?_
        refine hd_Ln (hs 15 _ rfl) (g1_) rfl ?_
        refine hs 16 _ rfl _ _ _ _ _ _ _ (fun zq => absurd (hd_c2z (c := 3) (by omega) (by omega) (by omega) (by omega) zq) (by omega : ¬ (0 ≤ ((k_ : Int) - (md_.length : Int))))) (fun _ => ?_)
        refine hs 17 _ rfl _ _ _ _ _ _ _ rfl ?_
        refine hs 18 _ rfl _ _ _ _ _ _ _ rfl ?_
        refine hs 19 _ rfl _ _ _ _ _ _ _ rfl ?_
        refine hd_Ln (hs 20 _ rfl) ((f1_.2 _ _ hgp)) htp ?_
        refine hs 21 _ rfl _ _ _ _ _ _ _ (fun zq => absurd (hd_c2z (c := 3) (by omega) (by omega) (by omega) (by omega) zq) (by omega : ¬ (0 ≤ ((k_ : Int) - (A.length : Int))))) (fun _ => ?_)
        refine hs 22 _ rfl _ _ _ _ _ _ _ rfl ?_
        refine hs 23 _ rfl _ _ _ _ _ _ _ rfl ?_
        refine hd_A (hs 24 _ rfl) (by decide) (by decide) ((f1_.2 _ _ hgp)) htp (j := k_) (by omega) (by omega) ga_ ?_
        refine hs 25 _ rfl _ _ _ _ _ ?_
        exact f42_ w_
      · have a0_ : a9_ = 0 := by rw [← ha9_]; exact zk_h0 (by omega)
        rw [a0_] at f42_
        refine hs 13 _ rfl _ _ _ _ _ _ _ rfl ?_
        refine hs 14 _ rfl _ _ _ _ _ _ _ rfl ?_
        refine hd_Ln (hs 15 _ rfl) (g1_) rfl ?_
        refine hs 16 _ rfl _ _ _ _ _ _ _ (fun zq => absurd (hd_c2z (c := 3) (by omega) (by omega) (by omega) (by omega) zq) (by omega : ¬ (0 ≤ ((k_ : Int) - (md_.length : Int))))) (fun _ => ?_)
        refine hs 17 _ rfl _ _ _ _ _ _ _ rfl ?_
        refine hs 18 _ rfl _ _ _ _ _ _ _ rfl ?_
        refine hs 19 _ rfl _ _ _ _ _ _ _ rfl ?_
        refine hd_Ln (hs 20 _ rfl) ((f1_.2 _ _ hgp)) htp ?_
        refine hs 21 _ rfl _ _ _ _ _ _ _ (fun _ => ?_) (fun zq => absurd (hd_c2t (c := 3) (by omega) (by omega) (by omega) (by omega) (by omega : 0 ≤ ((k_ : Int) - (A.length : Int)))) zq)
        refine hs 26 _ rfl _ _ _ _ _ _ _ rfl ?_
        exact f42_ w_
  refine hs 0 _ rfl _ _ _ _ _ _ _ rfl ?_
  refine hd_Ln (hs 1 _ rfl) (hgp) htp ?_
  refine hs 2 _ rfl _ _ _ _ _ _ _ rfl ?_
  refine hd_Ln (hs 3 _ rfl) (hgq) htq ?_
  refine zw_c (hs 4 _ rfl) (a := [.int (Int32.ofInt (A.length : Int)), .int (Int32.ofInt (B.length : Int))]) (st := []) rfl rfl (Nat.le_of_ble_eq_true rfl) trivial (Nat.zero_le _) (Nat.zero_le _) (zn_max_M g (M := M) hM1 hM2 hM3 (by omega) ?_)
  show S 7 [some (.ref p), some (.ref q), some (.int (Int32.ofInt by_)), none, none, none, none] [.int (Int32.ofInt (M : Int))] _ _ _
  refine hs 5 _ rfl _ _ _ _ _ _ _ rfl ?_
  refine hs 6 _ rfl _ _ _ _ _ _ _ hd_add ?_
  refine zw_E (G := G) (hs 7 _ rfl) (t := 50) (N := (M + 1)) rfl (by omega) (by omega) (by omega) (by omega) fun hz111 az112 ez113 lz114 gz115 cz116 => ?_
  refine hs 8 _ rfl _ _ _ _ _ _ _ rfl ?_
  refine hs 9 _ rfl _ _ _ _ _ _ _ rfl ?_
  refine hs 10 _ rfl _ _ _ _ _ _ _ rfl ?_
  refine hs 11 _ rfl _ _ _ _ _ _ _ rfl ?_
  refine hs 12 _ rfl _ _ _ _ _ _ _ rfl ?_
  refine loop_ (M + 1) 0 0 _ az112 _ _ (by omega) (by omega) gz115 ?_ List.length_replicate (by first | exact cz116 | assumption) ?_ ?_
  · rw [List.take_zero]
    rfl
  · rw [List.drop_zero, List.drop_zero, List.drop_zero]
    exact hres_
  · rcases hby with y_ | y_
    · exact Or.inl ⟨y_, by decide, by decide⟩
    · exact Or.inr ⟨y_, by decide, by decide⟩
