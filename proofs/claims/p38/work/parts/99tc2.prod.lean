/-! PRODUCTS OF MANY LIMBS -/
theorem sb_take {A : List Int} {i : Nat} {x : Int} (e : A[i]? = some x) : sb_v (A.take (i + 1)) = sb_v (A.take i) + x * 1000000000 ^ i := by
  induction A generalizing i with
  | nil => cases e
  | cons a u ih =>
    match i, e with
    | 0, e =>
      cases e
      show x + 1000000000 * sb_v (u.take 0) = 0 + x * 1
      rw [List.take_zero]
      show x + 1000000000 * 0 = 0 + x * 1
      omega
    | i + 1, e =>
      show a + 1000000000 * sb_v (u.take (i + 1)) = a + 1000000000 * sb_v (u.take i) + x * 1000000000 ^ (i + 1)
      rw [ih e, Int.pow_succ, ← Int.mul_assoc]
      generalize x * 1000000000 ^ i = w_
      omega
theorem sb_take_all {A : List Int} {n : Nat} (h : hd_pl A n) {k : Nat} (hk : n ≤ k) : sb_v (A.take k) = sb_v A := by
  have key : ∀ (A : List Int) (k : Nat), (∀ (j : Nat) (d : Int), k ≤ j → A[j]? = some d → d = 0) → sb_v (A.take k) = sb_v A := by
    intro A
    induction A with
    | nil => intro k _; rw [List.take_nil]
    | cons a u ih =>
      intro k hz
      cases k with
      | zero =>
        rw [List.take_zero]
        exact (sb_zero fun j d hj => hz j d (Nat.zero_le _) hj).symm
      | succ k =>
        show a + 1000000000 * sb_v (u.take k) = a + 1000000000 * sb_v u
        rw [ih k fun j d h1 h2 => hz (j + 1) d (by omega) h2]
  exact key A k fun j d h1 h2 => h.2.1 j d (by omega) h2
/-- one step of a row times a limb -/
theorem sb_pstep {V T x y z c P : Int} (hx : 0 ≤ x ∧ x ≤ 999999999) (hy : 0 ≤ y ∧ y ≤ 999999999) (hz : 0 ≤ z ∧ z ≤ 999999999) (hc : 0 ≤ c ∧ c ≤ 999999999) (h : V + P * c = T) :
    (0 ≤ x * y + z + c ∧ x * y + z + c ≤ 999999999999999999) ∧ (0 ≤ (x * y + z + c) / 1000000000 ∧ (x * y + z + c) / 1000000000 ≤ 999999999) ∧ V + ((x * y + z + c) % 1000000000 - z) * P + P * 1000000000 * ((x * y + z + c) / 1000000000) = T + x * y * P := by
  have h1_ : 0 ≤ x * y := Int.mul_nonneg hx.1 hy.1
  have h2_ : x * y ≤ 999999999 * 999999999 := Int.mul_le_mul hx.2 hy.2 hy.1 (by decide)
  generalize x * y = w_ at *
  refine ⟨by omega, by omega, ?_⟩
  have e_ := Int.mul_ediv_add_emod (w_ + z + c) 1000000000
  generalize (w_ + z + c) / 1000000000 = d_ at *
  generalize (w_ + z + c) % 1000000000 = r_ at *
  have e2_ : r_ = w_ + z + c - 1000000000 * d_ := by omega
  rw [e2_, ← h, show w_ + z + c - 1000000000 * d_ - z = w_ + c - 1000000000 * d_ by omega, Int.sub_mul, Int.add_mul, Int.mul_comm c P, Int.mul_assoc P 1000000000 d_, Int.mul_comm P (1000000000 * d_)]
  generalize P * c = a_
  generalize 1000000000 * d_ * P = b_
  omega
theorem sb_sg {a b : Int} (ha : a = -1 ∨ a = 0 ∨ a = 1) (hb : b = -1 ∨ b = 0 ∨ b = 1) : -1 ≤ a * b ∧ a * b ≤ 1 := by
  rcases ha with z_ | z_ | z_ <;> rcases hb with y_ | y_ | y_ <;> rw [z_, y_] <;> decide
theorem sb_gd {ls : List Int} (h : sb_d ls) (j : Nat) : 0 ≤ ls.getD j 0 ∧ ls.getD j 0 ≤ 999999999 := by
  by_cases c_ : j < 10
  · obtain ⟨x_, e_, z_⟩ := h.get c_
    rw [List.getD_eq_getElem?_getD, e_]
    exact z_
  · rw [List.getD_eq_getElem?_getD, List.getElem?_eq_none (by have := h.1; omega)]
    decide
theorem sb_ge {ls : List Int} {j : Nat} (h : j < ls.length) : ls[j]? = some (ls.getD j 0) := by
  rw [List.getD_eq_getElem?_getD, List.getElem?_eq_getElem h]
  rfl
theorem sb_sets {ls : List Int} {k j : Nat} {x : Int} (h : j ≠ k) : (ls.set k x).getD j 0 = ls.getD j 0 := by
  rw [List.getD_eq_getElem?_getD, List.getD_eq_getElem?_getD, List.getElem?_set_ne (Ne.symm h)]
theorem sb_setd {ls : List Int} (h : sb_d ls) {k : Nat} {x : Int} (hx : 0 ≤ x ∧ x ≤ 999999999) : sb_d (ls.set k x) := by
  refine ⟨by rw [List.length_set]; exact h.1, fun y hy => ?_⟩
  rcases List.mem_or_eq_of_mem_set hy with z_ | z_
  · exact h.2 y z_
  · rw [z_]; exact hx
theorem sb_pdist {x s y Q R : Int} : x * (s + y * Q) * R = x * s * R + x * y * (R * Q) := by
  rw [Int.mul_add, Int.add_mul, Int.mul_assoc x y Q |>.symm, Int.mul_assoc (x * y) Q R, Int.mul_comm Q R]
def sb_im (p q : Prop) : Prop := p → q
/-- what the outer and the inner loop of a product keep -/
def sb_pO (cur A B : List Int) (i : Nat) : Prop := sb_v cur = sb_v (A.take i) * sb_v B
def sb_pI (cur A B : List Int) (i j : Nat) (x c : Int) : Prop := sb_v cur + 1000000000 ^ (i + j) * c = sb_v (A.take i) * sb_v B + x * sb_v (B.take j) * 1000000000 ^ i
theorem sb_pO.inn {cur A B : List Int} {i : Nat} {x : Int} (h : sb_pO cur A B i) : sb_pI cur A B i 0 x 0 := by
  unfold sb_pI
  rw [List.take_zero, show sb_v [] = 0 from rfl, Int.mul_zero, Int.mul_zero, Int.zero_mul, h]
theorem sb_pI.out {cur A B : List Int} {i j nb : Nat} {x : Int} (h : sb_pI cur A B i j x 0) (hB : hd_pl B nb) (hj : nb ≤ j) (hx : A[i]? = some x) : sb_pO cur A B (i + 1) := by
  unfold sb_pI at h
  unfold sb_pO
  rw [Int.mul_zero, Int.add_zero, sb_take_all hB hj] at h
  rw [sb_take hx, Int.add_mul, Int.mul_right_comm x]
  exact h
theorem sb_pI.step {cur A B : List Int} {i j : Nat} {x y z c : Int} (h : sb_pI cur A B i j x c) (hx : 0 ≤ x ∧ x ≤ 999999999) (hy : 0 ≤ y ∧ y ≤ 999999999) (hz : 0 ≤ z ∧ z ≤ 999999999) (hc : 0 ≤ c ∧ c ≤ 999999999) (ey : B[j]? = some y) (ez : cur[i + j]? = some z) :
    (0 ≤ x * y ∧ x * y + z + c ≤ 999999999999999999) ∧ (0 ≤ (x * y + z + c) / 1000000000 ∧ (x * y + z + c) / 1000000000 ≤ 999999999) ∧ sb_pI (cur.set (i + j) ((x * y + z + c) % 1000000000)) A B i (j + 1) x ((x * y + z + c) / 1000000000) := by
  obtain ⟨⟨b1_, b2_⟩, b3_, b4_⟩ := sb_pstep hx hy hz hc h
  refine ⟨⟨Int.mul_nonneg hx.1 hy.1, b2_⟩, b3_, ?_⟩
  unfold sb_pI
  rw [sb_vset ez, sb_take ey, sb_pdist, ← Int.add_assoc, ← Int.pow_add, ← b4_, show i + (j + 1) = (i + j) + 1 by omega, Int.pow_succ]
theorem sb_0g (k : Nat) : sb_0.getD k 0 = 0 := by
  rw [List.getD_eq_getElem?_getD, sb_0, List.getElem?_replicate]
  by_cases c_ : k < 10
  · rw [if_pos c_]; rfl
  · rw [if_neg c_]; rfl
set_option maxHeartbeats 4000000 in
theorem sb_prod_M {l : Launch} {G : am_G} {X : ck_XT} (g : gM l G X) {q p t tp : Nat} {ls : List Int} {len sg : Int} {h : List am_C} (hq : 1000 ≤ q) (hp : 1000 ≤ p) (hpq : p ≠ q) (hg : am_g G h q = some (sb_c t p len sg)) (ht : t % 100 = 7) (hgp : am_g G h p = some (tp, hd_r ls)) (htp : tp % 100 = 50) (hl : ls.length = 10) {qa pa ta tpa qb pb tb tpb na nb : Nat} {A B : List Int} {sga sgb za zb : Int}
    (hga : am_g G h qa = some (sb_c ta pa (na : Int) sga)) (hta : ta % 100 = 7) (hgpa : am_g G h pa = some (tpa, hd_r A)) (htpa : tpa % 100 = 50) (hAi : sb_is na sga A za) (hqa : qa ≠ q ∧ qa ≠ p ∧ pa ≠ q ∧ pa ≠ p)
    (hgb : am_g G h qb = some (sb_c tb pb (nb : Int) sgb)) (htb : tb % 100 = 7) (hgpb : am_g G h pb = some (tpb, hd_r B)) (htpb : tpb % 100 = 50) (hBi : sb_is nb sgb B zb) (hqb : qb ≠ q ∧ qb ≠ p ∧ pb ≠ q ∧ pb ≠ p) (hnn : na + nb ≤ 9) {mc ms : Nat} {Post : am_O → List am_C → Prop}
    (hP : ∀ (h' : List am_C) (n : Nat) (s : Int) (ls' : List Int), sb_w G h h' q (sb_c t p (n : Int) s) p (tp, hd_r ls') → sb_is n s ls' (za * zb) → Post (.inl none) h') :
    am_M l G yX0_becomeProduct (.code yX0_becomeProduct prog_2_method_12_code 9 none) 2 42 mc ms [.ref q, .ref qa, .ref qb] h Post := by
  refine gh_yX0_becomeProduct_X g (Nat.le_of_ble_eq_true rfl) fun S SX hs hr hw hx => ?_
  have rv : ∀ x : Int32, ck_fv 0 (.int x) := fun x => ⟨_, rfl⟩
  have hA := hAi.1
  have hnA := hAi.2.1
  have hB := hBi.1
  have hnB := hBi.2.1
  have loop_ : ∀ (m_ i_ : Nat) (cur_ : List Int) (h1_ : List am_C) (w1_ w2_ w3_ w4_ w5_ : Option Value), i_ + m_ = na → sb_d cur_ → (∀ k_, i_ + nb ≤ k_ → cur_.getD k_ 0 = 0) → sb_pO cur_ A B i_ → sb_w G h h1_ q (sb_c t p 0 0) p (tp, hd_r cur_) → S 6 [some (.ref q), some (.ref qa), some (.ref qb), some (.int (Int32.ofInt (i_ : Int))), w1_, w2_, w3_, w4_, w5_] [] h1_ 0 0 := by
    intro m_
    induction m_ with
    | zero =>
      intro i_ cur_ h1_ w1_ w2_ w3_ w4_ w5_ him_ hcd_ hz_ hv_ hc_
      obtain rfl : i_ = na := by omega
      obtain ⟨n_, hn_⟩ := sb_pl cur_
      refine hs 4 _ rfl _ _ _ _ _ _ _ rfl ?_
      refine hs 5 _ rfl _ _ _ _ _ _ _ rfl ?_
      refine hs 6 _ rfl _ _ _ _ _ _ _ _ _ (((hc_.ne hqa.1 hqa.2.1).trans hga)) hta rfl ?_
      refine hs 7 _ rfl _ _ _ _ _ _ _ (fun _ => ?_) (fun zq => absurd (hd_c2t (c := 3) (by omega) (by omega) (by omega) (by omega) (by omega : 0 ≤ ((i_ : Int) - (i_ : Int)))) zq)
      refine hs 52 _ rfl _ _ _ _ _ _ _ rfl ?_
      refine hs 53 _ rfl _ _ _ _ _ _ _ rfl ?_
      refine hs 54 _ rfl _ _ _ _ _ _ _ _ _ (((hc_.ne hqa.1 hqa.2.1).trans hga)) hta rfl ?_
      refine hs 55 _ rfl _ _ _ _ _ _ _ rfl ?_
      refine hs 56 _ rfl _ _ _ _ _ _ _ _ _ (((hc_.ne hqb.1 hqb.2.1).trans hgb)) htb rfl ?_
      refine hs 57 _ rfl _ _ _ _ _ _ _ hd_mul ?_
      refine zw_c (hs 58 _ rfl) (a := [.ref q, .int (Int32.ofInt (sga * sgb))]) (st := []) rfl rfl (Nat.le_of_ble_eq_true rfl) ⟨_, _, _, rfl, (hc_.q), ht⟩ (Nat.zero_le _) (Nat.zero_le _) (sb_settle_M g hq hpq (hc_.q) ht ((hc_.p hpq)) htp hcd_ hn_ fun hz29 wz30 => ?_)
      show S 106 [some (.ref q), some (.ref qa), some (.ref qb), some (.int (Int32.ofInt (i_ : Int))), _, _, _, _, _] [] _ _ _
      refine hs 59 _ rfl _ _ _ _ (Nat.zero_le _) (Nat.zero_le _) (hP _ n_ _ _ (hc_.tq wz30) ?_)
      obtain ⟨-, -, eza_, hAs_, hAz_⟩ := hAi
      obtain ⟨-, -, ezb_, hBs_, hBz_⟩ := hBi
      rw [eza_, ezb_]
      have hab_ := sb_sg hAs_ hBs_
      unfold sb_pO at hv_
      rw [sb_take_all hnA (Nat.le_refl _)] at hv_
      have e3_ := sb_n0 hcd_ hn_
      refine ⟨hcd_, hn_, ?_, ?_, ?_⟩
      · by_cases c_ : n_ = 0
        · have e4_ := e3_.mp c_
          rw [if_pos c_, Int.zero_mul, Int.mul_assoc, Int.mul_left_comm (sb_v A), ← hv_, e4_, Int.mul_zero, Int.mul_zero]
        · rw [if_neg c_, hv_, Int.mul_assoc, Int.mul_left_comm (sb_v A), ← Int.mul_assoc]
      · by_cases c_ : n_ = 0
        · rw [if_pos c_]; omega
        · rw [if_neg c_]; omega
      · by_cases c_ : n_ = 0
        · rw [if_pos c_]; exact ⟨fun _ => e3_.mp c_, fun _ => rfl⟩
        · rw [if_neg c_]
          have h0_ : ¬ sb_v cur_ = 0 := fun y_ => c_ (e3_.mpr y_)
          constructor
          · intro y_
            rcases Int.mul_eq_zero.mp y_ with z_ | z_
            · rw [hv_, hAz_.mp z_, Int.zero_mul]
            · rw [hv_, hBz_.mp z_, Int.mul_zero]
          · intro y_; exact absurd y_ h0_
    | succ m_ ih_ =>
      intro i_ cur_ h1_ w1_ w2_ w3_ w4_ w5_ him_ hcd_ hz_ hv_ hc_
      refine hs 4 _ rfl _ _ _ _ _ _ _ rfl ?_
      refine hs 5 _ rfl _ _ _ _ _ _ _ rfl ?_
      refine hs 6 _ rfl _ _ _ _ _ _ _ _ _ (((hc_.ne hqa.1 hqa.2.1).trans hga)) hta rfl ?_
      refine hs 7 _ rfl _ _ _ _ _ _ _ (fun zq => absurd (hd_c2z (c := 3) (by omega) (by omega) (by omega) (by omega) zq) (by omega : ¬ (0 ≤ ((i_ : Int) - (na : Int))))) (fun _ => ?_)
      refine hs 8 _ rfl _ _ _ _ _ _ _ rfl ?_
      refine hs 9 _ rfl _ _ _ _ _ _ _ rfl ?_
      refine hs 10 _ rfl _ _ _ _ _ _ _ rfl ?_
      refine hs 11 _ rfl _ _ _ _ _ _ _ rfl ?_
      have hx_ := sb_gd hA i_
      have ex_ := sb_ge (ls := A) (j := i_) (by have := hA.1; have := hnA.1; omega)
      generalize gx_ : A.getD i_ 0 = x_ at hx_ ex_
      have inner_ : ∀ (m2_ j_ : Nat) (c_ : Int) (cur_ : List Int) (h2_ : List am_C) (u1_ u2_ : Option Value), j_ + m2_ = nb + 1 → sb_d cur_ → (0 ≤ c_ ∧ c_ ≤ 999999999) → sb_im (j_ = nb + 1) (c_ = 0) → (∀ k_, (i_ + nb < k_ ∨ (i_ + nb = k_ ∧ j_ ≤ nb)) → cur_.getD k_ 0 = 0) → sb_pI cur_ A B i_ j_ x_ c_ → sb_w G h h2_ q (sb_c t p 0 0) p (tp, hd_r cur_) → S 20 [some (.ref q), some (.ref qa), some (.ref qb), some (.int (Int32.ofInt (i_ : Int))), some (.long (Int64.ofInt c_)), none, some (.int (Int32.ofInt (j_ : Int))), u1_, u2_] [] h2_ 0 0 := by
        intro m2_
        induction m2_ with
        | zero =>
          intro j_ c_ cur_ h2_ u1_ u2_ hj_ hcd_ hcb_ hc0_ hz_ hv_ hc_
          refine hs 12 _ rfl _ _ _ _ _ _ _ rfl ?_
          refine hs 13 _ rfl _ _ _ _ _ _ _ rfl ?_
          refine hs 14 _ rfl _ _ _ _ _ _ _ _ _ (((hc_.ne hqb.1 hqb.2.1).trans hgb)) htb rfl ?_
          refine hs 15 _ rfl _ _ _ _ _ _ _ (fun _ => ?_) (fun zq => absurd (hd_c2t (c := 4) (by omega) (by omega) (by omega) (by omega) (by omega : 0 < ((j_ : Int) - (nb : Int)))) zq)
          refine hs 50 _ rfl _ _ _ _ _ _ _ (hd_inc rfl) ?_
          refine hs 51 _ rfl _ _ _ _ _ ?_
          have e1_ := hc0_ (by omega)
          subst e1_
          rw [show ((i_ : Int) + (1 : Int)) = ((i_ + 1 : Nat) : Int) by omega]
          exact ih_ (i_ + 1) cur_ h2_ _ _ _ _ _ (by omega) hcd_ (fun k_ hk_ => hz_ k_ (Or.inl (by omega))) (hv_.out hnB (by omega) ex_) hc_
        | succ m2_ ih2_ =>
          intro j_ c_ cur_ h2_ u1_ u2_ hj_ hcd_ hcb_ hc0_ hz_ hv_ hc_
          have hy_ := sb_gd hB j_
          have ey_ := sb_ge (ls := B) (j := j_) (by have := hB.1; omega)
          have hz2_ := sb_gd hcd_ (i_ + j_)
          have ez_ := sb_ge (ls := cur_) (j := i_ + j_) (by have := hcd_.1; omega)
          have hlast_ : sb_im (j_ = nb) (B.getD j_ 0 = 0 ∧ cur_.getD (i_ + j_) 0 = 0) := fun e_ => ⟨hnB.2.1 j_ _ (by omega) ey_, hz_ _ (Or.inr ⟨by omega, by omega⟩)⟩
          generalize gy_ : B.getD j_ 0 = y_ at hy_ ey_ hlast_
          generalize gz_ : cur_.getD (i_ + j_) 0 = z_ at hz2_ ez_ hlast_
          obtain ⟨⟨b1_, b2_⟩, ⟨b3_, b4_⟩, b5_⟩ := hv_.step hx_ hy_ hz2_ hcb_ ey_ ez_
          have b7_ : 0 ≤ (x_ * y_ + z_ + c_) % 1000000000 ∧ (x_ * y_ + z_ + c_) % 1000000000 ≤ 999999999 := by omega
          refine hs 12 _ rfl _ _ _ _ _ _ _ rfl ?_
          refine hs 13 _ rfl _ _ _ _ _ _ _ rfl ?_
          refine hs 14 _ rfl _ _ _ _ _ _ _ _ _ (((hc_.ne hqb.1 hqb.2.1).trans hgb)) htb rfl ?_
          refine hs 15 _ rfl _ _ _ _ _ _ _ (fun zq => absurd (hd_c2z (c := 4) (by omega) (by omega) (by omega) (by omega) zq) (by omega : ¬ (0 < ((j_ : Int) - (nb : Int))))) (fun _ => ?_)
          refine hs 16 _ rfl _ _ _ _ _ _ _ rfl ?_
          refine hs 17 _ rfl _ _ _ _ _ _ _ rfl ?_
          refine zw_c (hs 18 _ rfl) (a := [.ref qa, .int (Int32.ofInt (i_ : Int))]) (st := []) rfl rfl (Nat.le_of_ble_eq_true rfl) ⟨_, _, _, rfl, (((hc_.ne hqa.1 hqa.2.1).trans hga)), hta⟩ (Nat.zero_le _) (Nat.zero_le _) (sb_limbE_M g (j := i_) (((hc_.ne hqa.1 hqa.2.1).trans hga)) hta (((hc_.ne hqa.2.2.1 hqa.2.2.2).trans hgpa)) htpa hA (by omega) (by omega) gx_ ?_)
          show S 34 [some (.ref q), some (.ref qa), some (.ref qb), some (.int (Int32.ofInt (i_ : Int))), some (.long (Int64.ofInt c_)), none, some (.int (Int32.ofInt (j_ : Int))), _, _] [.int (Int32.ofInt x_)] _ _ _
          refine hs 19 _ rfl _ _ _ _ _ _ _ (hd_i2l (by omega) (by omega)) ?_
          refine hs 20 _ rfl _ _ _ _ _ _ _ rfl ?_
          refine hs 21 _ rfl _ _ _ _ _ _ _ rfl ?_
          refine zw_c (hs 22 _ rfl) (a := [.ref qb, .int (Int32.ofInt (j_ : Int))]) (st := [.long (Int64.ofInt x_)]) rfl rfl (Nat.le_of_ble_eq_true rfl) ⟨_, _, _, rfl, (((hc_.ne hqb.1 hqb.2.1).trans hgb)), htb⟩ (Nat.zero_le _) (Nat.zero_le _) (sb_limbE_M g (j := j_) (((hc_.ne hqb.1 hqb.2.1).trans hgb)) htb (((hc_.ne hqb.2.2.1 hqb.2.2.2).trans hgpb)) htpb hB (by omega) (by omega) gy_ ?_)
          show S 41 [some (.ref q), some (.ref qa), some (.ref qb), some (.int (Int32.ofInt (i_ : Int))), some (.long (Int64.ofInt c_)), none, some (.int (Int32.ofInt (j_ : Int))), _, _] [.int (Int32.ofInt y_), .long (Int64.ofInt x_)] _ _ _
          refine hs 23 _ rfl _ _ _ _ _ _ _ (hd_i2l (by omega) (by omega)) ?_
          refine hs 24 _ rfl _ _ _ _ _ _ _ hd_lmul ?_
          refine hs 25 _ rfl _ _ _ _ _ _ _ rfl ?_
          refine hs 26 _ rfl _ _ _ _ _ _ _ rfl ?_
          refine hs 27 _ rfl _ _ _ _ _ _ _ rfl ?_
          refine hs 28 _ rfl _ _ _ _ _ _ _ hd_add ?_
          refine zw_c (hs 29 _ rfl) (a := [.ref q, .int (Int32.ofInt ((i_ : Int) + (j_ : Int)))]) (st := [.long (Int64.ofInt (x_ * y_))]) rfl rfl (Nat.le_of_ble_eq_true rfl) ⟨_, _, _, rfl, (hc_.q), ht⟩ (Nat.zero_le _) (Nat.zero_le _) (sb_limbE_M g (j := i_ + j_) (hc_.q) ht ((hc_.p hpq)) htp hcd_ (by omega) (by omega) gz_ ?_)
          show S 51 [some (.ref q), some (.ref qa), some (.ref qb), some (.int (Int32.ofInt (i_ : Int))), some (.long (Int64.ofInt c_)), none, some (.int (Int32.ofInt (j_ : Int))), _, _] [.int (Int32.ofInt z_), .long (Int64.ofInt (x_ * y_))] _ _ _
          refine hs 30 _ rfl _ _ _ _ _ _ _ (hd_i2l (by omega) (by omega)) ?_
          refine hs 31 _ rfl _ _ _ _ _ _ _ hd_ladd ?_
          refine hs 32 _ rfl _ _ _ _ _ _ _ rfl ?_
          refine hs 33 _ rfl _ _ _ _ _ _ _ hd_ladd ?_
          refine hs 34 _ rfl _ _ _ _ _ _ _ rfl ?_
          refine hs 35 _ rfl _ _ _ _ _ _ _ rfl ?_
          refine hs 36 _ rfl _ _ _ _ _ _ _ rfl ?_
          refine hs 37 _ rfl _ _ _ _ _ _ _ rfl ?_
          refine hs 38 _ rfl _ _ _ _ _ _ _ hd_add ?_
          refine hs 39 _ rfl _ _ _ _ _ _ _ rfl ?_
          refine hs 40 _ rfl _ _ _ _ _ _ _ rfl ?_
          refine hs 41 _ rfl _ _ _ _ _ _ _ (hd_lrem (by omega) (by omega) (by omega) (by omega)) ?_
          refine hs 42 _ rfl _ _ _ _ _ _ _ (hd_l2i (by omega) (by omega)) ?_
          refine zw_c (hs 43 _ rfl) (a := [.ref q, .int (Int32.ofInt ((i_ : Int) + (j_ : Int))), .int (Int32.ofInt ((((x_ * y_) + z_) + c_) % (1000000000 : Int)))]) (st := []) rfl rfl (Nat.le_of_ble_eq_true rfl) ⟨_, _, _, rfl, (hc_.q), ht⟩ (Nat.zero_le _) (Nat.zero_le _) (sb_put_M g (j := i_ + j_) hq hp hpq (hc_.q) ht ((hc_.p hpq)) htp hcd_.1 (by omega) (by omega) fun hz31 wz32 => ?_)
          show S 73 [some (.ref q), some (.ref qa), some (.ref qb), some (.int (Int32.ofInt (i_ : Int))), some (.long (Int64.ofInt c_)), none, some (.int (Int32.ofInt (j_ : Int))), some (.long (Int64.ofInt (((x_ * y_) + z_) + c_))), none] [] _ _ _
          refine hs 44 _ rfl _ _ _ _ _ _ _ rfl ?_
          refine hs 45 _ rfl _ _ _ _ _ _ _ rfl ?_
          refine hs 46 _ rfl _ _ _ _ _ _ _ (hd_ldiv (by omega) (by omega) (by omega) (by omega)) ?_
          refine hs 47 _ rfl _ _ _ _ _ _ _ rfl ?_
          refine hs 48 _ rfl _ _ _ _ _ _ _ (hd_inc rfl) ?_
          refine hs 49 _ rfl _ _ _ _ _ ?_
          rw [show ((j_ : Int) + (1 : Int)) = ((j_ + 1 : Nat) : Int) by omega]
          refine ih2_ (j_ + 1) _ _ _ _ _ (by omega) (sb_setd hcd_ b7_) ⟨b3_, b4_⟩ (fun e_ => ?_) (fun k_ hk_ => ?_) b5_ (hc_.tp hpq wz32)
          · obtain ⟨e1_, e2_⟩ := hlast_ (by omega)
            rw [e1_, e2_, Int.mul_zero]
            omega
          · rw [sb_sets (by omega)]
            exact hz_ k_ (by omega)
      exact inner_ (nb + 1) 0 0 cur_ h1_ _ _ (by omega) hcd_ (by decide) (fun _ => rfl) (fun k_ hk_ => hz_ k_ (by omega)) hv_.inn hc_
  refine hs 0 _ rfl _ _ _ _ _ _ _ rfl ?_
  refine zw_c (hs 1 _ rfl) (a := [.ref q]) (st := []) rfl rfl (Nat.le_of_ble_eq_true rfl) ⟨_, _, _, rfl, (hg), ht⟩ (Nat.zero_le _) (Nat.zero_le _) (sb_clear_M g hq hp hpq (hg) ht (hgp) htp hl fun hz33 wz34 => ?_)
  show S 4 [some (.ref q), some (.ref qa), some (.ref qb), none, none, none, none, none, none] [] _ _ _
  refine hs 2 _ rfl _ _ _ _ _ _ _ rfl ?_
  refine hs 3 _ rfl _ _ _ _ _ _ _ rfl ?_
  exact loop_ na 0 sb_0 _ _ _ _ _ _ (by omega) ⟨rfl, by decide⟩ (fun k_ _ => sb_0g k_) (by unfold sb_pO; rw [List.take_zero, show sb_v [] = 0 from rfl, Int.zero_mul]; rfl) wz34
