section
/-! NUMBERS OF MANY LIMBS: copies, longs, products, digits -/
set_option maxHeartbeats 4000000 in
theorem sb_become_M {l : Launch} {G : am_G} {X : ck_XT} (g : gM l G X) {q p t tp : Nat} {ls : List Int} {len sg : Int} {h : List am_C} (hq : 1000 ≤ q) (hp : 1000 ≤ p) (hpq : p ≠ q) (hg : am_g G h q = some (sb_c t p len sg)) (ht : t % 100 = 7) (hgp : am_g G h p = some (tp, hd_r ls)) (htp : tp % 100 = 50) (hl : ls.length = 10) {qa pa ta tpa : Nat} {A : List Int} {na sga : Int} (hga : am_g G h qa = some (sb_c ta pa na sga)) (hta : ta % 100 = 7) (hgpa : am_g G h pa = some (tpa, hd_r A)) (htpa : tpa % 100 = 50) (hA : A.length = 10) (hqa : qa ≠ q) (hqa2 : qa ≠ p) {mc ms : Nat} {Post : am_O → List am_C → Prop}
    (hP : ∀ h', sb_w G h h' q (sb_c t p na sga) p (tp, hd_r A) → Post (.inl none) h') :
    am_M l G yX0_become (.code yX0_become prog_2_method_7_code 2 none) 2 59 mc ms [.ref q, .ref qa] h Post := by
  refine gh_yX0_become_X g (Nat.le_of_ble_eq_true rfl) fun S SX hs hr hw hx => ?_
  have rv : ∀ x : Int32, ck_fv 0 (.int x) := fun x => ⟨_, rfl⟩
  refine hs 0 _ rfl _ _ _ _ _ _ _ rfl ?_
  refine hs 1 _ rfl _ _ _ _ _ _ _ _ _ (hga) hta rfl ?_
  refine hs 2 _ rfl _ _ _ _ _ _ _ rfl ?_
  refine hs 3 _ rfl _ _ _ _ _ _ _ rfl ?_
  refine hs 4 _ rfl _ _ _ _ _ _ _ _ _ (hg) ht rfl ?_
  refine hs 5 _ rfl _ _ _ _ _ _ _ rfl ?_
  refine hs 6 _ rfl _ _ _ _ _ _ _ rfl ?_
  refine zw_c (hs 7 _ rfl) (a := [.ref pa, .int (Int32.ofInt (0 : Int)), .ref p, .int (Int32.ofInt (0 : Int)), .int (Int32.ofInt (10 : Int))]) (st := []) rfl rfl (Nat.le_of_ble_eq_true rfl) trivial (Nat.zero_le _) (Nat.zero_le _) (zw_acM (n := 10) (by omega) (hgpa) (hgp) htpa htp hA hl (by decide) fun hz1 wz2 => ?_)
  show S 15 [some (.ref q), some (.ref qa)] [] _ _ _
  refine hs 8 _ rfl _ _ _ _ _ _ _ rfl ?_
  refine hs 9 _ rfl _ _ _ _ _ _ _ rfl ?_
  refine hs 10 _ rfl _ _ _ _ _ _ _ _ _ ((wz2.ne (by omega)).trans hga) hta rfl ?_
  refine zw_U (hs 11 _ rfl) (by omega) ((wz2.ne (by omega)).trans hg) ht ⟨_, rfl⟩ fun hz3 wz4 => ?_
  have wz4 : hd_w G hz1 hz3 q (t, [.ref p, .int (Int32.ofInt na), .int (Int32.ofInt sg)]) := wz4
  refine hs 12 _ rfl _ _ _ _ _ _ _ rfl ?_
  refine hs 13 _ rfl _ _ _ _ _ _ _ rfl ?_
  refine hs 14 _ rfl _ _ _ _ _ _ _ _ _ ((wz4.ne (by omega)).trans ((wz2.ne (by omega)).trans hga)) hta rfl ?_
  refine zw_U (hs 15 _ rfl) (by omega) (wz4.at) ht ⟨_, rfl⟩ fun hz5 wz6 => ?_
  have wz6 : hd_w G hz3 hz5 q (t, [.ref p, .int (Int32.ofInt na), .int (Int32.ofInt sga)]) := wz6
  exact hs 16 _ rfl _ _ _ _ (Nat.zero_le _) (Nat.zero_le _) (hP _ (sb_w.of wz2 (wz4.tr wz6)))
set_option maxHeartbeats 4000000 in
theorem sb_put_M {l : Launch} {G : am_G} {X : ck_XT} (g : gM l G X) {q p t tp : Nat} {ls : List Int} {len sg : Int} {h : List am_C} (hq : 1000 ≤ q) (hp : 1000 ≤ p) (hpq : p ≠ q) (hg : am_g G h q = some (sb_c t p len sg)) (ht : t % 100 = 7) (hgp : am_g G h p = some (tp, hd_r ls)) (htp : tp % 100 = 50) (hl : ls.length = 10) {j : Nat} {e v : Int} (he : e = (j : Int)) (hj : j < 10) {mc ms : Nat} {Post : am_O → List am_C → Prop}
    (hP : ∀ h', hd_w G h h' p (tp, hd_r (ls.set j v)) → Post (.inl none) h') :
    am_M l G yX0_put (.code yX0_put prog_2_method_3_code 3 none) 1 20 mc ms [.ref q, .int (Int32.ofInt e), .int (Int32.ofInt v)] h Post := by
  refine gh_yX0_put_X g (Nat.le_of_ble_eq_true rfl) fun S SX hs hr hw hx => ?_
  have rv : ∀ x : Int32, ck_fv 0 (.int x) := fun x => ⟨_, rfl⟩
  refine hs 0 _ rfl _ _ _ _ _ _ _ rfl ?_
  refine hs 1 _ rfl _ _ _ _ _ _ (fun zq => absurd (hd_c1z (c := 2) (by omega) (by omega) zq) (by omega : ¬ (e < 0))) (fun _ => ?_)
  refine hs 2 _ rfl _ _ _ _ _ _ _ rfl ?_
  refine hs 3 _ rfl _ _ _ _ _ _ _ rfl ?_
  refine hs 4 _ rfl _ _ _ _ _ _ _ (fun zq => absurd (hd_c2z (c := 3) (by omega) (by omega) (by omega) (by omega) zq) (by omega : ¬ (0 ≤ (e - (10 : Int))))) (fun _ => ?_)
  refine hs 5 _ rfl _ _ _ _ _ _ _ rfl ?_
  refine hs 6 _ rfl _ _ _ _ _ _ _ _ _ (hg) ht rfl ?_
  refine hs 7 _ rfl _ _ _ _ _ _ _ rfl ?_
  refine hs 8 _ rfl _ _ _ _ _ _ _ rfl ?_
  refine zw_B (hs 9 _ rfl) (by decide) (by decide) (by omega) (hgp) htp (j := j) (by omega) (by omega) (by omega) fun hz7 wz8 => ?_
  exact hs 10 _ rfl _ _ _ _ (Nat.zero_le _) (Nat.zero_le _) (hP _ wz8)
theorem sb_limbE_M {l : Launch} {G : am_G} {X : ck_XT} (g : gM l G X) {q p t tp j : Nat} {ls : List Int} {len sg e x : Int} {h : List am_C} (hg : am_g G h q = some (sb_c t p len sg)) (ht : t % 100 = 7) (hgp : am_g G h p = some (tp, hd_r ls)) (htp : tp % 100 = 50) (hd : sb_d ls) (he : e = (j : Int)) (hj : j ≤ 2147483647) (hv : ls.getD j 0 = x) {mc ms : Nat} {Post : am_O → List am_C → Prop} (hP : Post (.inl (some (.int (Int32.ofInt x)))) h) :
    am_M l G yX0_limb (.code yX0_limb prog_2_method_2_code 2 (some .int)) 1 20 mc ms [.ref q, .int (Int32.ofInt e)] h Post := by
  subst he
  subst hv
  exact sb_limb_M g hg ht hgp htp hd hj hP
theorem sb_vset {ls : List Int} : ∀ {k : Nat} {x y : Int}, ls[k]? = some y → sb_v (ls.set k x) = sb_v ls + (x - y) * 1000000000 ^ k := by
  induction ls with
  | nil => intro k x y e_; cases e_
  | cons a u ih =>
    intro k x y e_
    match k, e_ with
    | 0, e_ =>
      cases e_
      show x + 1000000000 * sb_v u = a + 1000000000 * sb_v u + (x - a) * 1
      omega
    | k + 1, e_ =>
      show a + 1000000000 * sb_v (u.set k x) = a + 1000000000 * sb_v u + (x - y) * 1000000000 ^ (k + 1)
      rw [ih e_, Int.pow_succ, ← Int.mul_assoc]
      generalize (x - y) * 1000000000 ^ k = w_
      omega
def sb_l3 (a : Int) : List Int := [a % 1000000000, a / 1000000000 % 1000000000, a / 1000000000 / 1000000000 % 1000000000, 0, 0, 0, 0, 0, 0, 0]
theorem sb_l3_d (a : Int) : sb_d (sb_l3 a) := by
  refine ⟨rfl, fun x hx => ?_⟩
  unfold sb_l3 at hx
  simp only [List.mem_cons, List.not_mem_nil, or_false] at hx
  omega
theorem sb_l3_v {a : Int} (h1 : 0 ≤ a) (h2 : a < 1000000000000000000000000000) : sb_v (sb_l3 a) = a := by
  show a % 1000000000 + 1000000000 * (a / 1000000000 % 1000000000 + 1000000000 * (a / 1000000000 / 1000000000 % 1000000000 + 1000000000 * (0 + 1000000000 * (0 + 1000000000 * (0 + 1000000000 * (0 + 1000000000 * (0 + 1000000000 * (0 + 1000000000 * (0 + 1000000000 * 0))))))))) = a
  omega
theorem sb_l3_is {a s : Int} (h1 : 0 ≤ a) (h2 : a < 1000000000000000000000000000) (hs : s = -1 ∨ s = 1) {n : Nat} (hn : hd_pl (sb_l3 a) n) : sb_is n (if n = 0 then 0 else s) (sb_l3 a) (s * a) := by
  have e1_ := sb_l3_d a
  have e2_ := sb_l3_v h1 h2
  have e3_ := sb_n0 e1_ hn
  refine ⟨e1_, hn, ?_, ?_, ?_⟩
  · by_cases c_ : n = 0
    · rw [if_pos c_, ← e2_, e3_.mp c_]; simp
    · rw [if_neg c_, e2_]
  · by_cases c_ : n = 0
    · rw [if_pos c_]; omega
    · rw [if_neg c_]; omega
  · by_cases c_ : n = 0
    · rw [if_pos c_]; exact ⟨fun _ => e3_.mp c_, fun _ => rfl⟩
    · rw [if_neg c_]
      have : ¬ sb_v (sb_l3 a) = 0 := fun y_ => c_ (e3_.mpr y_)
      constructor
      · intro y_; omega
      · intro y_; exact absurd y_ this
set_option maxHeartbeats 4000000 in
theorem sb_blong_M {l : Launch} {G : am_G} {X : ck_XT} (g : gM l G X) {q p t tp : Nat} {ls : List Int} {len sg : Int} {h : List am_C} (hq : 1000 ≤ q) (hp : 1000 ≤ p) (hpq : p ≠ q) (hg : am_g G h q = some (sb_c t p len sg)) (ht : t % 100 = 7) (hgp : am_g G h p = some (tp, hd_r ls)) (htp : tp % 100 = 50) (hl : ls.length = 10) {z : Int} (hz1 : -9000000000000000000 ≤ z) (hz2 : z ≤ 9000000000000000000) {mc ms : Nat} {Post : am_O → List am_C → Prop}
    (hP : ∀ (h' : List am_C) (n : Nat) (s : Int) (ls' : List Int), sb_w G h h' q (sb_c t p (n : Int) s) p (tp, hd_r ls') → sb_is n s ls' z → Post (.inl none) h') :
    am_M l G yX0_becomeLong (.code yX0_becomeLong prog_2_method_8_code 6 none) 2 42 mc ms [.ref q, .long (Int64.ofInt z)] h Post := by
  refine gh_yX0_becomeLong_X g (Nat.le_of_ble_eq_true rfl) fun S SX hs hr hw hx => ?_
  have rv : ∀ x : Int32, ck_fv 0 (.int x) := fun x => ⟨_, rfl⟩
  by_cases hs_ : z < 0
  · have ec_ : (if (0 : Int) < z then 1 else if z < (0 : Int) then -1 else 0 : Int) = -1 := by rw [if_neg (by omega), if_pos hs_]
    refine hs 0 _ rfl _ _ _ _ _ _ _ rfl ?_
    refine zw_c (hs 1 _ rfl) (a := [.ref q]) (st := []) rfl rfl (Nat.le_of_ble_eq_true rfl) ⟨_, _, _, rfl, (hg), ht⟩ (Nat.zero_le _) (Nat.zero_le _) (sb_clear_M g (by omega) (by omega) (by omega) (hg) ht (hgp) htp hl fun hz9 wz10 => ?_)
    show S 4 [some (.ref q), some (.long (Int64.ofInt z)), none, none, none, none] [] _ _ _
    refine hs 2 _ rfl _ _ _ _ _ _ _ rfl ?_
    refine hs 3 _ rfl _ _ _ _ _ _ _ rfl ?_
    refine hs 4 _ rfl _ _ _ _ _ _ _ (zw_lcmpE (by omega) (by omega) (by omega) (by omega) ec_) ?_
    refine hs 5 _ rfl _ _ _ _ _ _ (fun zq => absurd (hd_c1z (c := 3) (by omega) (by omega) zq) (by omega : ¬ (0 ≤ (-1 : Int)))) (fun _ => ?_)
    refine hs 6 _ rfl _ _ _ _ _ _ _ rfl ?_
    refine hs 7 _ rfl _ _ _ _ _ _ _ zw_lneg ?_
    refine hs 8 _ rfl _ _ _ _ _ ?_
    refine hs 10 _ rfl _ _ _ _ _ _ _ rfl ?_
    refine hs 11 _ rfl _ _ _ _ _ _ _ rfl ?_
    refine hs 12 _ rfl _ _ _ _ _ _ _ rfl ?_
    refine hs 13 _ rfl _ _ _ _ _ _ _ rfl ?_
    refine hs 14 _ rfl _ _ _ _ _ _ _ rfl ?_
    refine hs 15 _ rfl _ _ _ _ _ _ _ (fun zq => absurd (hd_c2z (c := 3) (by omega) (by omega) (by omega) (by omega) zq) (by omega : ¬ (0 ≤ ((0 : Int) - (3 : Int))))) (fun _ => ?_)
    refine hs 16 _ rfl _ _ _ _ _ _ _ rfl ?_
    refine hs 17 _ rfl _ _ _ _ _ _ _ _ _ (wz10.q) ht rfl ?_
    refine hs 18 _ rfl _ _ _ _ _ _ _ rfl ?_
    refine hs 19 _ rfl _ _ _ _ _ _ _ rfl ?_
    refine hs 20 _ rfl _ _ _ _ _ _ _ rfl ?_
    refine hs 21 _ rfl _ _ _ _ _ _ _ (hd_lrem (by omega) (by omega) (by omega) (by omega)) ?_
    refine hs 22 _ rfl _ _ _ _ _ _ _ (hd_l2i (by omega) (by omega)) ?_
    refine zw_B (hs 23 _ rfl) (by decide) (by decide) (by omega) ((wz10.p (by omega))) htp (j := 0) (by omega) (by omega) (by simp only [List.length_set, sb_0, List.length_replicate]; decide) fun hz11 wz12 => ?_
    refine hs 24 _ rfl _ _ _ _ _ _ _ rfl ?_
    refine hs 25 _ rfl _ _ _ _ _ _ _ rfl ?_
    refine hs 26 _ rfl _ _ _ _ _ _ _ (hd_ldiv (by omega) (by omega) (by omega) (by omega)) ?_
    refine hs 27 _ rfl _ _ _ _ _ _ _ rfl ?_
    refine hs 28 _ rfl _ _ _ _ _ _ _ (hd_inc rfl) ?_
    refine hs 29 _ rfl _ _ _ _ _ ?_
    refine hs 13 _ rfl _ _ _ _ _ _ _ rfl ?_
    refine hs 14 _ rfl _ _ _ _ _ _ _ rfl ?_
    refine hs 15 _ rfl _ _ _ _ _ _ _ (fun zq => absurd (hd_c2z (c := 3) (by omega) (by omega) (by omega) (by omega) zq) (by omega : ¬ (0 ≤ (((0 : Int) + (1 : Int)) - (3 : Int))))) (fun _ => ?_)
    refine hs 16 _ rfl _ _ _ _ _ _ _ rfl ?_
    refine hs 17 _ rfl _ _ _ _ _ _ _ _ _ ((wz12.ne (by omega)).trans wz10.q) ht rfl ?_
    refine hs 18 _ rfl _ _ _ _ _ _ _ rfl ?_
    refine hs 19 _ rfl _ _ _ _ _ _ _ rfl ?_
    refine hs 20 _ rfl _ _ _ _ _ _ _ rfl ?_
    refine hs 21 _ rfl _ _ _ _ _ _ _ (hd_lrem (by omega) (by omega) (by omega) (by omega)) ?_
    refine hs 22 _ rfl _ _ _ _ _ _ _ (hd_l2i (by omega) (by omega)) ?_
    refine zw_B (hs 23 _ rfl) (by decide) (by decide) (by omega) (wz12.at) htp (j := 1) (by omega) (by omega) (by simp only [List.length_set, sb_0, List.length_replicate]; decide) fun hz13 wz14 => ?_
    refine hs 24 _ rfl _ _ _ _ _ _ _ rfl ?_
    refine hs 25 _ rfl _ _ _ _ _ _ _ rfl ?_
    refine hs 26 _ rfl _ _ _ _ _ _ _ (hd_ldiv (by omega) (by omega) (by omega) (by omega)) ?_
    refine hs 27 _ rfl _ _ _ _ _ _ _ rfl ?_
    show S 45 [some (.ref q), some (.long (Int64.ofInt z)), none, some (.long (Int64.ofInt (((-z) / (1000000000 : Int)) / (1000000000 : Int)))), none, some (.int (Int32.ofInt ((0 : Int) + (1 : Int))))] [] _ _ _
    refine hs 28 _ rfl _ _ _ _ _ _ _ (hd_inc rfl) ?_
    refine hs 29 _ rfl _ _ _ _ _ ?_
    refine hs 13 _ rfl _ _ _ _ _ _ _ rfl ?_
    refine hs 14 _ rfl _ _ _ _ _ _ _ rfl ?_
    refine hs 15 _ rfl _ _ _ _ _ _ _ (fun zq => absurd (hd_c2z (c := 3) (by omega) (by omega) (by omega) (by omega) zq) (by omega : ¬ (0 ≤ ((((0 : Int) + (1 : Int)) + (1 : Int)) - (3 : Int))))) (fun _ => ?_)
    refine hs 16 _ rfl _ _ _ _ _ _ _ rfl ?_
    refine hs 17 _ rfl _ _ _ _ _ _ _ _ _ ((wz14.ne (by omega)).trans ((wz12.ne (by omega)).trans wz10.q)) ht rfl ?_
    refine hs 18 _ rfl _ _ _ _ _ _ _ rfl ?_
    refine hs 19 _ rfl _ _ _ _ _ _ _ rfl ?_
    refine hs 20 _ rfl _ _ _ _ _ _ _ rfl ?_
    refine hs 21 _ rfl _ _ _ _ _ _ _ (hd_lrem (by omega) (by omega) (by omega) (by omega)) ?_
    refine hs 22 _ rfl _ _ _ _ _ _ _ (hd_l2i (by omega) (by omega)) ?_
    refine zw_B (hs 23 _ rfl) (by decide) (by decide) (by omega) (wz14.at) htp (j := 2) (by omega) (by omega) (by simp only [List.length_set, sb_0, List.length_replicate]; decide) fun hz15 wz16 => ?_
    refine hs 24 _ rfl _ _ _ _ _ _ _ rfl ?_
    refine hs 25 _ rfl _ _ _ _ _ _ _ rfl ?_
    refine hs 26 _ rfl _ _ _ _ _ _ _ (hd_ldiv (by omega) (by omega) (by omega) (by omega)) ?_
    refine hs 27 _ rfl _ _ _ _ _ _ _ rfl ?_
    refine hs 28 _ rfl _ _ _ _ _ _ _ (hd_inc rfl) ?_
    refine hs 29 _ rfl _ _ _ _ _ ?_
    refine hs 13 _ rfl _ _ _ _ _ _ _ rfl ?_
    refine hs 14 _ rfl _ _ _ _ _ _ _ rfl ?_
    refine hs 15 _ rfl _ _ _ _ _ _ _ (fun _ => ?_) (fun zq => absurd (hd_c2t (c := 3) (by omega) (by omega) (by omega) (by omega) (by omega : 0 ≤ (((((0 : Int) + (1 : Int)) + (1 : Int)) + (1 : Int)) - (3 : Int)))) zq)
    have wq_ : sb_w G h hz15 q (sb_c t p 0 0) p (tp, hd_r (sb_l3 (-z))) := wz10.tp (by omega) (((wz12).tr (wz14)).tr (wz16))
    have hd_ := sb_l3_d (-z)
    obtain ⟨n_, hn_⟩ := sb_pl (sb_l3 (-z))
    refine hs 30 _ rfl _ _ _ _ _ _ _ rfl ?_
    refine hs 31 _ rfl _ _ _ _ _ _ _ rfl ?_
    refine hs 32 _ rfl _ _ _ _ _ _ _ rfl ?_
    refine hs 33 _ rfl _ _ _ _ _ _ _ (zw_lcmpE (by omega) (by omega) (by omega) (by omega) ec_) ?_
    refine hs 34 _ rfl _ _ _ _ _ _ (fun zq => absurd (hd_c1z (c := 3) (by omega) (by omega) zq) (by omega : ¬ (0 ≤ (-1 : Int)))) (fun _ => ?_)
    refine hs 35 _ rfl _ _ _ _ _ _ _ rfl ?_
    refine hs 36 _ rfl _ _ _ _ _ ?_
    refine zw_c (hs 38 _ rfl) (a := [.ref q, .int (Int32.ofInt (-1 : Int))]) (st := []) rfl rfl (Nat.le_of_ble_eq_true rfl) ⟨_, _, _, rfl, (wq_.q), ht⟩ (Nat.zero_le _) (Nat.zero_le _) (sb_settle_M g (by omega) (by omega) (wq_.q) ht ((wq_.p (by omega))) htp hd_ hn_ fun hz17 wz18 => ?_)
    show S 66 [some (.ref q), some (.long (Int64.ofInt z)), none, some (.long (Int64.ofInt ((((-z) / (1000000000 : Int)) / (1000000000 : Int)) / (1000000000 : Int)))), none, some (.int (Int32.ofInt ((((0 : Int) + (1 : Int)) + (1 : Int)) + (1 : Int))))] [] _ _ _
    have hq_ := sb_l3_is (a := (-z)) (s := -1) (by omega) (by omega) (by decide) hn_
    rw [show (-1 : Int) * (-z) = z by omega] at hq_
    exact hs 39 _ rfl _ _ _ _ (Nat.zero_le _) (Nat.zero_le _) (hP _ _ _ _ (wq_.tq wz18) hq_)
  · obtain ⟨c_, ec_, hc_⟩ : ∃ c_ : Int, (if (0 : Int) < z then 1 else if z < (0 : Int) then -1 else 0 : Int) = c_ ∧ 0 ≤ c_ ∧ c_ ≤ 1 := by
      by_cases y_ : 0 < z
      · exact ⟨1, by rw [if_pos y_], by decide⟩
      · exact ⟨0, by rw [if_neg y_, if_neg hs_], by decide⟩
    refine hs 0 _ rfl _ _ _ _ _ _ _ rfl ?_
    refine zw_c (hs 1 _ rfl) (a := [.ref q]) (st := []) rfl rfl (Nat.le_of_ble_eq_true rfl) ⟨_, _, _, rfl, (hg), ht⟩ (Nat.zero_le _) (Nat.zero_le _) (sb_clear_M g (by omega) (by omega) (by omega) (hg) ht (hgp) htp hl fun hz19 wz20 => ?_)
    show S 4 [some (.ref q), some (.long (Int64.ofInt z)), none, none, none, none] [] _ _ _
    refine hs 2 _ rfl _ _ _ _ _ _ _ rfl ?_
    refine hs 3 _ rfl _ _ _ _ _ _ _ rfl ?_
    refine hs 4 _ rfl _ _ _ _ _ _ _ (zw_lcmpE (by omega) (by omega) (by omega) (by omega) ec_) ?_
    refine hs 5 _ rfl _ _ _ _ _ _ (fun _ => ?_) (fun zq => absurd (hd_c1t (c := 3) (by omega) (by omega) (by omega : 0 ≤ c_)) zq)
    refine hs 9 _ rfl _ _ _ _ _ _ _ rfl ?_
    refine hs 10 _ rfl _ _ _ _ _ _ _ rfl ?_
    refine hs 11 _ rfl _ _ _ _ _ _ _ rfl ?_
    refine hs 12 _ rfl _ _ _ _ _ _ _ rfl ?_
    refine hs 13 _ rfl _ _ _ _ _ _ _ rfl ?_
    refine hs 14 _ rfl _ _ _ _ _ _ _ rfl ?_
    refine hs 15 _ rfl _ _ _ _ _ _ _ (fun zq => absurd (hd_c2z (c := 3) (by omega) (by omega) (by omega) (by omega) zq) (by omega : ¬ (0 ≤ ((0 : Int) - (3 : Int))))) (fun _ => ?_)
    refine hs 16 _ rfl _ _ _ _ _ _ _ rfl ?_
    refine hs 17 _ rfl _ _ _ _ _ _ _ _ _ (wz20.q) ht rfl ?_
    refine hs 18 _ rfl _ _ _ _ _ _ _ rfl ?_
    refine hs 19 _ rfl _ _ _ _ _ _ _ rfl ?_
    refine hs 20 _ rfl _ _ _ _ _ _ _ rfl ?_
    refine hs 21 _ rfl _ _ _ _ _ _ _ (hd_lrem (by omega) (by omega) (by omega) (by omega)) ?_
    refine hs 22 _ rfl _ _ _ _ _ _ _ (hd_l2i (by omega) (by omega)) ?_
    refine zw_B (hs 23 _ rfl) (by decide) (by decide) (by omega) ((wz20.p (by omega))) htp (j := 0) (by omega) (by omega) (by simp only [List.length_set, sb_0, List.length_replicate]; decide) fun hz21 wz22 => ?_
    refine hs 24 _ rfl _ _ _ _ _ _ _ rfl ?_
    refine hs 25 _ rfl _ _ _ _ _ _ _ rfl ?_
    refine hs 26 _ rfl _ _ _ _ _ _ _ (hd_ldiv (by omega) (by omega) (by omega) (by omega)) ?_
    refine hs 27 _ rfl _ _ _ _ _ _ _ rfl ?_
    refine hs 28 _ rfl _ _ _ _ _ _ _ (hd_inc rfl) ?_
    refine hs 29 _ rfl _ _ _ _ _ ?_
    refine hs 13 _ rfl _ _ _ _ _ _ _ rfl ?_
    refine hs 14 _ rfl _ _ _ _ _ _ _ rfl ?_
    refine hs 15 _ rfl _ _ _ _ _ _ _ (fun zq => absurd (hd_c2z (c := 3) (by omega) (by omega) (by omega) (by omega) zq) (by omega : ¬ (0 ≤ (((0 : Int) + (1 : Int)) - (3 : Int))))) (fun _ => ?_)
    refine hs 16 _ rfl _ _ _ _ _ _ _ rfl ?_
    refine hs 17 _ rfl _ _ _ _ _ _ _ _ _ ((wz22.ne (by omega)).trans wz20.q) ht rfl ?_
    refine hs 18 _ rfl _ _ _ _ _ _ _ rfl ?_
    refine hs 19 _ rfl _ _ _ _ _ _ _ rfl ?_
    refine hs 20 _ rfl _ _ _ _ _ _ _ rfl ?_
    refine hs 21 _ rfl _ _ _ _ _ _ _ (hd_lrem (by omega) (by omega) (by omega) (by omega)) ?_
    refine hs 22 _ rfl _ _ _ _ _ _ _ (hd_l2i (by omega) (by omega)) ?_
    refine zw_B (hs 23 _ rfl) (by decide) (by decide) (by omega) (wz22.at) htp (j := 1) (by omega) (by omega) (by simp only [List.length_set, sb_0, List.length_replicate]; decide) fun hz23 wz24 => ?_
    refine hs 24 _ rfl _ _ _ _ _ _ _ rfl ?_
    refine hs 25 _ rfl _ _ _ _ _ _ _ rfl ?_
    refine hs 26 _ rfl _ _ _ _ _ _ _ (hd_ldiv (by omega) (by omega) (by omega) (by omega)) ?_
    refine hs 27 _ rfl _ _ _ _ _ _ _ rfl ?_
    show S 45 [some (.ref q), some (.long (Int64.ofInt z)), none, some (.long (Int64.ofInt ((z / (1000000000 : Int)) / (1000000000 : Int)))), none, some (.int (Int32.ofInt ((0 : Int) + (1 : Int))))] [] _ _ _
    refine hs 28 _ rfl _ _ _ _ _ _ _ (hd_inc rfl) ?_
    refine hs 29 _ rfl _ _ _ _ _ ?_
    refine hs 13 _ rfl _ _ _ _ _ _ _ rfl ?_
    refine hs 14 _ rfl _ _ _ _ _ _ _ rfl ?_
    refine hs 15 _ rfl _ _ _ _ _ _ _ (fun zq => absurd (hd_c2z (c := 3) (by omega) (by omega) (by omega) (by omega) zq) (by omega : ¬ (0 ≤ ((((0 : Int) + (1 : Int)) + (1 : Int)) - (3 : Int))))) (fun _ => ?_)
    refine hs 16 _ rfl _ _ _ _ _ _ _ rfl ?_
    refine hs 17 _ rfl _ _ _ _ _ _ _ _ _ ((wz24.ne (by omega)).trans ((wz22.ne (by omega)).trans wz20.q)) ht rfl ?_
    refine hs 18 _ rfl _ _ _ _ _ _ _ rfl ?_
    refine hs 19 _ rfl _ _ _ _ _ _ _ rfl ?_
    refine hs 20 _ rfl _ _ _ _ _ _ _ rfl ?_
    refine hs 21 _ rfl _ _ _ _ _ _ _ (hd_lrem (by omega) (by omega) (by omega) (by omega)) ?_
    refine hs 22 _ rfl _ _ _ _ _ _ _ (hd_l2i (by omega) (by omega)) ?_
    refine zw_B (hs 23 _ rfl) (by decide) (by decide) (by omega) (wz24.at) htp (j := 2) (by omega) (by omega) (by simp only [List.length_set, sb_0, List.length_replicate]; decide) fun hz25 wz26 => ?_
    refine hs 24 _ rfl _ _ _ _ _ _ _ rfl ?_
    refine hs 25 _ rfl _ _ _ _ _ _ _ rfl ?_
    refine hs 26 _ rfl _ _ _ _ _ _ _ (hd_ldiv (by omega) (by omega) (by omega) (by omega)) ?_
    refine hs 27 _ rfl _ _ _ _ _ _ _ rfl ?_
    refine hs 28 _ rfl _ _ _ _ _ _ _ (hd_inc rfl) ?_
    refine hs 29 _ rfl _ _ _ _ _ ?_
    refine hs 13 _ rfl _ _ _ _ _ _ _ rfl ?_
    refine hs 14 _ rfl _ _ _ _ _ _ _ rfl ?_
    refine hs 15 _ rfl _ _ _ _ _ _ _ (fun _ => ?_) (fun zq => absurd (hd_c2t (c := 3) (by omega) (by omega) (by omega) (by omega) (by omega : 0 ≤ (((((0 : Int) + (1 : Int)) + (1 : Int)) + (1 : Int)) - (3 : Int)))) zq)
    have wq_ : sb_w G h hz25 q (sb_c t p 0 0) p (tp, hd_r (sb_l3 z)) := wz20.tp (by omega) (((wz22).tr (wz24)).tr (wz26))
    have hd_ := sb_l3_d z
    obtain ⟨n_, hn_⟩ := sb_pl (sb_l3 z)
    refine hs 30 _ rfl _ _ _ _ _ _ _ rfl ?_
    refine hs 31 _ rfl _ _ _ _ _ _ _ rfl ?_
    refine hs 32 _ rfl _ _ _ _ _ _ _ rfl ?_
    refine hs 33 _ rfl _ _ _ _ _ _ _ (zw_lcmpE (by omega) (by omega) (by omega) (by omega) ec_) ?_
    refine hs 34 _ rfl _ _ _ _ _ _ (fun _ => ?_) (fun zq => absurd (hd_c1t (c := 3) (by omega) (by omega) (by omega : 0 ≤ c_)) zq)
    refine hs 37 _ rfl _ _ _ _ _ _ _ rfl ?_
    refine zw_c (hs 38 _ rfl) (a := [.ref q, .int (Int32.ofInt (1 : Int))]) (st := []) rfl rfl (Nat.le_of_ble_eq_true rfl) ⟨_, _, _, rfl, (wq_.q), ht⟩ (Nat.zero_le _) (Nat.zero_le _) (sb_settle_M g (by omega) (by omega) (wq_.q) ht ((wq_.p (by omega))) htp hd_ hn_ fun hz27 wz28 => ?_)
    show S 66 [some (.ref q), some (.long (Int64.ofInt z)), none, some (.long (Int64.ofInt (((z / (1000000000 : Int)) / (1000000000 : Int)) / (1000000000 : Int)))), none, some (.int (Int32.ofInt ((((0 : Int) + (1 : Int)) + (1 : Int)) + (1 : Int))))] [] _ _ _
    have hq_ := sb_l3_is (a := z) (s := 1) (by omega) (by omega) (by decide) hn_
    rw [Int.one_mul] at hq_
    exact hs 39 _ rfl _ _ _ _ (Nat.zero_le _) (Nat.zero_le _) (hP _ _ _ _ (wq_.tq wz28) hq_)
end
section
/-! PRODUCTS OF MANY LIMBS -/
theorem sb_take {A : List Int} {i : Nat} {x : Int} (e : A[i]? = some x) : sb_v (A.take (i + 1)) = sb_v (A.take i) + x * 1000000000 ^ i := by
  induction A generalizing i with
  | nil => cases e
  | cons a u ih =>
    match i, e with
    | 0, e =>
      cases e
      show x + 1000000000 * sb_v (u.take 0) = 0 + x * 1
      rw [List.take_zero]
      show x + 1000000000 * 0 = 0 + x * 1
      omega
    | i + 1, e =>
      show a + 1000000000 * sb_v (u.take (i + 1)) = a + 1000000000 * sb_v (u.take i) + x * 1000000000 ^ (i + 1)
      rw [ih e, Int.pow_succ, ← Int.mul_assoc]
      generalize x * 1000000000 ^ i = w_
      omega
theorem sb_take_all {A : List Int} {n : Nat} (h : hd_pl A n) {k : Nat} (hk : n ≤ k) : sb_v (A.take k) = sb_v A := by
  have key : ∀ (A : List Int) (k : Nat), (∀ (j : Nat) (d : Int), k ≤ j → A[j]? = some d → d = 0) → sb_v (A.take k) = sb_v A := by
    intro A
    induction A with
    | nil => intro k _; rw [List.take_nil]
    | cons a u ih =>
      intro k hz
      cases k with
      | zero =>
        rw [List.take_zero]
        exact (sb_zero fun j d hj => hz j d (Nat.zero_le _) hj).symm
      | succ k =>
        show a + 1000000000 * sb_v (u.take k) = a + 1000000000 * sb_v u
        rw [ih k fun j d h1 h2 => hz (j + 1) d (by omega) h2]
  exact key A k fun j d h1 h2 => h.2.1 j d (by omega) h2
/-- one step of a row times a limb -/
theorem sb_pstep {V T x y z c P : Int} (hx : 0 ≤ x ∧ x ≤ 999999999) (hy : 0 ≤ y ∧ y ≤ 999999999) (hz : 0 ≤ z ∧ z ≤ 999999999) (hc : 0 ≤ c ∧ c ≤ 999999999) (h : V + P * c = T) :
    (0 ≤ x * y + z + c ∧ x * y + z + c ≤ 999999999999999999) ∧ (0 ≤ (x * y + z + c) / 1000000000 ∧ (x * y + z + c) / 1000000000 ≤ 999999999) ∧ V + ((x * y + z + c) % 1000000000 - z) * P + P * 1000000000 * ((x * y + z + c) / 1000000000) = T + x * y * P := by
  have h1_ : 0 ≤ x * y := Int.mul_nonneg hx.1 hy.1
  have h2_ : x * y ≤ 999999999 * 999999999 := Int.mul_le_mul hx.2 hy.2 hy.1 (by decide)
  generalize x * y = w_ at *
  refine ⟨by omega, by omega, ?_⟩
  have e_ := Int.mul_ediv_add_emod (w_ + z + c) 1000000000
  generalize (w_ + z + c) / 1000000000 = d_ at *
  generalize (w_ + z + c) % 1000000000 = r_ at *
  have e2_ : r_ = w_ + z + c - 1000000000 * d_ := by omega
  rw [e2_, ← h, show w_ + z + c - 1000000000 * d_ - z = w_ + c - 1000000000 * d_ by omega, Int.sub_mul, Int.add_mul, Int.mul_comm c P, Int.mul_assoc P 1000000000 d_, Int.mul_comm P (1000000000 * d_)]
  generalize P * c = a_
  generalize 1000000000 * d_ * P = b_
  omega
theorem sb_sg {a b : Int} (ha : a = -1 ∨ a = 0 ∨ a = 1) (hb : b = -1 ∨ b = 0 ∨ b = 1) : -1 ≤ a * b ∧ a * b ≤ 1 := by
  rcases ha with z_ | z_ | z_ <;> rcases hb with y_ | y_ | y_ <;> rw [z_, y_] <;> decide
theorem sb_gd {ls : List Int} (h : sb_d ls) (j : Nat) : 0 ≤ ls.getD j 0 ∧ ls.getD j 0 ≤ 999999999 := by
  by_cases c_ : j < 10
  · obtain ⟨x_, e_, z_⟩ := h.get c_
    rw [List.getD_eq_getElem?_getD, e_]
    exact z_
  · rw [List.getD_eq_getElem?_getD, List.getElem?_eq_none (by have := h.1; omega)]
    decide
theorem sb_ge {ls : List Int} {j : Nat} (h : j < ls.length) : ls[j]? = some (ls.getD j 0) := by
  rw [List.getD_eq_getElem?_getD, List.getElem?_eq_getElem h]
  rfl
theorem sb_sets {ls : List Int} {k j : Nat} {x : Int} (h : j ≠ k) : (ls.set k x).getD j 0 = ls.getD j 0 := by
  rw [List.getD_eq_getElem?_getD, List.getD_eq_getElem?_getD, List.getElem?_set_ne (Ne.symm h)]
theorem sb_setd {ls : List Int} (h : sb_d ls) {k : Nat} {x : Int} (hx : 0 ≤ x ∧ x ≤ 999999999) : sb_d (ls.set k x) := by
  refine ⟨by rw [List.length_set]; exact h.1, fun y hy => ?_⟩
  rcases List.mem_or_eq_of_mem_set hy with z_ | z_
  · exact h.2 y z_
  · rw [z_]; exact hx
theorem sb_pdist {x s y Q R : Int} : x * (s + y * Q) * R = x * s * R + x * y * (R * Q) := by
  rw [Int.mul_add, Int.add_mul, Int.mul_assoc x y Q |>.symm, Int.mul_assoc (x * y) Q R, Int.mul_comm Q R]
def sb_im (p q : Prop) : Prop := p → q
/-- what the outer and the inner loop of a product keep -/
def sb_pO (cur A B : List Int) (i : Nat) : Prop := sb_v cur = sb_v (A.take i) * sb_v B
def sb_pI (cur A B : List Int) (i j : Nat) (x c : Int) : Prop := sb_v cur + 1000000000 ^ (i + j) * c = sb_v (A.take i) * sb_v B + x * sb_v (B.take j) * 1000000000 ^ i
theorem sb_pO.inn {cur A B : List Int} {i : Nat} {x : Int} (h : sb_pO cur A B i) : sb_pI cur A B i 0 x 0 := by
  unfold sb_pI
  rw [List.take_zero, show sb_v [] = 0 from rfl, Int.mul_zero, Int.mul_zero, Int.zero_mul, h]
theorem sb_pI.out {cur A B : List Int} {i j nb : Nat} {x : Int} (h : sb_pI cur A B i j x 0) (hB : hd_pl B nb) (hj : nb ≤ j) (hx : A[i]? = some x) : sb_pO cur A B (i + 1) := by
  unfold sb_pI at h
  unfold sb_pO
  rw [Int.mul_zero, Int.add_zero, sb_take_all hB hj] at h
  rw [sb_take hx, Int.add_mul, Int.mul_right_comm x]
  exact h
theorem sb_pI.step {cur A B : List Int} {i j : Nat} {x y z c : Int} (h : sb_pI cur A B i j x c) (hx : 0 ≤ x ∧ x ≤ 999999999) (hy : 0 ≤ y ∧ y ≤ 999999999) (hz : 0 ≤ z ∧ z ≤ 999999999) (hc : 0 ≤ c ∧ c ≤ 999999999) (ey : B[j]? = some y) (ez : cur[i + j]? = some z) :
    (0 ≤ x * y ∧ x * y + z + c ≤ 999999999999999999) ∧ (0 ≤ (x * y + z + c) / 1000000000 ∧ (x * y + z + c) / 1000000000 ≤ 999999999) ∧ sb_pI (cur.set (i + j) ((x * y + z + c) % 1000000000)) A B i (j + 1) x ((x * y + z + c) / 1000000000) := by
  obtain ⟨⟨b1_, b2_⟩, b3_, b4_⟩ := sb_pstep hx hy hz hc h
  refine ⟨⟨Int.mul_nonneg hx.1 hy.1, b2_⟩, b3_, ?_⟩
  unfold sb_pI
  rw [sb_vset ez, sb_take ey, sb_pdist, ← Int.add_assoc, ← Int.pow_add, ← b4_, show i + (j + 1) = (i + j) + 1 by omega, Int.pow_succ]
theorem sb_0g (k : Nat) : sb_0.getD k 0 = 0 := by
  rw [List.getD_eq_getElem?_getD, sb_0, List.getElem?_replicate]
  by_cases c_ : k < 10
  · rw [if_pos c_]; rfl
  · rw [if_neg c_]; rfl
set_option maxHeartbeats 4000000 in
theorem sb_prod_M {l : Launch} {G : am_G} {X : ck_XT} (g : gM l G X) {q p t tp : Nat} {ls : List Int} {len sg : Int} {h : List am_C} (hq : 1000 ≤ q) (hp : 1000 ≤ p) (hpq : p ≠ q) (hg : am_g G h q = some (sb_c t p len sg)) (ht : t % 100 = 7) (hgp : am_g G h p = some (tp, hd_r ls)) (htp : tp % 100 = 50) (hl : ls.length = 10) {qa pa ta tpa qb pb tb tpb na nb : Nat} {A B : List Int} {sga sgb za zb : Int}
    (hga : am_g G h qa = some (sb_c ta pa (na : Int) sga)) (hta : ta % 100 = 7) (hgpa : am_g G h pa = some (tpa, hd_r A)) (htpa : tpa % 100 = 50) (hAi : sb_is na sga A za) (hqa : qa ≠ q ∧ qa ≠ p ∧ pa ≠ q ∧ pa ≠ p)
    (hgb : am_g G h qb = some (sb_c tb pb (nb : Int) sgb)) (htb : tb % 100 = 7) (hgpb : am_g G h pb = some (tpb, hd_r B)) (htpb : tpb % 100 = 50) (hBi : sb_is nb sgb B zb) (hqb : qb ≠ q ∧ qb ≠ p ∧ pb ≠ q ∧ pb ≠ p) (hnn : na + nb ≤ 9) {mc ms : Nat} {Post : am_O → List am_C → Prop}
    (hP : ∀ (h' : List am_C) (n : Nat) (s : Int) (ls' : List Int), sb_w G h h' q (sb_c t p (n : Int) s) p (tp, hd_r ls') → sb_is n s ls' (za * zb) → Post (.inl none) h') :
    am_M l G yX0_becomeProduct (.code yX0_becomeProduct prog_2_method_12_code 9 none) 2 42 mc ms [.ref q, .ref qa, .ref qb] h Post := by
  refine gh_yX0_becomeProduct_X g (Nat.le_of_ble_eq_true rfl) fun S SX hs hr hw hx => ?_
  have rv : ∀ x : Int32, ck_fv 0 (.int x) := fun x => ⟨_, rfl⟩
  have hA := hAi.1
  have hnA := hAi.2.1
  have hB := hBi.1
  have hnB := hBi.2.1
  have loop_ : ∀ (m_ i_ : Nat) (cur_ : List Int) (h1_ : List am_C) (w1_ w2_ w3_ w4_ w5_ : Option Value), i_ + m_ = na → sb_d cur_ → (∀ k_, i_ + nb ≤ k_ → cur_.getD k_ 0 = 0) → sb_pO cur_ A B i_ → sb_w G h h1_ q (sb_c t p 0 0) p (tp, hd_r cur_) → S 6 [some (.ref q), some (.ref qa), some (.ref qb), some (.int (Int32.ofInt (i_ : Int))), w1_, w2_, w3_, w4_, w5_] [] h1_ 0 0 := by
    intro m_
    induction m_ with
    | zero =>
      intro i_ cur_ h1_ w1_ w2_ w3_ w4_ w5_ him_ hcd_ hz_ hv_ hc_
      obtain rfl : i_ = na := by omega
      obtain ⟨n_, hn_⟩ := sb_pl cur_
      refine hs 4 _ rfl _ _ _ _ _ _ _ rfl ?_
      refine hs 5 _ rfl _ _ _ _ _ _ _ rfl ?_
      refine hs 6 _ rfl _ _ _ _ _ _ _ _ _ (((hc_.ne hqa.1 hqa.2.1).trans hga)) hta rfl ?_
      refine hs 7 _ rfl _ _ _ _ _ _ _ (fun _ => ?_) (fun zq => absurd (hd_c2t (c := 3) (by omega) (by omega) (by omega) (by omega) (by omega : 0 ≤ ((i_ : Int) - (i_ : Int)))) zq)
      refine hs 52 _ rfl _ _ _ _ _ _ _ rfl ?_
      refine hs 53 _ rfl _ _ _ _ _ _ _ rfl ?_
      refine hs 54 _ rfl _ _ _ _ _ _ _ _ _ (((hc_.ne hqa.1 hqa.2.1).trans hga)) hta rfl ?_
      refine hs 55 _ rfl _ _ _ _ _ _ _ rfl ?_
      refine hs 56 _ rfl _ _ _ _ _ _ _ _ _ (((hc_.ne hqb.1 hqb.2.1).trans hgb)) htb rfl ?_
      refine hs 57 _ rfl _ _ _ _ _ _ _ hd_mul ?_
      refine zw_c (hs 58 _ rfl) (a := [.ref q, .int (Int32.ofInt (sga * sgb))]) (st := []) rfl rfl (Nat.le_of_ble_eq_true rfl) ⟨_, _, _, rfl, (hc_.q), ht⟩ (Nat.zero_le _) (Nat.zero_le _) (sb_settle_M g hq hpq (hc_.q) ht ((hc_.p hpq)) htp hcd_ hn_ fun hz29 wz30 => ?_)
      show S 106 [some (.ref q), some (.ref qa), some (.ref qb), some (.int (Int32.ofInt (i_ : Int))), _, _, _, _, _] [] _ _ _
      refine hs 59 _ rfl _ _ _ _ (Nat.zero_le _) (Nat.zero_le _) (hP _ n_ _ _ (hc_.tq wz30) ?_)
      obtain ⟨-, -, eza_, hAs_, hAz_⟩ := hAi
      obtain ⟨-, -, ezb_, hBs_, hBz_⟩ := hBi
      rw [eza_, ezb_]
      have hab_ := sb_sg hAs_ hBs_
      unfold sb_pO at hv_
      rw [sb_take_all hnA (Nat.le_refl _)] at hv_
      have e3_ := sb_n0 hcd_ hn_
      refine ⟨hcd_, hn_, ?_, ?_, ?_⟩
      · by_cases c_ : n_ = 0
        · have e4_ := e3_.mp c_
          rw [if_pos c_, Int.zero_mul, Int.mul_assoc, Int.mul_left_comm (sb_v A), ← hv_, e4_, Int.mul_zero, Int.mul_zero]
        · rw [if_neg c_, hv_, Int.mul_assoc, Int.mul_left_comm (sb_v A), ← Int.mul_assoc]
      · by_cases c_ : n_ = 0
        · rw [if_pos c_]; omega
        · rw [if_neg c_]; omega
      · by_cases c_ : n_ = 0
        · rw [if_pos c_]; exact ⟨fun _ => e3_.mp c_, fun _ => rfl⟩
        · rw [if_neg c_]
          have h0_ : ¬ sb_v cur_ = 0 := fun y_ => c_ (e3_.mpr y_)
          constructor
          · intro y_
            rcases Int.mul_eq_zero.mp y_ with z_ | z_
            · rw [hv_, hAz_.mp z_, Int.zero_mul]
            · rw [hv_, hBz_.mp z_, Int.mul_zero]
          · intro y_; exact absurd y_ h0_
    | succ m_ ih_ =>
      intro i_ cur_ h1_ w1_ w2_ w3_ w4_ w5_ him_ hcd_ hz_ hv_ hc_
      refine hs 4 _ rfl _ _ _ _ _ _ _ rfl ?_
      refine hs 5 _ rfl _ _ _ _ _ _ _ rfl ?_
      refine hs 6 _ rfl _ _ _ _ _ _ _ _ _ (((hc_.ne hqa.1 hqa.2.1).trans hga)) hta rfl ?_
      refine hs 7 _ rfl _ _ _ _ _ _ _ (fun zq => absurd (hd_c2z (c := 3) (by omega) (by omega) (by omega) (by omega) zq) (by omega : ¬ (0 ≤ ((i_ : Int) - (na : Int))))) (fun _ => ?_)
      refine hs 8 _ rfl _ _ _ _ _ _ _ rfl ?_
      refine hs 9 _ rfl _ _ _ _ _ _ _ rfl ?_
      refine hs 10 _ rfl _ _ _ _ _ _ _ rfl ?_
      refine hs 11 _ rfl _ _ _ _ _ _ _ rfl ?_
      have hx_ := sb_gd hA i_
      have ex_ := sb_ge (ls := A) (j := i_) (by have := hA.1; have := hnA.1; omega)
      generalize gx_ : A.getD i_ 0 = x_ at hx_ ex_
      have inner_ : ∀ (m2_ j_ : Nat) (c_ : Int) (cur_ : List Int) (h2_ : List am_C) (u1_ u2_ : Option Value), j_ + m2_ = nb + 1 → sb_d cur_ → (0 ≤ c_ ∧ c_ ≤ 999999999) → sb_im (j_ = nb + 1) (c_ = 0) → (∀ k_, (i_ + nb < k_ ∨ (i_ + nb = k_ ∧ j_ ≤ nb)) → cur_.getD k_ 0 = 0) → sb_pI cur_ A B i_ j_ x_ c_ → sb_w G h h2_ q (sb_c t p 0 0) p (tp, hd_r cur_) → S 20 [some (.ref q), some (.ref qa), some (.ref qb), some (.int (Int32.ofInt (i_ : Int))), some (.long (Int64.ofInt c_)), none, some (.int (Int32.ofInt (j_ : Int))), u1_, u2_] [] h2_ 0 0 := by
        intro m2_
        induction m2_ with
        | zero =>
          intro j_ c_ cur_ h2_ u1_ u2_ hj_ hcd_ hcb_ hc0_ hz_ hv_ hc_
          refine hs 12 _ rfl _ _ _ _ _ _ _ rfl ?_
          refine hs 13 _ rfl _ _ _ _ _ _ _ rfl ?_
          refine hs 14 _ rfl _ _ _ _ _ _ _ _ _ (((hc_.ne hqb.1 hqb.2.1).trans hgb)) htb rfl ?_
          refine hs 15 _ rfl _ _ _ _ _ _ _ (fun _ => ?_) (fun zq => absurd (hd_c2t (c := 4) (by omega) (by omega) (by omega) (by omega) (by omega : 0 < ((j_ : Int) - (nb : Int)))) zq)
          refine hs 50 _ rfl _ _ _ _ _ _ _ (hd_inc rfl) ?_
          refine hs 51 _ rfl _ _ _ _ _ ?_
          have e1_ := hc0_ (by omega)
          subst e1_
          rw [show ((i_ : Int) + (1 : Int)) = ((i_ + 1 : Nat) : Int) by omega]
          exact ih_ (i_ + 1) cur_ h2_ _ _ _ _ _ (by omega) hcd_ (fun k_ hk_ => hz_ k_ (Or.inl (by omega))) (hv_.out hnB (by omega) ex_) hc_
        | succ m2_ ih2_ =>
          intro j_ c_ cur_ h2_ u1_ u2_ hj_ hcd_ hcb_ hc0_ hz_ hv_ hc_
          have hy_ := sb_gd hB j_
          have ey_ := sb_ge (ls := B) (j := j_) (by have := hB.1; omega)
          have hz2_ := sb_gd hcd_ (i_ + j_)
          have ez_ := sb_ge (ls := cur_) (j := i_ + j_) (by have := hcd_.1; omega)
          have hlast_ : sb_im (j_ = nb) (B.getD j_ 0 = 0 ∧ cur_.getD (i_ + j_) 0 = 0) := fun e_ => ⟨hnB.2.1 j_ _ (by omega) ey_, hz_ _ (Or.inr ⟨by omega, by omega⟩)⟩
          generalize gy_ : B.getD j_ 0 = y_ at hy_ ey_ hlast_
          generalize gz_ : cur_.getD (i_ + j_) 0 = z_ at hz2_ ez_ hlast_
          obtain ⟨⟨b1_, b2_⟩, ⟨b3_, b4_⟩, b5_⟩ := hv_.step hx_ hy_ hz2_ hcb_ ey_ ez_
          have b7_ : 0 ≤ (x_ * y_ + z_ + c_) % 1000000000 ∧ (x_ * y_ + z_ + c_) % 1000000000 ≤ 999999999 := by omega
          refine hs 12 _ rfl _ _ _ _ _ _ _ rfl ?_
          refine hs 13 _ rfl _ _ _ _ _ _ _ rfl ?_
          refine hs 14 _ rfl _ _ _ _ _ _ _ _ _ (((hc_.ne hqb.1 hqb.2.1).trans hgb)) htb rfl ?_
          refine hs 15 _ rfl _ _ _ _ _ _ _ (fun zq => absurd (hd_c2z (c := 4) (by omega) (by omega) (by omega) (by omega) zq) (by omega : ¬ (0 < ((j_ : Int) - (nb : Int))))) (fun _ => ?_)
          refine hs 16 _ rfl _ _ _ _ _ _ _ rfl ?_
          refine hs 17 _ rfl _ _ _ _ _ _ _ rfl ?_
          refine zw_c (hs 18 _ rfl) (a := [.ref qa, .int (Int32.ofInt (i_ : Int))]) (st := []) rfl rfl (Nat.le_of_ble_eq_true rfl) ⟨_, _, _, rfl, (((hc_.ne hqa.1 hqa.2.1).trans hga)), hta⟩ (Nat.zero_le _) (Nat.zero_le _) (sb_limbE_M g (j := i_) (((hc_.ne hqa.1 hqa.2.1).trans hga)) hta (((hc_.ne hqa.2.2.1 hqa.2.2.2).trans hgpa)) htpa hA (by omega) (by omega) gx_ ?_)
          show S 34 [some (.ref q), some (.ref qa), some (.ref qb), some (.int (Int32.ofInt (i_ : Int))), some (.long (Int64.ofInt c_)), none, some (.int (Int32.ofInt (j_ : Int))), _, _] [.int (Int32.ofInt x_)] _ _ _
          refine hs 19 _ rfl _ _ _ _ _ _ _ (hd_i2l (by omega) (by omega)) ?_
          refine hs 20 _ rfl _ _ _ _ _ _ _ rfl ?_
          refine hs 21 _ rfl _ _ _ _ _ _ _ rfl ?_
          refine zw_c (hs 22 _ rfl) (a := [.ref qb, .int (Int32.ofInt (j_ : Int))]) (st := [.long (Int64.ofInt x_)]) rfl rfl (Nat.le_of_ble_eq_true rfl) ⟨_, _, _, rfl, (((hc_.ne hqb.1 hqb.2.1).trans hgb)), htb⟩ (Nat.zero_le _) (Nat.zero_le _) (sb_limbE_M g (j := j_) (((hc_.ne hqb.1 hqb.2.1).trans hgb)) htb (((hc_.ne hqb.2.2.1 hqb.2.2.2).trans hgpb)) htpb hB (by omega) (by omega) gy_ ?_)
          show S 41 [some (.ref q), some (.ref qa), some (.ref qb), some (.int (Int32.ofInt (i_ : Int))), some (.long (Int64.ofInt c_)), none, some (.int (Int32.ofInt (j_ : Int))), _, _] [.int (Int32.ofInt y_), .long (Int64.ofInt x_)] _ _ _
          refine hs 23 _ rfl _ _ _ _ _ _ _ (hd_i2l (by omega) (by omega)) ?_
          refine hs 24 _ rfl _ _ _ _ _ _ _ hd_lmul ?_
          refine hs 25 _ rfl _ _ _ _ _ _ _ rfl ?_
          refine hs 26 _ rfl _ _ _ _ _ _ _ rfl ?_
          refine hs 27 _ rfl _ _ _ _ _ _ _ rfl ?_
          refine hs 28 _ rfl _ _ _ _ _ _ _ hd_add ?_
          refine zw_c (hs 29 _ rfl) (a := [.ref q, .int (Int32.ofInt ((i_ : Int) + (j_ : Int)))]) (st := [.long (Int64.ofInt (x_ * y_))]) rfl rfl (Nat.le_of_ble_eq_true rfl) ⟨_, _, _, rfl, (hc_.q), ht⟩ (Nat.zero_le _) (Nat.zero_le _) (sb_limbE_M g (j := i_ + j_) (hc_.q) ht ((hc_.p hpq)) htp hcd_ (by omega) (by omega) gz_ ?_)
          show S 51 [some (.ref q), some (.ref qa), some (.ref qb), some (.int (Int32.ofInt (i_ : Int))), some (.long (Int64.ofInt c_)), none, some (.int (Int32.ofInt (j_ : Int))), _, _] [.int (Int32.ofInt z_), .long (Int64.ofInt (x_ * y_))] _ _ _
          refine hs 30 _ rfl _ _ _ _ _ _ _ (hd_i2l (by omega) (by omega)) ?_
          refine hs 31 _ rfl _ _ _ _ _ _ _ hd_ladd ?_
          refine hs 32 _ rfl _ _ _ _ _ _ _ rfl ?_
          refine hs 33 _ rfl _ _ _ _ _ _ _ hd_ladd ?_
          refine hs 34 _ rfl _ _ _ _ _ _ _ rfl ?_
          refine hs 35 _ rfl _ _ _ _ _ _ _ rfl ?_
          refine hs 36 _ rfl _ _ _ _ _ _ _ rfl ?_
          refine hs 37 _ rfl _ _ _ _ _ _ _ rfl ?_
          refine hs 38 _ rfl _ _ _ _ _ _ _ hd_add ?_
          refine hs 39 _ rfl _ _ _ _ _ _ _ rfl ?_
          refine hs 40 _ rfl _ _ _ _ _ _ _ rfl ?_
          refine hs 41 _ rfl _ _ _ _ _ _ _ (hd_lrem (by omega) (by omega) (by omega) (by omega)) ?_
          refine hs 42 _ rfl _ _ _ _ _ _ _ (hd_l2i (by omega) (by omega)) ?_
          refine zw_c (hs 43 _ rfl) (a := [.ref q, .int (Int32.ofInt ((i_ : Int) + (j_ : Int))), .int (Int32.ofInt ((((x_ * y_) + z_) + c_) % (1000000000 : Int)))]) (st := []) rfl rfl (Nat.le_of_ble_eq_true rfl) ⟨_, _, _, rfl, (hc_.q), ht⟩ (Nat.zero_le _) (Nat.zero_le _) (sb_put_M g (j := i_ + j_) hq hp hpq (hc_.q) ht ((hc_.p hpq)) htp hcd_.1 (by omega) (by omega) fun hz31 wz32 => ?_)
          show S 73 [some (.ref q), some (.ref qa), some (.ref qb), some (.int (Int32.ofInt (i_ : Int))), some (.long (Int64.ofInt c_)), none, some (.int (Int32.ofInt (j_ : Int))), some (.long (Int64.ofInt (((x_ * y_) + z_) + c_))), none] [] _ _ _
          refine hs 44 _ rfl _ _ _ _ _ _ _ rfl ?_
          refine hs 45 _ rfl _ _ _ _ _ _ _ rfl ?_
          refine hs 46 _ rfl _ _ _ _ _ _ _ (hd_ldiv (by omega) (by omega) (by omega) (by omega)) ?_
          refine hs 47 _ rfl _ _ _ _ _ _ _ rfl ?_
          refine hs 48 _ rfl _ _ _ _ _ _ _ (hd_inc rfl) ?_
          refine hs 49 _ rfl _ _ _ _ _ ?_
          rw [show ((j_ : Int) + (1 : Int)) = ((j_ + 1 : Nat) : Int) by omega]
          refine ih2_ (j_ + 1) _ _ _ _ _ (by omega) (sb_setd hcd_ b7_) ⟨b3_, b4_⟩ (fun e_ => ?_) (fun k_ hk_ => ?_) b5_ (hc_.tp hpq wz32)
          · obtain ⟨e1_, e2_⟩ := hlast_ (by omega)
            rw [e1_, e2_, Int.mul_zero]
            omega
          · rw [sb_sets (by omega)]
            exact hz_ k_ (by omega)
      exact inner_ (nb + 1) 0 0 cur_ h1_ _ _ (by omega) hcd_ (by decide) (fun _ => rfl) (fun k_ hk_ => hz_ k_ (by omega)) hv_.inn hc_
  refine hs 0 _ rfl _ _ _ _ _ _ _ rfl ?_
  refine zw_c (hs 1 _ rfl) (a := [.ref q]) (st := []) rfl rfl (Nat.le_of_ble_eq_true rfl) ⟨_, _, _, rfl, (hg), ht⟩ (Nat.zero_le _) (Nat.zero_le _) (sb_clear_M g hq hp hpq (hg) ht (hgp) htp hl fun hz33 wz34 => ?_)
  show S 4 [some (.ref q), some (.ref qa), some (.ref qb), none, none, none, none, none, none] [] _ _ _
  refine hs 2 _ rfl _ _ _ _ _ _ _ rfl ?_
  refine hs 3 _ rfl _ _ _ _ _ _ _ rfl ?_
  exact loop_ na 0 sb_0 _ _ _ _ _ _ (by omega) ⟨rfl, by decide⟩ (fun k_ _ => sb_0g k_) (by unfold sb_pO; rw [List.take_zero, show sb_v [] = 0 from rfl, Int.zero_mul]; rfl) wz34
end
section
/-! DIGITS -/
/-- so many digits -/
def zc_dg (v : Int) (d : Nat) : Prop := 1 ≤ d ∧ v < 10 ^ d ∧ (d = 1 ∨ 10 ^ (d - 1) ≤ v)
theorem zc_dg.fn {v : Int} {d e : Nat} (h : zc_dg v d) (h' : zc_dg v e) : d = e := by
  have key : ∀ {d e : Nat}, zc_dg v d → zc_dg v e → ¬ d < e := by
    intro d e h h' hl
    obtain ⟨h1_, h2_, -⟩ := h
    rcases h'.2.2 with z_ | z_
    · omega
    · have e1_ : (10 : Int) ^ d ≤ 10 ^ (e - 1) := by
        have := Nat.pow_le_pow_right (show 0 < 10 by decide) (show d ≤ e - 1 by omega)
        have e2_ : ((10 ^ d : Nat) : Int) ≤ ((10 ^ (e - 1) : Nat) : Int) := Int.ofNat_le.mpr this
        rw [Int.natCast_pow, Int.natCast_pow] at e2_
        exact e2_
      omega
  have a_ := key h h'
  have b_ := key h' h
  omega
theorem zc_top {ls : List Int} {n : Nat} (hd : sb_d ls) (hn : hd_pl ls n) (h0 : 0 < n) : ∃ y : Nat, ls.getD (n - 1) 0 = (y : Int) ∧ 0 < y ∧ y ≤ 999999999 ∧ ∀ k : Nat, y < 10 ^ k → 0 < k → 10 ^ (k - 1) ≤ y → zc_dg (sb_v ls) (9 * (n - 1) + k) := by
  obtain ⟨x_, x1_, x2_⟩ := hn.2.2 h0
  have hb_ := hd.at x1_
  obtain ⟨y_, rfl⟩ : ∃ y_ : Nat, x_ = (y_ : Int) := ⟨x_.toNat, by omega⟩
  refine ⟨y_, by rw [List.getD_eq_getElem?_getD, x1_]; rfl, by omega, by omega, fun k h1 h2 h3 => ?_⟩
  have e1_ := sb_take x1_
  rw [show n - 1 + 1 = n by omega, sb_take_all hn (Nat.le_refl _)] at e1_
  have ha_ : sb_a (ls.take (n - 1)) := fun z hz => hd.2 z (List.mem_of_mem_take hz)
  have h4_ := ha_.nn
  have h5_ := sb_lt ha_
  rw [List.length_take, Nat.min_eq_left (by have := hn.1; omega)] at h5_
  have e2_ : (1000000000 : Int) ^ (n - 1) = 10 ^ (9 * (n - 1)) := by
    rw [Int.pow_mul]; rfl
  rw [e2_] at e1_ h5_
  have e3_ : (10 : Int) ^ (9 * (n - 1) + k) = 10 ^ (9 * (n - 1)) * 10 ^ k := Int.pow_add _ _ _
  have e4_ : (10 : Int) ^ (9 * (n - 1) + (k - 1)) = 10 ^ (9 * (n - 1)) * 10 ^ (k - 1) := Int.pow_add _ _ _
  have p0_ : (0 : Int) ≤ 10 ^ (9 * (n - 1)) := Int.pow_nonneg (by decide)
  have f1_ : ((y_ : Int) + 1) * 10 ^ (9 * (n - 1)) ≤ 10 ^ k * 10 ^ (9 * (n - 1)) := Int.mul_le_mul_of_nonneg_right (by
    have : ((y_ + 1 : Nat) : Int) ≤ ((10 ^ k : Nat) : Int) := Int.ofNat_le.mpr h1
    rw [Int.natCast_pow] at this
    exact this) p0_
  have f2_ : 10 ^ (k - 1) * 10 ^ (9 * (n - 1)) ≤ (y_ : Int) * 10 ^ (9 * (n - 1)) := Int.mul_le_mul_of_nonneg_right (by
    have : ((10 ^ (k - 1) : Nat) : Int) ≤ (y_ : Int) := Int.ofNat_le.mpr h3
    rw [Int.natCast_pow] at this
    exact this) p0_
  rw [Int.add_mul, Int.one_mul] at f1_
  refine ⟨by omega, ?_, Or.inr ?_⟩
  · rw [e3_, e1_, Int.mul_comm _ (10 ^ k)]
    omega
  · rw [show 9 * (n - 1) + k - 1 = 9 * (n - 1) + (k - 1) by omega, e4_, e1_, Int.mul_comm _ (10 ^ (k - 1))]
    omega
set_option maxHeartbeats 4000000 in
theorem sb_dig_M {l : Launch} {G : am_G} {X : ck_XT} (g : gM l G X) {q p t tp n : Nat} {ls : List Int} {sg : Int} {h : List am_C} (hq : 1000 ≤ q) (hp : 1000 ≤ p) (hpq : p ≠ q) (hg : am_g G h q = some (sb_c t p (n : Int) sg)) (ht : t % 100 = 7) (hgp : am_g G h p = some (tp, hd_r ls)) (htp : tp % 100 = 50) (hd : sb_d ls) (hn : hd_pl ls n) {mc ms : Nat} {Post : am_O → List am_C → Prop}
    (hP : ∀ d : Nat, zc_dg (sb_v ls) d → Post (.inl (some (.int (Int32.ofInt (d : Int))))) h) :
    am_M l G yX0_digitCount (.code yX0_digitCount prog_2_method_16_code 4 (some .int)) 2 41 mc ms [.ref q] h Post := by
  refine gh_yX0_digitCount_X g (Nat.le_of_ble_eq_true rfl) fun S SX hs hr hw hx => ?_
  have rv : ∀ x : Int32, ck_fv 0 (.int x) := fun x => ⟨_, rfl⟩
  have hn10_ : n ≤ 10 := by have := hn.1; have := hd.1; omega
  by_cases h0_ : n = 0
  · have e0_ := (sb_n0 hd hn).mp h0_
    subst h0_
    refine hs 0 _ rfl _ _ _ _ _ _ _ rfl ?_
    refine hs 1 _ rfl _ _ _ _ _ _ _ _ _ (hg) ht rfl ?_
    refine hs 2 _ rfl _ _ _ _ _ _ (fun zq => absurd (hd_c1z (c := 1) (by omega) (by omega) zq) (by omega : ¬ (((0 : Nat) : Int) ≠ 0))) (fun _ => ?_)
    refine hs 3 _ rfl _ _ _ _ _ _ _ rfl ?_
    exact hs 4 _ rfl _ _ _ _ _ (rv _) (Nat.zero_le _) (Nat.zero_le _) (hP 1 ⟨by decide, by rw [e0_]; decide, Or.inl rfl⟩)
  · obtain ⟨y_, ey_, y1_, y2_, hk_⟩ := zc_top hd hn (by omega)
    have loop_ : ∀ (m_ i_ : Nat) (c_ : Int), i_ + m_ = 9 → c_ = ((9 * (n - 1) + i_ : Nat) : Int) → (i_ = 0 ∨ 10 ^ (i_ - 1) ≤ y_) → S 32 [some (.ref q), some (.int (Int32.ofInt c_)), some (.int (Int32.ofInt ((y_ / 10 ^ i_ : Nat) : Int))), some (.int (Int32.ofInt (i_ : Int)))] [] h 0 0 := by
      intro m_
      induction m_ with
      | zero =>
        intro i_ c_ him_ hc_ hy_
        obtain rfl : i_ = 9 := by omega
        have hlt_ : y_ < 10 ^ 9 := by omega
        have hfin_ : Post (.inl (some (.int (Int32.ofInt c_)))) h := by rw [hc_]; exact hP _ (hk_ _ hlt_ (by decide) (by omega))
        refine hs 21 _ rfl _ _ _ _ _ _ _ rfl ?_
        refine hs 22 _ rfl _ _ _ _ _ _ _ rfl ?_
        refine hs 23 _ rfl _ _ _ _ _ _ _ (fun _ => ?_) (fun zq => absurd (hd_c2t (c := 3) (by omega) (by omega) (by omega) (by omega) (by omega : 0 ≤ (((9 : Nat) : Int) - (9 : Int)))) zq)
        refine hs 33 _ rfl _ _ _ _ _ _ _ rfl ?_
        exact hs 34 _ rfl _ _ _ _ _ (rv _) (Nat.zero_le _) (Nat.zero_le _) hfin_
      | succ m_ ih_ =>
        intro i_ c_ him_ hc_ hy_
        have hpow_ : 0 < 10 ^ i_ := Nat.pow_pos (by decide)
        have hle_ : y_ / 10 ^ i_ ≤ y_ := Nat.div_le_self _ _
        by_cases hz_ : y_ / 10 ^ i_ = 0
        · have hlt_ : y_ < 10 ^ i_ := by
            rcases (Nat.div_eq_zero_iff).mp hz_ with z_ | z_
            · omega
            · exact z_
          have hi0_ : 0 < i_ := by
            apply Nat.pos_of_ne_zero
            intro z_
            subst z_
            omega
          have hfin_ : Post (.inl (some (.int (Int32.ofInt c_)))) h := by rw [hc_]; exact hP _ (hk_ _ hlt_ hi0_ (hy_.resolve_left (by omega)))
          refine hs 21 _ rfl _ _ _ _ _ _ _ rfl ?_
          refine hs 22 _ rfl _ _ _ _ _ _ _ rfl ?_
          refine hs 23 _ rfl _ _ _ _ _ _ _ (fun zq => absurd (hd_c2z (c := 3) (by omega) (by omega) (by omega) (by omega) zq) (by omega : ¬ (0 ≤ ((i_ : Int) - (9 : Int))))) (fun _ => ?_)
          refine hs 24 _ rfl _ _ _ _ _ _ _ rfl ?_
          refine hs 25 _ rfl _ _ _ _ _ _ (fun _ => ?_) (fun zq => absurd (hd_c1t (c := 5) (by omega) (by omega) (by omega : ((y_ / 10 ^ i_ : Nat) : Int) ≤ 0)) zq)
          refine hs 33 _ rfl _ _ _ _ _ _ _ rfl ?_
          exact hs 34 _ rfl _ _ _ _ _ (rv _) (Nat.zero_le _) (Nat.zero_le _) hfin_
        · have hge_ : 10 ^ i_ ≤ y_ := Nat.not_lt.mp fun z_ => hz_ (Nat.div_eq_of_lt z_)
          have ih2_ := ih_ (i_ + 1) (c_ + (1 : Int)) (by omega) (by rw [hc_]; omega) (Or.inr (by rw [Nat.add_sub_cancel]; exact hge_))
          rw [Nat.pow_succ, ← Nat.div_div_eq_div_mul] at ih2_
          clear hge_ hy_ hpow_
          generalize y_ / 10 ^ i_ = d_ at *
          refine hs 21 _ rfl _ _ _ _ _ _ _ rfl ?_
          refine hs 22 _ rfl _ _ _ _ _ _ _ rfl ?_
          refine hs 23 _ rfl _ _ _ _ _ _ _ (fun zq => absurd (hd_c2z (c := 3) (by omega) (by omega) (by omega) (by omega) zq) (by omega : ¬ (0 ≤ ((i_ : Int) - (9 : Int))))) (fun _ => ?_)
          refine hs 24 _ rfl _ _ _ _ _ _ _ rfl ?_
          refine hs 25 _ rfl _ _ _ _ _ _ (fun zq => absurd (hd_c1z (c := 5) (by omega) (by omega) zq) (by omega : ¬ ((d_ : Int) ≤ 0))) (fun _ => ?_)
          refine hs 26 _ rfl _ _ _ _ _ _ _ rfl ?_
          refine hs 27 _ rfl _ _ _ _ _ _ _ rfl ?_
          refine hs 28 _ rfl _ _ _ _ _ _ _ (hd_div (by omega) (by omega) (by omega) (by omega)) ?_
          refine hs 29 _ rfl _ _ _ _ _ _ _ rfl ?_
          refine hs 30 _ rfl _ _ _ _ _ _ _ (hd_inc rfl) ?_
          refine hs 31 _ rfl _ _ _ _ _ _ _ (hd_inc rfl) ?_
          refine hs 32 _ rfl _ _ _ _ _ ?_
          rw [show ((i_ : Int) + (1 : Int)) = ((i_ + 1 : Nat) : Int) by omega]
          exact ih2_
    refine hs 0 _ rfl _ _ _ _ _ _ _ rfl ?_
    refine hs 1 _ rfl _ _ _ _ _ _ _ _ _ (hg) ht rfl ?_
    refine hs 2 _ rfl _ _ _ _ _ _ (fun _ => ?_) (fun zq => absurd (hd_c1t (c := 1) (by omega) (by omega) (by omega : (n : Int) ≠ 0)) zq)
    refine hs 5 _ rfl _ _ _ _ _ _ _ rfl ?_
    refine hs 6 _ rfl _ _ _ _ _ _ _ _ _ (hg) ht rfl ?_
    refine hs 7 _ rfl _ _ _ _ _ _ _ rfl ?_
    refine hs 8 _ rfl _ _ _ _ _ _ _ hd_sub ?_
    refine hs 9 _ rfl _ _ _ _ _ _ _ rfl ?_
    refine hs 10 _ rfl _ _ _ _ _ _ _ hd_mul ?_
    refine hs 11 _ rfl _ _ _ _ _ _ _ rfl ?_
    refine hs 12 _ rfl _ _ _ _ _ _ _ rfl ?_
    refine hs 13 _ rfl _ _ _ _ _ _ _ rfl ?_
    refine hs 14 _ rfl _ _ _ _ _ _ _ _ _ (hg) ht rfl ?_
    refine hs 15 _ rfl _ _ _ _ _ _ _ rfl ?_
    refine hs 16 _ rfl _ _ _ _ _ _ _ hd_sub ?_
    refine zw_c (hs 17 _ rfl) (a := [.ref q, .int (Int32.ofInt ((n : Int) - (1 : Int)))]) (st := []) rfl rfl (Nat.le_of_ble_eq_true rfl) ⟨_, _, _, rfl, (hg), ht⟩ (Nat.zero_le _) (Nat.zero_le _) (sb_limbE_M g (j := n - 1) (hg) ht (hgp) htp hd (by omega) (by omega) ey_ ?_)
    show S 29 [some (.ref q), some (.int (Int32.ofInt (((n : Int) - (1 : Int)) * (9 : Int)))), none, none] [.int (Int32.ofInt (y_ : Int))] _ _ _
    refine hs 18 _ rfl _ _ _ _ _ _ _ rfl ?_
    refine hs 19 _ rfl _ _ _ _ _ _ _ rfl ?_
    refine hs 20 _ rfl _ _ _ _ _ _ _ rfl ?_
    rw [show (y_ : Int) = ((y_ / 10 ^ 0 : Nat) : Int) by rw [Nat.pow_zero, Nat.div_one]]
    exact loop_ 9 0 _ (by omega) (by omega) (Or.inl rfl)
end
section
/-! THE CLASS'S STATE -/
/-- dial, numbers, rows (rest, its dial), bases -/
abbrev sp_S : Type := Int × List Int × List (Int × Int) × List Int
def sp_ok (s : sp_S) : Prop := (-9 ≤ s.1 ∧ s.1 ≤ 400) ∧ (s.2.1.length = 6 ∧ ∀ z ∈ s.2.1, -1000000000000000000000000000000000000 < z ∧ z < 1000000000000000000000000000000000000) ∧ (s.2.2.1.length ≤ 6 ∧ ∀ p ∈ s.2.2.1, 1 ≤ p.2 ∧ p.2 ≤ 999 ∧ 0 ≤ p.1 ∧ p.1 < p.2) ∧ (s.2.2.2.length ≤ 5 ∧ ∀ b ∈ s.2.2.2, 2 ≤ b ∧ b ≤ 999)
/-- a row of references -/
def zc_rl (n : Nat) (f : Nat → Nat) : List Value := (List.range n).map fun i => .ref (f i)
theorem zc_rl_get {n i : Nat} {f : Nat → Nat} (h : i < n) : (zc_rl n f)[i]? = some (.ref (f i)) := by
  unfold zc_rl
  rw [List.getElem?_map, List.getElem?_range h]
  rfl
theorem zc_rl_len {n : Nat} {f : Nat → Nat} : (zc_rl n f).length = n := by unfold zc_rl; simp
/-- a NUMBER of a state, its limbs behind it -/
def zc_n (G : am_G) (h : List am_C) (q : Nat) (z : Int) : Prop := ∃ (n : Nat) (sg : Int) (ls : List Int), am_g G h q = some (sb_c 1407 (q + 1) (n : Int) sg) ∧ am_g G h (q + 1) = some (1450, hd_r ls) ∧ sb_is n sg ls z
theorem zc_n.keep {G : am_G} {h h' : List am_C} {q : Nat} {z : Int} (a : zc_n G h q z) (h1 : am_g G h' q = am_g G h q) (h2 : am_g G h' (q + 1) = am_g G h (q + 1)) : zc_n G h' q z := by
  obtain ⟨n_, sg_, ls_, a1_, a2_, a3_⟩ := a
  exact ⟨n_, sg_, ls_, h1.trans a1_, h2.trans a2_, a3_⟩
theorem zc_n.fr {G : am_G} {h h' : List am_C} {q lo n : Nat} {z : Int} (a : zc_n G h q z) (f : zw_f G h h' lo n) (hd : q + 2 ≤ lo ∨ lo + n ≤ q) : zc_n G h' q z := a.keep (f.2 _ (by omega)) (f.2 _ (by omega))
def zc_sc (s : Nat) (d rc bc : Int) : am_C := (1014, [.int (Int32.ofInt d), .ref (s + 1), .int (Int32.ofInt rc), .ref (s + 2), .ref (s + 3), .int (Int32.ofInt bc), .ref (s + 4)])
/-- the rows behind a state's rests, sizes, bases -/
def zc_r (c : sp_S) (rs zs bs : List Int) : Prop := (rs.length = 6 ∧ zs.length = 6 ∧ bs.length = 5) ∧ ((∀ x ∈ zs, 0 ≤ x ∧ x ≤ 999) ∧ ∀ x ∈ bs, 0 ≤ x ∧ x ≤ 999) ∧ (∀ (i : Nat) (p : Int × Int), c.2.2.1[i]? = some p → rs[i]? = some p.1 ∧ zs[i]? = some p.2) ∧ ∀ (i : Nat) (b : Int), c.2.2.2[i]? = some b → bs[i]? = some b
/-- the state at s, in seventeen cells -/
def zc_s (G : am_G) (h : List am_C) (s : Nat) (c : sp_S) : Prop := ∃ (rs zs bs : List Int),
  am_g G h s = some (zc_sc s c.1 (c.2.2.1.length : Int) (c.2.2.2.length : Int)) ∧ am_g G h (s + 1) = some (1053, zc_rl 6 fun i => s + 5 + 2 * i) ∧
  am_g G h (s + 2) = some (1150, hd_r rs) ∧ am_g G h (s + 3) = some (1250, hd_r zs) ∧ am_g G h (s + 4) = some (1350, hd_r bs) ∧ zc_r c rs zs bs ∧
  ∀ i, i < 6 → zc_n G h (s + 5 + 2 * i) (c.2.1.getD i 0)
theorem zc_s.fr {G : am_G} {h h' : List am_C} {s lo n : Nat} {c : sp_S} (a : zc_s G h s c) (f : zw_f G h h' lo n) (hd : s + 17 ≤ lo ∨ lo + n ≤ s) : zc_s G h' s c := by
  obtain ⟨rs_, zs_, bs_, a1_, a2_, a3_, a4_, a5_, a6_, a7_⟩ := a
  exact ⟨rs_, zs_, bs_, (f.2 _ (by omega)).trans a1_, (f.2 _ (by omega)).trans a2_, (f.2 _ (by omega)).trans a3_, (f.2 _ (by omega)).trans a4_, (f.2 _ (by omega)).trans a5_, a6_, fun i hi => (a7_ i hi).fr f (by omega)⟩
/-- the states ahead of the last changes, in a ring -/
def zc_p (G : am_G) (h : List am_C) (p : Nat) (R : Nat → sp_S) (old cnt : Nat) : Prop := am_g G h p = some (1012, [.ref (p + 1), .int (Int32.ofInt (old : Int)), .int (Int32.ofInt (cnt : Int))]) ∧ am_g G h (p + 1) = some (1054, zc_rl 12 fun i => p + 2 + 17 * i) ∧
  (∀ j, j < 12 → zc_s G h (p + 2 + 17 * j) (R j) ∧ sp_ok (R j)) ∧ old ≤ 11 ∧ cnt ≤ 12
theorem zc_p.fr {G : am_G} {h h' : List am_C} {p lo n : Nat} {R : Nat → sp_S} {old cnt : Nat} (a : zc_p G h p R old cnt) (f : zw_f G h h' lo n) (hd : p + 206 ≤ lo ∨ lo + n ≤ p) : zc_p G h' p R old cnt := by
  obtain ⟨a1_, a2_, a3_, a4_, a5_⟩ := a
  exact ⟨(f.2 _ (by omega)).trans a1_, (f.2 _ (by omega)).trans a2_, fun j hj => ⟨(a3_ j hj).1.fr f (by omega), (a3_ j hj).2⟩, a4_, a5_⟩
/-- a number to work with -/
def zc_w (G : am_G) (h : List am_C) (q : Nat) : Prop := ∃ (n : Nat) (sg : Int) (ls : List Int), am_g G h q = some (sb_c 1007 (q + 1) (n : Int) sg) ∧ am_g G h (q + 1) = some (1050, hd_r ls) ∧ sb_d ls ∧ n ≤ 10
theorem zc_w.fr {G : am_G} {h h' : List am_C} {q lo n : Nat} (a : zc_w G h q) (f : zw_f G h h' lo n) (hd : q + 2 ≤ lo ∨ lo + n ≤ q) : zc_w G h' q := by
  obtain ⟨n_, sg_, ls_, a1_, a2_, a3_⟩ := a
  exact ⟨n_, sg_, ls_, (f.2 _ (by omega)).trans a1_, (f.2 _ (by omega)).trans a2_, a3_⟩
theorem zc_nb {n : Nat} {sg : Int} {ls : List Int} {z : Int} (h : sb_is n sg ls z) : n ≤ 10 := by have := h.2.1.1; have := h.1.1; omega
end
