/-! NUMBERS OF MANY LIMBS: copies, longs, products, digits -/
set_option maxHeartbeats 4000000 in
theorem sb_become_M {l : Launch} {G : am_G} {X : ck_XT} (g : gM l G X) {q p t tp : Nat} {ls : List Int} {len sg : Int} {h : List am_C} (hq : 1000 ≤ q) (hp : 1000 ≤ p) (hpq : p ≠ q) (hg : am_g G h q = some (sb_c t p len sg)) (ht : t % 100 = 7) (hgp : am_g G h p = some (tp, hd_r ls)) (htp : tp % 100 = 50) (hl : ls.length = 10) {qa pa ta tpa : Nat} {A : List Int} {na sga : Int} (hga : am_g G h qa = some (sb_c ta pa na sga)) (hta : ta % 100 = 7) (hgpa : am_g G h pa = some (tpa, hd_r A)) (htpa : tpa % 100 = 50) (hA : A.length = 10) (hqa : qa ≠ q) (hqa2 : qa ≠ p) {mc ms : Nat} {Post : am_O → List am_C → Prop}
    (hP : ∀ h', sb_w G h h' q (sb_c t p na sga) p (tp, hd_r A) → Post (.inl none) h') :
    am_M l G yX0_become (.code yX0_become prog_2_method_7_code 2 none) 2 59 mc ms [.ref q, .ref qa] h Post := by
  refine gh_yX0_become_X g (Nat.le_of_ble_eq_true rfl) fun S SX hs hr hw hx => ?_
  have rv : ∀ x : Int32, ck_fv 0 (.int x) := fun x => ⟨_, rfl⟩
  refine hs 0 _ rfl _ _ _ _ _ _ _ rfl ?_
  refine hs 1 _ rfl _ _ _ _ _ _ _ _ _ (hga) hta rfl ?_
  refine hs 2 _ rfl _ _ _ _ _ _ _ rfl ?_
  refine hs 3 _ rfl _ _ _ _ _ _ _ rfl ?_
  refine hs 4 _ rfl _ _ _ _ _ _ _ _ _ (hg) ht rfl ?_
  refine hs 5 _ rfl _ _ _ _ _ _ _ rfl ?_
  refine hs 6 _ rfl _ _ _ _ _ _ _ rfl ?_
  refine zw_c (hs 7 _ rfl) (a := [.ref pa, .int (Int32.ofInt (0 : Int)), .ref p, .int (Int32.ofInt (0 : Int)), .int (Int32.ofInt (10 : Int))]) (st := []) rfl rfl (Nat.le_of_ble_eq_true rfl) trivial (Nat.zero_le _) (Nat.zero_le _) (zw_acM (n := 10) (by omega) (hgpa) (hgp) htpa htp hA hl (by decide) fun hz1 wz2 => ?_)
  show S 15 [some (.ref q), some (.ref qa)] [] _ _ _
  refine hs 8 _ rfl _ _ _ _ _ _ _ rfl ?_
  refine hs 9 _ rfl _ _ _ _ _ _ _ rfl ?_
  refine hs 10 _ rfl _ _ _ _ _ _ _ _ _ ((wz2.ne (by omega)).trans hga) hta rfl ?_
  refine zw_U (hs 11 _ rfl) (by omega) ((wz2.ne (by omega)).trans hg) ht ⟨_, rfl⟩ fun hz3 wz4 => ?_
  have wz4 : hd_w G hz1 hz3 q (t, [.ref p, .int (Int32.ofInt na), .int (Int32.ofInt sg)]) := wz4
  refine hs 12 _ rfl _ _ _ _ _ _ _ rfl ?_
  refine hs 13 _ rfl _ _ _ _ _ _ _ rfl ?_
  refine hs 14 _ rfl _ _ _ _ _ _ _ _ _ ((wz4.ne (by omega)).trans ((wz2.ne (by omega)).trans hga)) hta rfl ?_
  refine zw_U (hs 15 _ rfl) (by omega) (wz4.at) ht ⟨_, rfl⟩ fun hz5 wz6 => ?_
  have wz6 : hd_w G hz3 hz5 q (t, [.ref p, .int (Int32.ofInt na), .int (Int32.ofInt sga)]) := wz6
  exact hs 16 _ rfl _ _ _ _ (Nat.zero_le _) (Nat.zero_le _) (hP _ (sb_w.of wz2 (wz4.tr wz6)))
set_option maxHeartbeats 4000000 in
theorem sb_put_M {l : Launch} {G : am_G} {X : ck_XT} (g : gM l G X) {q p t tp : Nat} {ls : List Int} {len sg : Int} {h : List am_C} (hq : 1000 ≤ q) (hp : 1000 ≤ p) (hpq : p ≠ q) (hg : am_g G h q = some (sb_c t p len sg)) (ht : t % 100 = 7) (hgp : am_g G h p = some (tp, hd_r ls)) (htp : tp % 100 = 50) (hl : ls.length = 10) {j : Nat} {e v : Int} (he : e = (j : Int)) (hj : j < 10) {mc ms : Nat} {Post : am_O → List am_C → Prop}
    (hP : ∀ h', hd_w G h h' p (tp, hd_r (ls.set j v)) → Post (.inl none) h') :
    am_M l G yX0_put (.code yX0_put prog_2_method_3_code 3 none) 1 20 mc ms [.ref q, .int (Int32.ofInt e), .int (Int32.ofInt v)] h Post := by
  refine gh_yX0_put_X g (Nat.le_of_ble_eq_true rfl) fun S SX hs hr hw hx => ?_
  have rv : ∀ x : Int32, ck_fv 0 (.int x) := fun x => ⟨_, rfl⟩
  refine hs 0 _ rfl _ _ _ _ _ _ _ rfl ?_
  refine hs 1 _ rfl _ _ _ _ _ _ (fun zq => absurd (hd_c1z (c := 2) (by omega) (by omega) zq) (by omega : ¬ (e < 0))) (fun _ => ?_)
  refine hs 2 _ rfl _ _ _ _ _ _ _ rfl ?_
  refine hs 3 _ rfl _ _ _ _ _ _ _ rfl ?_
  refine hs 4 _ rfl _ _ _ _ _ _ _ (fun zq => absurd (hd_c2z (c := 3) (by omega) (by omega) (by omega) (by omega) zq) (by omega : ¬ (0 ≤ (e - (10 : Int))))) (fun _ => ?_)
  refine hs 5 _ rfl _ _ _ _ _ _ _ rfl ?_
  refine hs 6 _ rfl _ _ _ _ _ _ _ _ _ (hg) ht rfl ?_
  refine hs 7 _ rfl _ _ _ _ _ _ _ rfl ?_
  refine hs 8 _ rfl _ _ _ _ _ _ _ rfl ?_
  refine zw_B (hs 9 _ rfl) (by decide) (by decide) (by omega) (hgp) htp (j := j) (by omega) (by omega) (by omega) fun hz7 wz8 => ?_
  exact hs 10 _ rfl _ _ _ _ (Nat.zero_le _) (Nat.zero_le _) (hP _ wz8)
theorem sb_limbE_M {l : Launch} {G : am_G} {X : ck_XT} (g : gM l G X) {q p t tp j : Nat} {ls : List Int} {len sg e x : Int} {h : List am_C} (hg : am_g G h q = some (sb_c t p len sg)) (ht : t % 100 = 7) (hgp : am_g G h p = some (tp, hd_r ls)) (htp : tp % 100 = 50) (hd : sb_d ls) (he : e = (j : Int)) (hj : j ≤ 2147483647) (hv : ls.getD j 0 = x) {mc ms : Nat} {Post : am_O → List am_C → Prop} (hP : Post (.inl (some (.int (Int32.ofInt x)))) h) :
    am_M l G yX0_limb (.code yX0_limb prog_2_method_2_code 2 (some .int)) 1 20 mc ms [.ref q, .int (Int32.ofInt e)] h Post := by
  subst he
  subst hv
  exact sb_limb_M g hg ht hgp htp hd hj hP
theorem sb_vset {ls : List Int} : ∀ {k : Nat} {x y : Int}, ls[k]? = some y → sb_v (ls.set k x) = sb_v ls + (x - y) * 1000000000 ^ k := by
  induction ls with
  | nil => intro k x y e_; cases e_
  | cons a u ih =>
    intro k x y e_
    match k, e_ with
    | 0, e_ =>
      cases e_
      show x + 1000000000 * sb_v u = a + 1000000000 * sb_v u + (x - a) * 1
      omega
    | k + 1, e_ =>
      show a + 1000000000 * sb_v (u.set k x) = a + 1000000000 * sb_v u + (x - y) * 1000000000 ^ (k + 1)
      rw [ih e_, Int.pow_succ, ← Int.mul_assoc]
      generalize (x - y) * 1000000000 ^ k = w_
      omega
def sb_l3 (a : Int) : List Int := [a % 1000000000, a / 1000000000 % 1000000000, a / 1000000000 / 1000000000 % 1000000000, 0, 0, 0, 0, 0, 0, 0]
theorem sb_l3_d (a : Int) : sb_d (sb_l3 a) := by
  refine ⟨rfl, fun x hx => ?_⟩
  unfold sb_l3 at hx
  simp only [List.mem_cons, List.not_mem_nil, or_false] at hx
  omega
theorem sb_l3_v {a : Int} (h1 : 0 ≤ a) (h2 : a < 1000000000000000000000000000) : sb_v (sb_l3 a) = a := by
  show a % 1000000000 + 1000000000 * (a / 1000000000 % 1000000000 + 1000000000 * (a / 1000000000 / 1000000000 % 1000000000 + 1000000000 * (0 + 1000000000 * (0 + 1000000000 * (0 + 1000000000 * (0 + 1000000000 * (0 + 1000000000 * (0 + 1000000000 * (0 + 1000000000 * 0))))))))) = a
  omega
theorem sb_l3_is {a s : Int} (h1 : 0 ≤ a) (h2 : a < 1000000000000000000000000000) (hs : s = -1 ∨ s = 1) {n : Nat} (hn : hd_pl (sb_l3 a) n) : sb_is n (if n = 0 then 0 else s) (sb_l3 a) (s * a) := by
  have e1_ := sb_l3_d a
  have e2_ := sb_l3_v h1 h2
  have e3_ := sb_n0 e1_ hn
  refine ⟨e1_, hn, ?_, ?_, ?_⟩
  · by_cases c_ : n = 0
    · rw [if_pos c_, ← e2_, e3_.mp c_]; simp
    · rw [if_neg c_, e2_]
  · by_cases c_ : n = 0
    · rw [if_pos c_]; omega
    · rw [if_neg c_]; omega
  · by_cases c_ : n = 0
    · rw [if_pos c_]; exact ⟨fun _ => e3_.mp c_, fun _ => rfl⟩
    · rw [if_neg c_]
      have : ¬ sb_v (sb_l3 a) = 0 := fun y_ => c_ (e3_.mpr y_)
      constructor
      · intro y_; omega
      · intro y_; exact absurd y_ this
set_option maxHeartbeats 4000000 in
theorem sb_blong_M {l : Launch} {G : am_G} {X : ck_XT} (g : gM l G X) {q p t tp : Nat} {ls : List Int} {len sg : Int} {h : List am_C} (hq : 1000 ≤ q) (hp : 1000 ≤ p) (hpq : p ≠ q) (hg : am_g G h q = some (sb_c t p len sg)) (ht : t % 100 = 7) (hgp : am_g G h p = some (tp, hd_r ls)) (htp : tp % 100 = 50) (hl : ls.length = 10) {z : Int} (hz1 : -9000000000000000000 ≤ z) (hz2 : z ≤ 9000000000000000000) {mc ms : Nat} {Post : am_O → List am_C → Prop}
    (hP : ∀ (h' : List am_C) (n : Nat) (s : Int) (ls' : List Int), sb_w G h h' q (sb_c t p (n : Int) s) p (tp, hd_r ls') → sb_is n s ls' z → Post (.inl none) h') :
    am_M l G yX0_becomeLong (.code yX0_becomeLong prog_2_method_8_code 6 none) 2 42 mc ms [.ref q, .long (Int64.ofInt z)] h Post := by
  refine gh_yX0_becomeLong_X g (Nat.le_of_ble_eq_true rfl) fun S SX hs hr hw hx => ?_
  have rv : ∀ x : Int32, ck_fv 0 (.int x) := fun x => ⟨_, rfl⟩
  by_cases hs_ : z < 0
  · have ec_ : (if (0 : Int) < z then 1 else if z < (0 : Int) then -1 else 0 : Int) = -1 := by rw [if_neg (by omega), if_pos hs_]
    refine hs 0 _ rfl _ _ _ _ _ _ _ rfl ?_
    refine zw_c (hs 1 _ rfl) (a := [.ref q]) (st := []) rfl rfl (Nat.le_of_ble_eq_true rfl) ⟨_, _, _, rfl, (hg), ht⟩ (Nat.zero_le _) (Nat.zero_le _) (sb_clear_M g (by omega) (by omega) (by omega) (hg) ht (hgp) htp hl fun hz9 wz10 => ?_)
    show S 4 [some (.ref q), some (.long (Int64.ofInt z)), none, none, none, none] [] _ _ _
    refine hs 2 _ rfl _ _ _ _ _ _ _ rfl ?_
    refine hs 3 _ rfl _ _ _ _ _ _ _ rfl ?_
    refine hs 4 _ rfl _ _ _ _ _ _ _ (zw_lcmpE (by omega) (by omega) (by omega) (by omega) ec_) ?_
    refine hs 5 _ rfl _ _ _ _ _ _ (fun zq => absurd (hd_c1z (c := 3) (by omega) (by omega) zq) (by omega : ¬ (0 ≤ (-1 : Int)))) (fun _ => ?_)
    refine hs 6 _ rfl _ _ _ _ _ _ _ rfl ?_
    refine hs 7 _ rfl _ _ _ _ _ _ _ zw_lneg ?_
    refine hs 8 _ rfl _ _ _ _ _ ?_
    refine hs 10 _ rfl _ _ _ _ _ _ _ rfl ?_
    refine hs 11 _ rfl _ _ _ _ _ _ _ rfl ?_
    refine hs 12 _ rfl _ _ _ _ _ _ _ rfl ?_
    refine hs 13 _ rfl _ _ _ _ _ _ _ rfl ?_
    refine hs 14 _ rfl _ _ _ _ _ _ _ rfl ?_
    refine hs 15 _ rfl _ _ _ _ _ _ _ (fun zq => absurd (hd_c2z (c := 3) (by omega) (by omega) (by omega) (by omega) zq) (by omega : ¬ (0 ≤ ((0 : Int) - (3 : Int))))) (fun _ => ?_)
    refine hs 16 _ rfl _ _ _ _ _ _ _ rfl ?_
    refine hs 17 _ rfl _ _ _ _ _ _ _ _ _ (wz10.q) ht rfl ?_
    refine hs 18 _ rfl _ _ _ _ _ _ _ rfl ?_
    refine hs 19 _ rfl _ _ _ _ _ _ _ rfl ?_
    refine hs 20 _ rfl _ _ _ _ _ _ _ rfl ?_
    refine hs 21 _ rfl _ _ _ _ _ _ _ (hd_lrem (by omega) (by omega) (by omega) (by omega)) ?_
    refine hs 22 _ rfl _ _ _ _ _ _ _ (hd_l2i (by omega) (by omega)) ?_
    refine zw_B (hs 23 _ rfl) (by decide) (by decide) (by omega) ((wz10.p (by omega))) htp (j := 0) (by omega) (by omega) (by simp only [List.length_set, sb_0, List.length_replicate]; decide) fun hz11 wz12 => ?_
    refine hs 24 _ rfl _ _ _ _ _ _ _ rfl ?_
    refine hs 25 _ rfl _ _ _ _ _ _ _ rfl ?_
    refine hs 26 _ rfl _ _ _ _ _ _ _ (hd_ldiv (by omega) (by omega) (by omega) (by omega)) ?_
    refine hs 27 _ rfl _ _ _ _ _ _ _ rfl ?_
    refine hs 28 _ rfl _ _ _ _ _ _ _ (hd_inc rfl) ?_
    refine hs 29 _ rfl _ _ _ _ _ ?_
    refine hs 13 _ rfl _ _ _ _ _ _ _ rfl ?_
    refine hs 14 _ rfl _ _ _ _ _ _ _ rfl ?_
    refine hs 15 _ rfl _ _ _ _ _ _ _ (fun zq => absurd (hd_c2z (c := 3) (by omega) (by omega) (by omega) (by omega) zq) (by omega : ¬ (0 ≤ (((0 : Int) + (1 : Int)) - (3 : Int))))) (fun _ => ?_)
    refine hs 16 _ rfl _ _ _ _ _ _ _ rfl ?_
    refine hs 17 _ rfl _ _ _ _ _ _ _ _ _ ((wz12.ne (by omega)).trans wz10.q) ht rfl ?_
    refine hs 18 _ rfl _ _ _ _ _ _ _ rfl ?_
    refine hs 19 _ rfl _ _ _ _ _ _ _ rfl ?_
    refine hs 20 _ rfl _ _ _ _ _ _ _ rfl ?_
    refine hs 21 _ rfl _ _ _ _ _ _ _ (hd_lrem (by omega) (by omega) (by omega) (by omega)) ?_
    refine hs 22 _ rfl _ _ _ _ _ _ _ (hd_l2i (by omega) (by omega)) ?_
    refine zw_B (hs 23 _ rfl) (by decide) (by decide) (by omega) (wz12.at) htp (j := 1) (by omega) (by omega) (by simp only [List.length_set, sb_0, List.length_replicate]; decide) fun hz13 wz14 => ?_
    refine hs 24 _ rfl _ _ _ _ _ _ _ rfl ?_
    refine hs 25 _ rfl _ _ _ _ _ _ _ rfl ?_
    refine hs 26 _ rfl _ _ _ _ _ _ _ (hd_ldiv (by omega) (by omega) (by omega) (by omega)) ?_
    refine hs 27 _ rfl _ _ _ _ _ _ _ rfl ?_
    show S 45 [some (.ref q), some (.long (Int64.ofInt z)), none, some (.long (Int64.ofInt (((-z) / (1000000000 : Int)) / (1000000000 : Int)))), none, some (.int (Int32.ofInt ((0 : Int) + (1 : Int))))] [] _ _ _
    refine hs 28 _ rfl _ _ _ _ _ _ _ (hd_inc rfl) ?_
    refine hs 29 _ rfl _ _ _ _ _ ?_
    refine hs 13 _ rfl _ _ _ _ _ _ _ rfl ?_
    refine hs 14 _ rfl _ _ _ _ _ _ _ rfl ?_
    refine hs 15 _ rfl _ _ _ _ _ _ _ (fun zq => absurd (hd_c2z (c := 3) (by omega) (by omega) (by omega) (by omega) zq) (by omega : ¬ (0 ≤ ((((0 : Int) + (1 : Int)) + (1 : Int)) - (3 : Int))))) (fun _ => ?_)
    refine hs 16 _ rfl _ _ _ _ _ _ _ rfl ?_
    refine hs 17 _ rfl _ _ _ _ _ _ _ _ _ ((wz14.ne (by omega)).trans ((wz12.ne (by omega)).trans wz10.q)) ht rfl ?_
    refine hs 18 _ rfl _ _ _ _ _ _ _ rfl ?_
    refine hs 19 _ rfl _ _ _ _ _ _ _ rfl ?_
    refine hs 20 _ rfl _ _ _ _ _ _ _ rfl ?_
    refine hs 21 _ rfl _ _ _ _ _ _ _ (hd_lrem (by omega) (by omega) (by omega) (by omega)) ?_
    refine hs 22 _ rfl _ _ _ _ _ _ _ (hd_l2i (by omega) (by omega)) ?_
    refine zw_B (hs 23 _ rfl) (by decide) (by decide) (by omega) (wz14.at) htp (j := 2) (by omega) (by omega) (by simp only [List.length_set, sb_0, List.length_replicate]; decide) fun hz15 wz16 => ?_
    refine hs 24 _ rfl _ _ _ _ _ _ _ rfl ?_
    refine hs 25 _ rfl _ _ _ _ _ _ _ rfl ?_
    refine hs 26 _ rfl _ _ _ _ _ _ _ (hd_ldiv (by omega) (by omega) (by omega) (by omega)) ?_
    refine hs 27 _ rfl _ _ _ _ _ _ _ rfl ?_
    refine hs 28 _ rfl _ _ _ _ _ _ _ (hd_inc rfl) ?_
    refine hs 29 _ rfl _ _ _ _ _ ?_
    refine hs 13 _ rfl _ _ _ _ _ _ _ rfl ?_
    refine hs 14 _ rfl _ _ _ _ _ _ _ rfl ?_
    refine hs 15 _ rfl _ _ _ _ _ _ _ (fun _ => ?_) (fun zq => absurd (hd_c2t (c := 3) (by omega) (by omega) (by omega) (by omega) (by omega : 0 ≤ (((((0 : Int) + (1 : Int)) + (1 : Int)) + (1 : Int)) - (3 : Int)))) zq)
    have wq_ : sb_w G h hz15 q (sb_c t p 0 0) p (tp, hd_r (sb_l3 (-z))) := wz10.tp (by omega) (((wz12).tr (wz14)).tr (wz16))
    have hd_ := sb_l3_d (-z)
    obtain ⟨n_, hn_⟩ := sb_pl (sb_l3 (-z))
    refine hs 30 _ rfl _ _ _ _ _ _ _ rfl ?_
    refine hs 31 _ rfl _ _ _ _ _ _ _ rfl ?_
    refine hs 32 _ rfl _ _ _ _ _ _ _ rfl ?_
    refine hs 33 _ rfl _ _ _ _ _ _ _ (zw_lcmpE (by omega) (by omega) (by omega) (by omega) ec_) ?_
    refine hs 34 _ rfl _ _ _ _ _ _ (fun zq => absurd (hd_c1z (c := 3) (by omega) (by omega) zq) (by omega : ¬ (0 ≤ (-1 : Int)))) (fun _ => ?_)
    refine hs 35 _ rfl _ _ _ _ _ _ _ rfl ?_
    refine hs 36 _ rfl _ _ _ _ _ ?_
    refine zw_c (hs 38 _ rfl) (a := [.ref q, .int (Int32.ofInt (-1 : Int))]) (st := []) rfl rfl (Nat.le_of_ble_eq_true rfl) ⟨_, _, _, rfl, (wq_.q), ht⟩ (Nat.zero_le _) (Nat.zero_le _) (sb_settle_M g (by omega) (by omega) (wq_.q) ht ((wq_.p (by omega))) htp hd_ hn_ fun hz17 wz18 => ?_)
    show S 66 [some (.ref q), some (.long (Int64.ofInt z)), none, some (.long (Int64.ofInt ((((-z) / (1000000000 : Int)) / (1000000000 : Int)) / (1000000000 : Int)))), none, some (.int (Int32.ofInt ((((0 : Int) + (1 : Int)) + (1 : Int)) + (1 : Int))))] [] _ _ _
    have hq_ := sb_l3_is (a := (-z)) (s := -1) (by omega) (by omega) (by decide) hn_
    rw [show (-1 : Int) * (-z) = z by omega] at hq_
    exact hs 39 _ rfl _ _ _ _ (Nat.zero_le _) (Nat.zero_le _) (hP _ _ _ _ (wq_.tq wz18) hq_)
  · obtain ⟨c_, ec_, hc_⟩ : ∃ c_ : Int, (if (0 : Int) < z then 1 else if z < (0 : Int) then -1 else 0 : Int) = c_ ∧ 0 ≤ c_ ∧ c_ ≤ 1 := by
      by_cases y_ : 0 < z
      · exact ⟨1, by rw [if_pos y_], by decide⟩
      · exact ⟨0, by rw [if_neg y_, if_neg hs_], by decide⟩
    refine hs 0 _ rfl _ _ _ _ _ _ _ rfl ?_
    refine zw_c (hs 1 _ rfl) (a := [.ref q]) (st := []) rfl rfl (Nat.le_of_ble_eq_true rfl) ⟨_, _, _, rfl, (hg), ht⟩ (Nat.zero_le _) (Nat.zero_le _) (sb_clear_M g (by omega) (by omega) (by omega) (hg) ht (hgp) htp hl fun hz19 wz20 => ?_)
    show S 4 [some (.ref q), some (.long (Int64.ofInt z)), none, none, none, none] [] _ _ _
    refine hs 2 _ rfl _ _ _ _ _ _ _ rfl ?_
    refine hs 3 _ rfl _ _ _ _ _ _ _ rfl ?_
    refine hs 4 _ rfl _ _ _ _ _ _ _ (zw_lcmpE (by omega) (by omega) (by omega) (by omega) ec_) ?_
    refine hs 5 _ rfl _ _ _ _ _ _ (fun _ => ?_) (fun zq => absurd (hd_c1t (c := 3) (by omega) (by omega) (by omega : 0 ≤ c_)) zq)
    refine hs 9 _ rfl _ _ _ _ _ _ _ rfl ?_
    refine hs 10 _ rfl _ _ _ _ _ _ _ rfl ?_
    refine hs 11 _ rfl _ _ _ _ _ _ _ rfl ?_
    refine hs 12 _ rfl _ _ _ _ _ _ _ rfl ?_
    refine hs 13 _ rfl _ _ _ _ _ _ _ rfl ?_
    refine hs 14 _ rfl _ _ _ _ _ _ _ rfl ?_
    refine hs 15 _ rfl _ _ _ _ _ _ _ (fun zq => absurd (hd_c2z (c := 3) (by omega) (by omega) (by omega) (by omega) zq) (by omega : ¬ (0 ≤ ((0 : Int) - (3 : Int))))) (fun _ => ?_)
    refine hs 16 _ rfl _ _ _ _ _ _ _ rfl ?_
    refine hs 17 _ rfl _ _ _ _ _ _ _ _ _ (wz20.q) ht rfl ?_
    refine hs 18 _ rfl _ _ _ _ _ _ _ rfl ?_
    refine hs 19 _ rfl _ _ _ _ _ _ _ rfl ?_
    refine hs 20 _ rfl _ _ _ _ _ _ _ rfl ?_
    refine hs 21 _ rfl _ _ _ _ _ _ _ (hd_lrem (by omega) (by omega) (by omega) (by omega)) ?_
    refine hs 22 _ rfl _ _ _ _ _ _ _ (hd_l2i (by omega) (by omega)) ?_
    refine zw_B (hs 23 _ rfl) (by decide) (by decide) (by omega) ((wz20.p (by omega))) htp (j := 0) (by omega) (by omega) (by simp only [List.length_set, sb_0, List.length_replicate]; decide) fun hz21 wz22 => ?_
    refine hs 24 _ rfl _ _ _ _ _ _ _ rfl ?_
    refine hs 25 _ rfl _ _ _ _ _ _ _ rfl ?_
    refine hs 26 _ rfl _ _ _ _ _ _ _ (hd_ldiv (by omega) (by omega) (by omega) (by omega)) ?_
    refine hs 27 _ rfl _ _ _ _ _ _ _ rfl ?_
    refine hs 28 _ rfl _ _ _ _ _ _ _ (hd_inc rfl) ?_
    refine hs 29 _ rfl _ _ _ _ _ ?_
    refine hs 13 _ rfl _ _ _ _ _ _ _ rfl ?_
    refine hs 14 _ rfl _ _ _ _ _ _ _ rfl ?_
    refine hs 15 _ rfl _ _ _ _ _ _ _ (fun zq => absurd (hd_c2z (c := 3) (by omega) (by omega) (by omega) (by omega) zq) (by omega : ¬ (0 ≤ (((0 : Int) + (1 : Int)) - (3 : Int))))) (fun _ => ?_)
    refine hs 16 _ rfl _ _ _ _ _ _ _ rfl ?_
    refine hs 17 _ rfl _ _ _ _ _ _ _ _ _ ((wz22.ne (by omega)).trans wz20.q) ht rfl ?_
    refine hs 18 _ rfl _ _ _ _ _ _ _ rfl ?_
    refine hs 19 _ rfl _ _ _ _ _ _ _ rfl ?_
    refine hs 20 _ rfl _ _ _ _ _ _ _ rfl ?_
    refine hs 21 _ rfl _ _ _ _ _ _ _ (hd_lrem (by omega) (by omega) (by omega) (by omega)) ?_
    refine hs 22 _ rfl _ _ _ _ _ _ _ (hd_l2i (by omega) (by omega)) ?_
    refine zw_B (hs 23 _ rfl) (by decide) (by decide) (by omega) (wz22.at) htp (j := 1) (by omega) (by omega) (by simp only [List.length_set, sb_0, List.length_replicate]; decide) fun hz23 wz24 => ?_
    refine hs 24 _ rfl _ _ _ _ _ _ _ rfl ?_
    refine hs 25 _ rfl _ _ _ _ _ _ _ rfl ?_
    refine hs 26 _ rfl _ _ _ _ _ _ _ (hd_ldiv (by omega) (by omega) (by omega) (by omega)) ?_
    refine hs 27 _ rfl _ _ _ _ _ _ _ rfl ?_
    show S 45 [some (.ref q), some (.long (Int64.ofInt z)), none, some (.long (Int64.ofInt ((z / (1000000000 : Int)) / (1000000000 : Int)))), none, some (.int (Int32.ofInt ((0 : Int) + (1 : Int))))] [] _ _ _
    refine hs 28 _ rfl _ _ _ _ _ _ _ (hd_inc rfl) ?_
    refine hs 29 _ rfl _ _ _ _ _ ?_
    refine hs 13 _ rfl _ _ _ _ _ _ _ rfl ?_
    refine hs 14 _ rfl _ _ _ _ _ _ _ rfl ?_
    refine hs 15 _ rfl _ _ _ _ _ _ _ (fun zq => absurd (hd_c2z (c := 3) (by omega) (by omega) (by omega) (by omega) zq) (by omega : ¬ (0 ≤ ((((0 : Int) + (1 : Int)) + (1 : Int)) - (3 : Int))))) (fun _ => ?_)
    refine hs 16 _ rfl _ _ _ _ _ _ _ rfl ?_
    refine hs 17 _ rfl _ _ _ _ _ _ _ _ _ ((wz24.ne (by omega)).trans ((wz22.ne (by omega)).trans wz20.q)) ht rfl ?_
    refine hs 18 _ rfl _ _ _ _ _ _ _ rfl ?_
    refine hs 19 _ rfl _ _ _ _ _ _ _ rfl ?_
    refine hs 20 _ rfl _ _ _ _ _ _ _ rfl ?_
    refine hs 21 _ rfl _ _ _ _ _ _ _ (hd_lrem (by omega) (by omega) (by omega) (by omega)) ?_
    refine hs 22 _ rfl _ _ _ _ _ _ _ (hd_l2i (by omega) (by omega)) ?_
    refine zw_B (hs 23 _ rfl) (by decide) (by decide) (by omega) (wz24.at) htp (j := 2) (by omega) (by omega) (by simp only [List.length_set, sb_0, List.length_replicate]; decide) fun hz25 wz26 => ?_
    refine hs 24 _ rfl _ _ _ _ _ _ _ rfl ?_
    refine hs 25 _ rfl _ _ _ _ _ _ _ rfl ?_
    refine hs 26 _ rfl _ _ _ _ _ _ _ (hd_ldiv (by omega) (by omega) (by omega) (by omega)) ?_
    refine hs 27 _ rfl _ _ _ _ _ _ _ rfl ?_
    refine hs 28 _ rfl _ _ _ _ _ _ _ (hd_inc rfl) ?_
    refine hs 29 _ rfl _ _ _ _ _ ?_
    refine hs 13 _ rfl _ _ _ _ _ _ _ rfl ?_
    refine hs 14 _ rfl _ _ _ _ _ _ _ rfl ?_
    refine hs 15 _ rfl _ _ _ _ _ _ _ (fun _ => ?_) (fun zq => absurd (hd_c2t (c := 3) (by omega) (by omega) (by omega) (by omega) (by omega : 0 ≤ (((((0 : Int) + (1 : Int)) + (1 : Int)) + (1 : Int)) - (3 : Int)))) zq)
    have wq_ : sb_w G h hz25 q (sb_c t p 0 0) p (tp, hd_r (sb_l3 z)) := wz20.tp (by omega) (((wz22).tr (wz24)).tr (wz26))
    have hd_ := sb_l3_d z
    obtain ⟨n_, hn_⟩ := sb_pl (sb_l3 z)
    refine hs 30 _ rfl _ _ _ _ _ _ _ rfl ?_
    refine hs 31 _ rfl _ _ _ _ _ _ _ rfl ?_
    refine hs 32 _ rfl _ _ _ _ _ _ _ rfl ?_
    refine hs 33 _ rfl _ _ _ _ _ _ _ (zw_lcmpE (by omega) (by omega) (by omega) (by omega) ec_) ?_
    refine hs 34 _ rfl _ _ _ _ _ _ (fun _ => ?_) (fun zq => absurd (hd_c1t (c := 3) (by omega) (by omega) (by omega : 0 ≤ c_)) zq)
    refine hs 37 _ rfl _ _ _ _ _ _ _ rfl ?_
    refine zw_c (hs 38 _ rfl) (a := [.ref q, .int (Int32.ofInt (1 : Int))]) (st := []) rfl rfl (Nat.le_of_ble_eq_true rfl) ⟨_, _, _, rfl, (wq_.q), ht⟩ (Nat.zero_le _) (Nat.zero_le _) (sb_settle_M g (by omega) (by omega) (wq_.q) ht ((wq_.p (by omega))) htp hd_ hn_ fun hz27 wz28 => ?_)
    show S 66 [some (.ref q), some (.long (Int64.ofInt z)), none, some (.long (Int64.ofInt (((z / (1000000000 : Int)) / (1000000000 : Int)) / (1000000000 : Int)))), none, some (.int (Int32.ofInt ((((0 : Int) + (1 : Int)) + (1 : Int)) + (1 : Int))))] [] _ _ _
    have hq_ := sb_l3_is (a := z) (s := 1) (by omega) (by omega) (by decide) hn_
    rw [Int.one_mul] at hq_
    exact hs 39 _ rfl _ _ _ _ (Nat.zero_le _) (Nat.zero_le _) (hP _ _ _ _ (wq_.tq wz28) hq_)
