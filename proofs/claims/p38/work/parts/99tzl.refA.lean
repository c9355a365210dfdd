/-! THE CALLS OF THE REFERENCE: numbers and dial -/
def zm_Y (G : am_G) (h : List am_C) (x : Nat) (th : Int) (T : sp_T) : Prop := zm_X G h x th T.2.2.1 T.2.2.2.1 T.2.2.2.2 T.1 T.2.1
theorem zm_big {ds : List Int} {b z : Int} {n : Nat} (hi : zn_is ds b z) (hn : 1 ≤ n) (h : (z.natAbs : Int) < 10 ^ n) : ds.length ≤ n := by
  have := (zm_dg hi).le hn h
  split at this <;> omega
theorem zm_mulb {a b : Int} (h1 : sp_in a) (h2 : sp_in b) : ((a * b).natAbs : Int) < 10 ^ 72 := by
  rw [sp_in.abs] at h1 h2
  rw [Int.natAbs_mul]
  have e_ : (10 : Int) ^ 36 = ((10 ^ 36 : Nat) : Int) := by rw [Int.natCast_pow]; rfl
  rw [e_] at h1 h2
  have := Nat.mul_lt_mul'' (Int.ofNat_lt.mp h1) (Int.ofNat_lt.mp h2)
  rw [← Nat.pow_add] at this
  have e2_ : (10 : Int) ^ 72 = ((10 ^ (36 + 36) : Nat) : Int) := by rw [Int.natCast_pow]; rfl
  rw [e2_]
  exact Int.ofNat_lt.mpr this
set_option maxHeartbeats 4000000 in
theorem zm_dial_M {l : Launch} {G : am_G} {X : ck_XT} (g : gM l G X) {o : Nat → Nat} {x tx now qw : Nat} {th j m k : Int} {c : sp_S} {P : List sp_S} {h : List am_C} (hX : zm_x G h o x tx now qw th j m k c P) (hok : sp_ok c) (hp12 : P.length ≤ 12) {e e2 : Int} (he1 : -2147483648 ≤ e) (he2 : e ≤ 2147483647) {mc ms : Nat} {Post : am_O → List am_C → Prop} (hmc : 14 ≤ mc) (hms : 69 ≤ ms)
    (hP : ∀ (a th : Int) (T' : sp_T) (h' : List am_C), sp_d0 e e2 (c, P, j, m, k) a th T' → zm_fr G h h' → zm_Y G h' x th T' → Post (.inl (some (.int (Int32.ofInt a)))) h') :
    am_M l G yX14_dial (.code yX14_dial prog_14_method_10_code 3 (some .int)) 11 294 mc ms [.ref x, .int (Int32.ofInt e)] h Post := by
  refine gh_yX14_dial_X g (Nat.le_of_ble_eq_true rfl) fun S SX hs hr hw hx => ?_
  have rv : ∀ x : Int32, ck_fv 0 (.int x) := fun x => ⟨_, rfl⟩
  obtain ⟨a1_, a2_, a3_, a4_⟩ := id hX
  by_cases c1_ : -9 ≤ e ∧ e ≤ 400
  rotate_left
  · 
    refine hs 0 _ rfl _ _ _ _ _ _ _ rfl ?_
    refine hs 1 _ rfl _ _ _ _ _ _ _ rfl ?_
    refine hs 2 _ rfl _ _ _ _ _ _ _ rfl ?_
    refine hs 3 _ rfl _ _ _ _ _ _ _ rfl ?_
    refine zw_c (hs 4 _ rfl) (a := [.int (Int32.ofInt e), .int (Int32.ofInt (-9 : Int)), .int (Int32.ofInt (400 : Int))]) (st := [.ref x]) rfl rfl (Nat.le_of_ble_eq_true rfl) trivial (by omega) (by omega) (zm_isIn_M g (v := e) (a := (-9)) (b := 400) (by omega) (by omega) (by omega) (by omega) (by omega) (by omega) (fun y_ => absurd y_ (by omega)) (fun y_ => ?_))
    show S 10 [some (.ref x), some (.int (Int32.ofInt e)), none] [.int (Int32.ofInt (0 : Int)), .ref x] _ _ _
    refine hs 5 _ rfl _ _ _ _ _ _ (fun zq => absurd (hd_c1z (c := 1) (by omega) (by omega) zq) (by omega : ¬ ((0 : Int) ≠ 0))) (fun _ => ?_)
    refine hs 6 _ rfl _ _ _ _ _ _ _ rfl ?_
    refine hs 7 _ rfl _ _ _ _ _ ?_
    refine hs 9 _ rfl _ _ _ _ _ _ _ rfl ?_
    refine zw_c (hs 10 _ rfl) (a := [.ref x, .int (Int32.ofInt (1 : Int)), .int (Int32.ofInt (1 : Int))]) (st := []) rfl rfl (Nat.le_of_ble_eq_true rfl) ⟨_, _, _, rfl, a1_, a2_.1⟩ (by omega) (by omega) (zm_start_M g hX (i_ := 1) (w_ := 1) (Or.inr rfl) (by decide) (fun y_ h2_ f2_ x2_ => ?_) (fun y_ => absurd y_ (by decide)))
    show S 22 [some (.ref x), some (.int (Int32.ofInt e)), none] [.int (Int32.ofInt (1 : Int))] _ _ _
    refine hs 11 _ rfl _ _ _ _ _ _ (fun zq => absurd (hd_c1z (c := 0) (by omega) (by omega) zq) (by omega : ¬ ((1 : Int) = 0))) (fun _ => ?_)
    refine hs 12 _ rfl _ _ _ _ _ _ _ rfl ?_
    exact hs 13 _ rfl _ _ _ _ _ (rv _) (by omega) (by omega) (hP 0 _ _ _ (Or.inr ⟨c1_, rfl, rfl⟩) f2_ ⟨_, _, _, _, x2_⟩)
  · have n9_ := hX.lt
    refine hs 0 _ rfl _ _ _ _ _ _ _ rfl ?_
    refine hs 1 _ rfl _ _ _ _ _ _ _ rfl ?_
    refine hs 2 _ rfl _ _ _ _ _ _ _ rfl ?_
    refine hs 3 _ rfl _ _ _ _ _ _ _ rfl ?_
    refine zw_c (hs 4 _ rfl) (a := [.int (Int32.ofInt e), .int (Int32.ofInt (-9 : Int)), .int (Int32.ofInt (400 : Int))]) (st := [.ref x]) rfl rfl (Nat.le_of_ble_eq_true rfl) trivial (by omega) (by omega) (zm_isIn_M g (v := e) (a := (-9)) (b := 400) (by omega) (by omega) (by omega) (by omega) (by omega) (by omega) (fun y_ => ?_) (fun y_ => absurd (by omega) y_))
    show S 10 [some (.ref x), some (.int (Int32.ofInt e)), none] [.int (Int32.ofInt (1 : Int)), .ref x] _ _ _
    refine hs 5 _ rfl _ _ _ _ _ _ (fun _ => ?_) (fun zq => absurd (hd_c1t (c := 1) (by omega) (by omega) (by omega : (1 : Int) ≠ 0)) zq)
    refine hs 8 _ rfl _ _ _ _ _ _ _ rfl ?_
    refine hs 9 _ rfl _ _ _ _ _ _ _ rfl ?_
    refine zw_c (hs 10 _ rfl) (a := [.ref x, .int (Int32.ofInt (0 : Int)), .int (Int32.ofInt (1 : Int))]) (st := []) rfl rfl (Nat.le_of_ble_eq_true rfl) ⟨_, _, _, rfl, a1_, a2_.1⟩ (by omega) (by omega) (zm_start_M g hX (i_ := 0) (w_ := 1) (Or.inl rfl) (by decide) (fun y_ => absurd y_ (by decide)) (fun y_ h2_ f2_ x2_ => ?_))
    show S 22 [some (.ref x), some (.int (Int32.ofInt e)), none] [.int (Int32.ofInt (0 : Int))] _ _ _
    refine hs 11 _ rfl _ _ _ _ _ _ (fun _ => ?_) (fun zq => absurd (hd_c1t (c := 0) (by omega) (by omega) (by omega : (0 : Int) = 0)) zq)
    refine hs 14 _ rfl _ _ _ _ _ _ _ rfl ?_
    refine zw_cm (hs 15 _ rfl) (a := [.ref x]) (st := []) 14 69 rfl rfl (Nat.le_of_ble_eq_true rfl) ⟨_, _, _, rfl, x2_.1, a2_.1⟩ (by omega) (by omega) (zm_keep_M g x2_ hok hp12 (by omega) (by omega) fun h3_ o3_ f3_ x3_ => ?_)
    obtain ⟨t_, qn_, ql_, qb_, s1_, up_⟩ := x3_.dialL
    show S 31 [some (.ref x), some (.int (Int32.ofInt e)), none] [] _ _ _
    refine hs 16 _ rfl _ _ _ _ _ _ _ rfl ?_
    refine hs 17 _ rfl _ _ _ _ _ _ _ _ _ (x3_.1) a2_.1 rfl ?_
    refine hs 18 _ rfl _ _ _ _ _ _ _ _ _ (s1_.1) s1_.2 rfl ?_
    refine hs 19 _ rfl _ _ _ _ _ _ _ rfl ?_
    refine hs 20 _ rfl _ _ _ _ _ _ _ rfl ?_
    refine hs 21 _ rfl _ _ _ _ _ _ _ _ _ (x3_.1) a2_.1 rfl ?_
    refine hs 22 _ rfl _ _ _ _ _ _ _ rfl ?_
    refine zw_U (hs 23 _ rfl) (by omega) (s1_.1) s1_.2 ⟨_, rfl⟩ fun hz323 wz324 => ?_
    have wz324 : hd_w G h3_ hz323 now (t_, [.int (Int32.ofInt e), .ref qn_, .ref ql_, .ref qb_]) := wz324
    have lwz324 := wz324.1
    refine hs 24 _ rfl _ _ _ _ _ _ _ rfl ?_
    exact hs 25 _ rfl _ _ _ _ _ (rv _) (by omega) (by omega) (hP _ _ _ _ (Or.inl ⟨c1_, rfl, rfl, rfl⟩) ((f2_.tr f3_).tr (zm_fr.w wz324 s1_.1 (Or.inr (Or.inl s1_.2)))) ⟨_, _, _, _, up_ _ _ wz324⟩)
theorem zm_rc {G : am_G} {h : List am_C} {o : Nat → Nat} {x tx now qw : Nat} {th j m k : Int} {c : sp_S} {P : List sp_S} {u : List Value} (a : zm_x G h o x tx now qw th j m k c P) : ck_rcv G (some 19) (.ref x :: u) h := ⟨_, _, _, rfl, a.1, a.2.1.1⟩
set_option maxHeartbeats 4000000 in
theorem zm_set_M {l : Launch} {G : am_G} {X : ck_XT} (g : gM l G X) {o : Nat → Nat} {x tx now qw : Nat} {th j m k : Int} {c : sp_S} {P : List sp_S} {h : List am_C} (hX : zm_x G h o x tx now qw th j m k c P) (hok : sp_ok c) (hp12 : P.length ≤ 12) {e e2 : Int} (he1 : -2147483648 ≤ e) (he2 : e ≤ 2147483647) (hf1 : -2147483648 ≤ e2) (hf2 : e2 ≤ 2147483647) {mc ms : Nat} {Post : am_O → List am_C → Prop} (hmc : 17 ≤ mc) (hms : 111 ≤ ms)
    (hP : ∀ (a th : Int) (T' : sp_T) (h' : List am_C), sp_d1 e e2 (c, P, j, m, k) a th T' → zm_fr G h h' → zm_Y G h' x th T' → Post (.inl (some (.int (Int32.ofInt a)))) h') :
    am_M l G yX14_set (.code yX14_set prog_14_method_12_code 3 (some .int)) 12 316 mc ms [.ref x, .int (Int32.ofInt e), .int (Int32.ofInt e2)] h Post := by
  refine gh_yX14_set_X g (Nat.le_of_ble_eq_true rfl) fun S SX hs hr hw hx => ?_
  have rv : ∀ x : Int32, ck_fv 0 (.int x) := fun x => ⟨_, rfl⟩
  obtain ⟨a1_, a2_, a3_, a4_⟩ := id hX
  by_cases c1_ : sp_s1 e
  rotate_left
  · have c1b_ : ¬ (0 ≤ e ∧ e < 6) := c1_
    refine hs 0 _ rfl _ _ _ _ _ _ _ rfl ?_
    refine hs 1 _ rfl _ _ _ _ _ _ _ rfl ?_
    refine zw_c (hs 2 _ rfl) (a := [.int (Int32.ofInt e)]) (st := [.ref x]) rfl rfl (Nat.le_of_ble_eq_true rfl) trivial (by omega) (by omega) (zm_noSlot_M g (e := e) (by omega) (by omega) (fun y_ => ?_) (fun y_ => absurd y_ (by omega)))
    show S 5 [some (.ref x), some (.int (Int32.ofInt e)), some (.int (Int32.ofInt e2))] [.int (Int32.ofInt (1 : Int)), .ref x] _ _ _
    refine hs 3 _ rfl _ _ _ _ _ _ _ rfl ?_
    refine zw_c (hs 4 _ rfl) (a := [.ref x, .int (Int32.ofInt (1 : Int)), .int (Int32.ofInt (1 : Int))]) (st := []) rfl rfl (Nat.le_of_ble_eq_true rfl) ⟨_, _, _, rfl, a1_, a2_.1⟩ (by omega) (by omega) (zm_start_M g hX (i_ := 1) (w_ := 1) (Or.inr rfl) (by decide) (fun y_ h2_ f2_ x2_ => ?_) (fun y_ => absurd y_ (by decide)))
    show S 9 [some (.ref x), some (.int (Int32.ofInt e)), some (.int (Int32.ofInt e2))] [.int (Int32.ofInt (1 : Int))] _ _ _
    refine hs 5 _ rfl _ _ _ _ _ _ (fun zq => absurd (hd_c1z (c := 0) (by omega) (by omega) zq) (by omega : ¬ ((1 : Int) = 0))) (fun _ => ?_)
    refine hs 6 _ rfl _ _ _ _ _ _ _ rfl ?_
    refine hs 7 _ rfl _ _ _ _ _ ?_
    exact hs 14 _ rfl _ _ _ _ _ (rv _) (by omega) (by omega) (hP 0 _ _ _ (Or.inr ⟨c1_, rfl, rfl⟩) f2_ ⟨_, _, _, _, x2_⟩)
  · 
    obtain ⟨i, rfl⟩ : ∃ i : Nat, e = (i : Int) := ⟨e.toNat, by have := c1_.1; omega⟩
    have hi : i < 6 := by have := c1_.2; omega
    have c1b_ := c1_.1
    have c1c_ := c1_.2
    have in_ : sp_in e2 := by unfold sp_in; omega
    refine hs 0 _ rfl _ _ _ _ _ _ _ rfl ?_
    refine hs 1 _ rfl _ _ _ _ _ _ _ rfl ?_
    refine zw_c (hs 2 _ rfl) (a := [.int (Int32.ofInt (i : Int))]) (st := [.ref x]) rfl rfl (Nat.le_of_ble_eq_true rfl) trivial (by omega) (by omega) (zm_noSlot_M g (e := (i : Int)) (by omega) (by omega) (fun y_ => absurd (by omega) y_) (fun y_ => ?_))
    show S 5 [some (.ref x), some (.int (Int32.ofInt (i : Int))), some (.int (Int32.ofInt e2))] [.int (Int32.ofInt (0 : Int)), .ref x] _ _ _
    refine hs 3 _ rfl _ _ _ _ _ _ _ rfl ?_
    refine zw_c (hs 4 _ rfl) (a := [.ref x, .int (Int32.ofInt (0 : Int)), .int (Int32.ofInt (1 : Int))]) (st := []) rfl rfl (Nat.le_of_ble_eq_true rfl) ⟨_, _, _, rfl, a1_, a2_.1⟩ (by omega) (by omega) (zm_start_M g hX (i_ := 0) (w_ := 1) (Or.inl rfl) (by decide) (fun y_ => absurd y_ (by decide)) (fun y_ h2_ f2_ x2_ => ?_))
    show S 9 [some (.ref x), some (.int (Int32.ofInt (i : Int))), some (.int (Int32.ofInt e2))] [.int (Int32.ofInt (0 : Int))] _ _ _
    refine hs 5 _ rfl _ _ _ _ _ _ (fun _ => ?_) (fun zq => absurd (hd_c1t (c := 0) (by omega) (by omega) (by omega : (0 : Int) = 0)) zq)
    refine hs 8 _ rfl _ _ _ _ _ _ _ rfl ?_
    refine hs 9 _ rfl _ _ _ _ _ _ _ rfl ?_
    refine hs 10 _ rfl _ _ _ _ _ _ _ rfl ?_
    refine hs 11 _ rfl _ _ _ _ _ _ _ (hd_i2l (by omega) (by omega)) ?_
    refine zw_cm (hs 12 _ rfl) (a := [.long (Int64.ofInt e2)]) (st := [.int (Int32.ofInt (i : Int)), .ref x]) 3 42 rfl rfl (Nat.le_of_ble_eq_true rfl) trivial (by omega) (by omega) (zn_of_M g (v := e2) (by omega) (by omega) (by omega) (by omega) fun h3_ q3_ g3_ z3_ => ?_)
    show S 23 [some (.ref x), some (.int (Int32.ofInt (i : Int))), some (.int (Int32.ofInt e2))] [.ref q3_, .int (Int32.ofInt (i : Int)), .ref x] _ _ _
    refine zw_cm (hs 13 _ rfl) (a := [.ref x, .int (Int32.ofInt (i : Int)), .ref q3_]) (st := []) 14 69 rfl rfl (Nat.le_of_ble_eq_true rfl) (zm_rc (x2_.g g3_ fun _ _ => rfl)) (by omega) (by omega) (zm_put_M g (x2_.g g3_ fun _ _ => rfl) hok hp12 rfl hi z3_ in_ (by omega) (by omega) fun h4_ d_ f4_ x4_ dg_ => ?_)
    show S 26 [some (.ref x), some (.int (Int32.ofInt (i : Int))), some (.int (Int32.ofInt e2))] [.int (Int32.ofInt (d_ : Int))] _ _ _
    exact hs 14 _ rfl _ _ _ _ _ (rv _) (by omega) (by omega) (hP _ _ _ _ (Or.inl ⟨c1_, Or.inl ⟨in_, rfl, rfl, d_, rfl, dg_⟩⟩) ((f2_.tr (zm_fr.g g3_)).tr f4_) x4_)
set_option maxHeartbeats 4000000 in
theorem zm_plus_M {l : Launch} {G : am_G} {X : ck_XT} (g : gM l G X) {o : Nat → Nat} {x tx now qw : Nat} {th j m k : Int} {c : sp_S} {P : List sp_S} {h : List am_C} (hX : zm_x G h o x tx now qw th j m k c P) (hok : sp_ok c) (hp12 : P.length ≤ 12) {e e2 : Int} (he1 : -2147483648 ≤ e) (he2 : e ≤ 2147483647) (hf1 : -2147483648 ≤ e2) (hf2 : e2 ≤ 2147483647) {mc ms : Nat} {Post : am_O → List am_C → Prop} (hmc : 17 ≤ mc) (hms : 145 ≤ ms)
    (hP : ∀ (a th : Int) (T' : sp_T) (h' : List am_C), sp_d3 e e2 (c, P, j, m, k) a th T' → zm_fr G h h' → zm_Y G h' x th T' → Post (.inl (some (.int (Int32.ofInt a)))) h') :
    am_M l G yX14_plus (.code yX14_plus prog_14_method_14_code 4 (some .int)) 12 316 mc ms [.ref x, .int (Int32.ofInt e), .int (Int32.ofInt e2)] h Post := by
  refine gh_yX14_plus_X g (Nat.le_of_ble_eq_true rfl) fun S SX hs hr hw hx => ?_
  have rv : ∀ x : Int32, ck_fv 0 (.int x) := fun x => ⟨_, rfl⟩
  obtain ⟨a1_, a2_, a3_, a4_⟩ := id hX
  by_cases c1_ : sp_s1 e ∧ sp_s1 e2
  rotate_left
  · by_cases c3_ : 0 ≤ e ∧ e < 6
    · have c4_ : ¬ (0 ≤ e2 ∧ e2 < 6) := fun y_ => c1_ ⟨c3_, y_⟩
      refine hs 0 _ rfl _ _ _ _ _ _ _ rfl ?_
      refine hs 1 _ rfl _ _ _ _ _ _ _ rfl ?_
      refine zw_c (hs 2 _ rfl) (a := [.int (Int32.ofInt e)]) (st := [.ref x]) rfl rfl (Nat.le_of_ble_eq_true rfl) trivial (by omega) (by omega) (zm_noSlot_M g (e := e) (by omega) (by omega) (fun y_ => absurd (by omega) y_) (fun y_ => ?_))
      show S 5 [some (.ref x), some (.int (Int32.ofInt e)), some (.int (Int32.ofInt e2)), none] [.int (Int32.ofInt (0 : Int)), .ref x] _ _ _
      refine hs 3 _ rfl _ _ _ _ _ _ (fun zq => absurd (hd_c1z (c := 1) (by omega) (by omega) zq) (by omega : ¬ ((0 : Int) ≠ 0))) (fun _ => ?_)
      refine hs 4 _ rfl _ _ _ _ _ _ _ rfl ?_
      refine zw_c (hs 5 _ rfl) (a := [.int (Int32.ofInt e2)]) (st := [.ref x]) rfl rfl (Nat.le_of_ble_eq_true rfl) trivial (by omega) (by omega) (zm_noSlot_M g (e := e2) (by omega) (by omega) (fun y_ => ?_) (fun y_ => absurd y_ (by omega)))
      show S 12 [some (.ref x), some (.int (Int32.ofInt e)), some (.int (Int32.ofInt e2)), none] [.int (Int32.ofInt (1 : Int)), .ref x] _ _ _
      refine hs 6 _ rfl _ _ _ _ _ _ (fun zq => absurd (hd_c1z (c := 0) (by omega) (by omega) zq) (by omega : ¬ ((1 : Int) = 0))) (fun _ => ?_)
      refine hs 7 _ rfl _ _ _ _ _ _ _ rfl ?_
      refine hs 8 _ rfl _ _ _ _ _ ?_
      refine hs 10 _ rfl _ _ _ _ _ _ _ rfl ?_
      refine zw_c (hs 11 _ rfl) (a := [.ref x, .int (Int32.ofInt (1 : Int)), .int (Int32.ofInt (1 : Int))]) (st := []) rfl rfl (Nat.le_of_ble_eq_true rfl) ⟨_, _, _, rfl, a1_, a2_.1⟩ (by omega) (by omega) (zm_start_M g hX (i_ := 1) (w_ := 1) (Or.inr rfl) (by decide) (fun y_ h2_ f2_ x2_ => ?_) (fun y_ => absurd y_ (by decide)))
      show S 24 [some (.ref x), some (.int (Int32.ofInt e)), some (.int (Int32.ofInt e2)), none] [.int (Int32.ofInt (1 : Int))] _ _ _
      refine hs 12 _ rfl _ _ _ _ _ _ (fun zq => absurd (hd_c1z (c := 0) (by omega) (by omega) zq) (by omega : ¬ ((1 : Int) = 0))) (fun _ => ?_)
      refine hs 13 _ rfl _ _ _ _ _ _ _ rfl ?_
      exact hs 14 _ rfl _ _ _ _ _ (rv _) (by omega) (by omega) (hP 0 _ _ _ (Or.inr ⟨c1_, rfl, rfl⟩) f2_ ⟨_, _, _, _, x2_⟩)
    · 
      refine hs 0 _ rfl _ _ _ _ _ _ _ rfl ?_
      refine hs 1 _ rfl _ _ _ _ _ _ _ rfl ?_
      refine zw_c (hs 2 _ rfl) (a := [.int (Int32.ofInt e)]) (st := [.ref x]) rfl rfl (Nat.le_of_ble_eq_true rfl) trivial (by omega) (by omega) (zm_noSlot_M g (e := e) (by omega) (by omega) (fun y_ => ?_) (fun y_ => absurd y_ (by omega)))
      show S 5 [some (.ref x), some (.int (Int32.ofInt e)), some (.int (Int32.ofInt e2)), none] [.int (Int32.ofInt (1 : Int)), .ref x] _ _ _
      refine hs 3 _ rfl _ _ _ _ _ _ (fun _ => ?_) (fun zq => absurd (hd_c1t (c := 1) (by omega) (by omega) (by omega : (1 : Int) ≠ 0)) zq)
      refine hs 7 _ rfl _ _ _ _ _ _ _ rfl ?_
      refine hs 8 _ rfl _ _ _ _ _ ?_
      refine hs 10 _ rfl _ _ _ _ _ _ _ rfl ?_
      refine zw_c (hs 11 _ rfl) (a := [.ref x, .int (Int32.ofInt (1 : Int)), .int (Int32.ofInt (1 : Int))]) (st := []) rfl rfl (Nat.le_of_ble_eq_true rfl) ⟨_, _, _, rfl, a1_, a2_.1⟩ (by omega) (by omega) (zm_start_M g hX (i_ := 1) (w_ := 1) (Or.inr rfl) (by decide) (fun y_ h2_ f2_ x2_ => ?_) (fun y_ => absurd y_ (by decide)))
      show S 24 [some (.ref x), some (.int (Int32.ofInt e)), some (.int (Int32.ofInt e2)), none] [.int (Int32.ofInt (1 : Int))] _ _ _
      refine hs 12 _ rfl _ _ _ _ _ _ (fun zq => absurd (hd_c1z (c := 0) (by omega) (by omega) zq) (by omega : ¬ ((1 : Int) = 0))) (fun _ => ?_)
      refine hs 13 _ rfl _ _ _ _ _ _ _ rfl ?_
      exact hs 14 _ rfl _ _ _ _ _ (rv _) (by omega) (by omega) (hP 0 _ _ _ (Or.inr ⟨c1_, rfl, rfl⟩) f2_ ⟨_, _, _, _, x2_⟩)
  · obtain ⟨i, rfl⟩ : ∃ i : Nat, e = (i : Int) := ⟨e.toNat, by have := c1_.1.1; omega⟩
    obtain ⟨i2, rfl⟩ : ∃ i2 : Nat, e2 = (i2 : Int) := ⟨e2.toNat, by have := c1_.2.1; omega⟩
    have hi : i < 6 := by have := c1_.1.2; omega
    have hi2 : i2 < 6 := by have := c1_.2.2; omega
    refine hs 0 _ rfl _ _ _ _ _ _ _ rfl ?_
    refine hs 1 _ rfl _ _ _ _ _ _ _ rfl ?_
    refine zw_c (hs 2 _ rfl) (a := [.int (Int32.ofInt (i : Int))]) (st := [.ref x]) rfl rfl (Nat.le_of_ble_eq_true rfl) trivial (by omega) (by omega) (zm_noSlot_M g (e := (i : Int)) (by omega) (by omega) (fun y_ => absurd (by omega) y_) (fun y_ => ?_))
    show S 5 [some (.ref x), some (.int (Int32.ofInt (i : Int))), some (.int (Int32.ofInt (i2 : Int))), none] [.int (Int32.ofInt (0 : Int)), .ref x] _ _ _
    refine hs 3 _ rfl _ _ _ _ _ _ (fun zq => absurd (hd_c1z (c := 1) (by omega) (by omega) zq) (by omega : ¬ ((0 : Int) ≠ 0))) (fun _ => ?_)
    refine hs 4 _ rfl _ _ _ _ _ _ _ rfl ?_
    refine zw_c (hs 5 _ rfl) (a := [.int (Int32.ofInt (i2 : Int))]) (st := [.ref x]) rfl rfl (Nat.le_of_ble_eq_true rfl) trivial (by omega) (by omega) (zm_noSlot_M g (e := (i2 : Int)) (by omega) (by omega) (fun y_ => absurd (by omega) y_) (fun y_ => ?_))
    show S 12 [some (.ref x), some (.int (Int32.ofInt (i : Int))), some (.int (Int32.ofInt (i2 : Int))), none] [.int (Int32.ofInt (0 : Int)), .ref x] _ _ _
    refine hs 6 _ rfl _ _ _ _ _ _ (fun _ => ?_) (fun zq => absurd (hd_c1t (c := 0) (by omega) (by omega) (by omega : (0 : Int) = 0)) zq)
    refine hs 9 _ rfl _ _ _ _ _ _ _ rfl ?_
    refine hs 10 _ rfl _ _ _ _ _ _ _ rfl ?_
    refine zw_c (hs 11 _ rfl) (a := [.ref x, .int (Int32.ofInt (0 : Int)), .int (Int32.ofInt (1 : Int))]) (st := []) rfl rfl (Nat.le_of_ble_eq_true rfl) ⟨_, _, _, rfl, a1_, a2_.1⟩ (by omega) (by omega) (zm_start_M g hX (i_ := 0) (w_ := 1) (Or.inl rfl) (by decide) (fun y_ => absurd y_ (by decide)) (fun y_ h2_ f2_ x2_ => ?_))
    have ok1_ := hok.2.1.1
    obtain ⟨t_, qn_, tn_, ql_, qb_, vn_, s1_, ⟨b1_, b2_, b3_⟩, ⟨d1_, d2_⟩, up_⟩ := x2_.numL
    obtain ⟨v_, hvv_⟩ : ∃ v_, vn_[i]? = some v_ := ⟨_, List.getElem?_eq_getElem (by omega)⟩
    have gzv_ : c.2.1[i]? = some (c.2.1.getD i 0) := sb_ge (by omega)
    obtain ⟨nt_, nd_, ntd_, nb_, nds_, n1_, n2_, n3_, n4_, n5_⟩ := d2_ _ _ _ hvv_ gzv_
    have nl_ : nds_.length ≤ 36 := zm_len n5_ (hok.get (by omega))
    obtain ⟨v2_, hvv2_⟩ : ∃ v_, vn_[i2]? = some v_ := ⟨_, List.getElem?_eq_getElem (by omega)⟩
    have gzv2_ : c.2.1[i2]? = some (c.2.1.getD i2 0) := sb_ge (by omega)
    obtain ⟨pt_, pd_, ptd_, pb_, pds_, p1_, p2_, p3_, p4_, p5_⟩ := d2_ _ _ _ hvv2_ gzv2_
    have pl_ : pds_.length ≤ 36 := zm_len p5_ (hok.get (by omega))
    show S 24 [some (.ref x), some (.int (Int32.ofInt (i : Int))), some (.int (Int32.ofInt (i2 : Int))), none] [.int (Int32.ofInt (0 : Int))] _ _ _
    refine hs 12 _ rfl _ _ _ _ _ _ (fun _ => ?_) (fun zq => absurd (hd_c1t (c := 0) (by omega) (by omega) (by omega : (0 : Int) = 0)) zq)
    refine hs 15 _ rfl _ _ _ _ _ _ _ rfl ?_
    refine hs 16 _ rfl _ _ _ _ _ _ _ _ _ (x2_.1) a2_.1 rfl ?_
    refine hs 17 _ rfl _ _ _ _ _ _ _ _ _ (s1_.1) s1_.2 rfl ?_
    refine hs 18 _ rfl _ _ _ _ _ _ _ rfl ?_
    refine zw_Ar (hs 19 _ rfl) (b1_) (by first | rfl | (rw [b2_]; rfl)) (j := i) (by omega) (by omega) (zm_nv hvv_) ?_
    refine hs 20 _ rfl _ _ _ _ _ _ _ rfl ?_
    refine hs 21 _ rfl _ _ _ _ _ _ _ _ _ (x2_.1) a2_.1 rfl ?_
    refine hs 22 _ rfl _ _ _ _ _ _ _ _ _ (s1_.1) s1_.2 rfl ?_
    refine hs 23 _ rfl _ _ _ _ _ _ _ rfl ?_
    refine zw_Ar (hs 24 _ rfl) (b1_) (by first | rfl | (rw [b2_]; rfl)) (j := i2) (by omega) (by omega) (zm_nv hvv2_) ?_
    refine zw_cm (hs 25 _ rfl) (a := [.ref v_, .ref v2_]) (st := []) 3 76 rfl rfl (Nat.le_of_ble_eq_true rfl) ⟨_, _, _, rfl, n1_, n2_⟩ (by omega) (by omega) (zn_plus_M g n1_ n2_ n3_ n4_ n5_ p1_ p2_ p3_ p4_ p5_ (M := max nds_.length pds_.length) (by omega) (by omega) (by omega) (by omega) (by omega) (by omega) fun h3_ q3_ g3_ z3_ => ?_)
    show S 50 [some (.ref x), some (.int (Int32.ofInt (i : Int))), some (.int (Int32.ofInt (i2 : Int))), none] [.ref q3_] _ _ _
    have x3_ := x2_.g g3_ fun _ _ => rfl
    obtain ⟨rt_, rd_, rtd_, rb_, rds_, r1_, r2_, r3_, r4_, r5_⟩ := id z3_
    have ia_ : sp_in (c.2.1.getD i 0) := hok.get hi
    have ib_ : sp_in (c.2.1.getD i2 0) := hok.get hi2
    have hb_ : ((c.2.1.getD i 0 + c.2.1.getD i2 0).natAbs : Int) < 10 ^ 72 := by unfold sp_in at ia_ ib_; rw [show (10 : Int) ^ 72 = 1000000000000000000000000000000000000000000000000000000000000000000000000 from by decide]; omega
    have rl_ : rds_.length ≤ 72 := zm_big r5_ (by decide) hb_
    have md_ := zm_dg r5_
    have mu_ := md_.le (n := 72) (by decide) hb_
    refine hs 26 _ rfl _ _ _ _ _ _ _ rfl ?_
    refine hs 27 _ rfl _ _ _ _ _ _ _ rfl ?_
    refine hs 28 _ rfl _ _ _ _ _ _ _ rfl ?_
    refine zw_c (hs 29 _ rfl) (a := [.ref q3_]) (st := [.ref x]) rfl rfl (Nat.le_of_ble_eq_true rfl) ⟨_, _, _, rfl, r1_, r2_⟩ (by omega) (by omega) (zn_many_M g r1_ r2_ r3_ r4_ r5_ (by omega) ?_)
    show S 56 [some (.ref x), some (.int (Int32.ofInt (i : Int))), some (.int (Int32.ofInt (i2 : Int))), some (.ref q3_)] [.int (Int32.ofInt ((if rds_.length = 0 then 1 else rds_.length : Nat) : Int)), .ref x] _ _ _
    by_cases c2_ : sp_in (c.2.1.getD i 0 + c.2.1.getD i2 0)
    · have ml_ := md_.le (n := 36) (by decide) (sp_in.abs.mp c2_)
      refine hs 30 _ rfl _ _ _ _ _ _ _ rfl ?_
      refine hs 31 _ rfl _ _ _ _ _ _ _ (fun _ => ?_) (fun zq => absurd (hd_c2t (c := 5) (by omega) (by omega) (by omega) (by omega) (by omega : (((if rds_.length = 0 then 1 else rds_.length : Nat) : Int) - (36 : Int)) ≤ 0)) zq)
      refine hs 34 _ rfl _ _ _ _ _ _ _ rfl ?_
      refine hs 35 _ rfl _ _ _ _ _ _ _ rfl ?_
      refine zw_c (hs 36 _ rfl) (a := [.ref x, .int (Int32.ofInt (0 : Int)), .int (Int32.ofInt (2 : Int))]) (st := []) rfl rfl (Nat.le_of_ble_eq_true rfl) ⟨_, _, _, rfl, x3_.1, a2_.1⟩ (by omega) (by omega) (zm_refuse_M g x3_ (i_ := 0) (w_ := 2) (Or.inl rfl) (by decide) (fun y_ => absurd y_ (by decide)) (fun y_ => ?_))
      show S 70 [some (.ref x), some (.int (Int32.ofInt (i : Int))), some (.int (Int32.ofInt (i2 : Int))), some (.ref q3_)] [.int (Int32.ofInt (0 : Int))] _ _ _
      refine hs 37 _ rfl _ _ _ _ _ _ (fun _ => ?_) (fun zq => absurd (hd_c1t (c := 0) (by omega) (by omega) (by omega : (0 : Int) = 0)) zq)
      refine hs 40 _ rfl _ _ _ _ _ _ _ rfl ?_
      refine hs 41 _ rfl _ _ _ _ _ _ _ rfl ?_
      refine hs 42 _ rfl _ _ _ _ _ _ _ rfl ?_
      refine zw_cm (hs 43 _ rfl) (a := [.ref x, .int (Int32.ofInt (i : Int)), .ref q3_]) (st := []) 14 69 rfl rfl (Nat.le_of_ble_eq_true rfl) (zm_rc x3_) (by omega) (by omega) (zm_put_M g x3_ hok hp12 rfl hi z3_ c2_ (by omega) (by omega) fun h4_ d_ f4_ x4_ dg_ => ?_)
      show S 83 [some (.ref x), some (.int (Int32.ofInt (i : Int))), some (.int (Int32.ofInt (i2 : Int))), some (.ref q3_)] [.int (Int32.ofInt (d_ : Int))] _ _ _
      exact hs 44 _ rfl _ _ _ _ _ (rv _) (by omega) (by omega) (hP _ _ _ _ (Or.inl ⟨c1_, Or.inl ⟨c2_, rfl, rfl, d_, rfl, dg_⟩⟩) ((f2_.tr (zm_fr.g g3_)).tr f4_) x4_)
    · have ml_ := md_.gt (n := 36) (fun y_ => c2_ (sp_in.abs.mpr y_))
      refine hs 30 _ rfl _ _ _ _ _ _ _ rfl ?_
      refine hs 31 _ rfl _ _ _ _ _ _ _ (fun zq => absurd (hd_c2z (c := 5) (by omega) (by omega) (by omega) (by omega) zq) (by omega : ¬ ((((if rds_.length = 0 then 1 else rds_.length : Nat) : Int) - (36 : Int)) ≤ 0))) (fun _ => ?_)
      refine hs 32 _ rfl _ _ _ _ _ _ _ rfl ?_
      refine hs 33 _ rfl _ _ _ _ _ ?_
      refine hs 35 _ rfl _ _ _ _ _ _ _ rfl ?_
      refine zw_c (hs 36 _ rfl) (a := [.ref x, .int (Int32.ofInt (1 : Int)), .int (Int32.ofInt (2 : Int))]) (st := []) rfl rfl (Nat.le_of_ble_eq_true rfl) ⟨_, _, _, rfl, x3_.1, a2_.1⟩ (by omega) (by omega) (zm_refuse_M g x3_ (i_ := 1) (w_ := 2) (Or.inr rfl) (by decide) (fun y_ h4_ f4_ x4_ => ?_) (fun y_ => absurd y_ (by decide)))
      show S 70 [some (.ref x), some (.int (Int32.ofInt (i : Int))), some (.int (Int32.ofInt (i2 : Int))), some (.ref q3_)] [.int (Int32.ofInt (1 : Int))] _ _ _
      refine hs 37 _ rfl _ _ _ _ _ _ (fun zq => absurd (hd_c1z (c := 0) (by omega) (by omega) zq) (by omega : ¬ ((1 : Int) = 0))) (fun _ => ?_)
      refine hs 38 _ rfl _ _ _ _ _ _ _ rfl ?_
      refine hs 39 _ rfl _ _ _ _ _ ?_
      exact hs 44 _ rfl _ _ _ _ _ (rv _) (by omega) (by omega) (hP _ _ _ _ (Or.inl ⟨c1_, Or.inr ⟨c2_, rfl, rfl⟩⟩) ((f2_.tr (zm_fr.g g3_)).tr f4_) ⟨_, _, _, _, x4_⟩)
set_option maxHeartbeats 4000000 in
theorem zm_times_M {l : Launch} {G : am_G} {X : ck_XT} (g : gM l G X) {o : Nat → Nat} {x tx now qw : Nat} {th j m k : Int} {c : sp_S} {P : List sp_S} {h : List am_C} (hX : zm_x G h o x tx now qw th j m k c P) (hok : sp_ok c) (hp12 : P.length ≤ 12) {e e2 : Int} (he1 : -2147483648 ≤ e) (he2 : e ≤ 2147483647) (hf1 : -2147483648 ≤ e2) (hf2 : e2 ≤ 2147483647) {mc ms : Nat} {Post : am_O → List am_C → Prop} (hmc : 17 ≤ mc) (hms : 217 ≤ ms)
    (hP : ∀ (a th : Int) (T' : sp_T) (h' : List am_C), sp_d4 e e2 (c, P, j, m, k) a th T' → zm_fr G h h' → zm_Y G h' x th T' → Post (.inl (some (.int (Int32.ofInt a)))) h') :
    am_M l G yX14_times (.code yX14_times prog_14_method_15_code 4 (some .int)) 12 316 mc ms [.ref x, .int (Int32.ofInt e), .int (Int32.ofInt e2)] h Post := by
  refine gh_yX14_times_X g (Nat.le_of_ble_eq_true rfl) fun S SX hs hr hw hx => ?_
  have rv : ∀ x : Int32, ck_fv 0 (.int x) := fun x => ⟨_, rfl⟩
  obtain ⟨a1_, a2_, a3_, a4_⟩ := id hX
  by_cases c1_ : sp_s1 e ∧ sp_s1 e2
  rotate_left
  · by_cases c3_ : 0 ≤ e ∧ e < 6
    · have c4_ : ¬ (0 ≤ e2 ∧ e2 < 6) := fun y_ => c1_ ⟨c3_, y_⟩
      refine hs 0 _ rfl _ _ _ _ _ _ _ rfl ?_
      refine hs 1 _ rfl _ _ _ _ _ _ _ rfl ?_
      refine zw_c (hs 2 _ rfl) (a := [.int (Int32.ofInt e)]) (st := [.ref x]) rfl rfl (Nat.le_of_ble_eq_true rfl) trivial (by omega) (by omega) (zm_noSlot_M g (e := e) (by omega) (by omega) (fun y_ => absurd (by omega) y_) (fun y_ => ?_))
      show S 5 [some (.ref x), some (.int (Int32.ofInt e)), some (.int (Int32.ofInt e2)), none] [.int (Int32.ofInt (0 : Int)), .ref x] _ _ _
      refine hs 3 _ rfl _ _ _ _ _ _ (fun zq => absurd (hd_c1z (c := 1) (by omega) (by omega) zq) (by omega : ¬ ((0 : Int) ≠ 0))) (fun _ => ?_)
      refine hs 4 _ rfl _ _ _ _ _ _ _ rfl ?_
      refine zw_c (hs 5 _ rfl) (a := [.int (Int32.ofInt e2)]) (st := [.ref x]) rfl rfl (Nat.le_of_ble_eq_true rfl) trivial (by omega) (by omega) (zm_noSlot_M g (e := e2) (by omega) (by omega) (fun y_ => ?_) (fun y_ => absurd y_ (by omega)))
      show S 12 [some (.ref x), some (.int (Int32.ofInt e)), some (.int (Int32.ofInt e2)), none] [.int (Int32.ofInt (1 : Int)), .ref x] _ _ _
      refine hs 6 _ rfl _ _ _ _ _ _ (fun zq => absurd (hd_c1z (c := 0) (by omega) (by omega) zq) (by omega : ¬ ((1 : Int) = 0))) (fun _ => ?_)
      refine hs 7 _ rfl _ _ _ _ _ _ _ rfl ?_
      refine hs 8 _ rfl _ _ _ _ _ ?_
      refine hs 10 _ rfl _ _ _ _ _ _ _ rfl ?_
      refine zw_c (hs 11 _ rfl) (a := [.ref x, .int (Int32.ofInt (1 : Int)), .int (Int32.ofInt (1 : Int))]) (st := []) rfl rfl (Nat.le_of_ble_eq_true rfl) ⟨_, _, _, rfl, a1_, a2_.1⟩ (by omega) (by omega) (zm_start_M g hX (i_ := 1) (w_ := 1) (Or.inr rfl) (by decide) (fun y_ h2_ f2_ x2_ => ?_) (fun y_ => absurd y_ (by decide)))
      show S 24 [some (.ref x), some (.int (Int32.ofInt e)), some (.int (Int32.ofInt e2)), none] [.int (Int32.ofInt (1 : Int))] _ _ _
      refine hs 12 _ rfl _ _ _ _ _ _ (fun zq => absurd (hd_c1z (c := 0) (by omega) (by omega) zq) (by omega : ¬ ((1 : Int) = 0))) (fun _ => ?_)
      refine hs 13 _ rfl _ _ _ _ _ _ _ rfl ?_
      exact hs 14 _ rfl _ _ _ _ _ (rv _) (by omega) (by omega) (hP 0 _ _ _ (Or.inr ⟨c1_, rfl, rfl⟩) f2_ ⟨_, _, _, _, x2_⟩)
    · 
      refine hs 0 _ rfl _ _ _ _ _ _ _ rfl ?_
      refine hs 1 _ rfl _ _ _ _ _ _ _ rfl ?_
      refine zw_c (hs 2 _ rfl) (a := [.int (Int32.ofInt e)]) (st := [.ref x]) rfl rfl (Nat.le_of_ble_eq_true rfl) trivial (by omega) (by omega) (zm_noSlot_M g (e := e) (by omega) (by omega) (fun y_ => ?_) (fun y_ => absurd y_ (by omega)))
      show S 5 [some (.ref x), some (.int (Int32.ofInt e)), some (.int (Int32.ofInt e2)), none] [.int (Int32.ofInt (1 : Int)), .ref x] _ _ _
      refine hs 3 _ rfl _ _ _ _ _ _ (fun _ => ?_) (fun zq => absurd (hd_c1t (c := 1) (by omega) (by omega) (by omega : (1 : Int) ≠ 0)) zq)
      refine hs 7 _ rfl _ _ _ _ _ _ _ rfl ?_
      refine hs 8 _ rfl _ _ _ _ _ ?_
      refine hs 10 _ rfl _ _ _ _ _ _ _ rfl ?_
      refine zw_c (hs 11 _ rfl) (a := [.ref x, .int (Int32.ofInt (1 : Int)), .int (Int32.ofInt (1 : Int))]) (st := []) rfl rfl (Nat.le_of_ble_eq_true rfl) ⟨_, _, _, rfl, a1_, a2_.1⟩ (by omega) (by omega) (zm_start_M g hX (i_ := 1) (w_ := 1) (Or.inr rfl) (by decide) (fun y_ h2_ f2_ x2_ => ?_) (fun y_ => absurd y_ (by decide)))
      show S 24 [some (.ref x), some (.int (Int32.ofInt e)), some (.int (Int32.ofInt e2)), none] [.int (Int32.ofInt (1 : Int))] _ _ _
      refine hs 12 _ rfl _ _ _ _ _ _ (fun zq => absurd (hd_c1z (c := 0) (by omega) (by omega) zq) (by omega : ¬ ((1 : Int) = 0))) (fun _ => ?_)
      refine hs 13 _ rfl _ _ _ _ _ _ _ rfl ?_
      exact hs 14 _ rfl _ _ _ _ _ (rv _) (by omega) (by omega) (hP 0 _ _ _ (Or.inr ⟨c1_, rfl, rfl⟩) f2_ ⟨_, _, _, _, x2_⟩)
  · obtain ⟨i, rfl⟩ : ∃ i : Nat, e = (i : Int) := ⟨e.toNat, by have := c1_.1.1; omega⟩
    obtain ⟨i2, rfl⟩ : ∃ i2 : Nat, e2 = (i2 : Int) := ⟨e2.toNat, by have := c1_.2.1; omega⟩
    have hi : i < 6 := by have := c1_.1.2; omega
    have hi2 : i2 < 6 := by have := c1_.2.2; omega
    refine hs 0 _ rfl _ _ _ _ _ _ _ rfl ?_
    refine hs 1 _ rfl _ _ _ _ _ _ _ rfl ?_
    refine zw_c (hs 2 _ rfl) (a := [.int (Int32.ofInt (i : Int))]) (st := [.ref x]) rfl rfl (Nat.le_of_ble_eq_true rfl) trivial (by omega) (by omega) (zm_noSlot_M g (e := (i : Int)) (by omega) (by omega) (fun y_ => absurd (by omega) y_) (fun y_ => ?_))
    show S 5 [some (.ref x), some (.int (Int32.ofInt (i : Int))), some (.int (Int32.ofInt (i2 : Int))), none] [.int (Int32.ofInt (0 : Int)), .ref x] _ _ _
    refine hs 3 _ rfl _ _ _ _ _ _ (fun zq => absurd (hd_c1z (c := 1) (by omega) (by omega) zq) (by omega : ¬ ((0 : Int) ≠ 0))) (fun _ => ?_)
    refine hs 4 _ rfl _ _ _ _ _ _ _ rfl ?_
    refine zw_c (hs 5 _ rfl) (a := [.int (Int32.ofInt (i2 : Int))]) (st := [.ref x]) rfl rfl (Nat.le_of_ble_eq_true rfl) trivial (by omega) (by omega) (zm_noSlot_M g (e := (i2 : Int)) (by omega) (by omega) (fun y_ => absurd (by omega) y_) (fun y_ => ?_))
    show S 12 [some (.ref x), some (.int (Int32.ofInt (i : Int))), some (.int (Int32.ofInt (i2 : Int))), none] [.int (Int32.ofInt (0 : Int)), .ref x] _ _ _
    refine hs 6 _ rfl _ _ _ _ _ _ (fun _ => ?_) (fun zq => absurd (hd_c1t (c := 0) (by omega) (by omega) (by omega : (0 : Int) = 0)) zq)
    refine hs 9 _ rfl _ _ _ _ _ _ _ rfl ?_
    refine hs 10 _ rfl _ _ _ _ _ _ _ rfl ?_
    refine zw_c (hs 11 _ rfl) (a := [.ref x, .int (Int32.ofInt (0 : Int)), .int (Int32.ofInt (1 : Int))]) (st := []) rfl rfl (Nat.le_of_ble_eq_true rfl) ⟨_, _, _, rfl, a1_, a2_.1⟩ (by omega) (by omega) (zm_start_M g hX (i_ := 0) (w_ := 1) (Or.inl rfl) (by decide) (fun y_ => absurd y_ (by decide)) (fun y_ h2_ f2_ x2_ => ?_))
    have ok1_ := hok.2.1.1
    obtain ⟨t_, qn_, tn_, ql_, qb_, vn_, s1_, ⟨b1_, b2_, b3_⟩, ⟨d1_, d2_⟩, up_⟩ := x2_.numL
    obtain ⟨v_, hvv_⟩ : ∃ v_, vn_[i]? = some v_ := ⟨_, List.getElem?_eq_getElem (by omega)⟩
    have gzv_ : c.2.1[i]? = some (c.2.1.getD i 0) := sb_ge (by omega)
    obtain ⟨nt_, nd_, ntd_, nb_, nds_, n1_, n2_, n3_, n4_, n5_⟩ := d2_ _ _ _ hvv_ gzv_
    have nl_ : nds_.length ≤ 36 := zm_len n5_ (hok.get (by omega))
    obtain ⟨v2_, hvv2_⟩ : ∃ v_, vn_[i2]? = some v_ := ⟨_, List.getElem?_eq_getElem (by omega)⟩
    have gzv2_ : c.2.1[i2]? = some (c.2.1.getD i2 0) := sb_ge (by omega)
    obtain ⟨pt_, pd_, ptd_, pb_, pds_, p1_, p2_, p3_, p4_, p5_⟩ := d2_ _ _ _ hvv2_ gzv2_
    have pl_ : pds_.length ≤ 36 := zm_len p5_ (hok.get (by omega))
    show S 24 [some (.ref x), some (.int (Int32.ofInt (i : Int))), some (.int (Int32.ofInt (i2 : Int))), none] [.int (Int32.ofInt (0 : Int))] _ _ _
    refine hs 12 _ rfl _ _ _ _ _ _ (fun _ => ?_) (fun zq => absurd (hd_c1t (c := 0) (by omega) (by omega) (by omega : (0 : Int) = 0)) zq)
    refine hs 15 _ rfl _ _ _ _ _ _ _ rfl ?_
    refine hs 16 _ rfl _ _ _ _ _ _ _ _ _ (x2_.1) a2_.1 rfl ?_
    refine hs 17 _ rfl _ _ _ _ _ _ _ _ _ (s1_.1) s1_.2 rfl ?_
    refine hs 18 _ rfl _ _ _ _ _ _ _ rfl ?_
    refine zw_Ar (hs 19 _ rfl) (b1_) (by first | rfl | (rw [b2_]; rfl)) (j := i) (by omega) (by omega) (zm_nv hvv_) ?_
    refine hs 20 _ rfl _ _ _ _ _ _ _ rfl ?_
    refine hs 21 _ rfl _ _ _ _ _ _ _ _ _ (x2_.1) a2_.1 rfl ?_
    refine hs 22 _ rfl _ _ _ _ _ _ _ _ _ (s1_.1) s1_.2 rfl ?_
    refine hs 23 _ rfl _ _ _ _ _ _ _ rfl ?_
    refine zw_Ar (hs 24 _ rfl) (b1_) (by first | rfl | (rw [b2_]; rfl)) (j := i2) (by omega) (by omega) (zm_nv hvv2_) ?_
    refine zw_cm (hs 25 _ rfl) (a := [.ref v_, .ref v2_]) (st := []) 3 148 rfl rfl (Nat.le_of_ble_eq_true rfl) ⟨_, _, _, rfl, n1_, n2_⟩ (by omega) (by omega) (zn_times_M g n1_ n2_ n3_ n4_ n5_ p1_ p2_ p3_ p4_ p5_ (by omega) (by omega) (by omega) (by omega) fun h3_ q3_ g3_ z3_ => ?_)
    show S 50 [some (.ref x), some (.int (Int32.ofInt (i : Int))), some (.int (Int32.ofInt (i2 : Int))), none] [.ref q3_] _ _ _
    have x3_ := x2_.g g3_ fun _ _ => rfl
    obtain ⟨rt_, rd_, rtd_, rb_, rds_, r1_, r2_, r3_, r4_, r5_⟩ := id z3_
    have ia_ : sp_in (c.2.1.getD i 0) := hok.get hi
    have ib_ : sp_in (c.2.1.getD i2 0) := hok.get hi2
    have hb_ : ((c.2.1.getD i 0 * c.2.1.getD i2 0).natAbs : Int) < 10 ^ 72 := zm_mulb ia_ ib_
    have rl_ : rds_.length ≤ 72 := zm_big r5_ (by decide) hb_
    have md_ := zm_dg r5_
    have mu_ := md_.le (n := 72) (by decide) hb_
    refine hs 26 _ rfl _ _ _ _ _ _ _ rfl ?_
    refine hs 27 _ rfl _ _ _ _ _ _ _ rfl ?_
    refine hs 28 _ rfl _ _ _ _ _ _ _ rfl ?_
    refine zw_c (hs 29 _ rfl) (a := [.ref q3_]) (st := [.ref x]) rfl rfl (Nat.le_of_ble_eq_true rfl) ⟨_, _, _, rfl, r1_, r2_⟩ (by omega) (by omega) (zn_many_M g r1_ r2_ r3_ r4_ r5_ (by omega) ?_)
    show S 56 [some (.ref x), some (.int (Int32.ofInt (i : Int))), some (.int (Int32.ofInt (i2 : Int))), some (.ref q3_)] [.int (Int32.ofInt ((if rds_.length = 0 then 1 else rds_.length : Nat) : Int)), .ref x] _ _ _
    by_cases c2_ : sp_in (c.2.1.getD i 0 * c.2.1.getD i2 0)
    · have ml_ := md_.le (n := 36) (by decide) (sp_in.abs.mp c2_)
      refine hs 30 _ rfl _ _ _ _ _ _ _ rfl ?_
      refine hs 31 _ rfl _ _ _ _ _ _ _ (fun _ => ?_) (fun zq => absurd (hd_c2t (c := 5) (by omega) (by omega) (by omega) (by omega) (by omega : (((if rds_.length = 0 then 1 else rds_.length : Nat) : Int) - (36 : Int)) ≤ 0)) zq)
      refine hs 34 _ rfl _ _ _ _ _ _ _ rfl ?_
      refine hs 35 _ rfl _ _ _ _ _ _ _ rfl ?_
      refine zw_c (hs 36 _ rfl) (a := [.ref x, .int (Int32.ofInt (0 : Int)), .int (Int32.ofInt (2 : Int))]) (st := []) rfl rfl (Nat.le_of_ble_eq_true rfl) ⟨_, _, _, rfl, x3_.1, a2_.1⟩ (by omega) (by omega) (zm_refuse_M g x3_ (i_ := 0) (w_ := 2) (Or.inl rfl) (by decide) (fun y_ => absurd y_ (by decide)) (fun y_ => ?_))
      show S 70 [some (.ref x), some (.int (Int32.ofInt (i : Int))), some (.int (Int32.ofInt (i2 : Int))), some (.ref q3_)] [.int (Int32.ofInt (0 : Int))] _ _ _
      refine hs 37 _ rfl _ _ _ _ _ _ (fun _ => ?_) (fun zq => absurd (hd_c1t (c := 0) (by omega) (by omega) (by omega : (0 : Int) = 0)) zq)
      refine hs 40 _ rfl _ _ _ _ _ _ _ rfl ?_
      refine hs 41 _ rfl _ _ _ _ _ _ _ rfl ?_
      refine hs 42 _ rfl _ _ _ _ _ _ _ rfl ?_
      refine zw_cm (hs 43 _ rfl) (a := [.ref x, .int (Int32.ofInt (i : Int)), .ref q3_]) (st := []) 14 69 rfl rfl (Nat.le_of_ble_eq_true rfl) (zm_rc x3_) (by omega) (by omega) (zm_put_M g x3_ hok hp12 rfl hi z3_ c2_ (by omega) (by omega) fun h4_ d_ f4_ x4_ dg_ => ?_)
      show S 83 [some (.ref x), some (.int (Int32.ofInt (i : Int))), some (.int (Int32.ofInt (i2 : Int))), some (.ref q3_)] [.int (Int32.ofInt (d_ : Int))] _ _ _
      exact hs 44 _ rfl _ _ _ _ _ (rv _) (by omega) (by omega) (hP _ _ _ _ (Or.inl ⟨c1_, Or.inl ⟨c2_, rfl, rfl, d_, rfl, dg_⟩⟩) ((f2_.tr (zm_fr.g g3_)).tr f4_) x4_)
    · have ml_ := md_.gt (n := 36) (fun y_ => c2_ (sp_in.abs.mpr y_))
      refine hs 30 _ rfl _ _ _ _ _ _ _ rfl ?_
      refine hs 31 _ rfl _ _ _ _ _ _ _ (fun zq => absurd (hd_c2z (c := 5) (by omega) (by omega) (by omega) (by omega) zq) (by omega : ¬ ((((if rds_.length = 0 then 1 else rds_.length : Nat) : Int) - (36 : Int)) ≤ 0))) (fun _ => ?_)
      refine hs 32 _ rfl _ _ _ _ _ _ _ rfl ?_
      refine hs 33 _ rfl _ _ _ _ _ ?_
      refine hs 35 _ rfl _ _ _ _ _ _ _ rfl ?_
      refine zw_c (hs 36 _ rfl) (a := [.ref x, .int (Int32.ofInt (1 : Int)), .int (Int32.ofInt (2 : Int))]) (st := []) rfl rfl (Nat.le_of_ble_eq_true rfl) ⟨_, _, _, rfl, x3_.1, a2_.1⟩ (by omega) (by omega) (zm_refuse_M g x3_ (i_ := 1) (w_ := 2) (Or.inr rfl) (by decide) (fun y_ h4_ f4_ x4_ => ?_) (fun y_ => absurd y_ (by decide)))
      show S 70 [some (.ref x), some (.int (Int32.ofInt (i : Int))), some (.int (Int32.ofInt (i2 : Int))), some (.ref q3_)] [.int (Int32.ofInt (1 : Int))] _ _ _
      refine hs 37 _ rfl _ _ _ _ _ _ (fun zq => absurd (hd_c1z (c := 0) (by omega) (by omega) zq) (by omega : ¬ ((1 : Int) = 0))) (fun _ => ?_)
      refine hs 38 _ rfl _ _ _ _ _ _ _ rfl ?_
      refine hs 39 _ rfl _ _ _ _ _ ?_
      exact hs 44 _ rfl _ _ _ _ _ (rv _) (by omega) (by omega) (hP _ _ _ _ (Or.inl ⟨c1_, Or.inr ⟨c2_, rfl, rfl⟩⟩) ((f2_.tr (zm_fr.g g3_)).tr f4_) ⟨_, _, _, _, x4_⟩)
