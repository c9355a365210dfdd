section
/-! THE CALLS OF THE REFERENCE: more of numbers, round the dial -/
set_option maxHeartbeats 4000000 in
theorem zm_lengthen_M {l : Launch} {G : am_G} {X : ck_XT} (g : gM l G X) {o : Nat → Nat} {x tx now qw : Nat} {th j m k : Int} {c : sp_S} {P : List sp_S} {h : List am_C} (hX : zm_x G h o x tx now qw th j m k c P) (hok : sp_ok c) (hp12 : P.length ≤ 12) {e e2 : Int} (he1 : -2147483648 ≤ e) (he2 : e ≤ 2147483647) (hf1 : -2147483648 ≤ e2) (hf2 : e2 ≤ 2147483647) {mc ms : Nat} {Post : am_O → List am_C → Prop} (hmc : 26 ≤ mc) (hms : 465 ≤ ms)
    (hP : ∀ (a th : Int) (T' : sp_T) (h' : List am_C), sp_d2 e e2 (c, P, j, m, k) a th T' → zm_fr G h h' → zm_Y G h' x th T' → Post (.inl (some (.int (Int32.ofInt a)))) h') :
    am_M l G yX14_lengthen (.code yX14_lengthen prog_14_method_13_code 4 (some .int)) 12 316 mc ms [.ref x, .int (Int32.ofInt e), .int (Int32.ofInt e2)] h Post := by
  refine gh_yX14_lengthen_X g (Nat.le_of_ble_eq_true rfl) fun S SX hs hr hw hx => ?_
  have rv : ∀ x : Int32, ck_fv 0 (.int x) := fun x => ⟨_, rfl⟩
  obtain ⟨a1_, a2_, a3_, a4_⟩ := id hX
  by_cases c1_ : sp_s1 e
  rotate_left
  · have c1b_ : ¬ (0 ≤ e ∧ e < 6) := c1_
    refine hs 0 _ rfl _ _ _ _ _ _ _ rfl ?_
    refine hs 1 _ rfl _ _ _ _ _ _ _ rfl ?_
    refine zw_c (hs 2 _ rfl) (a := [.int (Int32.ofInt e)]) (st := [.ref x]) rfl rfl (Nat.le_of_ble_eq_true rfl) trivial (by omega) (by omega) (zm_noSlot_M g (e := e) (by omega) (by omega) (fun y_ => ?_) (fun y_ => absurd y_ (by omega)))
    show S 5 [some (.ref x), some (.int (Int32.ofInt e)), some (.int (Int32.ofInt e2)), none] [.int (Int32.ofInt (1 : Int)), .ref x] _ _ _
    refine hs 3 _ rfl _ _ _ _ _ _ _ rfl ?_
    refine zw_c (hs 4 _ rfl) (a := [.ref x, .int (Int32.ofInt (1 : Int)), .int (Int32.ofInt (1 : Int))]) (st := []) rfl rfl (Nat.le_of_ble_eq_true rfl) ⟨_, _, _, rfl, a1_, a2_.1⟩ (by omega) (by omega) (zm_start_M g hX (i_ := 1) (w_ := 1) (Or.inr rfl) (by decide) (fun y_ h2_ f2_ x2_ => ?_) (fun y_ => absurd y_ (by decide)))
    show S 9 [some (.ref x), some (.int (Int32.ofInt e)), some (.int (Int32.ofInt e2)), none] [.int (Int32.ofInt (1 : Int))] _ _ _
    refine hs 5 _ rfl _ _ _ _ _ _ (fun _ => ?_) (fun zq => absurd (hd_c1t (c := 1) (by omega) (by omega) (by omega : (1 : Int) ≠ 0)) zq)
    refine hs 18 _ rfl _ _ _ _ _ _ _ rfl ?_
    exact hs 19 _ rfl _ _ _ _ _ (rv _) (by omega) (by omega) (hP 0 _ _ _ (Or.inr ⟨c1_, rfl, rfl⟩) f2_ ⟨_, _, _, _, x2_⟩)
  · 
    obtain ⟨i, rfl⟩ : ∃ i : Nat, e = (i : Int) := ⟨e.toNat, by have := c1_.1; omega⟩
    have hi : i < 6 := by have := c1_.2; omega
    have c1b_ := c1_.1
    have c1c_ := c1_.2
    by_cases c3_ : 0 ≤ e2 ∧ e2 < 1000000000
    rotate_left
    · 
      refine hs 0 _ rfl _ _ _ _ _ _ _ rfl ?_
      refine hs 1 _ rfl _ _ _ _ _ _ _ rfl ?_
      refine zw_c (hs 2 _ rfl) (a := [.int (Int32.ofInt (i : Int))]) (st := [.ref x]) rfl rfl (Nat.le_of_ble_eq_true rfl) trivial (by omega) (by omega) (zm_noSlot_M g (e := (i : Int)) (by omega) (by omega) (fun y_ => absurd (by omega) y_) (fun y_ => ?_))
      show S 5 [some (.ref x), some (.int (Int32.ofInt (i : Int))), some (.int (Int32.ofInt e2)), none] [.int (Int32.ofInt (0 : Int)), .ref x] _ _ _
      refine hs 3 _ rfl _ _ _ _ _ _ _ rfl ?_
      refine zw_c (hs 4 _ rfl) (a := [.ref x, .int (Int32.ofInt (0 : Int)), .int (Int32.ofInt (1 : Int))]) (st := []) rfl rfl (Nat.le_of_ble_eq_true rfl) ⟨_, _, _, rfl, a1_, a2_.1⟩ (by omega) (by omega) (zm_start_M g hX (i_ := 0) (w_ := 1) (Or.inl rfl) (by decide) (fun y_ => absurd y_ (by decide)) (fun y_ h2_ f2_ x2_ => ?_))
      show S 9 [some (.ref x), some (.int (Int32.ofInt (i : Int))), some (.int (Int32.ofInt e2)), none] [.int (Int32.ofInt (0 : Int))] _ _ _
      refine hs 5 _ rfl _ _ _ _ _ _ (fun zq => absurd (hd_c1z (c := 1) (by omega) (by omega) zq) (by omega : ¬ ((0 : Int) ≠ 0))) (fun _ => ?_)
      refine hs 6 _ rfl _ _ _ _ _ _ _ rfl ?_
      refine hs 7 _ rfl _ _ _ _ _ _ _ rfl ?_
      refine hs 8 _ rfl _ _ _ _ _ _ _ rfl ?_
      refine hs 9 _ rfl _ _ _ _ _ _ _ rfl ?_
      refine zw_c (hs 10 _ rfl) (a := [.int (Int32.ofInt e2), .int (Int32.ofInt (0 : Int)), .int (Int32.ofInt (999999999 : Int))]) (st := [.ref x]) rfl rfl (Nat.le_of_ble_eq_true rfl) trivial (by omega) (by omega) (zm_isIn_M g (v := e2) (a := 0) (b := 999999999) (by omega) (by omega) (by omega) (by omega) (by omega) (by omega) (fun y_ => absurd y_ (by omega)) (fun y_ => ?_))
      show S 20 [some (.ref x), some (.int (Int32.ofInt (i : Int))), some (.int (Int32.ofInt e2)), none] [.int (Int32.ofInt (0 : Int)), .ref x] _ _ _
      refine hs 11 _ rfl _ _ _ _ _ _ (fun zq => absurd (hd_c1z (c := 1) (by omega) (by omega) zq) (by omega : ¬ ((0 : Int) ≠ 0))) (fun _ => ?_)
      refine hs 12 _ rfl _ _ _ _ _ _ _ rfl ?_
      refine hs 13 _ rfl _ _ _ _ _ ?_
      refine hs 15 _ rfl _ _ _ _ _ _ _ rfl ?_
      refine zw_c (hs 16 _ rfl) (a := [.ref x, .int (Int32.ofInt (1 : Int)), .int (Int32.ofInt (2 : Int))]) (st := []) rfl rfl (Nat.le_of_ble_eq_true rfl) ⟨_, _, _, rfl, x2_.1, a2_.1⟩ (by omega) (by omega) (zm_refuse_M g x2_ (i_ := 1) (w_ := 2) (Or.inr rfl) (by decide) (fun y_ h3_ f3_ x3_ => ?_) (fun y_ => absurd y_ (by decide)))
      show S 32 [some (.ref x), some (.int (Int32.ofInt (i : Int))), some (.int (Int32.ofInt e2)), none] [.int (Int32.ofInt (1 : Int))] _ _ _
      refine hs 17 _ rfl _ _ _ _ _ _ (fun zq => absurd (hd_c1z (c := 0) (by omega) (by omega) zq) (by omega : ¬ ((1 : Int) = 0))) (fun _ => ?_)
      refine hs 18 _ rfl _ _ _ _ _ _ _ rfl ?_
      exact hs 19 _ rfl _ _ _ _ _ (rv _) (by omega) (by omega) (hP 0 _ _ _ (Or.inl ⟨c1_, Or.inr ⟨c3_, rfl, rfl⟩⟩) (f2_.tr f3_) ⟨_, _, _, _, x3_⟩)
    · 
      refine hs 0 _ rfl _ _ _ _ _ _ _ rfl ?_
      refine hs 1 _ rfl _ _ _ _ _ _ _ rfl ?_
      refine zw_c (hs 2 _ rfl) (a := [.int (Int32.ofInt (i : Int))]) (st := [.ref x]) rfl rfl (Nat.le_of_ble_eq_true rfl) trivial (by omega) (by omega) (zm_noSlot_M g (e := (i : Int)) (by omega) (by omega) (fun y_ => absurd (by omega) y_) (fun y_ => ?_))
      show S 5 [some (.ref x), some (.int (Int32.ofInt (i : Int))), some (.int (Int32.ofInt e2)), none] [.int (Int32.ofInt (0 : Int)), .ref x] _ _ _
      refine hs 3 _ rfl _ _ _ _ _ _ _ rfl ?_
      refine zw_c (hs 4 _ rfl) (a := [.ref x, .int (Int32.ofInt (0 : Int)), .int (Int32.ofInt (1 : Int))]) (st := []) rfl rfl (Nat.le_of_ble_eq_true rfl) ⟨_, _, _, rfl, a1_, a2_.1⟩ (by omega) (by omega) (zm_start_M g hX (i_ := 0) (w_ := 1) (Or.inl rfl) (by decide) (fun y_ => absurd y_ (by decide)) (fun y_ h2_ f2_ x2_ => ?_))
      have ok1_ := hok.2.1.1
      obtain ⟨t_, qn_, tn_, ql_, qb_, vn_, s1_, ⟨b1_, b2_, b3_⟩, ⟨d1_, d2_⟩, up_⟩ := x2_.numL
      obtain ⟨v_, hvv_⟩ : ∃ v_, vn_[i]? = some v_ := ⟨_, List.getElem?_eq_getElem (by omega)⟩
      have gzv_ : c.2.1[i]? = some (c.2.1.getD i 0) := sb_ge (by omega)
      obtain ⟨nt_, nd_, ntd_, nb_, nds_, n1_, n2_, n3_, n4_, n5_⟩ := d2_ _ _ _ hvv_ gzv_
      have nl_ : nds_.length ≤ 36 := zm_len n5_ (hok.get (by omega))
      show S 9 [some (.ref x), some (.int (Int32.ofInt (i : Int))), some (.int (Int32.ofInt e2)), none] [.int (Int32.ofInt (0 : Int))] _ _ _
      refine hs 5 _ rfl _ _ _ _ _ _ (fun zq => absurd (hd_c1z (c := 1) (by omega) (by omega) zq) (by omega : ¬ ((0 : Int) ≠ 0))) (fun _ => ?_)
      refine hs 6 _ rfl _ _ _ _ _ _ _ rfl ?_
      refine hs 7 _ rfl _ _ _ _ _ _ _ rfl ?_
      refine hs 8 _ rfl _ _ _ _ _ _ _ rfl ?_
      refine hs 9 _ rfl _ _ _ _ _ _ _ rfl ?_
      refine zw_c (hs 10 _ rfl) (a := [.int (Int32.ofInt e2), .int (Int32.ofInt (0 : Int)), .int (Int32.ofInt (999999999 : Int))]) (st := [.ref x]) rfl rfl (Nat.le_of_ble_eq_true rfl) trivial (by omega) (by omega) (zm_isIn_M g (v := e2) (a := 0) (b := 999999999) (by omega) (by omega) (by omega) (by omega) (by omega) (by omega) (fun y_ => ?_) (fun y_ => absurd (by omega) y_))
      show S 20 [some (.ref x), some (.int (Int32.ofInt (i : Int))), some (.int (Int32.ofInt e2)), none] [.int (Int32.ofInt (1 : Int)), .ref x] _ _ _
      refine hs 11 _ rfl _ _ _ _ _ _ (fun _ => ?_) (fun zq => absurd (hd_c1t (c := 1) (by omega) (by omega) (by omega : (1 : Int) ≠ 0)) zq)
      refine hs 14 _ rfl _ _ _ _ _ _ _ rfl ?_
      refine hs 15 _ rfl _ _ _ _ _ _ _ rfl ?_
      refine zw_c (hs 16 _ rfl) (a := [.ref x, .int (Int32.ofInt (0 : Int)), .int (Int32.ofInt (2 : Int))]) (st := []) rfl rfl (Nat.le_of_ble_eq_true rfl) ⟨_, _, _, rfl, x2_.1, a2_.1⟩ (by omega) (by omega) (zm_refuse_M g x2_ (i_ := 0) (w_ := 2) (Or.inl rfl) (by decide) (fun y_ => absurd y_ (by decide)) (fun y_ => ?_))
      show S 32 [some (.ref x), some (.int (Int32.ofInt (i : Int))), some (.int (Int32.ofInt e2)), none] [.int (Int32.ofInt (0 : Int))] _ _ _
      refine hs 17 _ rfl _ _ _ _ _ _ (fun _ => ?_) (fun zq => absurd (hd_c1t (c := 0) (by omega) (by omega) (by omega : (0 : Int) = 0)) zq)
      refine hs 20 _ rfl _ _ _ _ _ _ _ rfl ?_
      refine hs 21 _ rfl _ _ _ _ _ _ _ _ _ (x2_.1) a2_.1 rfl ?_
      refine hs 22 _ rfl _ _ _ _ _ _ _ _ _ (s1_.1) s1_.2 rfl ?_
      refine hs 23 _ rfl _ _ _ _ _ _ _ rfl ?_
      refine zw_Ar (hs 24 _ rfl) (b1_) (by first | rfl | (rw [b2_]; rfl)) (j := i) (by omega) (by omega) (zm_nv hvv_) ?_
      refine hs 25 _ rfl _ _ _ _ _ _ _ rfl ?_
      refine zw_cm (hs 26 _ rfl) (a := [.long (Int64.ofInt (1000000000 : Int))]) (st := [.ref v_]) 3 42 rfl rfl (Nat.le_of_ble_eq_true rfl) trivial (by omega) (by omega) (zn_of_M g (v := 1000000000) (by omega) (by omega) (by omega) (by omega) fun h3_ q3_ g3_ z3_ => ?_)
      obtain ⟨pt_, pd_, ptd_, pb_, pds_, p1_, p2_, p3_, p4_, p5_⟩ := id z3_
      have pl_ : pds_.length ≤ 10 := zm_big p5_ (by decide) (by decide)
      have m1_ := g3_.2 _ _ n1_
      have m3_ := g3_.2 _ _ n3_
      show S 52 [some (.ref x), some (.int (Int32.ofInt (i : Int))), some (.int (Int32.ofInt e2)), none] [.ref q3_, .ref v_] _ _ _
      refine zw_cm (hs 27 _ rfl) (a := [.ref v_, .ref q3_]) (st := []) 3 148 rfl rfl (Nat.le_of_ble_eq_true rfl) ⟨_, _, _, rfl, m1_, n2_⟩ (by omega) (by omega) (zn_times_M g m1_ n2_ m3_ n4_ n5_ p1_ p2_ p3_ p4_ p5_ (by omega) (by omega) (by omega) (by omega) fun h4_ q4_ g4_ z4_ => ?_)
      show S 55 [some (.ref x), some (.int (Int32.ofInt (i : Int))), some (.int (Int32.ofInt e2)), none] [.ref q4_] _ _ _
      refine hs 28 _ rfl _ _ _ _ _ _ _ rfl ?_
      refine hs 29 _ rfl _ _ _ _ _ _ _ (hd_i2l (by omega) (by omega)) ?_
      refine zw_cm (hs 30 _ rfl) (a := [.long (Int64.ofInt e2)]) (st := [.ref q4_]) 3 42 rfl rfl (Nat.le_of_ble_eq_true rfl) trivial (by omega) (by omega) (zn_of_M g (v := e2) (by omega) (by omega) (by omega) (by omega) fun h5_ q5_ g5_ z5_ => ?_)
      have z4b_ := z4_.g g5_
      obtain ⟨ut_, ud_, utd_, ub_, uds_, u1_, u2_, u3_, u4_, u5_⟩ := id z4b_
      obtain ⟨wt_, wd_, wtd_, wb_, wds_, w1_, w2_, w3_, w4_, w5_⟩ := id z5_
      have ia_ : sp_in (c.2.1.getD i 0) := hok.get hi
      unfold sp_in at ia_
      have ul_ : uds_.length ≤ 46 := zm_big u5_ (by decide) (by rw [show (10 : Int) ^ 46 = 10000000000000000000000000000000000000000000000 from by decide]; omega)
      have wl_ : wds_.length ≤ 10 := zm_big w5_ (by decide) (by rw [show (10 : Int) ^ 10 = 10000000000 from by decide]; omega)
      show S 60 [some (.ref x), some (.int (Int32.ofInt (i : Int))), some (.int (Int32.ofInt e2)), none] [.ref q5_, .ref q4_] _ _ _
      refine zw_cm (hs 31 _ rfl) (a := [.ref q4_, .ref q5_]) (st := []) 3 164 rfl rfl (Nat.le_of_ble_eq_true rfl) ⟨_, _, _, rfl, u1_, u2_⟩ (by omega) (by omega) (zn_plus_M g u1_ u2_ u3_ u4_ u5_ w1_ w2_ w3_ w4_ w5_ (M := max uds_.length wds_.length) (by omega) (by omega) (by omega) (by omega) (by omega) (by omega) fun h6_ q6_ g6_ z6_ => ?_)
      show S 63 [some (.ref x), some (.int (Int32.ofInt (i : Int))), some (.int (Int32.ofInt e2)), none] [.ref q6_] _ _ _
      have x6_ := (((x2_.g g3_ fun _ _ => rfl).g g4_ fun _ _ => rfl).g g5_ fun _ _ => rfl).g g6_ fun _ _ => rfl
      obtain ⟨rt_, rd_, rtd_, rb_, rds_, r1_, r2_, r3_, r4_, r5_⟩ := id z6_
      have hb_ : ((c.2.1.getD i 0 * 1000000000 + e2).natAbs : Int) < 10 ^ 72 := by
        rw [show (10 : Int) ^ 72 = 1000000000000000000000000000000000000000000000000000000000000000000000000 from by decide]
        omega
      have rl_ : rds_.length ≤ 72 := zm_big r5_ (by decide) hb_
      have md_ := zm_dg r5_
      have mu_ := md_.le (n := 72) (by decide) hb_
      refine hs 32 _ rfl _ _ _ _ _ _ _ rfl ?_
      refine hs 33 _ rfl _ _ _ _ _ _ _ rfl ?_
      refine hs 34 _ rfl _ _ _ _ _ _ _ rfl ?_
      refine zw_c (hs 35 _ rfl) (a := [.ref q6_]) (st := [.ref x]) rfl rfl (Nat.le_of_ble_eq_true rfl) ⟨_, _, _, rfl, r1_, r2_⟩ (by omega) (by omega) (zn_many_M g r1_ r2_ r3_ r4_ r5_ (by omega) ?_)
      show S 69 [some (.ref x), some (.int (Int32.ofInt (i : Int))), some (.int (Int32.ofInt e2)), some (.ref q6_)] [.int (Int32.ofInt ((if rds_.length = 0 then 1 else rds_.length : Nat) : Int)), .ref x] _ _ _
      by_cases c2_ : sp_in (c.2.1.getD i 0 * 1000000000 + e2)
      · have ml_ := md_.le (n := 36) (by decide) (sp_in.abs.mp c2_)
        refine hs 36 _ rfl _ _ _ _ _ _ _ rfl ?_
        refine hs 37 _ rfl _ _ _ _ _ _ _ (fun _ => ?_) (fun zq => absurd (hd_c2t (c := 5) (by omega) (by omega) (by omega) (by omega) (by omega : (((if rds_.length = 0 then 1 else rds_.length : Nat) : Int) - (36 : Int)) ≤ 0)) zq)
        refine hs 40 _ rfl _ _ _ _ _ _ _ rfl ?_
        refine hs 41 _ rfl _ _ _ _ _ _ _ rfl ?_
        refine zw_c (hs 42 _ rfl) (a := [.ref x, .int (Int32.ofInt (0 : Int)), .int (Int32.ofInt (3 : Int))]) (st := []) rfl rfl (Nat.le_of_ble_eq_true rfl) ⟨_, _, _, rfl, x6_.1, a2_.1⟩ (by omega) (by omega) (zm_refuse_M g x6_ (i_ := 0) (w_ := 3) (Or.inl rfl) (by decide) (fun y_ => absurd y_ (by decide)) (fun y_ => ?_))
        show S 83 [some (.ref x), some (.int (Int32.ofInt (i : Int))), some (.int (Int32.ofInt e2)), some (.ref q6_)] [.int (Int32.ofInt (0 : Int))] _ _ _
        refine hs 43 _ rfl _ _ _ _ _ _ (fun _ => ?_) (fun zq => absurd (hd_c1t (c := 0) (by omega) (by omega) (by omega : (0 : Int) = 0)) zq)
        refine hs 46 _ rfl _ _ _ _ _ _ _ rfl ?_
        refine hs 47 _ rfl _ _ _ _ _ _ _ rfl ?_
        refine hs 48 _ rfl _ _ _ _ _ _ _ rfl ?_
        refine zw_cm (hs 49 _ rfl) (a := [.ref x, .int (Int32.ofInt (i : Int)), .ref q6_]) (st := []) 14 69 rfl rfl (Nat.le_of_ble_eq_true rfl) (zm_rc x6_) (by omega) (by omega) (zm_put_M g x6_ hok hp12 rfl hi z6_ c2_ (by omega) (by omega) fun h7_ d_ f7_ x7_ dg_ => ?_)
        show S 96 [some (.ref x), some (.int (Int32.ofInt (i : Int))), some (.int (Int32.ofInt e2)), some (.ref q6_)] [.int (Int32.ofInt (d_ : Int))] _ _ _
        exact hs 50 _ rfl _ _ _ _ _ (rv _) (by omega) (by omega) (hP _ _ _ _ (Or.inl ⟨c1_, Or.inl ⟨c3_, Or.inl ⟨c2_, rfl, rfl, d_, rfl, dg_⟩⟩⟩) ((f2_.tr (((zm_fr.g g3_).tr (zm_fr.g g4_)).tr ((zm_fr.g g5_).tr (zm_fr.g g6_)))).tr f7_) x7_)
      · have ml_ := md_.gt (n := 36) (fun y_ => c2_ (sp_in.abs.mpr y_))
        refine hs 36 _ rfl _ _ _ _ _ _ _ rfl ?_
        refine hs 37 _ rfl _ _ _ _ _ _ _ (fun zq => absurd (hd_c2z (c := 5) (by omega) (by omega) (by omega) (by omega) zq) (by omega : ¬ ((((if rds_.length = 0 then 1 else rds_.length : Nat) : Int) - (36 : Int)) ≤ 0))) (fun _ => ?_)
        refine hs 38 _ rfl _ _ _ _ _ _ _ rfl ?_
        refine hs 39 _ rfl _ _ _ _ _ ?_
        refine hs 41 _ rfl _ _ _ _ _ _ _ rfl ?_
        refine zw_c (hs 42 _ rfl) (a := [.ref x, .int (Int32.ofInt (1 : Int)), .int (Int32.ofInt (3 : Int))]) (st := []) rfl rfl (Nat.le_of_ble_eq_true rfl) ⟨_, _, _, rfl, x6_.1, a2_.1⟩ (by omega) (by omega) (zm_refuse_M g x6_ (i_ := 1) (w_ := 3) (Or.inr rfl) (by decide) (fun y_ h7_ f7_ x7_ => ?_) (fun y_ => absurd y_ (by decide)))
        show S 83 [some (.ref x), some (.int (Int32.ofInt (i : Int))), some (.int (Int32.ofInt e2)), some (.ref q6_)] [.int (Int32.ofInt (1 : Int))] _ _ _
        refine hs 43 _ rfl _ _ _ _ _ _ (fun zq => absurd (hd_c1z (c := 0) (by omega) (by omega) zq) (by omega : ¬ ((1 : Int) = 0))) (fun _ => ?_)
        refine hs 44 _ rfl _ _ _ _ _ _ _ rfl ?_
        refine hs 45 _ rfl _ _ _ _ _ ?_
        exact hs 50 _ rfl _ _ _ _ _ (rv _) (by omega) (by omega) (hP _ _ _ _ (Or.inl ⟨c1_, Or.inl ⟨c3_, Or.inr ⟨c2_, rfl, rfl⟩⟩⟩) ((f2_.tr (((zm_fr.g g3_).tr (zm_fr.g g4_)).tr ((zm_fr.g g5_).tr (zm_fr.g g6_)))).tr f7_) ⟨_, _, _, _, x7_⟩)
set_option maxHeartbeats 4000000 in
theorem zm_negate_M {l : Launch} {G : am_G} {X : ck_XT} (g : gM l G X) {o : Nat → Nat} {x tx now qw : Nat} {th j m k : Int} {c : sp_S} {P : List sp_S} {h : List am_C} (hX : zm_x G h o x tx now qw th j m k c P) (hok : sp_ok c) (hp12 : P.length ≤ 12) {e e2 : Int} (he1 : -2147483648 ≤ e) (he2 : e ≤ 2147483647) {mc ms : Nat} {Post : am_O → List am_C → Prop} (hmc : 16 ≤ mc) (hms : 107 ≤ ms)
    (hP : ∀ (a th : Int) (T' : sp_T) (h' : List am_C), sp_d5 e e2 (c, P, j, m, k) a th T' → zm_fr G h h' → zm_Y G h' x th T' → Post (.inl (some (.int (Int32.ofInt a)))) h') :
    am_M l G yX14_negate (.code yX14_negate prog_14_method_16_code 2 (some .int)) 12 316 mc ms [.ref x, .int (Int32.ofInt e)] h Post := by
  refine gh_yX14_negate_X g (Nat.le_of_ble_eq_true rfl) fun S SX hs hr hw hx => ?_
  have rv : ∀ x : Int32, ck_fv 0 (.int x) := fun x => ⟨_, rfl⟩
  obtain ⟨a1_, a2_, a3_, a4_⟩ := id hX
  by_cases c1_ : sp_s1 e
  rotate_left
  · have c1b_ : ¬ (0 ≤ e ∧ e < 6) := c1_
    refine hs 0 _ rfl _ _ _ _ _ _ _ rfl ?_
    refine hs 1 _ rfl _ _ _ _ _ _ _ rfl ?_
    refine zw_c (hs 2 _ rfl) (a := [.int (Int32.ofInt e)]) (st := [.ref x]) rfl rfl (Nat.le_of_ble_eq_true rfl) trivial (by omega) (by omega) (zm_noSlot_M g (e := e) (by omega) (by omega) (fun y_ => ?_) (fun y_ => absurd y_ (by omega)))
    show S 5 [some (.ref x), some (.int (Int32.ofInt e))] [.int (Int32.ofInt (1 : Int)), .ref x] _ _ _
    refine hs 3 _ rfl _ _ _ _ _ _ _ rfl ?_
    refine zw_c (hs 4 _ rfl) (a := [.ref x, .int (Int32.ofInt (1 : Int)), .int (Int32.ofInt (1 : Int))]) (st := []) rfl rfl (Nat.le_of_ble_eq_true rfl) ⟨_, _, _, rfl, a1_, a2_.1⟩ (by omega) (by omega) (zm_start_M g hX (i_ := 1) (w_ := 1) (Or.inr rfl) (by decide) (fun y_ h2_ f2_ x2_ => ?_) (fun y_ => absurd y_ (by decide)))
    show S 9 [some (.ref x), some (.int (Int32.ofInt e))] [.int (Int32.ofInt (1 : Int))] _ _ _
    refine hs 5 _ rfl _ _ _ _ _ _ (fun zq => absurd (hd_c1z (c := 0) (by omega) (by omega) zq) (by omega : ¬ ((1 : Int) = 0))) (fun _ => ?_)
    refine hs 6 _ rfl _ _ _ _ _ _ _ rfl ?_
    exact hs 7 _ rfl _ _ _ _ _ (rv _) (by omega) (by omega) (hP 0 _ _ _ (Or.inr ⟨c1_, rfl, rfl⟩) f2_ ⟨_, _, _, _, x2_⟩)
  · 
    obtain ⟨i, rfl⟩ : ∃ i : Nat, e = (i : Int) := ⟨e.toNat, by have := c1_.1; omega⟩
    have hi : i < 6 := by have := c1_.2; omega
    have c1b_ := c1_.1
    have c1c_ := c1_.2
    refine hs 0 _ rfl _ _ _ _ _ _ _ rfl ?_
    refine hs 1 _ rfl _ _ _ _ _ _ _ rfl ?_
    refine zw_c (hs 2 _ rfl) (a := [.int (Int32.ofInt (i : Int))]) (st := [.ref x]) rfl rfl (Nat.le_of_ble_eq_true rfl) trivial (by omega) (by omega) (zm_noSlot_M g (e := (i : Int)) (by omega) (by omega) (fun y_ => absurd (by omega) y_) (fun y_ => ?_))
    show S 5 [some (.ref x), some (.int (Int32.ofInt (i : Int)))] [.int (Int32.ofInt (0 : Int)), .ref x] _ _ _
    refine hs 3 _ rfl _ _ _ _ _ _ _ rfl ?_
    refine zw_c (hs 4 _ rfl) (a := [.ref x, .int (Int32.ofInt (0 : Int)), .int (Int32.ofInt (1 : Int))]) (st := []) rfl rfl (Nat.le_of_ble_eq_true rfl) ⟨_, _, _, rfl, a1_, a2_.1⟩ (by omega) (by omega) (zm_start_M g hX (i_ := 0) (w_ := 1) (Or.inl rfl) (by decide) (fun y_ => absurd y_ (by decide)) (fun y_ h2_ f2_ x2_ => ?_))
    have ok1_ := hok.2.1.1
    obtain ⟨t_, qn_, tn_, ql_, qb_, vn_, s1_, ⟨b1_, b2_, b3_⟩, ⟨d1_, d2_⟩, up_⟩ := x2_.numL
    obtain ⟨v_, hvv_⟩ : ∃ v_, vn_[i]? = some v_ := ⟨_, List.getElem?_eq_getElem (by omega)⟩
    have gzv_ : c.2.1[i]? = some (c.2.1.getD i 0) := sb_ge (by omega)
    obtain ⟨nt_, nd_, ntd_, nb_, nds_, n1_, n2_, n3_, n4_, n5_⟩ := d2_ _ _ _ hvv_ gzv_
    have nl_ : nds_.length ≤ 36 := zm_len n5_ (hok.get (by omega))
    have ia_ : sp_in (c.2.1.getD i 0) := hok.get hi
    have in_ : sp_in (-(c.2.1.getD i 0)) := by unfold sp_in at ia_ ⊢; omega
    show S 9 [some (.ref x), some (.int (Int32.ofInt (i : Int)))] [.int (Int32.ofInt (0 : Int))] _ _ _
    refine hs 5 _ rfl _ _ _ _ _ _ (fun _ => ?_) (fun zq => absurd (hd_c1t (c := 0) (by omega) (by omega) (by omega : (0 : Int) = 0)) zq)
    refine hs 8 _ rfl _ _ _ _ _ _ _ rfl ?_
    refine hs 9 _ rfl _ _ _ _ _ _ _ rfl ?_
    refine hs 10 _ rfl _ _ _ _ _ _ _ rfl ?_
    refine hs 11 _ rfl _ _ _ _ _ _ _ _ _ (x2_.1) a2_.1 rfl ?_
    refine hs 12 _ rfl _ _ _ _ _ _ _ _ _ (s1_.1) s1_.2 rfl ?_
    refine hs 13 _ rfl _ _ _ _ _ _ _ rfl ?_
    refine zw_Ar (hs 14 _ rfl) (b1_) (by first | rfl | (rw [b2_]; rfl)) (j := i) (by omega) (by omega) (zm_nv hvv_) ?_
    refine zw_cm (hs 15 _ rfl) (a := [.ref v_]) (st := [.int (Int32.ofInt (i : Int)), .ref x]) 2 38 rfl rfl (Nat.le_of_ble_eq_true rfl) ⟨_, _, _, rfl, n1_, n2_⟩ (by omega) (by omega) (zn_turned_M g n1_ n2_ n3_ n4_ n5_ (by omega) (by omega) (by omega) fun h3_ q3_ g3_ z3_ => ?_)
    show S 28 [some (.ref x), some (.int (Int32.ofInt (i : Int)))] [.ref q3_, .int (Int32.ofInt (i : Int)), .ref x] _ _ _
    refine zw_cm (hs 16 _ rfl) (a := [.ref x, .int (Int32.ofInt (i : Int)), .ref q3_]) (st := []) 14 69 rfl rfl (Nat.le_of_ble_eq_true rfl) (zm_rc (x2_.g g3_ fun _ _ => rfl)) (by omega) (by omega) (zm_put_M g (x2_.g g3_ fun _ _ => rfl) hok hp12 rfl hi z3_ in_ (by omega) (by omega) fun h4_ d_ f4_ x4_ dg_ => ?_)
    show S 31 [some (.ref x), some (.int (Int32.ofInt (i : Int)))] [.int (Int32.ofInt (d_ : Int))] _ _ _
    refine hs 17 _ rfl _ _ _ _ _ _ _ rfl ?_
    obtain ⟨o5_, tx5_, now5_, qw5_, x5_⟩ := id x4_
    obtain ⟨t_, qn_, tn_, ql_, qb_, vn_, s1_, ⟨b1_, b2_, b3_⟩, ⟨d1_, d2_⟩, up_⟩ := x5_.numL
    have d1_ : vn_.length = (c.2.1.set i (-(c.2.1.getD i 0))).length := d1_
    rw [List.length_set] at d1_
    obtain ⟨v9_, hv9_⟩ : ∃ v_, vn_[i]? = some v_ := ⟨_, List.getElem?_eq_getElem (by omega)⟩
    obtain ⟨rt_, rd_, rtd_, rb_, rds_, r1_, r2_, r3_, r4_, r5_⟩ := d2_ i v9_ (-(c.2.1.getD i 0)) hv9_ (List.getElem?_set_self (by omega))
    have rl_ : rds_.length ≤ 36 := zm_len r5_ in_
    refine hs 18 _ rfl _ _ _ _ _ _ _ rfl ?_
    refine hs 19 _ rfl _ _ _ _ _ _ _ _ _ (x5_.1) x5_.2.1.1 rfl ?_
    refine hs 20 _ rfl _ _ _ _ _ _ _ _ _ (s1_.1) s1_.2 rfl ?_
    refine hs 21 _ rfl _ _ _ _ _ _ _ rfl ?_
    refine zw_Ar (hs 22 _ rfl) (b1_) (by first | rfl | (rw [b2_]; rfl)) (j := i) (by omega) (by omega) (zm_nv hv9_) ?_
    refine zw_c (hs 23 _ rfl) (a := [.ref v9_]) (st := []) rfl rfl (Nat.le_of_ble_eq_true rfl) ⟨_, _, _, rfl, r1_, r2_⟩ (by omega) (by omega) (zn_sign_M g r1_ r2_ r3_ r4_ r5_ (by omega) ?_)
    show S 44 [some (.ref x), some (.int (Int32.ofInt (i : Int)))] [.int (Int32.ofInt ((-(c.2.1.getD i 0)).sign))] _ _ _
    rw [Int.sign_neg]
    exact hs 24 _ rfl _ _ _ _ _ (rv _) (by omega) (by omega) (hP _ _ _ _ (Or.inl ⟨c1_, rfl, rfl, rfl⟩) ((f2_.tr (zm_fr.g g3_)).tr f4_) x4_)
set_option maxHeartbeats 4000000 in
theorem zm_reduce_M {l : Launch} {G : am_G} {X : ck_XT} (g : gM l G X) {o : Nat → Nat} {x tx now qw : Nat} {th j m k : Int} {c : sp_S} {P : List sp_S} {h : List am_C} (hX : zm_x G h o x tx now qw th j m k c P) (hok : sp_ok c) (hp12 : P.length ≤ 12) {e e2 : Int} (he1 : -2147483648 ≤ e) (he2 : e ≤ 2147483647) {mc ms : Nat} {Post : am_O → List am_C → Prop} (hmc : 17 ≤ mc) (hms : 111 ≤ ms)
    (hP : ∀ (a th : Int) (T' : sp_T) (h' : List am_C), sp_d6 e e2 (c, P, j, m, k) a th T' → zm_fr G h h' → zm_Y G h' x th T' → Post (.inl (some (.int (Int32.ofInt a)))) h') :
    am_M l G yX14_reduce (.code yX14_reduce prog_14_method_20_code 2 (some .int)) 13 338 mc ms [.ref x, .int (Int32.ofInt e)] h Post := by
  refine gh_yX14_reduce_X g (Nat.le_of_ble_eq_true rfl) fun S SX hs hr hw hx => ?_
  have rv : ∀ x : Int32, ck_fv 0 (.int x) := fun x => ⟨_, rfl⟩
  obtain ⟨a1_, a2_, a3_, a4_⟩ := id hX
  by_cases c1_ : sp_s1 e
  rotate_left
  · have c1b_ : ¬ (0 ≤ e ∧ e < 6) := c1_
    refine hs 0 _ rfl _ _ _ _ _ _ _ rfl ?_
    refine hs 1 _ rfl _ _ _ _ _ _ _ rfl ?_
    refine zw_c (hs 2 _ rfl) (a := [.int (Int32.ofInt e)]) (st := [.ref x]) rfl rfl (Nat.le_of_ble_eq_true rfl) trivial (by omega) (by omega) (zm_noSlot_M g (e := e) (by omega) (by omega) (fun y_ => ?_) (fun y_ => absurd y_ (by omega)))
    show S 5 [some (.ref x), some (.int (Int32.ofInt e))] [.int (Int32.ofInt (1 : Int)), .ref x] _ _ _
    refine hs 3 _ rfl _ _ _ _ _ _ _ rfl ?_
    refine zw_c (hs 4 _ rfl) (a := [.ref x, .int (Int32.ofInt (1 : Int)), .int (Int32.ofInt (1 : Int))]) (st := []) rfl rfl (Nat.le_of_ble_eq_true rfl) ⟨_, _, _, rfl, a1_, a2_.1⟩ (by omega) (by omega) (zm_start_M g hX (i_ := 1) (w_ := 1) (Or.inr rfl) (by decide) (fun y_ h2_ f2_ x2_ => ?_) (fun y_ => absurd y_ (by decide)))
    show S 9 [some (.ref x), some (.int (Int32.ofInt e))] [.int (Int32.ofInt (1 : Int))] _ _ _
    refine hs 5 _ rfl _ _ _ _ _ _ (fun zq => absurd (hd_c1z (c := 0) (by omega) (by omega) zq) (by omega : ¬ ((1 : Int) = 0))) (fun _ => ?_)
    refine hs 6 _ rfl _ _ _ _ _ _ _ rfl ?_
    refine hs 7 _ rfl _ _ _ _ _ ?_
    exact hs 14 _ rfl _ _ _ _ _ (rv _) (by omega) (by omega) (hP 0 _ _ _ (Or.inr ⟨c1_, rfl, rfl⟩) f2_ ⟨_, _, _, _, x2_⟩)
  · 
    obtain ⟨i, rfl⟩ : ∃ i : Nat, e = (i : Int) := ⟨e.toNat, by have := c1_.1; omega⟩
    have hi : i < 6 := by have := c1_.2; omega
    have c1b_ := c1_.1
    have c1c_ := c1_.2
    have okd_ := hok.1
    by_cases cj_ : c.1 ≤ 0
    · 
      refine hs 0 _ rfl _ _ _ _ _ _ _ rfl ?_
      refine hs 1 _ rfl _ _ _ _ _ _ _ rfl ?_
      refine zw_c (hs 2 _ rfl) (a := [.int (Int32.ofInt (i : Int))]) (st := [.ref x]) rfl rfl (Nat.le_of_ble_eq_true rfl) trivial (by omega) (by omega) (zm_noSlot_M g (e := (i : Int)) (by omega) (by omega) (fun y_ => absurd (by omega) y_) (fun y_ => ?_))
      show S 5 [some (.ref x), some (.int (Int32.ofInt (i : Int)))] [.int (Int32.ofInt (0 : Int)), .ref x] _ _ _
      refine hs 3 _ rfl _ _ _ _ _ _ _ rfl ?_
      refine zw_c (hs 4 _ rfl) (a := [.ref x, .int (Int32.ofInt (0 : Int)), .int (Int32.ofInt (1 : Int))]) (st := []) rfl rfl (Nat.le_of_ble_eq_true rfl) ⟨_, _, _, rfl, a1_, a2_.1⟩ (by omega) (by omega) (zm_start_M g hX (i_ := 0) (w_ := 1) (Or.inl rfl) (by decide) (fun y_ => absurd y_ (by decide)) (fun y_ h2_ f2_ x2_ => ?_))
      show S 9 [some (.ref x), some (.int (Int32.ofInt (i : Int)))] [.int (Int32.ofInt (0 : Int))] _ _ _
      refine hs 5 _ rfl _ _ _ _ _ _ (fun _ => ?_) (fun zq => absurd (hd_c1t (c := 0) (by omega) (by omega) (by omega : (0 : Int) = 0)) zq)
      refine hs 8 _ rfl _ _ _ _ _ _ _ rfl ?_
      refine hs 9 _ rfl _ _ _ _ _ _ _ rfl ?_
      refine hs 10 _ rfl _ _ _ _ _ _ _ rfl ?_
      refine hs 11 _ rfl _ _ _ _ _ _ _ rfl ?_
      refine zw_c (hs 12 _ rfl) (a := [.ref x, .int (Int32.ofInt (i : Int))]) (st := [.int (Int32.ofInt (i : Int)), .ref x]) rfl rfl (Nat.le_of_ble_eq_true rfl) (zm_rc x2_) (by omega) (by omega) (zm_modAt_M g x2_ hok rfl hi (fun y_ => ?_) (fun y_ => absurd y_ (by omega)))
      show S 23 [some (.ref x), some (.int (Int32.ofInt (i : Int)))] [.int (Int32.ofInt (-9 : Int)), .int (Int32.ofInt (i : Int)), .ref x] _ _ _
      refine zw_cm (hs 13 _ rfl) (a := [.ref x, .int (Int32.ofInt (i : Int)), .int (Int32.ofInt (-9 : Int))]) (st := []) 17 111 rfl rfl (Nat.le_of_ble_eq_true rfl) (zm_rc x2_) (by omega) (by omega) (zm_round_M g x2_ hok hp12 rfl hi (Or.inl rfl) (by omega) (by omega) (by omega) (fun y_ h4_ f4_ x4_ => ?_) (fun y_ => absurd y_ (by decide)) (fun y_ => absurd y_ (by decide)))
      show S 26 [some (.ref x), some (.int (Int32.ofInt (i : Int)))] [.int (Int32.ofInt (-9 : Int))] _ _ _
      exact hs 14 _ rfl _ _ _ _ _ (rv _) (by omega) (by omega) (hP _ _ _ _ (Or.inl ⟨c1_, rfl, Or.inl ⟨cj_, rfl, rfl⟩⟩) (f2_.tr f4_) ⟨_, _, _, _, x4_⟩)
    · have cp_ : 0 < c.1 := by omega
      have hm9_ : c.1 ≠ 0 := by omega
      have q1_ := Int.emod_nonneg (c.2.1.getD i 0) hm9_
      have q2_ := Int.emod_lt_of_pos (c.2.1.getD i 0) (show 0 < c.1 by omega)
      refine hs 0 _ rfl _ _ _ _ _ _ _ rfl ?_
      refine hs 1 _ rfl _ _ _ _ _ _ _ rfl ?_
      refine zw_c (hs 2 _ rfl) (a := [.int (Int32.ofInt (i : Int))]) (st := [.ref x]) rfl rfl (Nat.le_of_ble_eq_true rfl) trivial (by omega) (by omega) (zm_noSlot_M g (e := (i : Int)) (by omega) (by omega) (fun y_ => absurd (by omega) y_) (fun y_ => ?_))
      show S 5 [some (.ref x), some (.int (Int32.ofInt (i : Int)))] [.int (Int32.ofInt (0 : Int)), .ref x] _ _ _
      refine hs 3 _ rfl _ _ _ _ _ _ _ rfl ?_
      refine zw_c (hs 4 _ rfl) (a := [.ref x, .int (Int32.ofInt (0 : Int)), .int (Int32.ofInt (1 : Int))]) (st := []) rfl rfl (Nat.le_of_ble_eq_true rfl) ⟨_, _, _, rfl, a1_, a2_.1⟩ (by omega) (by omega) (zm_start_M g hX (i_ := 0) (w_ := 1) (Or.inl rfl) (by decide) (fun y_ => absurd y_ (by decide)) (fun y_ h2_ f2_ x2_ => ?_))
      show S 9 [some (.ref x), some (.int (Int32.ofInt (i : Int)))] [.int (Int32.ofInt (0 : Int))] _ _ _
      refine hs 5 _ rfl _ _ _ _ _ _ (fun _ => ?_) (fun zq => absurd (hd_c1t (c := 0) (by omega) (by omega) (by omega : (0 : Int) = 0)) zq)
      refine hs 8 _ rfl _ _ _ _ _ _ _ rfl ?_
      refine hs 9 _ rfl _ _ _ _ _ _ _ rfl ?_
      refine hs 10 _ rfl _ _ _ _ _ _ _ rfl ?_
      refine hs 11 _ rfl _ _ _ _ _ _ _ rfl ?_
      refine zw_c (hs 12 _ rfl) (a := [.ref x, .int (Int32.ofInt (i : Int))]) (st := [.int (Int32.ofInt (i : Int)), .ref x]) rfl rfl (Nat.le_of_ble_eq_true rfl) (zm_rc x2_) (by omega) (by omega) (zm_modAt_M g x2_ hok rfl hi (fun y_ => absurd y_ (by omega)) (fun y_ => ?_))
      show S 23 [some (.ref x), some (.int (Int32.ofInt (i : Int)))] [.int (Int32.ofInt (c.2.1.getD i 0 % c.1)), .int (Int32.ofInt (i : Int)), .ref x] _ _ _
      refine zw_cm (hs 13 _ rfl) (a := [.ref x, .int (Int32.ofInt (i : Int)), .int (Int32.ofInt (c.2.1.getD i 0 % c.1))]) (st := []) 17 111 rfl rfl (Nat.le_of_ble_eq_true rfl) (zm_rc x2_) (by omega) (by omega) (zm_round_M g x2_ hok hp12 rfl hi (Or.inr (Or.inr (by omega))) (by omega) (by omega) (by omega) (fun y_ => absurd y_ (by omega)) (fun y_ => absurd y_ (by omega)) (fun y_ h4_ f4_ x4_ => ?_))
      show S 26 [some (.ref x), some (.int (Int32.ofInt (i : Int)))] [.int (Int32.ofInt (c.2.1.getD i 0 % c.1))] _ _ _
      exact hs 14 _ rfl _ _ _ _ _ (rv _) (by omega) (by omega) (hP _ _ _ _ (Or.inl ⟨c1_, rfl, Or.inr ⟨cp_, rfl, Or.inr ⟨by omega, rfl⟩⟩⟩) (f2_.tr f4_) x4_)
set_option maxHeartbeats 4000000 in
theorem zm_roundInverse_M {l : Launch} {G : am_G} {X : ck_XT} (g : gM l G X) {o : Nat → Nat} {x tx now qw : Nat} {th j m k : Int} {c : sp_S} {P : List sp_S} {h : List am_C} (hX : zm_x G h o x tx now qw th j m k c P) (hok : sp_ok c) (hp12 : P.length ≤ 12) {e e2 : Int} (he1 : -2147483648 ≤ e) (he2 : e ≤ 2147483647) {mc ms : Nat} {Post : am_O → List am_C → Prop} (hmc : 17 ≤ mc) (hms : 111 ≤ ms)
    (hP : ∀ (a th : Int) (T' : sp_T) (h' : List am_C), sp_d10 e e2 (c, P, j, m, k) a th T' → zm_fr G h h' → zm_Y G h' x th T' → Post (.inl (some (.int (Int32.ofInt a)))) h') :
    am_M l G yX14_roundInverse (.code yX14_roundInverse prog_14_method_26_code 2 (some .int)) 13 338 mc ms [.ref x, .int (Int32.ofInt e)] h Post := by
  refine gh_yX14_roundInverse_X g (Nat.le_of_ble_eq_true rfl) fun S SX hs hr hw hx => ?_
  have rv : ∀ x : Int32, ck_fv 0 (.int x) := fun x => ⟨_, rfl⟩
  obtain ⟨a1_, a2_, a3_, a4_⟩ := id hX
  by_cases c1_ : sp_s1 e
  rotate_left
  · have c1b_ : ¬ (0 ≤ e ∧ e < 6) := c1_
    refine hs 0 _ rfl _ _ _ _ _ _ _ rfl ?_
    refine hs 1 _ rfl _ _ _ _ _ _ _ rfl ?_
    refine zw_c (hs 2 _ rfl) (a := [.int (Int32.ofInt e)]) (st := [.ref x]) rfl rfl (Nat.le_of_ble_eq_true rfl) trivial (by omega) (by omega) (zm_noSlot_M g (e := e) (by omega) (by omega) (fun y_ => ?_) (fun y_ => absurd y_ (by omega)))
    show S 5 [some (.ref x), some (.int (Int32.ofInt e))] [.int (Int32.ofInt (1 : Int)), .ref x] _ _ _
    refine hs 3 _ rfl _ _ _ _ _ _ _ rfl ?_
    refine zw_c (hs 4 _ rfl) (a := [.ref x, .int (Int32.ofInt (1 : Int)), .int (Int32.ofInt (1 : Int))]) (st := []) rfl rfl (Nat.le_of_ble_eq_true rfl) ⟨_, _, _, rfl, a1_, a2_.1⟩ (by omega) (by omega) (zm_start_M g hX (i_ := 1) (w_ := 1) (Or.inr rfl) (by decide) (fun y_ h2_ f2_ x2_ => ?_) (fun y_ => absurd y_ (by decide)))
    show S 9 [some (.ref x), some (.int (Int32.ofInt e))] [.int (Int32.ofInt (1 : Int))] _ _ _
    refine hs 5 _ rfl _ _ _ _ _ _ (fun zq => absurd (hd_c1z (c := 0) (by omega) (by omega) zq) (by omega : ¬ ((1 : Int) = 0))) (fun _ => ?_)
    refine hs 6 _ rfl _ _ _ _ _ _ _ rfl ?_
    refine hs 7 _ rfl _ _ _ _ _ ?_
    exact hs 14 _ rfl _ _ _ _ _ (rv _) (by omega) (by omega) (hP 0 _ _ _ (Or.inr ⟨c1_, rfl, rfl⟩) f2_ ⟨_, _, _, _, x2_⟩)
  · 
    obtain ⟨i, rfl⟩ : ∃ i : Nat, e = (i : Int) := ⟨e.toNat, by have := c1_.1; omega⟩
    have hi : i < 6 := by have := c1_.2; omega
    have c1b_ := c1_.1
    have c1c_ := c1_.2
    have okd_ := hok.1
    by_cases cj_ : c.1 ≤ 0
    · 
      refine hs 0 _ rfl _ _ _ _ _ _ _ rfl ?_
      refine hs 1 _ rfl _ _ _ _ _ _ _ rfl ?_
      refine zw_c (hs 2 _ rfl) (a := [.int (Int32.ofInt (i : Int))]) (st := [.ref x]) rfl rfl (Nat.le_of_ble_eq_true rfl) trivial (by omega) (by omega) (zm_noSlot_M g (e := (i : Int)) (by omega) (by omega) (fun y_ => absurd (by omega) y_) (fun y_ => ?_))
      show S 5 [some (.ref x), some (.int (Int32.ofInt (i : Int)))] [.int (Int32.ofInt (0 : Int)), .ref x] _ _ _
      refine hs 3 _ rfl _ _ _ _ _ _ _ rfl ?_
      refine zw_c (hs 4 _ rfl) (a := [.ref x, .int (Int32.ofInt (0 : Int)), .int (Int32.ofInt (1 : Int))]) (st := []) rfl rfl (Nat.le_of_ble_eq_true rfl) ⟨_, _, _, rfl, a1_, a2_.1⟩ (by omega) (by omega) (zm_start_M g hX (i_ := 0) (w_ := 1) (Or.inl rfl) (by decide) (fun y_ => absurd y_ (by decide)) (fun y_ h2_ f2_ x2_ => ?_))
      show S 9 [some (.ref x), some (.int (Int32.ofInt (i : Int)))] [.int (Int32.ofInt (0 : Int))] _ _ _
      refine hs 5 _ rfl _ _ _ _ _ _ (fun _ => ?_) (fun zq => absurd (hd_c1t (c := 0) (by omega) (by omega) (by omega : (0 : Int) = 0)) zq)
      refine hs 8 _ rfl _ _ _ _ _ _ _ rfl ?_
      refine hs 9 _ rfl _ _ _ _ _ _ _ rfl ?_
      refine hs 10 _ rfl _ _ _ _ _ _ _ rfl ?_
      refine hs 11 _ rfl _ _ _ _ _ _ _ rfl ?_
      refine zw_c (hs 12 _ rfl) (a := [.ref x, .int (Int32.ofInt (i : Int))]) (st := [.int (Int32.ofInt (i : Int)), .ref x]) rfl rfl (Nat.le_of_ble_eq_true rfl) (zm_rc x2_) (by omega) (by omega) (zm_inv_M g x2_ hok rfl hi (fun y_ => ?_) (fun y_ => absurd y_ (by omega)))
      show S 23 [some (.ref x), some (.int (Int32.ofInt (i : Int)))] [.int (Int32.ofInt (-9 : Int)), .int (Int32.ofInt (i : Int)), .ref x] _ _ _
      refine zw_cm (hs 13 _ rfl) (a := [.ref x, .int (Int32.ofInt (i : Int)), .int (Int32.ofInt (-9 : Int))]) (st := []) 17 111 rfl rfl (Nat.le_of_ble_eq_true rfl) (zm_rc x2_) (by omega) (by omega) (zm_round_M g x2_ hok hp12 rfl hi (Or.inl rfl) (by omega) (by omega) (by omega) (fun y_ h4_ f4_ x4_ => ?_) (fun y_ => absurd y_ (by decide)) (fun y_ => absurd y_ (by decide)))
      show S 26 [some (.ref x), some (.int (Int32.ofInt (i : Int)))] [.int (Int32.ofInt (-9 : Int))] _ _ _
      exact hs 14 _ rfl _ _ _ _ _ (rv _) (by omega) (by omega) (hP _ _ _ _ (Or.inl ⟨c1_, rfl, Or.inl ⟨cj_, rfl, rfl⟩⟩) (f2_.tr f4_) ⟨_, _, _, _, x4_⟩)
    · have cp_ : 0 < c.1 := by omega
      have hm9_ : c.1 ≠ 0 := by omega
      have q1_ := Int.emod_nonneg (c.2.1.getD i 0) hm9_
      have q2_ := Int.emod_lt_of_pos (c.2.1.getD i 0) (show 0 < c.1 by omega)
      refine hs 0 _ rfl _ _ _ _ _ _ _ rfl ?_
      refine hs 1 _ rfl _ _ _ _ _ _ _ rfl ?_
      refine zw_c (hs 2 _ rfl) (a := [.int (Int32.ofInt (i : Int))]) (st := [.ref x]) rfl rfl (Nat.le_of_ble_eq_true rfl) trivial (by omega) (by omega) (zm_noSlot_M g (e := (i : Int)) (by omega) (by omega) (fun y_ => absurd (by omega) y_) (fun y_ => ?_))
      show S 5 [some (.ref x), some (.int (Int32.ofInt (i : Int)))] [.int (Int32.ofInt (0 : Int)), .ref x] _ _ _
      refine hs 3 _ rfl _ _ _ _ _ _ _ rfl ?_
      refine zw_c (hs 4 _ rfl) (a := [.ref x, .int (Int32.ofInt (0 : Int)), .int (Int32.ofInt (1 : Int))]) (st := []) rfl rfl (Nat.le_of_ble_eq_true rfl) ⟨_, _, _, rfl, a1_, a2_.1⟩ (by omega) (by omega) (zm_start_M g hX (i_ := 0) (w_ := 1) (Or.inl rfl) (by decide) (fun y_ => absurd y_ (by decide)) (fun y_ h2_ f2_ x2_ => ?_))
      show S 9 [some (.ref x), some (.int (Int32.ofInt (i : Int)))] [.int (Int32.ofInt (0 : Int))] _ _ _
      refine hs 5 _ rfl _ _ _ _ _ _ (fun _ => ?_) (fun zq => absurd (hd_c1t (c := 0) (by omega) (by omega) (by omega : (0 : Int) = 0)) zq)
      refine hs 8 _ rfl _ _ _ _ _ _ _ rfl ?_
      refine hs 9 _ rfl _ _ _ _ _ _ _ rfl ?_
      refine hs 10 _ rfl _ _ _ _ _ _ _ rfl ?_
      refine hs 11 _ rfl _ _ _ _ _ _ _ rfl ?_
      refine zw_c (hs 12 _ rfl) (a := [.ref x, .int (Int32.ofInt (i : Int))]) (st := [.int (Int32.ofInt (i : Int)), .ref x]) rfl rfl (Nat.le_of_ble_eq_true rfl) (zm_rc x2_) (by omega) (by omega) (zm_inv_M g x2_ hok rfl hi (fun y_ => absurd y_ (by omega)) (fun y_ v_ hv_ => ?_))
      show S 23 [some (.ref x), some (.int (Int32.ofInt (i : Int)))] [.int (Int32.ofInt v_), .int (Int32.ofInt (i : Int)), .ref x] _ _ _
      have vb_ : v_ = -8 ∨ (0 ≤ v_ ∧ v_ < 400) := by
        rcases hv_ with ⟨-, y_⟩ | ⟨-, y1_, y2_, -⟩
        · exact Or.inl y_
        · exact Or.inr ⟨y1_, by omega⟩
      by_cases m8_ : v_ = -8
      · rw [m8_] at hv_ ⊢
        refine zw_cm (hs 13 _ rfl) (a := [.ref x, .int (Int32.ofInt (i : Int)), .int (Int32.ofInt (-8 : Int))]) (st := []) 17 111 rfl rfl (Nat.le_of_ble_eq_true rfl) (zm_rc x2_) (by omega) (by omega) (zm_round_M g x2_ hok hp12 rfl hi (Or.inr (Or.inl rfl)) (by omega) (by omega) (by omega) (fun y_ => absurd y_ (by decide)) (fun y_ h4_ f4_ x4_ => ?_) (fun y_ => absurd y_ (by decide)))
        show S 26 [some (.ref x), some (.int (Int32.ofInt (i : Int)))] [.int (Int32.ofInt (-8 : Int))] _ _ _
        exact hs 14 _ rfl _ _ _ _ _ (rv _) (by omega) (by omega) (hP _ _ _ _ (Or.inl ⟨c1_, rfl, Or.inr ⟨cp_, hv_, Or.inl ⟨rfl, rfl⟩⟩⟩) (f2_.tr f4_) ⟨_, _, _, _, x4_⟩)
      · 
        refine zw_cm (hs 13 _ rfl) (a := [.ref x, .int (Int32.ofInt (i : Int)), .int (Int32.ofInt v_)]) (st := []) 17 111 rfl rfl (Nat.le_of_ble_eq_true rfl) (zm_rc x2_) (by omega) (by omega) (zm_round_M g x2_ hok hp12 rfl hi (Or.inr (Or.inr (by omega))) (by omega) (by omega) (by omega) (fun y_ => absurd y_ (by omega)) (fun y_ => absurd y_ (by omega)) (fun y_ h4_ f4_ x4_ => ?_))
        show S 26 [some (.ref x), some (.int (Int32.ofInt (i : Int)))] [.int (Int32.ofInt v_)] _ _ _
        exact hs 14 _ rfl _ _ _ _ _ (rv _) (by omega) (by omega) (hP _ _ _ _ (Or.inl ⟨c1_, rfl, Or.inr ⟨cp_, hv_, Or.inr ⟨by omega, rfl⟩⟩⟩) (f2_.tr f4_) x4_)
set_option maxHeartbeats 4000000 in
theorem zm_roundPlus_M {l : Launch} {G : am_G} {X : ck_XT} (g : gM l G X) {o : Nat → Nat} {x tx now qw : Nat} {th j m k : Int} {c : sp_S} {P : List sp_S} {h : List am_C} (hX : zm_x G h o x tx now qw th j m k c P) (hok : sp_ok c) (hp12 : P.length ≤ 12) {e e2 : Int} (he1 : -2147483648 ≤ e) (he2 : e ≤ 2147483647) (hf1 : -2147483648 ≤ e2) (hf2 : e2 ≤ 2147483647) {mc ms : Nat} {Post : am_O → List am_C → Prop} (hmc : 17 ≤ mc) (hms : 111 ≤ ms)
    (hP : ∀ (a th : Int) (T' : sp_T) (h' : List am_C), sp_d7 e e2 (c, P, j, m, k) a th T' → zm_fr G h h' → zm_Y G h' x th T' → Post (.inl (some (.int (Int32.ofInt a)))) h') :
    am_M l G yX14_roundPlus (.code yX14_roundPlus prog_14_method_21_code 3 (some .int)) 13 338 mc ms [.ref x, .int (Int32.ofInt e), .int (Int32.ofInt e2)] h Post := by
  refine gh_yX14_roundPlus_X g (Nat.le_of_ble_eq_true rfl) fun S SX hs hr hw hx => ?_
  have rv : ∀ x : Int32, ck_fv 0 (.int x) := fun x => ⟨_, rfl⟩
  obtain ⟨a1_, a2_, a3_, a4_⟩ := id hX
  by_cases c1_ : sp_s1 e ∧ sp_s1 e2
  rotate_left
  · by_cases c3_ : 0 ≤ e ∧ e < 6
    · have c4_ : ¬ (0 ≤ e2 ∧ e2 < 6) := fun y_ => c1_ ⟨c3_, y_⟩
      refine hs 0 _ rfl _ _ _ _ _ _ _ rfl ?_
      refine hs 1 _ rfl _ _ _ _ _ _ _ rfl ?_
      refine zw_c (hs 2 _ rfl) (a := [.int (Int32.ofInt e)]) (st := [.ref x]) rfl rfl (Nat.le_of_ble_eq_true rfl) trivial (by omega) (by omega) (zm_noSlot_M g (e := e) (by omega) (by omega) (fun y_ => absurd (by omega) y_) (fun y_ => ?_))
      show S 5 [some (.ref x), some (.int (Int32.ofInt e)), some (.int (Int32.ofInt e2))] [.int (Int32.ofInt (0 : Int)), .ref x] _ _ _
      refine hs 3 _ rfl _ _ _ _ _ _ (fun zq => absurd (hd_c1z (c := 1) (by omega) (by omega) zq) (by omega : ¬ ((0 : Int) ≠ 0))) (fun _ => ?_)
      refine hs 4 _ rfl _ _ _ _ _ _ _ rfl ?_
      refine zw_c (hs 5 _ rfl) (a := [.int (Int32.ofInt e2)]) (st := [.ref x]) rfl rfl (Nat.le_of_ble_eq_true rfl) trivial (by omega) (by omega) (zm_noSlot_M g (e := e2) (by omega) (by omega) (fun y_ => ?_) (fun y_ => absurd y_ (by omega)))
      show S 12 [some (.ref x), some (.int (Int32.ofInt e)), some (.int (Int32.ofInt e2))] [.int (Int32.ofInt (1 : Int)), .ref x] _ _ _
      refine hs 6 _ rfl _ _ _ _ _ _ (fun zq => absurd (hd_c1z (c := 0) (by omega) (by omega) zq) (by omega : ¬ ((1 : Int) = 0))) (fun _ => ?_)
      refine hs 7 _ rfl _ _ _ _ _ _ _ rfl ?_
      refine hs 8 _ rfl _ _ _ _ _ ?_
      refine hs 10 _ rfl _ _ _ _ _ _ _ rfl ?_
      refine zw_c (hs 11 _ rfl) (a := [.ref x, .int (Int32.ofInt (1 : Int)), .int (Int32.ofInt (1 : Int))]) (st := []) rfl rfl (Nat.le_of_ble_eq_true rfl) ⟨_, _, _, rfl, a1_, a2_.1⟩ (by omega) (by omega) (zm_start_M g hX (i_ := 1) (w_ := 1) (Or.inr rfl) (by decide) (fun y_ h2_ f2_ x2_ => ?_) (fun y_ => absurd y_ (by decide)))
      show S 24 [some (.ref x), some (.int (Int32.ofInt e)), some (.int (Int32.ofInt e2))] [.int (Int32.ofInt (1 : Int))] _ _ _
      refine hs 12 _ rfl _ _ _ _ _ _ (fun zq => absurd (hd_c1z (c := 0) (by omega) (by omega) zq) (by omega : ¬ ((1 : Int) = 0))) (fun _ => ?_)
      refine hs 13 _ rfl _ _ _ _ _ _ _ rfl ?_
      exact hs 14 _ rfl _ _ _ _ _ (rv _) (by omega) (by omega) (hP 0 _ _ _ (Or.inr ⟨c1_, rfl, rfl⟩) f2_ ⟨_, _, _, _, x2_⟩)
    · 
      refine hs 0 _ rfl _ _ _ _ _ _ _ rfl ?_
      refine hs 1 _ rfl _ _ _ _ _ _ _ rfl ?_
      refine zw_c (hs 2 _ rfl) (a := [.int (Int32.ofInt e)]) (st := [.ref x]) rfl rfl (Nat.le_of_ble_eq_true rfl) trivial (by omega) (by omega) (zm_noSlot_M g (e := e) (by omega) (by omega) (fun y_ => ?_) (fun y_ => absurd y_ (by omega)))
      show S 5 [some (.ref x), some (.int (Int32.ofInt e)), some (.int (Int32.ofInt e2))] [.int (Int32.ofInt (1 : Int)), .ref x] _ _ _
      refine hs 3 _ rfl _ _ _ _ _ _ (fun _ => ?_) (fun zq => absurd (hd_c1t (c := 1) (by omega) (by omega) (by omega : (1 : Int) ≠ 0)) zq)
      refine hs 7 _ rfl _ _ _ _ _ _ _ rfl ?_
      refine hs 8 _ rfl _ _ _ _ _ ?_
      refine hs 10 _ rfl _ _ _ _ _ _ _ rfl ?_
      refine zw_c (hs 11 _ rfl) (a := [.ref x, .int (Int32.ofInt (1 : Int)), .int (Int32.ofInt (1 : Int))]) (st := []) rfl rfl (Nat.le_of_ble_eq_true rfl) ⟨_, _, _, rfl, a1_, a2_.1⟩ (by omega) (by omega) (zm_start_M g hX (i_ := 1) (w_ := 1) (Or.inr rfl) (by decide) (fun y_ h2_ f2_ x2_ => ?_) (fun y_ => absurd y_ (by decide)))
      show S 24 [some (.ref x), some (.int (Int32.ofInt e)), some (.int (Int32.ofInt e2))] [.int (Int32.ofInt (1 : Int))] _ _ _
      refine hs 12 _ rfl _ _ _ _ _ _ (fun zq => absurd (hd_c1z (c := 0) (by omega) (by omega) zq) (by omega : ¬ ((1 : Int) = 0))) (fun _ => ?_)
      refine hs 13 _ rfl _ _ _ _ _ _ _ rfl ?_
      exact hs 14 _ rfl _ _ _ _ _ (rv _) (by omega) (by omega) (hP 0 _ _ _ (Or.inr ⟨c1_, rfl, rfl⟩) f2_ ⟨_, _, _, _, x2_⟩)
  · obtain ⟨i, rfl⟩ : ∃ i : Nat, e = (i : Int) := ⟨e.toNat, by have := c1_.1.1; omega⟩
    obtain ⟨i2, rfl⟩ : ∃ i2 : Nat, e2 = (i2 : Int) := ⟨e2.toNat, by have := c1_.2.1; omega⟩
    have hi : i < 6 := by have := c1_.1.2; omega
    have hi2 : i2 < 6 := by have := c1_.2.2; omega
    have okd_ := hok.1
    by_cases cj_ : c.1 ≤ 0
    · 
      refine hs 0 _ rfl _ _ _ _ _ _ _ rfl ?_
      refine hs 1 _ rfl _ _ _ _ _ _ _ rfl ?_
      refine zw_c (hs 2 _ rfl) (a := [.int (Int32.ofInt (i : Int))]) (st := [.ref x]) rfl rfl (Nat.le_of_ble_eq_true rfl) trivial (by omega) (by omega) (zm_noSlot_M g (e := (i : Int)) (by omega) (by omega) (fun y_ => absurd (by omega) y_) (fun y_ => ?_))
      show S 5 [some (.ref x), some (.int (Int32.ofInt (i : Int))), some (.int (Int32.ofInt (i2 : Int)))] [.int (Int32.ofInt (0 : Int)), .ref x] _ _ _
      refine hs 3 _ rfl _ _ _ _ _ _ (fun zq => absurd (hd_c1z (c := 1) (by omega) (by omega) zq) (by omega : ¬ ((0 : Int) ≠ 0))) (fun _ => ?_)
      refine hs 4 _ rfl _ _ _ _ _ _ _ rfl ?_
      refine zw_c (hs 5 _ rfl) (a := [.int (Int32.ofInt (i2 : Int))]) (st := [.ref x]) rfl rfl (Nat.le_of_ble_eq_true rfl) trivial (by omega) (by omega) (zm_noSlot_M g (e := (i2 : Int)) (by omega) (by omega) (fun y_ => absurd (by omega) y_) (fun y_ => ?_))
      show S 12 [some (.ref x), some (.int (Int32.ofInt (i : Int))), some (.int (Int32.ofInt (i2 : Int)))] [.int (Int32.ofInt (0 : Int)), .ref x] _ _ _
      refine hs 6 _ rfl _ _ _ _ _ _ (fun _ => ?_) (fun zq => absurd (hd_c1t (c := 0) (by omega) (by omega) (by omega : (0 : Int) = 0)) zq)
      refine hs 9 _ rfl _ _ _ _ _ _ _ rfl ?_
      refine hs 10 _ rfl _ _ _ _ _ _ _ rfl ?_
      refine zw_c (hs 11 _ rfl) (a := [.ref x, .int (Int32.ofInt (0 : Int)), .int (Int32.ofInt (1 : Int))]) (st := []) rfl rfl (Nat.le_of_ble_eq_true rfl) ⟨_, _, _, rfl, a1_, a2_.1⟩ (by omega) (by omega) (zm_start_M g hX (i_ := 0) (w_ := 1) (Or.inl rfl) (by decide) (fun y_ => absurd y_ (by decide)) (fun y_ h2_ f2_ x2_ => ?_))
      show S 24 [some (.ref x), some (.int (Int32.ofInt (i : Int))), some (.int (Int32.ofInt (i2 : Int)))] [.int (Int32.ofInt (0 : Int))] _ _ _
      refine hs 12 _ rfl _ _ _ _ _ _ (fun _ => ?_) (fun zq => absurd (hd_c1t (c := 0) (by omega) (by omega) (by omega : (0 : Int) = 0)) zq)
      refine hs 15 _ rfl _ _ _ _ _ _ _ rfl ?_
      refine hs 16 _ rfl _ _ _ _ _ _ _ rfl ?_
      refine hs 17 _ rfl _ _ _ _ _ _ _ rfl ?_
      refine zw_c (hs 18 _ rfl) (a := [.ref x]) (st := [.int (Int32.ofInt (i : Int)), .ref x]) rfl rfl (Nat.le_of_ble_eq_true rfl) (zm_rc x2_) (by omega) (by omega) (zm_jam_M g x2_ hok (fun y_ => ?_) (fun y_ => absurd y_ (by omega)))
      show S 35 [some (.ref x), some (.int (Int32.ofInt (i : Int))), some (.int (Int32.ofInt (i2 : Int)))] [.int (Int32.ofInt (1 : Int)), .int (Int32.ofInt (i : Int)), .ref x] _ _ _
      refine hs 19 _ rfl _ _ _ _ _ _ (fun zq => absurd (hd_c1z (c := 0) (by omega) (by omega) zq) (by omega : ¬ ((1 : Int) = 0))) (fun _ => ?_)
      refine hs 20 _ rfl _ _ _ _ _ _ _ rfl ?_
      refine hs 21 _ rfl _ _ _ _ _ ?_
      refine zw_cm (hs 33 _ rfl) (a := [.ref x, .int (Int32.ofInt (i : Int)), .int (Int32.ofInt (-9 : Int))]) (st := []) 17 111 rfl rfl (Nat.le_of_ble_eq_true rfl) (zm_rc x2_) (by omega) (by omega) (zm_round_M g x2_ hok hp12 rfl hi (Or.inl rfl) (by omega) (by omega) (by omega) (fun y_ h4_ f4_ x4_ => ?_) (fun y_ => absurd y_ (by decide)) (fun y_ => absurd y_ (by decide)))
      show S 65 [some (.ref x), some (.int (Int32.ofInt (i : Int))), some (.int (Int32.ofInt (i2 : Int)))] [.int (Int32.ofInt (-9 : Int))] _ _ _
      exact hs 34 _ rfl _ _ _ _ _ (rv _) (by omega) (by omega) (hP _ _ _ _ (Or.inl ⟨c1_, rfl, Or.inl ⟨cj_, rfl, rfl⟩⟩) (f2_.tr f4_) ⟨_, _, _, _, x4_⟩)
    · have cp_ : 0 < c.1 := by omega
      have hm9_ : c.1 ≠ 0 := by omega
      have q1_ := Int.emod_nonneg (c.2.1.getD i 0) hm9_
      have q2_ := Int.emod_lt_of_pos (c.2.1.getD i 0) (show 0 < c.1 by omega)
      have q3_ := Int.emod_nonneg (c.2.1.getD i2 0) hm9_
      have q4_ := Int.emod_lt_of_pos (c.2.1.getD i2 0) (show 0 < c.1 by omega)
      have q5_ := Int.emod_nonneg ((c.2.1.getD i 0 % c.1) + (c.2.1.getD i2 0 % c.1)) hm9_
      have q6_ := Int.emod_lt_of_pos ((c.2.1.getD i 0 % c.1) + (c.2.1.getD i2 0 % c.1)) (show 0 < c.1 by omega)
      refine hs 0 _ rfl _ _ _ _ _ _ _ rfl ?_
      refine hs 1 _ rfl _ _ _ _ _ _ _ rfl ?_
      refine zw_c (hs 2 _ rfl) (a := [.int (Int32.ofInt (i : Int))]) (st := [.ref x]) rfl rfl (Nat.le_of_ble_eq_true rfl) trivial (by omega) (by omega) (zm_noSlot_M g (e := (i : Int)) (by omega) (by omega) (fun y_ => absurd (by omega) y_) (fun y_ => ?_))
      show S 5 [some (.ref x), some (.int (Int32.ofInt (i : Int))), some (.int (Int32.ofInt (i2 : Int)))] [.int (Int32.ofInt (0 : Int)), .ref x] _ _ _
      refine hs 3 _ rfl _ _ _ _ _ _ (fun zq => absurd (hd_c1z (c := 1) (by omega) (by omega) zq) (by omega : ¬ ((0 : Int) ≠ 0))) (fun _ => ?_)
      refine hs 4 _ rfl _ _ _ _ _ _ _ rfl ?_
      refine zw_c (hs 5 _ rfl) (a := [.int (Int32.ofInt (i2 : Int))]) (st := [.ref x]) rfl rfl (Nat.le_of_ble_eq_true rfl) trivial (by omega) (by omega) (zm_noSlot_M g (e := (i2 : Int)) (by omega) (by omega) (fun y_ => absurd (by omega) y_) (fun y_ => ?_))
      show S 12 [some (.ref x), some (.int (Int32.ofInt (i : Int))), some (.int (Int32.ofInt (i2 : Int)))] [.int (Int32.ofInt (0 : Int)), .ref x] _ _ _
      refine hs 6 _ rfl _ _ _ _ _ _ (fun _ => ?_) (fun zq => absurd (hd_c1t (c := 0) (by omega) (by omega) (by omega : (0 : Int) = 0)) zq)
      refine hs 9 _ rfl _ _ _ _ _ _ _ rfl ?_
      refine hs 10 _ rfl _ _ _ _ _ _ _ rfl ?_
      refine zw_c (hs 11 _ rfl) (a := [.ref x, .int (Int32.ofInt (0 : Int)), .int (Int32.ofInt (1 : Int))]) (st := []) rfl rfl (Nat.le_of_ble_eq_true rfl) ⟨_, _, _, rfl, a1_, a2_.1⟩ (by omega) (by omega) (zm_start_M g hX (i_ := 0) (w_ := 1) (Or.inl rfl) (by decide) (fun y_ => absurd y_ (by decide)) (fun y_ h2_ f2_ x2_ => ?_))
      obtain ⟨t_, qn_, ql_, qb_, s1_, up_⟩ := x2_.dialL
      show S 24 [some (.ref x), some (.int (Int32.ofInt (i : Int))), some (.int (Int32.ofInt (i2 : Int)))] [.int (Int32.ofInt (0 : Int))] _ _ _
      refine hs 12 _ rfl _ _ _ _ _ _ (fun _ => ?_) (fun zq => absurd (hd_c1t (c := 0) (by omega) (by omega) (by omega : (0 : Int) = 0)) zq)
      refine hs 15 _ rfl _ _ _ _ _ _ _ rfl ?_
      refine hs 16 _ rfl _ _ _ _ _ _ _ rfl ?_
      refine hs 17 _ rfl _ _ _ _ _ _ _ rfl ?_
      refine zw_c (hs 18 _ rfl) (a := [.ref x]) (st := [.int (Int32.ofInt (i : Int)), .ref x]) rfl rfl (Nat.le_of_ble_eq_true rfl) (zm_rc x2_) (by omega) (by omega) (zm_jam_M g x2_ hok (fun y_ => absurd y_ (by omega)) (fun y_ => ?_))
      show S 35 [some (.ref x), some (.int (Int32.ofInt (i : Int))), some (.int (Int32.ofInt (i2 : Int)))] [.int (Int32.ofInt (0 : Int)), .int (Int32.ofInt (i : Int)), .ref x] _ _ _
      refine hs 19 _ rfl _ _ _ _ _ _ (fun _ => ?_) (fun zq => absurd (hd_c1t (c := 0) (by omega) (by omega) (by omega : (0 : Int) = 0)) zq)
      refine hs 22 _ rfl _ _ _ _ _ _ _ rfl ?_
      refine hs 23 _ rfl _ _ _ _ _ _ _ rfl ?_
      refine zw_c (hs 24 _ rfl) (a := [.ref x, .int (Int32.ofInt (i : Int))]) (st := [.int (Int32.ofInt (i : Int)), .ref x]) rfl rfl (Nat.le_of_ble_eq_true rfl) (zm_rc x2_) (by omega) (by omega) (zm_modAt_M g x2_ hok rfl hi (fun y_ => absurd y_ (by omega)) (fun y_ => ?_))
      show S 48 [some (.ref x), some (.int (Int32.ofInt (i : Int))), some (.int (Int32.ofInt (i2 : Int)))] [.int (Int32.ofInt (c.2.1.getD i 0 % c.1)), .int (Int32.ofInt (i : Int)), .ref x] _ _ _
      refine hs 25 _ rfl _ _ _ _ _ _ _ rfl ?_
      refine hs 26 _ rfl _ _ _ _ _ _ _ rfl ?_
      refine zw_c (hs 27 _ rfl) (a := [.ref x, .int (Int32.ofInt (i2 : Int))]) (st := [.int (Int32.ofInt (c.2.1.getD i 0 % c.1)), .int (Int32.ofInt (i : Int)), .ref x]) rfl rfl (Nat.le_of_ble_eq_true rfl) (zm_rc x2_) (by omega) (by omega) (zm_modAt_M g x2_ hok rfl hi2 (fun y_ => absurd y_ (by omega)) (fun y_ => ?_))
      show S 53 [some (.ref x), some (.int (Int32.ofInt (i : Int))), some (.int (Int32.ofInt (i2 : Int)))] [.int (Int32.ofInt (c.2.1.getD i2 0 % c.1)), .int (Int32.ofInt (c.2.1.getD i 0 % c.1)), .int (Int32.ofInt (i : Int)), .ref x] _ _ _
      refine hs 28 _ rfl _ _ _ _ _ _ _ hd_add ?_
      refine hs 29 _ rfl _ _ _ _ _ _ _ rfl ?_
      refine hs 30 _ rfl _ _ _ _ _ _ _ _ _ (x2_.1) a2_.1 rfl ?_
      refine hs 31 _ rfl _ _ _ _ _ _ _ _ _ (s1_.1) s1_.2 rfl ?_
      refine hs 32 _ rfl _ _ _ _ _ _ _ (hd_rem (by omega) (by omega) (by omega) (by omega)) ?_
      refine zw_cm (hs 33 _ rfl) (a := [.ref x, .int (Int32.ofInt (i : Int)), .int (Int32.ofInt (((c.2.1.getD i 0 % c.1) + (c.2.1.getD i2 0 % c.1)) % c.1))]) (st := []) 17 111 rfl rfl (Nat.le_of_ble_eq_true rfl) (zm_rc x2_) (by omega) (by omega) (zm_round_M g x2_ hok hp12 rfl hi (Or.inr (Or.inr (by omega))) (by omega) (by omega) (by omega) (fun y_ => absurd y_ (by omega)) (fun y_ => absurd y_ (by omega)) (fun y_ h4_ f4_ x4_ => ?_))
      show S 65 [some (.ref x), some (.int (Int32.ofInt (i : Int))), some (.int (Int32.ofInt (i2 : Int)))] [.int (Int32.ofInt (((c.2.1.getD i 0 % c.1) + (c.2.1.getD i2 0 % c.1)) % c.1))] _ _ _
      exact hs 34 _ rfl _ _ _ _ _ (rv _) (by omega) (by omega) (hP _ _ _ _ (Or.inl ⟨c1_, rfl, Or.inr ⟨cp_, rfl, Or.inr ⟨by omega, rfl⟩⟩⟩) (f2_.tr f4_) x4_)
set_option maxHeartbeats 4000000 in
theorem zm_roundTimes_M {l : Launch} {G : am_G} {X : ck_XT} (g : gM l G X) {o : Nat → Nat} {x tx now qw : Nat} {th j m k : Int} {c : sp_S} {P : List sp_S} {h : List am_C} (hX : zm_x G h o x tx now qw th j m k c P) (hok : sp_ok c) (hp12 : P.length ≤ 12) {e e2 : Int} (he1 : -2147483648 ≤ e) (he2 : e ≤ 2147483647) (hf1 : -2147483648 ≤ e2) (hf2 : e2 ≤ 2147483647) {mc ms : Nat} {Post : am_O → List am_C → Prop} (hmc : 17 ≤ mc) (hms : 111 ≤ ms)
    (hP : ∀ (a th : Int) (T' : sp_T) (h' : List am_C), sp_d8 e e2 (c, P, j, m, k) a th T' → zm_fr G h h' → zm_Y G h' x th T' → Post (.inl (some (.int (Int32.ofInt a)))) h') :
    am_M l G yX14_roundTimes (.code yX14_roundTimes prog_14_method_22_code 3 (some .int)) 13 338 mc ms [.ref x, .int (Int32.ofInt e), .int (Int32.ofInt e2)] h Post := by
  refine gh_yX14_roundTimes_X g (Nat.le_of_ble_eq_true rfl) fun S SX hs hr hw hx => ?_
  have rv : ∀ x : Int32, ck_fv 0 (.int x) := fun x => ⟨_, rfl⟩
  obtain ⟨a1_, a2_, a3_, a4_⟩ := id hX
  by_cases c1_ : sp_s1 e ∧ sp_s1 e2
  rotate_left
  · by_cases c3_ : 0 ≤ e ∧ e < 6
    · have c4_ : ¬ (0 ≤ e2 ∧ e2 < 6) := fun y_ => c1_ ⟨c3_, y_⟩
      refine hs 0 _ rfl _ _ _ _ _ _ _ rfl ?_
      refine hs 1 _ rfl _ _ _ _ _ _ _ rfl ?_
      refine zw_c (hs 2 _ rfl) (a := [.int (Int32.ofInt e)]) (st := [.ref x]) rfl rfl (Nat.le_of_ble_eq_true rfl) trivial (by omega) (by omega) (zm_noSlot_M g (e := e) (by omega) (by omega) (fun y_ => absurd (by omega) y_) (fun y_ => ?_))
      show S 5 [some (.ref x), some (.int (Int32.ofInt e)), some (.int (Int32.ofInt e2))] [.int (Int32.ofInt (0 : Int)), .ref x] _ _ _
      refine hs 3 _ rfl _ _ _ _ _ _ (fun zq => absurd (hd_c1z (c := 1) (by omega) (by omega) zq) (by omega : ¬ ((0 : Int) ≠ 0))) (fun _ => ?_)
      refine hs 4 _ rfl _ _ _ _ _ _ _ rfl ?_
      refine zw_c (hs 5 _ rfl) (a := [.int (Int32.ofInt e2)]) (st := [.ref x]) rfl rfl (Nat.le_of_ble_eq_true rfl) trivial (by omega) (by omega) (zm_noSlot_M g (e := e2) (by omega) (by omega) (fun y_ => ?_) (fun y_ => absurd y_ (by omega)))
      show S 12 [some (.ref x), some (.int (Int32.ofInt e)), some (.int (Int32.ofInt e2))] [.int (Int32.ofInt (1 : Int)), .ref x] _ _ _
      refine hs 6 _ rfl _ _ _ _ _ _ (fun zq => absurd (hd_c1z (c := 0) (by omega) (by omega) zq) (by omega : ¬ ((1 : Int) = 0))) (fun _ => ?_)
      refine hs 7 _ rfl _ _ _ _ _ _ _ rfl ?_
      refine hs 8 _ rfl _ _ _ _ _ ?_
      refine hs 10 _ rfl _ _ _ _ _ _ _ rfl ?_
      refine zw_c (hs 11 _ rfl) (a := [.ref x, .int (Int32.ofInt (1 : Int)), .int (Int32.ofInt (1 : Int))]) (st := []) rfl rfl (Nat.le_of_ble_eq_true rfl) ⟨_, _, _, rfl, a1_, a2_.1⟩ (by omega) (by omega) (zm_start_M g hX (i_ := 1) (w_ := 1) (Or.inr rfl) (by decide) (fun y_ h2_ f2_ x2_ => ?_) (fun y_ => absurd y_ (by decide)))
      show S 24 [some (.ref x), some (.int (Int32.ofInt e)), some (.int (Int32.ofInt e2))] [.int (Int32.ofInt (1 : Int))] _ _ _
      refine hs 12 _ rfl _ _ _ _ _ _ (fun zq => absurd (hd_c1z (c := 0) (by omega) (by omega) zq) (by omega : ¬ ((1 : Int) = 0))) (fun _ => ?_)
      refine hs 13 _ rfl _ _ _ _ _ _ _ rfl ?_
      exact hs 14 _ rfl _ _ _ _ _ (rv _) (by omega) (by omega) (hP 0 _ _ _ (Or.inr ⟨c1_, rfl, rfl⟩) f2_ ⟨_, _, _, _, x2_⟩)
    · 
      refine hs 0 _ rfl _ _ _ _ _ _ _ rfl ?_
      refine hs 1 _ rfl _ _ _ _ _ _ _ rfl ?_
      refine zw_c (hs 2 _ rfl) (a := [.int (Int32.ofInt e)]) (st := [.ref x]) rfl rfl (Nat.le_of_ble_eq_true rfl) trivial (by omega) (by omega) (zm_noSlot_M g (e := e) (by omega) (by omega) (fun y_ => ?_) (fun y_ => absurd y_ (by omega)))
      show S 5 [some (.ref x), some (.int (Int32.ofInt e)), some (.int (Int32.ofInt e2))] [.int (Int32.ofInt (1 : Int)), .ref x] _ _ _
      refine hs 3 _ rfl _ _ _ _ _ _ (fun _ => ?_) (fun zq => absurd (hd_c1t (c := 1) (by omega) (by omega) (by omega : (1 : Int) ≠ 0)) zq)
      refine hs 7 _ rfl _ _ _ _ _ _ _ rfl ?_
      refine hs 8 _ rfl _ _ _ _ _ ?_
      refine hs 10 _ rfl _ _ _ _ _ _ _ rfl ?_
      refine zw_c (hs 11 _ rfl) (a := [.ref x, .int (Int32.ofInt (1 : Int)), .int (Int32.ofInt (1 : Int))]) (st := []) rfl rfl (Nat.le_of_ble_eq_true rfl) ⟨_, _, _, rfl, a1_, a2_.1⟩ (by omega) (by omega) (zm_start_M g hX (i_ := 1) (w_ := 1) (Or.inr rfl) (by decide) (fun y_ h2_ f2_ x2_ => ?_) (fun y_ => absurd y_ (by decide)))
      show S 24 [some (.ref x), some (.int (Int32.ofInt e)), some (.int (Int32.ofInt e2))] [.int (Int32.ofInt (1 : Int))] _ _ _
      refine hs 12 _ rfl _ _ _ _ _ _ (fun zq => absurd (hd_c1z (c := 0) (by omega) (by omega) zq) (by omega : ¬ ((1 : Int) = 0))) (fun _ => ?_)
      refine hs 13 _ rfl _ _ _ _ _ _ _ rfl ?_
      exact hs 14 _ rfl _ _ _ _ _ (rv _) (by omega) (by omega) (hP 0 _ _ _ (Or.inr ⟨c1_, rfl, rfl⟩) f2_ ⟨_, _, _, _, x2_⟩)
  · obtain ⟨i, rfl⟩ : ∃ i : Nat, e = (i : Int) := ⟨e.toNat, by have := c1_.1.1; omega⟩
    obtain ⟨i2, rfl⟩ : ∃ i2 : Nat, e2 = (i2 : Int) := ⟨e2.toNat, by have := c1_.2.1; omega⟩
    have hi : i < 6 := by have := c1_.1.2; omega
    have hi2 : i2 < 6 := by have := c1_.2.2; omega
    have okd_ := hok.1
    by_cases cj_ : c.1 ≤ 0
    · 
      refine hs 0 _ rfl _ _ _ _ _ _ _ rfl ?_
      refine hs 1 _ rfl _ _ _ _ _ _ _ rfl ?_
      refine zw_c (hs 2 _ rfl) (a := [.int (Int32.ofInt (i : Int))]) (st := [.ref x]) rfl rfl (Nat.le_of_ble_eq_true rfl) trivial (by omega) (by omega) (zm_noSlot_M g (e := (i : Int)) (by omega) (by omega) (fun y_ => absurd (by omega) y_) (fun y_ => ?_))
      show S 5 [some (.ref x), some (.int (Int32.ofInt (i : Int))), some (.int (Int32.ofInt (i2 : Int)))] [.int (Int32.ofInt (0 : Int)), .ref x] _ _ _
      refine hs 3 _ rfl _ _ _ _ _ _ (fun zq => absurd (hd_c1z (c := 1) (by omega) (by omega) zq) (by omega : ¬ ((0 : Int) ≠ 0))) (fun _ => ?_)
      refine hs 4 _ rfl _ _ _ _ _ _ _ rfl ?_
      refine zw_c (hs 5 _ rfl) (a := [.int (Int32.ofInt (i2 : Int))]) (st := [.ref x]) rfl rfl (Nat.le_of_ble_eq_true rfl) trivial (by omega) (by omega) (zm_noSlot_M g (e := (i2 : Int)) (by omega) (by omega) (fun y_ => absurd (by omega) y_) (fun y_ => ?_))
      show S 12 [some (.ref x), some (.int (Int32.ofInt (i : Int))), some (.int (Int32.ofInt (i2 : Int)))] [.int (Int32.ofInt (0 : Int)), .ref x] _ _ _
      refine hs 6 _ rfl _ _ _ _ _ _ (fun _ => ?_) (fun zq => absurd (hd_c1t (c := 0) (by omega) (by omega) (by omega : (0 : Int) = 0)) zq)
      refine hs 9 _ rfl _ _ _ _ _ _ _ rfl ?_
      refine hs 10 _ rfl _ _ _ _ _ _ _ rfl ?_
      refine zw_c (hs 11 _ rfl) (a := [.ref x, .int (Int32.ofInt (0 : Int)), .int (Int32.ofInt (1 : Int))]) (st := []) rfl rfl (Nat.le_of_ble_eq_true rfl) ⟨_, _, _, rfl, a1_, a2_.1⟩ (by omega) (by omega) (zm_start_M g hX (i_ := 0) (w_ := 1) (Or.inl rfl) (by decide) (fun y_ => absurd y_ (by decide)) (fun y_ h2_ f2_ x2_ => ?_))
      show S 24 [some (.ref x), some (.int (Int32.ofInt (i : Int))), some (.int (Int32.ofInt (i2 : Int)))] [.int (Int32.ofInt (0 : Int))] _ _ _
      refine hs 12 _ rfl _ _ _ _ _ _ (fun _ => ?_) (fun zq => absurd (hd_c1t (c := 0) (by omega) (by omega) (by omega : (0 : Int) = 0)) zq)
      refine hs 15 _ rfl _ _ _ _ _ _ _ rfl ?_
      refine hs 16 _ rfl _ _ _ _ _ _ _ rfl ?_
      refine hs 17 _ rfl _ _ _ _ _ _ _ rfl ?_
      refine zw_c (hs 18 _ rfl) (a := [.ref x]) (st := [.int (Int32.ofInt (i : Int)), .ref x]) rfl rfl (Nat.le_of_ble_eq_true rfl) (zm_rc x2_) (by omega) (by omega) (zm_jam_M g x2_ hok (fun y_ => ?_) (fun y_ => absurd y_ (by omega)))
      show S 35 [some (.ref x), some (.int (Int32.ofInt (i : Int))), some (.int (Int32.ofInt (i2 : Int)))] [.int (Int32.ofInt (1 : Int)), .int (Int32.ofInt (i : Int)), .ref x] _ _ _
      refine hs 19 _ rfl _ _ _ _ _ _ (fun zq => absurd (hd_c1z (c := 0) (by omega) (by omega) zq) (by omega : ¬ ((1 : Int) = 0))) (fun _ => ?_)
      refine hs 20 _ rfl _ _ _ _ _ _ _ rfl ?_
      refine hs 21 _ rfl _ _ _ _ _ ?_
      refine zw_cm (hs 33 _ rfl) (a := [.ref x, .int (Int32.ofInt (i : Int)), .int (Int32.ofInt (-9 : Int))]) (st := []) 17 111 rfl rfl (Nat.le_of_ble_eq_true rfl) (zm_rc x2_) (by omega) (by omega) (zm_round_M g x2_ hok hp12 rfl hi (Or.inl rfl) (by omega) (by omega) (by omega) (fun y_ h4_ f4_ x4_ => ?_) (fun y_ => absurd y_ (by decide)) (fun y_ => absurd y_ (by decide)))
      show S 65 [some (.ref x), some (.int (Int32.ofInt (i : Int))), some (.int (Int32.ofInt (i2 : Int)))] [.int (Int32.ofInt (-9 : Int))] _ _ _
      exact hs 34 _ rfl _ _ _ _ _ (rv _) (by omega) (by omega) (hP _ _ _ _ (Or.inl ⟨c1_, rfl, Or.inl ⟨cj_, rfl, rfl⟩⟩) (f2_.tr f4_) ⟨_, _, _, _, x4_⟩)
    · have cp_ : 0 < c.1 := by omega
      have hm9_ : c.1 ≠ 0 := by omega
      have q1_ := Int.emod_nonneg (c.2.1.getD i 0) hm9_
      have q2_ := Int.emod_lt_of_pos (c.2.1.getD i 0) (show 0 < c.1 by omega)
      have q3_ := Int.emod_nonneg (c.2.1.getD i2 0) hm9_
      have q4_ := Int.emod_lt_of_pos (c.2.1.getD i2 0) (show 0 < c.1 by omega)
      have mn_ := Int.mul_nonneg q1_ q3_
      have mx_ : c.2.1.getD i 0 % c.1 * (c.2.1.getD i2 0 % c.1) ≤ 400 * 400 := Int.mul_le_mul (by omega) (by omega) q3_ (by omega)
      have q5_ := Int.emod_nonneg ((c.2.1.getD i 0 % c.1) * (c.2.1.getD i2 0 % c.1)) hm9_
      have q6_ := Int.emod_lt_of_pos ((c.2.1.getD i 0 % c.1) * (c.2.1.getD i2 0 % c.1)) (show 0 < c.1 by omega)
      refine hs 0 _ rfl _ _ _ _ _ _ _ rfl ?_
      refine hs 1 _ rfl _ _ _ _ _ _ _ rfl ?_
      refine zw_c (hs 2 _ rfl) (a := [.int (Int32.ofInt (i : Int))]) (st := [.ref x]) rfl rfl (Nat.le_of_ble_eq_true rfl) trivial (by omega) (by omega) (zm_noSlot_M g (e := (i : Int)) (by omega) (by omega) (fun y_ => absurd (by omega) y_) (fun y_ => ?_))
      show S 5 [some (.ref x), some (.int (Int32.ofInt (i : Int))), some (.int (Int32.ofInt (i2 : Int)))] [.int (Int32.ofInt (0 : Int)), .ref x] _ _ _
      refine hs 3 _ rfl _ _ _ _ _ _ (fun zq => absurd (hd_c1z (c := 1) (by omega) (by omega) zq) (by omega : ¬ ((0 : Int) ≠ 0))) (fun _ => ?_)
      refine hs 4 _ rfl _ _ _ _ _ _ _ rfl ?_
      refine zw_c (hs 5 _ rfl) (a := [.int (Int32.ofInt (i2 : Int))]) (st := [.ref x]) rfl rfl (Nat.le_of_ble_eq_true rfl) trivial (by omega) (by omega) (zm_noSlot_M g (e := (i2 : Int)) (by omega) (by omega) (fun y_ => absurd (by omega) y_) (fun y_ => ?_))
      show S 12 [some (.ref x), some (.int (Int32.ofInt (i : Int))), some (.int (Int32.ofInt (i2 : Int)))] [.int (Int32.ofInt (0 : Int)), .ref x] _ _ _
      refine hs 6 _ rfl _ _ _ _ _ _ (fun _ => ?_) (fun zq => absurd (hd_c1t (c := 0) (by omega) (by omega) (by omega : (0 : Int) = 0)) zq)
      refine hs 9 _ rfl _ _ _ _ _ _ _ rfl ?_
      refine hs 10 _ rfl _ _ _ _ _ _ _ rfl ?_
      refine zw_c (hs 11 _ rfl) (a := [.ref x, .int (Int32.ofInt (0 : Int)), .int (Int32.ofInt (1 : Int))]) (st := []) rfl rfl (Nat.le_of_ble_eq_true rfl) ⟨_, _, _, rfl, a1_, a2_.1⟩ (by omega) (by omega) (zm_start_M g hX (i_ := 0) (w_ := 1) (Or.inl rfl) (by decide) (fun y_ => absurd y_ (by decide)) (fun y_ h2_ f2_ x2_ => ?_))
      obtain ⟨t_, qn_, ql_, qb_, s1_, up_⟩ := x2_.dialL
      show S 24 [some (.ref x), some (.int (Int32.ofInt (i : Int))), some (.int (Int32.ofInt (i2 : Int)))] [.int (Int32.ofInt (0 : Int))] _ _ _
      refine hs 12 _ rfl _ _ _ _ _ _ (fun _ => ?_) (fun zq => absurd (hd_c1t (c := 0) (by omega) (by omega) (by omega : (0 : Int) = 0)) zq)
      refine hs 15 _ rfl _ _ _ _ _ _ _ rfl ?_
      refine hs 16 _ rfl _ _ _ _ _ _ _ rfl ?_
      refine hs 17 _ rfl _ _ _ _ _ _ _ rfl ?_
      refine zw_c (hs 18 _ rfl) (a := [.ref x]) (st := [.int (Int32.ofInt (i : Int)), .ref x]) rfl rfl (Nat.le_of_ble_eq_true rfl) (zm_rc x2_) (by omega) (by omega) (zm_jam_M g x2_ hok (fun y_ => absurd y_ (by omega)) (fun y_ => ?_))
      show S 35 [some (.ref x), some (.int (Int32.ofInt (i : Int))), some (.int (Int32.ofInt (i2 : Int)))] [.int (Int32.ofInt (0 : Int)), .int (Int32.ofInt (i : Int)), .ref x] _ _ _
      refine hs 19 _ rfl _ _ _ _ _ _ (fun _ => ?_) (fun zq => absurd (hd_c1t (c := 0) (by omega) (by omega) (by omega : (0 : Int) = 0)) zq)
      refine hs 22 _ rfl _ _ _ _ _ _ _ rfl ?_
      refine hs 23 _ rfl _ _ _ _ _ _ _ rfl ?_
      refine zw_c (hs 24 _ rfl) (a := [.ref x, .int (Int32.ofInt (i : Int))]) (st := [.int (Int32.ofInt (i : Int)), .ref x]) rfl rfl (Nat.le_of_ble_eq_true rfl) (zm_rc x2_) (by omega) (by omega) (zm_modAt_M g x2_ hok rfl hi (fun y_ => absurd y_ (by omega)) (fun y_ => ?_))
      show S 48 [some (.ref x), some (.int (Int32.ofInt (i : Int))), some (.int (Int32.ofInt (i2 : Int)))] [.int (Int32.ofInt (c.2.1.getD i 0 % c.1)), .int (Int32.ofInt (i : Int)), .ref x] _ _ _
      refine hs 25 _ rfl _ _ _ _ _ _ _ rfl ?_
      refine hs 26 _ rfl _ _ _ _ _ _ _ rfl ?_
      refine zw_c (hs 27 _ rfl) (a := [.ref x, .int (Int32.ofInt (i2 : Int))]) (st := [.int (Int32.ofInt (c.2.1.getD i 0 % c.1)), .int (Int32.ofInt (i : Int)), .ref x]) rfl rfl (Nat.le_of_ble_eq_true rfl) (zm_rc x2_) (by omega) (by omega) (zm_modAt_M g x2_ hok rfl hi2 (fun y_ => absurd y_ (by omega)) (fun y_ => ?_))
      show S 53 [some (.ref x), some (.int (Int32.ofInt (i : Int))), some (.int (Int32.ofInt (i2 : Int)))] [.int (Int32.ofInt (c.2.1.getD i2 0 % c.1)), .int (Int32.ofInt (c.2.1.getD i 0 % c.1)), .int (Int32.ofInt (i : Int)), .ref x] _ _ _
      refine hs 28 _ rfl _ _ _ _ _ _ _ hd_mul ?_
      refine hs 29 _ rfl _ _ _ _ _ _ _ rfl ?_
      refine hs 30 _ rfl _ _ _ _ _ _ _ _ _ (x2_.1) a2_.1 rfl ?_
      refine hs 31 _ rfl _ _ _ _ _ _ _ _ _ (s1_.1) s1_.2 rfl ?_
      refine hs 32 _ rfl _ _ _ _ _ _ _ (hd_rem (by omega) (by omega) (by omega) (by omega)) ?_
      refine zw_cm (hs 33 _ rfl) (a := [.ref x, .int (Int32.ofInt (i : Int)), .int (Int32.ofInt (((c.2.1.getD i 0 % c.1) * (c.2.1.getD i2 0 % c.1)) % c.1))]) (st := []) 17 111 rfl rfl (Nat.le_of_ble_eq_true rfl) (zm_rc x2_) (by omega) (by omega) (zm_round_M g x2_ hok hp12 rfl hi (Or.inr (Or.inr (by omega))) (by omega) (by omega) (by omega) (fun y_ => absurd y_ (by omega)) (fun y_ => absurd y_ (by omega)) (fun y_ h4_ f4_ x4_ => ?_))
      show S 65 [some (.ref x), some (.int (Int32.ofInt (i : Int))), some (.int (Int32.ofInt (i2 : Int)))] [.int (Int32.ofInt (((c.2.1.getD i 0 % c.1) * (c.2.1.getD i2 0 % c.1)) % c.1))] _ _ _
      exact hs 34 _ rfl _ _ _ _ _ (rv _) (by omega) (by omega) (hP _ _ _ _ (Or.inl ⟨c1_, rfl, Or.inr ⟨cp_, rfl, Or.inr ⟨by omega, rfl⟩⟩⟩) (f2_.tr f4_) x4_)
set_option maxHeartbeats 4000000 in
theorem zm_roundPower_M {l : Launch} {G : am_G} {X : ck_XT} (g : gM l G X) {o : Nat → Nat} {x tx now qw : Nat} {th j m k : Int} {c : sp_S} {P : List sp_S} {h : List am_C} (hX : zm_x G h o x tx now qw th j m k c P) (hok : sp_ok c) (hp12 : P.length ≤ 12) {e e2 : Int} (he1 : -2147483648 ≤ e) (he2 : e ≤ 2147483647) (hf1 : -2147483648 ≤ e2) (hf2 : e2 ≤ 2147483647) {mc ms : Nat} {Post : am_O → List am_C → Prop} (hmc : 17 ≤ mc) (hms : 111 ≤ ms)
    (hP : ∀ (a th : Int) (T' : sp_T) (h' : List am_C), sp_d9 e e2 (c, P, j, m, k) a th T' → zm_fr G h h' → zm_Y G h' x th T' → Post (.inl (some (.int (Int32.ofInt a)))) h') :
    am_M l G yX14_roundPower (.code yX14_roundPower prog_14_method_25_code 3 (some .int)) 13 338 mc ms [.ref x, .int (Int32.ofInt e), .int (Int32.ofInt e2)] h Post := by
  refine gh_yX14_roundPower_X g (Nat.le_of_ble_eq_true rfl) fun S SX hs hr hw hx => ?_
  have rv : ∀ x : Int32, ck_fv 0 (.int x) := fun x => ⟨_, rfl⟩
  obtain ⟨a1_, a2_, a3_, a4_⟩ := id hX
  by_cases c1_ : sp_s1 e ∧ sp_s1 e2
  rotate_left
  · by_cases c3_ : 0 ≤ e ∧ e < 6
    · have c4_ : ¬ (0 ≤ e2 ∧ e2 < 6) := fun y_ => c1_ ⟨c3_, y_⟩
      refine hs 0 _ rfl _ _ _ _ _ _ _ rfl ?_
      refine hs 1 _ rfl _ _ _ _ _ _ _ rfl ?_
      refine zw_c (hs 2 _ rfl) (a := [.int (Int32.ofInt e)]) (st := [.ref x]) rfl rfl (Nat.le_of_ble_eq_true rfl) trivial (by omega) (by omega) (zm_noSlot_M g (e := e) (by omega) (by omega) (fun y_ => absurd (by omega) y_) (fun y_ => ?_))
      show S 5 [some (.ref x), some (.int (Int32.ofInt e)), some (.int (Int32.ofInt e2))] [.int (Int32.ofInt (0 : Int)), .ref x] _ _ _
      refine hs 3 _ rfl _ _ _ _ _ _ (fun zq => absurd (hd_c1z (c := 1) (by omega) (by omega) zq) (by omega : ¬ ((0 : Int) ≠ 0))) (fun _ => ?_)
      refine hs 4 _ rfl _ _ _ _ _ _ _ rfl ?_
      refine zw_c (hs 5 _ rfl) (a := [.int (Int32.ofInt e2)]) (st := [.ref x]) rfl rfl (Nat.le_of_ble_eq_true rfl) trivial (by omega) (by omega) (zm_noSlot_M g (e := e2) (by omega) (by omega) (fun y_ => ?_) (fun y_ => absurd y_ (by omega)))
      show S 12 [some (.ref x), some (.int (Int32.ofInt e)), some (.int (Int32.ofInt e2))] [.int (Int32.ofInt (1 : Int)), .ref x] _ _ _
      refine hs 6 _ rfl _ _ _ _ _ _ (fun zq => absurd (hd_c1z (c := 0) (by omega) (by omega) zq) (by omega : ¬ ((1 : Int) = 0))) (fun _ => ?_)
      refine hs 7 _ rfl _ _ _ _ _ _ _ rfl ?_
      refine hs 8 _ rfl _ _ _ _ _ ?_
      refine hs 10 _ rfl _ _ _ _ _ _ _ rfl ?_
      refine zw_c (hs 11 _ rfl) (a := [.ref x, .int (Int32.ofInt (1 : Int)), .int (Int32.ofInt (1 : Int))]) (st := []) rfl rfl (Nat.le_of_ble_eq_true rfl) ⟨_, _, _, rfl, a1_, a2_.1⟩ (by omega) (by omega) (zm_start_M g hX (i_ := 1) (w_ := 1) (Or.inr rfl) (by decide) (fun y_ h2_ f2_ x2_ => ?_) (fun y_ => absurd y_ (by decide)))
      show S 24 [some (.ref x), some (.int (Int32.ofInt e)), some (.int (Int32.ofInt e2))] [.int (Int32.ofInt (1 : Int))] _ _ _
      refine hs 12 _ rfl _ _ _ _ _ _ (fun zq => absurd (hd_c1z (c := 0) (by omega) (by omega) zq) (by omega : ¬ ((1 : Int) = 0))) (fun _ => ?_)
      refine hs 13 _ rfl _ _ _ _ _ _ _ rfl ?_
      exact hs 14 _ rfl _ _ _ _ _ (rv _) (by omega) (by omega) (hP 0 _ _ _ (Or.inr ⟨c1_, rfl, rfl⟩) f2_ ⟨_, _, _, _, x2_⟩)
    · 
      refine hs 0 _ rfl _ _ _ _ _ _ _ rfl ?_
      refine hs 1 _ rfl _ _ _ _ _ _ _ rfl ?_
      refine zw_c (hs 2 _ rfl) (a := [.int (Int32.ofInt e)]) (st := [.ref x]) rfl rfl (Nat.le_of_ble_eq_true rfl) trivial (by omega) (by omega) (zm_noSlot_M g (e := e) (by omega) (by omega) (fun y_ => ?_) (fun y_ => absurd y_ (by omega)))
      show S 5 [some (.ref x), some (.int (Int32.ofInt e)), some (.int (Int32.ofInt e2))] [.int (Int32.ofInt (1 : Int)), .ref x] _ _ _
      refine hs 3 _ rfl _ _ _ _ _ _ (fun _ => ?_) (fun zq => absurd (hd_c1t (c := 1) (by omega) (by omega) (by omega : (1 : Int) ≠ 0)) zq)
      refine hs 7 _ rfl _ _ _ _ _ _ _ rfl ?_
      refine hs 8 _ rfl _ _ _ _ _ ?_
      refine hs 10 _ rfl _ _ _ _ _ _ _ rfl ?_
      refine zw_c (hs 11 _ rfl) (a := [.ref x, .int (Int32.ofInt (1 : Int)), .int (Int32.ofInt (1 : Int))]) (st := []) rfl rfl (Nat.le_of_ble_eq_true rfl) ⟨_, _, _, rfl, a1_, a2_.1⟩ (by omega) (by omega) (zm_start_M g hX (i_ := 1) (w_ := 1) (Or.inr rfl) (by decide) (fun y_ h2_ f2_ x2_ => ?_) (fun y_ => absurd y_ (by decide)))
      show S 24 [some (.ref x), some (.int (Int32.ofInt e)), some (.int (Int32.ofInt e2))] [.int (Int32.ofInt (1 : Int))] _ _ _
      refine hs 12 _ rfl _ _ _ _ _ _ (fun zq => absurd (hd_c1z (c := 0) (by omega) (by omega) zq) (by omega : ¬ ((1 : Int) = 0))) (fun _ => ?_)
      refine hs 13 _ rfl _ _ _ _ _ _ _ rfl ?_
      exact hs 14 _ rfl _ _ _ _ _ (rv _) (by omega) (by omega) (hP 0 _ _ _ (Or.inr ⟨c1_, rfl, rfl⟩) f2_ ⟨_, _, _, _, x2_⟩)
  · obtain ⟨i, rfl⟩ : ∃ i : Nat, e = (i : Int) := ⟨e.toNat, by have := c1_.1.1; omega⟩
    obtain ⟨i2, rfl⟩ : ∃ i2 : Nat, e2 = (i2 : Int) := ⟨e2.toNat, by have := c1_.2.1; omega⟩
    have hi : i < 6 := by have := c1_.1.2; omega
    have hi2 : i2 < 6 := by have := c1_.2.2; omega
    have okd_ := hok.1
    by_cases cj_ : c.1 ≤ 0
    · 
      refine hs 0 _ rfl _ _ _ _ _ _ _ rfl ?_
      refine hs 1 _ rfl _ _ _ _ _ _ _ rfl ?_
      refine zw_c (hs 2 _ rfl) (a := [.int (Int32.ofInt (i : Int))]) (st := [.ref x]) rfl rfl (Nat.le_of_ble_eq_true rfl) trivial (by omega) (by omega) (zm_noSlot_M g (e := (i : Int)) (by omega) (by omega) (fun y_ => absurd (by omega) y_) (fun y_ => ?_))
      show S 5 [some (.ref x), some (.int (Int32.ofInt (i : Int))), some (.int (Int32.ofInt (i2 : Int)))] [.int (Int32.ofInt (0 : Int)), .ref x] _ _ _
      refine hs 3 _ rfl _ _ _ _ _ _ (fun zq => absurd (hd_c1z (c := 1) (by omega) (by omega) zq) (by omega : ¬ ((0 : Int) ≠ 0))) (fun _ => ?_)
      refine hs 4 _ rfl _ _ _ _ _ _ _ rfl ?_
      refine zw_c (hs 5 _ rfl) (a := [.int (Int32.ofInt (i2 : Int))]) (st := [.ref x]) rfl rfl (Nat.le_of_ble_eq_true rfl) trivial (by omega) (by omega) (zm_noSlot_M g (e := (i2 : Int)) (by omega) (by omega) (fun y_ => absurd (by omega) y_) (fun y_ => ?_))
      show S 12 [some (.ref x), some (.int (Int32.ofInt (i : Int))), some (.int (Int32.ofInt (i2 : Int)))] [.int (Int32.ofInt (0 : Int)), .ref x] _ _ _
      refine hs 6 _ rfl _ _ _ _ _ _ (fun _ => ?_) (fun zq => absurd (hd_c1t (c := 0) (by omega) (by omega) (by omega : (0 : Int) = 0)) zq)
      refine hs 9 _ rfl _ _ _ _ _ _ _ rfl ?_
      refine hs 10 _ rfl _ _ _ _ _ _ _ rfl ?_
      refine zw_c (hs 11 _ rfl) (a := [.ref x, .int (Int32.ofInt (0 : Int)), .int (Int32.ofInt (1 : Int))]) (st := []) rfl rfl (Nat.le_of_ble_eq_true rfl) ⟨_, _, _, rfl, a1_, a2_.1⟩ (by omega) (by omega) (zm_start_M g hX (i_ := 0) (w_ := 1) (Or.inl rfl) (by decide) (fun y_ => absurd y_ (by decide)) (fun y_ h2_ f2_ x2_ => ?_))
      have ok1_ := hok.2.1.1
      obtain ⟨t_, qn_, tn_, ql_, qb_, vn_, s1_, ⟨b1_, b2_, b3_⟩, ⟨d1_, d2_⟩, up_⟩ := x2_.numL
      obtain ⟨v2_, hvv2_⟩ : ∃ v_, vn_[i2]? = some v_ := ⟨_, List.getElem?_eq_getElem (by omega)⟩
      have gzv2_ : c.2.1[i2]? = some (c.2.1.getD i2 0) := sb_ge (by omega)
      obtain ⟨pt_, pd_, ptd_, pb_, pds_, p1_, p2_, p3_, p4_, p5_⟩ := d2_ _ _ _ hvv2_ gzv2_
      have pl_ : pds_.length ≤ 36 := zm_len p5_ (hok.get (by omega))
      have zq_ : zn_N G h2_ v2_ (c.2.1.getD i2 0) := ⟨_, _, _, _, _, p1_, p2_, p3_, p4_, p5_⟩
      have in2_ : sp_in (c.2.1.getD i2 0) := hok.get hi2
      show S 24 [some (.ref x), some (.int (Int32.ofInt (i : Int))), some (.int (Int32.ofInt (i2 : Int)))] [.int (Int32.ofInt (0 : Int))] _ _ _
      refine hs 12 _ rfl _ _ _ _ _ _ (fun _ => ?_) (fun zq => absurd (hd_c1t (c := 0) (by omega) (by omega) (by omega : (0 : Int) = 0)) zq)
      refine hs 15 _ rfl _ _ _ _ _ _ _ rfl ?_
      refine hs 16 _ rfl _ _ _ _ _ _ _ rfl ?_
      refine hs 17 _ rfl _ _ _ _ _ _ _ rfl ?_
      refine hs 18 _ rfl _ _ _ _ _ _ _ rfl ?_
      refine hs 19 _ rfl _ _ _ _ _ _ _ rfl ?_
      refine hs 20 _ rfl _ _ _ _ _ _ _ _ _ (x2_.1) a2_.1 rfl ?_
      refine hs 21 _ rfl _ _ _ _ _ _ _ _ _ (s1_.1) s1_.2 rfl ?_
      refine hs 22 _ rfl _ _ _ _ _ _ _ rfl ?_
      refine zw_Ar (hs 23 _ rfl) (b1_) (by first | rfl | (rw [b2_]; rfl)) (j := i2) (by omega) (by omega) (zm_nv hvv2_) ?_
      refine zw_c (hs 24 _ rfl) (a := [.ref x, .int (Int32.ofInt (i : Int)), .ref v2_]) (st := [.int (Int32.ofInt (i : Int)), .ref x]) rfl rfl (Nat.le_of_ble_eq_true rfl) (zm_rc x2_) (by omega) (by omega) (zm_pow_M g x2_ hok rfl hi zq_ in2_ (fun y_ => ?_) (fun y_ => absurd y_ (by omega)))
      show S 45 [some (.ref x), some (.int (Int32.ofInt (i : Int))), some (.int (Int32.ofInt (i2 : Int)))] [.int (Int32.ofInt (-9 : Int)), .int (Int32.ofInt (i : Int)), .ref x] _ _ _
      refine zw_cm (hs 25 _ rfl) (a := [.ref x, .int (Int32.ofInt (i : Int)), .int (Int32.ofInt (-9 : Int))]) (st := []) 17 111 rfl rfl (Nat.le_of_ble_eq_true rfl) (zm_rc x2_) (by omega) (by omega) (zm_round_M g x2_ hok hp12 rfl hi (Or.inl rfl) (by omega) (by omega) (by omega) (fun y_ h4_ f4_ x4_ => ?_) (fun y_ => absurd y_ (by decide)) (fun y_ => absurd y_ (by decide)))
      show S 48 [some (.ref x), some (.int (Int32.ofInt (i : Int))), some (.int (Int32.ofInt (i2 : Int)))] [.int (Int32.ofInt (-9 : Int))] _ _ _
      exact hs 26 _ rfl _ _ _ _ _ (rv _) (by omega) (by omega) (hP _ _ _ _ (Or.inl ⟨c1_, rfl, Or.inl ⟨cj_, rfl, rfl⟩⟩) (f2_.tr f4_) ⟨_, _, _, _, x4_⟩)
    · have cp_ : 0 < c.1 := by omega
      have hm9_ : c.1 ≠ 0 := by omega
      have q1_ := Int.emod_nonneg (c.2.1.getD i 0) hm9_
      have q2_ := Int.emod_lt_of_pos (c.2.1.getD i 0) (show 0 < c.1 by omega)
      refine hs 0 _ rfl _ _ _ _ _ _ _ rfl ?_
      refine hs 1 _ rfl _ _ _ _ _ _ _ rfl ?_
      refine zw_c (hs 2 _ rfl) (a := [.int (Int32.ofInt (i : Int))]) (st := [.ref x]) rfl rfl (Nat.le_of_ble_eq_true rfl) trivial (by omega) (by omega) (zm_noSlot_M g (e := (i : Int)) (by omega) (by omega) (fun y_ => absurd (by omega) y_) (fun y_ => ?_))
      show S 5 [some (.ref x), some (.int (Int32.ofInt (i : Int))), some (.int (Int32.ofInt (i2 : Int)))] [.int (Int32.ofInt (0 : Int)), .ref x] _ _ _
      refine hs 3 _ rfl _ _ _ _ _ _ (fun zq => absurd (hd_c1z (c := 1) (by omega) (by omega) zq) (by omega : ¬ ((0 : Int) ≠ 0))) (fun _ => ?_)
      refine hs 4 _ rfl _ _ _ _ _ _ _ rfl ?_
      refine zw_c (hs 5 _ rfl) (a := [.int (Int32.ofInt (i2 : Int))]) (st := [.ref x]) rfl rfl (Nat.le_of_ble_eq_true rfl) trivial (by omega) (by omega) (zm_noSlot_M g (e := (i2 : Int)) (by omega) (by omega) (fun y_ => absurd (by omega) y_) (fun y_ => ?_))
      show S 12 [some (.ref x), some (.int (Int32.ofInt (i : Int))), some (.int (Int32.ofInt (i2 : Int)))] [.int (Int32.ofInt (0 : Int)), .ref x] _ _ _
      refine hs 6 _ rfl _ _ _ _ _ _ (fun _ => ?_) (fun zq => absurd (hd_c1t (c := 0) (by omega) (by omega) (by omega : (0 : Int) = 0)) zq)
      refine hs 9 _ rfl _ _ _ _ _ _ _ rfl ?_
      refine hs 10 _ rfl _ _ _ _ _ _ _ rfl ?_
      refine zw_c (hs 11 _ rfl) (a := [.ref x, .int (Int32.ofInt (0 : Int)), .int (Int32.ofInt (1 : Int))]) (st := []) rfl rfl (Nat.le_of_ble_eq_true rfl) ⟨_, _, _, rfl, a1_, a2_.1⟩ (by omega) (by omega) (zm_start_M g hX (i_ := 0) (w_ := 1) (Or.inl rfl) (by decide) (fun y_ => absurd y_ (by decide)) (fun y_ h2_ f2_ x2_ => ?_))
      have ok1_ := hok.2.1.1
      obtain ⟨t_, qn_, tn_, ql_, qb_, vn_, s1_, ⟨b1_, b2_, b3_⟩, ⟨d1_, d2_⟩, up_⟩ := x2_.numL
      obtain ⟨v2_, hvv2_⟩ : ∃ v_, vn_[i2]? = some v_ := ⟨_, List.getElem?_eq_getElem (by omega)⟩
      have gzv2_ : c.2.1[i2]? = some (c.2.1.getD i2 0) := sb_ge (by omega)
      obtain ⟨pt_, pd_, ptd_, pb_, pds_, p1_, p2_, p3_, p4_, p5_⟩ := d2_ _ _ _ hvv2_ gzv2_
      have pl_ : pds_.length ≤ 36 := zm_len p5_ (hok.get (by omega))
      have zq_ : zn_N G h2_ v2_ (c.2.1.getD i2 0) := ⟨_, _, _, _, _, p1_, p2_, p3_, p4_, p5_⟩
      have in2_ : sp_in (c.2.1.getD i2 0) := hok.get hi2
      show S 24 [some (.ref x), some (.int (Int32.ofInt (i : Int))), some (.int (Int32.ofInt (i2 : Int)))] [.int (Int32.ofInt (0 : Int))] _ _ _
      refine hs 12 _ rfl _ _ _ _ _ _ (fun _ => ?_) (fun zq => absurd (hd_c1t (c := 0) (by omega) (by omega) (by omega : (0 : Int) = 0)) zq)
      refine hs 15 _ rfl _ _ _ _ _ _ _ rfl ?_
      refine hs 16 _ rfl _ _ _ _ _ _ _ rfl ?_
      refine hs 17 _ rfl _ _ _ _ _ _ _ rfl ?_
      refine hs 18 _ rfl _ _ _ _ _ _ _ rfl ?_
      refine hs 19 _ rfl _ _ _ _ _ _ _ rfl ?_
      refine hs 20 _ rfl _ _ _ _ _ _ _ _ _ (x2_.1) a2_.1 rfl ?_
      refine hs 21 _ rfl _ _ _ _ _ _ _ _ _ (s1_.1) s1_.2 rfl ?_
      refine hs 22 _ rfl _ _ _ _ _ _ _ rfl ?_
      refine zw_Ar (hs 23 _ rfl) (b1_) (by first | rfl | (rw [b2_]; rfl)) (j := i2) (by omega) (by omega) (zm_nv hvv2_) ?_
      refine zw_c (hs 24 _ rfl) (a := [.ref x, .int (Int32.ofInt (i : Int)), .ref v2_]) (st := [.int (Int32.ofInt (i : Int)), .ref x]) rfl rfl (Nat.le_of_ble_eq_true rfl) (zm_rc x2_) (by omega) (by omega) (zm_pow_M g x2_ hok rfl hi zq_ in2_ (fun y_ => absurd y_ (by omega)) (fun y_ v_ hv_ => ?_))
      show S 45 [some (.ref x), some (.int (Int32.ofInt (i : Int))), some (.int (Int32.ofInt (i2 : Int)))] [.int (Int32.ofInt v_), .int (Int32.ofInt (i : Int)), .ref x] _ _ _
      have vb_ : v_ = -8 ∨ (0 ≤ v_ ∧ v_ < 400) := by
        rcases hv_ with ⟨-, -, y_⟩ | ⟨-, f_, -, -, -, y_⟩
        · exact Or.inl y_
        · have y2_ : f_ ^ (c.2.1.getD i2 0).natAbs % c.1.toNat < c.1.toNat := Nat.mod_lt _ (by omega)
          exact Or.inr ⟨by omega, by omega⟩
      by_cases m8_ : v_ = -8
      · rw [m8_] at hv_ ⊢
        refine zw_cm (hs 25 _ rfl) (a := [.ref x, .int (Int32.ofInt (i : Int)), .int (Int32.ofInt (-8 : Int))]) (st := []) 17 111 rfl rfl (Nat.le_of_ble_eq_true rfl) (zm_rc x2_) (by omega) (by omega) (zm_round_M g x2_ hok hp12 rfl hi (Or.inr (Or.inl rfl)) (by omega) (by omega) (by omega) (fun y_ => absurd y_ (by decide)) (fun y_ h4_ f4_ x4_ => ?_) (fun y_ => absurd y_ (by decide)))
        show S 48 [some (.ref x), some (.int (Int32.ofInt (i : Int))), some (.int (Int32.ofInt (i2 : Int)))] [.int (Int32.ofInt (-8 : Int))] _ _ _
        exact hs 26 _ rfl _ _ _ _ _ (rv _) (by omega) (by omega) (hP _ _ _ _ (Or.inl ⟨c1_, rfl, Or.inr ⟨cp_, hv_, Or.inl ⟨rfl, rfl⟩⟩⟩) (f2_.tr f4_) ⟨_, _, _, _, x4_⟩)
      · 
        refine zw_cm (hs 25 _ rfl) (a := [.ref x, .int (Int32.ofInt (i : Int)), .int (Int32.ofInt v_)]) (st := []) 17 111 rfl rfl (Nat.le_of_ble_eq_true rfl) (zm_rc x2_) (by omega) (by omega) (zm_round_M g x2_ hok hp12 rfl hi (Or.inr (Or.inr (by omega))) (by omega) (by omega) (by omega) (fun y_ => absurd y_ (by omega)) (fun y_ => absurd y_ (by omega)) (fun y_ h4_ f4_ x4_ => ?_))
        show S 48 [some (.ref x), some (.int (Int32.ofInt (i : Int))), some (.int (Int32.ofInt (i2 : Int)))] [.int (Int32.ofInt v_)] _ _ _
        exact hs 26 _ rfl _ _ _ _ _ (rv _) (by omega) (by omega) (hP _ _ _ _ (Or.inl ⟨c1_, rfl, Or.inr ⟨cp_, hv_, Or.inr ⟨by omega, rfl⟩⟩⟩) (f2_.tr f4_) x4_)
end
section
/-! THE CALLS OF THE REFERENCE: rows, bases, undo, knock, size -/
set_option maxHeartbeats 4000000 in
theorem zm_tell_M {l : Launch} {G : am_G} {X : ck_XT} (g : gM l G X) {o : Nat → Nat} {x tx now qw : Nat} {th j m k : Int} {c : sp_S} {P : List sp_S} {h : List am_C} (hX : zm_x G h o x tx now qw th j m k c P) (hok : sp_ok c) (hp12 : P.length ≤ 12) {e e2 : Int} (he1 : -2147483648 ≤ e) (he2 : e ≤ 2147483647) (hf1 : -2147483648 ≤ e2) (hf2 : e2 ≤ 2147483647) {mc ms : Nat} {Post : am_O → List am_C → Prop} (hmc : 16 ≤ mc) (hms : 91 ≤ ms)
    (hP : ∀ (a th : Int) (T' : sp_T) (h' : List am_C), sp_d11 e e2 (c, P, j, m, k) a th T' → zm_fr G h h' → zm_Y G h' x th T' → Post (.inl (some (.int (Int32.ofInt a)))) h') :
    am_M l G yX14_tell (.code yX14_tell prog_14_method_33_code 3 (some .int)) 12 316 mc ms [.ref x, .int (Int32.ofInt e), .int (Int32.ofInt e2)] h Post := by
  refine gh_yX14_tell_X g (Nat.le_of_ble_eq_true rfl) fun S SX hs hr hw hx => ?_
  have rv : ∀ x : Int32, ck_fv 0 (.int x) := fun x => ⟨_, rfl⟩
  obtain ⟨a1_, a2_, a3_, a4_⟩ := id hX
  have okr_ := hok.2.2.1.1
  by_cases c1_ : sp_row e e2
  rotate_left
  · have c1b_ : ¬ (-9999 ≤ e ∧ e ≤ 9999 ∧ 1 ≤ e2 ∧ e2 ≤ 999) := c1_
    refine hs 0 _ rfl _ _ _ _ _ _ _ rfl ?_
    refine hs 1 _ rfl _ _ _ _ _ _ _ rfl ?_
    refine hs 2 _ rfl _ _ _ _ _ _ _ rfl ?_
    refine zw_c (hs 3 _ rfl) (a := [.int (Int32.ofInt e), .int (Int32.ofInt e2)]) (st := [.ref x]) rfl rfl (Nat.le_of_ble_eq_true rfl) trivial (by omega) (by omega) (zm_noRow_M g (e := e) (f := e2) (by omega) (by omega) (by omega) (by omega) (fun y_ => ?_) (fun y_ => absurd y_ (by omega)))
    show S 6 [some (.ref x), some (.int (Int32.ofInt e)), some (.int (Int32.ofInt e2))] [.int (Int32.ofInt (1 : Int)), .ref x] _ _ _
    refine hs 4 _ rfl _ _ _ _ _ _ _ rfl ?_
    refine zw_c (hs 5 _ rfl) (a := [.ref x, .int (Int32.ofInt (1 : Int)), .int (Int32.ofInt (1 : Int))]) (st := []) rfl rfl (Nat.le_of_ble_eq_true rfl) ⟨_, _, _, rfl, a1_, a2_.1⟩ (by omega) (by omega) (zm_start_M g hX (i_ := 1) (w_ := 1) (Or.inr rfl) (by decide) (fun y_ h2_ f2_ x2_ => ?_) (fun y_ => absurd y_ (by decide)))
    show S 10 [some (.ref x), some (.int (Int32.ofInt e)), some (.int (Int32.ofInt e2))] [.int (Int32.ofInt (1 : Int))] _ _ _
    refine hs 6 _ rfl _ _ _ _ _ _ (fun _ => ?_) (fun zq => absurd (hd_c1t (c := 1) (by omega) (by omega) (by omega : (1 : Int) ≠ 0)) zq)
    refine hs 20 _ rfl _ _ _ _ _ _ _ rfl ?_
    exact hs 21 _ rfl _ _ _ _ _ (rv _) (by omega) (by omega) (hP 0 _ _ _ (Or.inr ⟨c1_, rfl, rfl⟩) f2_ ⟨_, _, _, _, x2_⟩)
  · have c1b_ : -9999 ≤ e ∧ e ≤ 9999 ∧ 1 ≤ e2 ∧ e2 ≤ 999 := c1_
    obtain ⟨f, rfl⟩ : ∃ f : Nat, e2 = (f : Int) := ⟨e2.toNat, by omega⟩
    by_cases c2_ : c.2.2.1.length < 6
    rotate_left
    · 
      refine hs 0 _ rfl _ _ _ _ _ _ _ rfl ?_
      refine hs 1 _ rfl _ _ _ _ _ _ _ rfl ?_
      refine hs 2 _ rfl _ _ _ _ _ _ _ rfl ?_
      refine zw_c (hs 3 _ rfl) (a := [.int (Int32.ofInt e), .int (Int32.ofInt (f : Int))]) (st := [.ref x]) rfl rfl (Nat.le_of_ble_eq_true rfl) trivial (by omega) (by omega) (zm_noRow_M g (e := e) (f := (f : Int)) (by omega) (by omega) (by omega) (by omega) (fun y_ => absurd (by omega) y_) (fun y_ => ?_))
      show S 6 [some (.ref x), some (.int (Int32.ofInt e)), some (.int (Int32.ofInt (f : Int)))] [.int (Int32.ofInt (0 : Int)), .ref x] _ _ _
      refine hs 4 _ rfl _ _ _ _ _ _ _ rfl ?_
      refine zw_c (hs 5 _ rfl) (a := [.ref x, .int (Int32.ofInt (0 : Int)), .int (Int32.ofInt (1 : Int))]) (st := []) rfl rfl (Nat.le_of_ble_eq_true rfl) ⟨_, _, _, rfl, a1_, a2_.1⟩ (by omega) (by omega) (zm_start_M g hX (i_ := 0) (w_ := 1) (Or.inl rfl) (by decide) (fun y_ => absurd y_ (by decide)) (fun y_ h2_ f2_ x2_ => ?_))
      obtain ⟨t_, qn_, ql_, qb_, vl_, s1_, l1_, ⟨e1_, e2_⟩, up_⟩ := x2_.rowL
      show S 10 [some (.ref x), some (.int (Int32.ofInt e)), some (.int (Int32.ofInt (f : Int)))] [.int (Int32.ofInt (0 : Int))] _ _ _
      refine hs 6 _ rfl _ _ _ _ _ _ (fun zq => absurd (hd_c1z (c := 1) (by omega) (by omega) zq) (by omega : ¬ ((0 : Int) ≠ 0))) (fun _ => ?_)
      refine hs 7 _ rfl _ _ _ _ _ _ _ rfl ?_
      refine hs 8 _ rfl _ _ _ _ _ _ _ rfl ?_
      refine hs 9 _ rfl _ _ _ _ _ _ _ _ _ (x2_.1) a2_.1 rfl ?_
      refine hs 10 _ rfl _ _ _ _ _ _ _ _ _ (s1_.1) s1_.2 rfl ?_
      refine zw_c (hs 11 _ rfl) (a := [.ref ql_]) (st := [.ref x]) rfl rfl (Nat.le_of_ble_eq_true rfl) (zm_l.rc l1_) (by omega) (by omega) (zm_size_M g l1_ ?_)
      show S 24 [some (.ref x), some (.int (Int32.ofInt e)), some (.int (Int32.ofInt (f : Int)))] [.int (Int32.ofInt (vl_.length : Int)), .ref x] _ _ _
      refine hs 12 _ rfl _ _ _ _ _ _ _ rfl ?_
      refine hs 13 _ rfl _ _ _ _ _ _ _ (fun zq => absurd (hd_c2z (c := 1) (by omega) (by omega) (by omega) (by omega) zq) (by omega : ¬ (((vl_.length : Int) - (6 : Int)) ≠ 0))) (fun _ => ?_)
      refine hs 14 _ rfl _ _ _ _ _ _ _ rfl ?_
      refine hs 15 _ rfl _ _ _ _ _ ?_
      refine hs 17 _ rfl _ _ _ _ _ _ _ rfl ?_
      refine zw_c (hs 18 _ rfl) (a := [.ref x, .int (Int32.ofInt (1 : Int)), .int (Int32.ofInt (2 : Int))]) (st := []) rfl rfl (Nat.le_of_ble_eq_true rfl) ⟨_, _, _, rfl, x2_.1, a2_.1⟩ (by omega) (by omega) (zm_refuse_M g x2_ (i_ := 1) (w_ := 2) (Or.inr rfl) (by decide) (fun y_ h3_ f3_ x3_ => ?_) (fun y_ => absurd y_ (by decide)))
      show S 38 [some (.ref x), some (.int (Int32.ofInt e)), some (.int (Int32.ofInt (f : Int)))] [.int (Int32.ofInt (1 : Int))] _ _ _
      refine hs 19 _ rfl _ _ _ _ _ _ (fun zq => absurd (hd_c1z (c := 0) (by omega) (by omega) zq) (by omega : ¬ ((1 : Int) = 0))) (fun _ => ?_)
      refine hs 20 _ rfl _ _ _ _ _ _ _ rfl ?_
      exact hs 21 _ rfl _ _ _ _ _ (rv _) (by omega) (by omega) (hP 0 _ _ _ (Or.inl ⟨c1_, Or.inr ⟨c2_, rfl, rfl⟩⟩) (f2_.tr f3_) ⟨_, _, _, _, x3_⟩)
    · 
      refine hs 0 _ rfl _ _ _ _ _ _ _ rfl ?_
      refine hs 1 _ rfl _ _ _ _ _ _ _ rfl ?_
      refine hs 2 _ rfl _ _ _ _ _ _ _ rfl ?_
      refine zw_c (hs 3 _ rfl) (a := [.int (Int32.ofInt e), .int (Int32.ofInt (f : Int))]) (st := [.ref x]) rfl rfl (Nat.le_of_ble_eq_true rfl) trivial (by omega) (by omega) (zm_noRow_M g (e := e) (f := (f : Int)) (by omega) (by omega) (by omega) (by omega) (fun y_ => absurd (by omega) y_) (fun y_ => ?_))
      show S 6 [some (.ref x), some (.int (Int32.ofInt e)), some (.int (Int32.ofInt (f : Int)))] [.int (Int32.ofInt (0 : Int)), .ref x] _ _ _
      refine hs 4 _ rfl _ _ _ _ _ _ _ rfl ?_
      refine zw_c (hs 5 _ rfl) (a := [.ref x, .int (Int32.ofInt (0 : Int)), .int (Int32.ofInt (1 : Int))]) (st := []) rfl rfl (Nat.le_of_ble_eq_true rfl) ⟨_, _, _, rfl, a1_, a2_.1⟩ (by omega) (by omega) (zm_start_M g hX (i_ := 0) (w_ := 1) (Or.inl rfl) (by decide) (fun y_ => absurd y_ (by decide)) (fun y_ h2_ f2_ x2_ => ?_))
      obtain ⟨t_, qn_, ql_, qb_, vl_, s1_, l1_, ⟨e1_, e2_⟩, up_⟩ := x2_.rowL
      show S 10 [some (.ref x), some (.int (Int32.ofInt e)), some (.int (Int32.ofInt (f : Int)))] [.int (Int32.ofInt (0 : Int))] _ _ _
      refine hs 6 _ rfl _ _ _ _ _ _ (fun zq => absurd (hd_c1z (c := 1) (by omega) (by omega) zq) (by omega : ¬ ((0 : Int) ≠ 0))) (fun _ => ?_)
      refine hs 7 _ rfl _ _ _ _ _ _ _ rfl ?_
      refine hs 8 _ rfl _ _ _ _ _ _ _ rfl ?_
      refine hs 9 _ rfl _ _ _ _ _ _ _ _ _ (x2_.1) a2_.1 rfl ?_
      refine hs 10 _ rfl _ _ _ _ _ _ _ _ _ (s1_.1) s1_.2 rfl ?_
      refine zw_c (hs 11 _ rfl) (a := [.ref ql_]) (st := [.ref x]) rfl rfl (Nat.le_of_ble_eq_true rfl) (zm_l.rc l1_) (by omega) (by omega) (zm_size_M g l1_ ?_)
      show S 24 [some (.ref x), some (.int (Int32.ofInt e)), some (.int (Int32.ofInt (f : Int)))] [.int (Int32.ofInt (vl_.length : Int)), .ref x] _ _ _
      refine hs 12 _ rfl _ _ _ _ _ _ _ rfl ?_
      refine hs 13 _ rfl _ _ _ _ _ _ _ (fun _ => ?_) (fun zq => absurd (hd_c2t (c := 1) (by omega) (by omega) (by omega) (by omega) (by omega : ((vl_.length : Int) - (6 : Int)) ≠ 0)) zq)
      refine hs 16 _ rfl _ _ _ _ _ _ _ rfl ?_
      refine hs 17 _ rfl _ _ _ _ _ _ _ rfl ?_
      refine zw_c (hs 18 _ rfl) (a := [.ref x, .int (Int32.ofInt (0 : Int)), .int (Int32.ofInt (2 : Int))]) (st := []) rfl rfl (Nat.le_of_ble_eq_true rfl) ⟨_, _, _, rfl, x2_.1, a2_.1⟩ (by omega) (by omega) (zm_refuse_M g x2_ (i_ := 0) (w_ := 2) (Or.inl rfl) (by decide) (fun y_ => absurd y_ (by decide)) (fun y_ => ?_))
      show S 38 [some (.ref x), some (.int (Int32.ofInt e)), some (.int (Int32.ofInt (f : Int)))] [.int (Int32.ofInt (0 : Int))] _ _ _
      refine hs 19 _ rfl _ _ _ _ _ _ (fun _ => ?_) (fun zq => absurd (hd_c1t (c := 0) (by omega) (by omega) (by omega : (0 : Int) = 0)) zq)
      refine hs 22 _ rfl _ _ _ _ _ _ _ rfl ?_
      refine hs 23 _ rfl _ _ _ _ _ _ _ rfl ?_
      refine hs 24 _ rfl _ _ _ _ _ _ _ rfl ?_
      refine zw_cm (hs 25 _ rfl) (a := [.ref x, .int (Int32.ofInt e), .int (Int32.ofInt (f : Int))]) (st := []) 16 91 rfl rfl (Nat.le_of_ble_eq_true rfl) (zm_rc x2_) (by omega) (by omega) (zm_addRow_M g x2_ hok hp12 (by omega) (by omega) (by omega) (by omega) c2_ (by omega) (by omega) fun h3_ f3_ x3_ => ?_)
      show S 49 [some (.ref x), some (.int (Int32.ofInt e)), some (.int (Int32.ofInt (f : Int)))] [.int (Int32.ofInt (c.2.2.1.length : Int))] _ _ _
      exact hs 26 _ rfl _ _ _ _ _ (rv _) (by omega) (by omega) (hP _ _ _ _ (Or.inl ⟨c1_, Or.inl ⟨c2_, rfl, rfl, rfl⟩⟩) (f2_.tr f3_) x3_)
set_option maxHeartbeats 4000000 in
theorem zm_tellIf_M {l : Launch} {G : am_G} {X : ck_XT} (g : gM l G X) {o : Nat → Nat} {x tx now qw : Nat} {th j m k : Int} {c : sp_S} {P : List sp_S} {h : List am_C} (hX : zm_x G h o x tx now qw th j m k c P) (hok : sp_ok c) (hp12 : P.length ≤ 12) {e e2 : Int} (he1 : -2147483648 ≤ e) (he2 : e ≤ 2147483647) (hf1 : -2147483648 ≤ e2) (hf2 : e2 ≤ 2147483647) {mc ms : Nat} {Post : am_O → List am_C → Prop} (hmc : 19 ≤ mc) (hms : 99 ≤ ms)
    (hP : ∀ (a th : Int) (T' : sp_T) (h' : List am_C), sp_d12 e e2 (c, P, j, m, k) a th T' → zm_fr G h h' → zm_Y G h' x th T' → Post (.inl (some (.int (Int32.ofInt a)))) h') :
    am_M l G yX14_tellIf (.code yX14_tellIf prog_14_method_34_code 3 (some .boolean)) 12 316 mc ms [.ref x, .int (Int32.ofInt e), .int (Int32.ofInt e2)] h Post := by
  refine gh_yX14_tellIf_X g (Nat.le_of_ble_eq_true rfl) fun S SX hs hr hw hx => ?_
  have rv : ∀ x : Int32, ck_fv 0 (.int x) := fun x => ⟨_, rfl⟩
  obtain ⟨a1_, a2_, a3_, a4_⟩ := id hX
  have okr_ := hok.2.2.1.1
  by_cases c1_ : sp_row e e2
  rotate_left
  · have c1b_ : ¬ (-9999 ≤ e ∧ e ≤ 9999 ∧ 1 ≤ e2 ∧ e2 ≤ 999) := c1_
    refine hs 0 _ rfl _ _ _ _ _ _ _ rfl ?_
    refine hs 1 _ rfl _ _ _ _ _ _ _ rfl ?_
    refine hs 2 _ rfl _ _ _ _ _ _ _ rfl ?_
    refine zw_c (hs 3 _ rfl) (a := [.int (Int32.ofInt e), .int (Int32.ofInt e2)]) (st := [.ref x]) rfl rfl (Nat.le_of_ble_eq_true rfl) trivial (by omega) (by omega) (zm_noRow_M g (e := e) (f := e2) (by omega) (by omega) (by omega) (by omega) (fun y_ => ?_) (fun y_ => absurd y_ (by omega)))
    show S 6 [some (.ref x), some (.int (Int32.ofInt e)), some (.int (Int32.ofInt e2))] [.int (Int32.ofInt (1 : Int)), .ref x] _ _ _
    refine hs 4 _ rfl _ _ _ _ _ _ _ rfl ?_
    refine zw_c (hs 5 _ rfl) (a := [.ref x, .int (Int32.ofInt (1 : Int)), .int (Int32.ofInt (1 : Int))]) (st := []) rfl rfl (Nat.le_of_ble_eq_true rfl) ⟨_, _, _, rfl, a1_, a2_.1⟩ (by omega) (by omega) (zm_start_M g hX (i_ := 1) (w_ := 1) (Or.inr rfl) (by decide) (fun y_ h2_ f2_ x2_ => ?_) (fun y_ => absurd y_ (by decide)))
    show S 10 [some (.ref x), some (.int (Int32.ofInt e)), some (.int (Int32.ofInt e2))] [.int (Int32.ofInt (1 : Int))] _ _ _
    refine hs 6 _ rfl _ _ _ _ _ _ (fun _ => ?_) (fun zq => absurd (hd_c1t (c := 1) (by omega) (by omega) (by omega : (1 : Int) ≠ 0)) zq)
    refine hs 25 _ rfl _ _ _ _ _ _ _ rfl ?_
    exact hs 26 _ rfl _ _ _ _ _ (⟨_, rfl, by decide, by decide⟩) (by omega) (by omega) (hP 0 _ _ _ (Or.inr ⟨c1_, rfl, rfl⟩) f2_ ⟨_, _, _, _, x2_⟩)
  · have c1b_ : -9999 ≤ e ∧ e ≤ 9999 ∧ 1 ≤ e2 ∧ e2 ≤ 999 := c1_
    obtain ⟨f, rfl⟩ : ∃ f : Nat, e2 = (f : Int) := ⟨e2.toNat, by omega⟩
    by_cases c2_ : c.2.2.1.length < 6
    rotate_left
    · 
      refine hs 0 _ rfl _ _ _ _ _ _ _ rfl ?_
      refine hs 1 _ rfl _ _ _ _ _ _ _ rfl ?_
      refine hs 2 _ rfl _ _ _ _ _ _ _ rfl ?_
      refine zw_c (hs 3 _ rfl) (a := [.int (Int32.ofInt e), .int (Int32.ofInt (f : Int))]) (st := [.ref x]) rfl rfl (Nat.le_of_ble_eq_true rfl) trivial (by omega) (by omega) (zm_noRow_M g (e := e) (f := (f : Int)) (by omega) (by omega) (by omega) (by omega) (fun y_ => absurd (by omega) y_) (fun y_ => ?_))
      show S 6 [some (.ref x), some (.int (Int32.ofInt e)), some (.int (Int32.ofInt (f : Int)))] [.int (Int32.ofInt (0 : Int)), .ref x] _ _ _
      refine hs 4 _ rfl _ _ _ _ _ _ _ rfl ?_
      refine zw_c (hs 5 _ rfl) (a := [.ref x, .int (Int32.ofInt (0 : Int)), .int (Int32.ofInt (1 : Int))]) (st := []) rfl rfl (Nat.le_of_ble_eq_true rfl) ⟨_, _, _, rfl, a1_, a2_.1⟩ (by omega) (by omega) (zm_start_M g hX (i_ := 0) (w_ := 1) (Or.inl rfl) (by decide) (fun y_ => absurd y_ (by decide)) (fun y_ h2_ f2_ x2_ => ?_))
      obtain ⟨t_, qn_, ql_, qb_, vl_, s1_, l1_, ⟨e1_, e2_⟩, up_⟩ := x2_.rowL
      show S 10 [some (.ref x), some (.int (Int32.ofInt e)), some (.int (Int32.ofInt (f : Int)))] [.int (Int32.ofInt (0 : Int))] _ _ _
      refine hs 6 _ rfl _ _ _ _ _ _ (fun zq => absurd (hd_c1z (c := 1) (by omega) (by omega) zq) (by omega : ¬ ((0 : Int) ≠ 0))) (fun _ => ?_)
      refine hs 7 _ rfl _ _ _ _ _ _ _ rfl ?_
      refine hs 8 _ rfl _ _ _ _ _ _ _ rfl ?_
      refine hs 9 _ rfl _ _ _ _ _ _ _ _ _ (x2_.1) a2_.1 rfl ?_
      refine hs 10 _ rfl _ _ _ _ _ _ _ _ _ (s1_.1) s1_.2 rfl ?_
      refine zw_c (hs 11 _ rfl) (a := [.ref ql_]) (st := [.ref x]) rfl rfl (Nat.le_of_ble_eq_true rfl) (zm_l.rc l1_) (by omega) (by omega) (zm_size_M g l1_ ?_)
      show S 24 [some (.ref x), some (.int (Int32.ofInt e)), some (.int (Int32.ofInt (f : Int)))] [.int (Int32.ofInt (vl_.length : Int)), .ref x] _ _ _
      refine hs 12 _ rfl _ _ _ _ _ _ _ rfl ?_
      refine hs 13 _ rfl _ _ _ _ _ _ _ (fun zq => absurd (hd_c2z (c := 1) (by omega) (by omega) (by omega) (by omega) zq) (by omega : ¬ (((vl_.length : Int) - (6 : Int)) ≠ 0))) (fun _ => ?_)
      refine hs 14 _ rfl _ _ _ _ _ _ _ rfl ?_
      refine hs 15 _ rfl _ _ _ _ _ ?_
      refine hs 17 _ rfl _ _ _ _ _ _ _ rfl ?_
      refine zw_c (hs 18 _ rfl) (a := [.ref x, .int (Int32.ofInt (1 : Int)), .int (Int32.ofInt (2 : Int))]) (st := []) rfl rfl (Nat.le_of_ble_eq_true rfl) ⟨_, _, _, rfl, x2_.1, a2_.1⟩ (by omega) (by omega) (zm_refuse_M g x2_ (i_ := 1) (w_ := 2) (Or.inr rfl) (by decide) (fun y_ h3_ f3_ x3_ => ?_) (fun y_ => absurd y_ (by decide)))
      show S 38 [some (.ref x), some (.int (Int32.ofInt e)), some (.int (Int32.ofInt (f : Int)))] [.int (Int32.ofInt (1 : Int))] _ _ _
      refine hs 19 _ rfl _ _ _ _ _ _ (fun _ => ?_) (fun zq => absurd (hd_c1t (c := 1) (by omega) (by omega) (by omega : (1 : Int) ≠ 0)) zq)
      refine hs 25 _ rfl _ _ _ _ _ _ _ rfl ?_
      exact hs 26 _ rfl _ _ _ _ _ (⟨_, rfl, by decide, by decide⟩) (by omega) (by omega) (hP 0 _ _ _ (Or.inl ⟨c1_, Or.inr ⟨c2_, rfl, rfl⟩⟩) (f2_.tr f3_) ⟨_, _, _, _, x3_⟩)
    · 
      refine hs 0 _ rfl _ _ _ _ _ _ _ rfl ?_
      refine hs 1 _ rfl _ _ _ _ _ _ _ rfl ?_
      refine hs 2 _ rfl _ _ _ _ _ _ _ rfl ?_
      refine zw_c (hs 3 _ rfl) (a := [.int (Int32.ofInt e), .int (Int32.ofInt (f : Int))]) (st := [.ref x]) rfl rfl (Nat.le_of_ble_eq_true rfl) trivial (by omega) (by omega) (zm_noRow_M g (e := e) (f := (f : Int)) (by omega) (by omega) (by omega) (by omega) (fun y_ => absurd (by omega) y_) (fun y_ => ?_))
      show S 6 [some (.ref x), some (.int (Int32.ofInt e)), some (.int (Int32.ofInt (f : Int)))] [.int (Int32.ofInt (0 : Int)), .ref x] _ _ _
      refine hs 4 _ rfl _ _ _ _ _ _ _ rfl ?_
      refine zw_c (hs 5 _ rfl) (a := [.ref x, .int (Int32.ofInt (0 : Int)), .int (Int32.ofInt (1 : Int))]) (st := []) rfl rfl (Nat.le_of_ble_eq_true rfl) ⟨_, _, _, rfl, a1_, a2_.1⟩ (by omega) (by omega) (zm_start_M g hX (i_ := 0) (w_ := 1) (Or.inl rfl) (by decide) (fun y_ => absurd y_ (by decide)) (fun y_ h2_ f2_ x2_ => ?_))
      obtain ⟨t_, qn_, ql_, qb_, vl_, s1_, l1_, ⟨e1_, e2_⟩, up_⟩ := x2_.rowL
      show S 10 [some (.ref x), some (.int (Int32.ofInt e)), some (.int (Int32.ofInt (f : Int)))] [.int (Int32.ofInt (0 : Int))] _ _ _
      refine hs 6 _ rfl _ _ _ _ _ _ (fun zq => absurd (hd_c1z (c := 1) (by omega) (by omega) zq) (by omega : ¬ ((0 : Int) ≠ 0))) (fun _ => ?_)
      refine hs 7 _ rfl _ _ _ _ _ _ _ rfl ?_
      refine hs 8 _ rfl _ _ _ _ _ _ _ rfl ?_
      refine hs 9 _ rfl _ _ _ _ _ _ _ _ _ (x2_.1) a2_.1 rfl ?_
      refine hs 10 _ rfl _ _ _ _ _ _ _ _ _ (s1_.1) s1_.2 rfl ?_
      refine zw_c (hs 11 _ rfl) (a := [.ref ql_]) (st := [.ref x]) rfl rfl (Nat.le_of_ble_eq_true rfl) (zm_l.rc l1_) (by omega) (by omega) (zm_size_M g l1_ ?_)
      show S 24 [some (.ref x), some (.int (Int32.ofInt e)), some (.int (Int32.ofInt (f : Int)))] [.int (Int32.ofInt (vl_.length : Int)), .ref x] _ _ _
      refine hs 12 _ rfl _ _ _ _ _ _ _ rfl ?_
      refine hs 13 _ rfl _ _ _ _ _ _ _ (fun _ => ?_) (fun zq => absurd (hd_c2t (c := 1) (by omega) (by omega) (by omega) (by omega) (by omega : ((vl_.length : Int) - (6 : Int)) ≠ 0)) zq)
      refine hs 16 _ rfl _ _ _ _ _ _ _ rfl ?_
      refine hs 17 _ rfl _ _ _ _ _ _ _ rfl ?_
      refine zw_c (hs 18 _ rfl) (a := [.ref x, .int (Int32.ofInt (0 : Int)), .int (Int32.ofInt (2 : Int))]) (st := []) rfl rfl (Nat.le_of_ble_eq_true rfl) ⟨_, _, _, rfl, x2_.1, a2_.1⟩ (by omega) (by omega) (zm_refuse_M g x2_ (i_ := 0) (w_ := 2) (Or.inl rfl) (by decide) (fun y_ => absurd y_ (by decide)) (fun y_ => ?_))
      show S 38 [some (.ref x), some (.int (Int32.ofInt e)), some (.int (Int32.ofInt (f : Int)))] [.int (Int32.ofInt (0 : Int))] _ _ _
      refine hs 19 _ rfl _ _ _ _ _ _ (fun zq => absurd (hd_c1z (c := 1) (by omega) (by omega) zq) (by omega : ¬ ((0 : Int) ≠ 0))) (fun _ => ?_)
      refine hs 20 _ rfl _ _ _ _ _ _ _ rfl ?_
      refine hs 21 _ rfl _ _ _ _ _ _ _ rfl ?_
      refine hs 22 _ rfl _ _ _ _ _ _ _ rfl ?_
      refine zw_cm (hs 23 _ rfl) (a := [.ref x, .int (Int32.ofInt e), .int (Int32.ofInt (f : Int))]) (st := []) 3 8 rfl rfl (Nat.le_of_ble_eq_true rfl) (zm_rc x2_) (by omega) (by omega) (zm_isFit_M g x2_ hok (by omega) (by omega) (by omega) (by omega) (by omega) (by omega) (fun ft_ h3_ g3_ => ?_) (fun ft_ h3_ g3_ => ?_))
      · show S 47 [some (.ref x), some (.int (Int32.ofInt e)), some (.int (Int32.ofInt (f : Int)))] [.int (Int32.ofInt (1 : Int))] _ _ _
        refine hs 24 _ rfl _ _ _ _ _ _ (fun _ => ?_) (fun zq => absurd (hd_c1t (c := 1) (by omega) (by omega) (by omega : (1 : Int) ≠ 0)) zq)
        refine hs 27 _ rfl _ _ _ _ _ _ _ rfl ?_
        refine hs 28 _ rfl _ _ _ _ _ _ _ rfl ?_
        refine hs 29 _ rfl _ _ _ _ _ _ _ rfl ?_
        refine zw_cm (hs 30 _ rfl) (a := [.ref x, .int (Int32.ofInt e), .int (Int32.ofInt (f : Int))]) (st := []) 16 91 rfl rfl (Nat.le_of_ble_eq_true rfl) (zm_rc (x2_.g g3_ fun _ _ => rfl)) (by omega) (by omega) (zm_addRow_M g (x2_.g g3_ fun _ _ => rfl) hok hp12 (by omega) (by omega) (by omega) (by omega) c2_ (by omega) (by omega) fun h4_ f4_ x4_ => ?_)
        show S 58 [some (.ref x), some (.int (Int32.ofInt e)), some (.int (Int32.ofInt (f : Int)))] [.int (Int32.ofInt (c.2.2.1.length : Int))] _ _ _
        refine hs 31 _ rfl _ _ _ _ _ _ _ rfl ?_
        refine hs 32 _ rfl _ _ _ _ _ _ _ rfl ?_
        exact hs 33 _ rfl _ _ _ _ _ ⟨_, rfl, by decide, by decide⟩ (by omega) (by omega) (hP _ _ _ _ (Or.inl ⟨c1_, Or.inl ⟨c2_, rfl, Or.inl ⟨ft_, rfl, rfl⟩⟩⟩) ((f2_.tr (zm_fr.g g3_)).tr f4_) x4_)
      · show S 47 [some (.ref x), some (.int (Int32.ofInt e)), some (.int (Int32.ofInt (f : Int)))] [.int (Int32.ofInt (0 : Int))] _ _ _
        refine hs 24 _ rfl _ _ _ _ _ _ (fun zq => absurd (hd_c1z (c := 1) (by omega) (by omega) zq) (by omega : ¬ ((0 : Int) ≠ 0))) (fun _ => ?_)
        refine hs 25 _ rfl _ _ _ _ _ _ _ rfl ?_
        exact hs 26 _ rfl _ _ _ _ _ ⟨_, rfl, by decide, by decide⟩ (by omega) (by omega) (hP _ _ _ _ (Or.inl ⟨c1_, Or.inl ⟨c2_, rfl, Or.inr ⟨ft_, rfl, rfl⟩⟩⟩) (f2_.tr (zm_fr.g g3_)) ⟨_, _, _, _, x2_.g g3_ fun _ _ => rfl⟩)
theorem zl_ob.R {G : am_G} {h : List am_C} {vl : List Nat} {R : List (Int × Int)} (h1 : vl.length = R.length) (h2 : ∀ (i v : Nat) (r : Int × Int), vl[i]? = some v → R[i]? = some r → zm_r G h v r) : zl_ob G h vl := fun i v hv => by
  obtain ⟨p_, hp_⟩ : ∃ p_, R[i]? = some p_ := ⟨_, List.getElem?_eq_getElem (by have := (List.getElem?_eq_some_iff.mp hv).1; omega)⟩
  obtain ⟨t9_, y1_, y2_⟩ := h2 _ _ _ hv hp_
  exact ⟨t9_, _, y1_, by rw [y2_]; rfl⟩
theorem zl_ob.B {G : am_G} {h : List am_C} {vb : List Nat} {B : List Int} (h1 : vb.length = B.length) (h2 : ∀ (i v : Nat) (b : Int), vb[i]? = some v → B[i]? = some b → zm_i G h v b) : zl_ob G h vb := fun i v hv => by
  obtain ⟨p_, hp_⟩ : ∃ p_, B[i]? = some p_ := ⟨_, List.getElem?_eq_getElem (by have := (List.getElem?_eq_some_iff.mp hv).1; omega)⟩
  obtain ⟨t9_, y1_, y2_⟩ := h2 _ _ _ hv hp_
  exact ⟨t9_, _, y1_, by rw [y2_]; rfl⟩
theorem zt_er {α β : Type} {l : List α} {r : List β} {p : Nat} {Q : α → β → Prop} (h : ∀ (i : Nat) (a : α) (b : β), l[i]? = some a → r[i]? = some b → Q a b) (i : Nat) (a : α) (b : β) (h1 : (l.eraseIdx p)[i]? = some a) (h2 : (r.eraseIdx p)[i]? = some b) : Q a b := by
  rw [List.getElem?_eraseIdx] at h1 h2
  by_cases c_ : i < p
  · rw [if_pos c_] at h1 h2
    exact h _ _ _ h1 h2
  · rw [if_neg c_] at h1 h2
    exact h _ _ _ h1 h2
set_option maxHeartbeats 4000000 in
theorem zm_drop_M {l : Launch} {G : am_G} {X : ck_XT} (g : gM l G X) {o : Nat → Nat} {x tx now qw : Nat} {th j m k : Int} {c : sp_S} {P : List sp_S} {h : List am_C} (hX : zm_x G h o x tx now qw th j m k c P) (hok : sp_ok c) (hp12 : P.length ≤ 12) {e e2 : Int} (he1 : -2147483648 ≤ e) (he2 : e ≤ 2147483647) {mc ms : Nat} {Post : am_O → List am_C → Prop} (hmc : 14 ≤ mc) (hms : 69 ≤ ms)
    (hP : ∀ (a th : Int) (T' : sp_T) (h' : List am_C), sp_d13 e e2 (c, P, j, m, k) a th T' → zm_fr G h h' → zm_Y G h' x th T' → Post (.inl (some (.int (Int32.ofInt a)))) h') :
    am_M l G yX14_drop (.code yX14_drop prog_14_method_36_code 2 (some .int)) 11 294 mc ms [.ref x, .int (Int32.ofInt e)] h Post := by
  refine gh_yX14_drop_X g (Nat.le_of_ble_eq_true rfl) fun S SX hs hr hw hx => ?_
  have rv : ∀ x : Int32, ck_fv 0 (.int x) := fun x => ⟨_, rfl⟩
  obtain ⟨a1_, a2_, a3_, a4_⟩ := id hX
  by_cases c1_ : 0 ≤ e ∧ e < (c.2.2.1.length : Int)
  rotate_left
  · 
    refine hs 0 _ rfl _ _ _ _ _ _ _ rfl ?_
    refine hs 1 _ rfl _ _ _ _ _ _ _ rfl ?_
    refine hs 2 _ rfl _ _ _ _ _ _ _ rfl ?_
    refine zw_c (hs 3 _ rfl) (a := [.ref x, .int (Int32.ofInt e)]) (st := [.ref x]) rfl rfl (Nat.le_of_ble_eq_true rfl) (zm_rc hX) (by omega) (by omega) (zm_noPlace_M g hX (e := e) (by omega) (by omega) hok (fun y_ => ?_) (fun y_ => absurd y_ c1_))
    show S 6 [some (.ref x), some (.int (Int32.ofInt e))] [.int (Int32.ofInt (1 : Int)), .ref x] _ _ _
    refine hs 4 _ rfl _ _ _ _ _ _ _ rfl ?_
    refine zw_c (hs 5 _ rfl) (a := [.ref x, .int (Int32.ofInt (1 : Int)), .int (Int32.ofInt (1 : Int))]) (st := []) rfl rfl (Nat.le_of_ble_eq_true rfl) ⟨_, _, _, rfl, a1_, a2_.1⟩ (by omega) (by omega) (zm_start_M g hX (i_ := 1) (w_ := 1) (Or.inr rfl) (by decide) (fun y_ h2_ f2_ x2_ => ?_) (fun y_ => absurd y_ (by decide)))
    show S 10 [some (.ref x), some (.int (Int32.ofInt e))] [.int (Int32.ofInt (1 : Int))] _ _ _
    refine hs 6 _ rfl _ _ _ _ _ _ (fun zq => absurd (hd_c1z (c := 0) (by omega) (by omega) zq) (by omega : ¬ ((1 : Int) = 0))) (fun _ => ?_)
    refine hs 7 _ rfl _ _ _ _ _ _ _ rfl ?_
    exact hs 8 _ rfl _ _ _ _ _ (rv _) (by omega) (by omega) (hP 0 _ _ _ (Or.inr ⟨c1_, rfl, rfl⟩) f2_ ⟨_, _, _, _, x2_⟩)
  · obtain ⟨i, rfl⟩ : ∃ i : Nat, e = (i : Int) := ⟨e.toNat, by omega⟩
    refine hs 0 _ rfl _ _ _ _ _ _ _ rfl ?_
    refine hs 1 _ rfl _ _ _ _ _ _ _ rfl ?_
    refine hs 2 _ rfl _ _ _ _ _ _ _ rfl ?_
    refine zw_c (hs 3 _ rfl) (a := [.ref x, .int (Int32.ofInt (i : Int))]) (st := [.ref x]) rfl rfl (Nat.le_of_ble_eq_true rfl) (zm_rc hX) (by omega) (by omega) (zm_noPlace_M g hX (e := (i : Int)) (by omega) (by omega) hok (fun y_ => absurd c1_ y_) (fun y_ => ?_))
    show S 6 [some (.ref x), some (.int (Int32.ofInt (i : Int)))] [.int (Int32.ofInt (0 : Int)), .ref x] _ _ _
    refine hs 4 _ rfl _ _ _ _ _ _ _ rfl ?_
    refine zw_c (hs 5 _ rfl) (a := [.ref x, .int (Int32.ofInt (0 : Int)), .int (Int32.ofInt (1 : Int))]) (st := []) rfl rfl (Nat.le_of_ble_eq_true rfl) ⟨_, _, _, rfl, a1_, a2_.1⟩ (by omega) (by omega) (zm_start_M g hX (i_ := 0) (w_ := 1) (Or.inl rfl) (by decide) (fun y_ => absurd y_ (by decide)) (fun y_ h2_ f2_ x2_ => ?_))
    show S 10 [some (.ref x), some (.int (Int32.ofInt (i : Int)))] [.int (Int32.ofInt (0 : Int))] _ _ _
    refine hs 6 _ rfl _ _ _ _ _ _ (fun _ => ?_) (fun zq => absurd (hd_c1t (c := 0) (by omega) (by omega) (by omega : (0 : Int) = 0)) zq)
    refine hs 9 _ rfl _ _ _ _ _ _ _ rfl ?_
    refine zw_cm (hs 10 _ rfl) (a := [.ref x]) (st := []) 14 69 rfl rfl (Nat.le_of_ble_eq_true rfl) ⟨_, _, _, rfl, x2_.1, a2_.1⟩ (by omega) (by omega) (zm_keep_M g x2_ hok hp12 (by omega) (by omega) fun h3_ o3_ f3_ x3_ => ?_)
    obtain ⟨t_, qn_, ql_, qb_, vl_, s1_, l1_, ⟨e1_, e2_⟩, up_⟩ := x3_.rowL
    obtain ⟨v9_, hv9_⟩ : ∃ v_, vl_[i]? = some v_ := ⟨_, List.getElem?_eq_getElem (by omega)⟩
    show S 19 [some (.ref x), some (.int (Int32.ofInt (i : Int)))] [] _ _ _
    refine hs 11 _ rfl _ _ _ _ _ _ _ rfl ?_
    refine hs 12 _ rfl _ _ _ _ _ _ _ _ _ (x3_.1) a2_.1 rfl ?_
    refine hs 13 _ rfl _ _ _ _ _ _ _ _ _ (s1_.1) s1_.2 rfl ?_
    refine hs 14 _ rfl _ _ _ _ _ _ _ rfl ?_
    refine zw_c (hs 15 _ rfl) (a := [.ref ql_, .int (Int32.ofInt (i : Int))]) (st := []) rfl rfl (Nat.le_of_ble_eq_true rfl) (zm_l.rc l1_) (by omega) (by omega) (zm_rem_M g (j := i) (v := v9_) l1_ (zl_ob.R e1_ e2_) rfl hv9_ fun h4_ f4_ l4_ => ?_)
    have up2_ := up_ h4_ o3_ (vl_.eraseIdx i) (c.2.2.1.eraseIdx i) f4_ l4_ (by rw [List.length_eraseIdx, List.length_eraseIdx, e1_]) (fun i2_ a2b_ b2b_ y1_ y2_ => zt_er (Q := fun v_ r_ => zm_r G h4_ v_ r_) (fun i3_ a3b_ b3b_ z1_ z2_ => (e2_ i3_ a3b_ b3b_ z1_ z2_).f f4_ zm_d4.ok) i2_ a2b_ b2b_ y1_ y2_)
    have s9_ := f4_.2.2 _ _ _ s1_.1 (by rw [s1_.2]; exact zm_d4.nk (by decide) (by decide))
    show S 30 [some (.ref x), some (.int (Int32.ofInt (i : Int)))] [.ref v9_] _ _ _
    refine hs 16 _ rfl _ _ _ _ _ _ _ rfl ?_
    refine hs 17 _ rfl _ _ _ _ _ _ _ rfl ?_
    refine hs 18 _ rfl _ _ _ _ _ _ _ _ _ (up2_.1) a2_.1 rfl ?_
    refine hs 19 _ rfl _ _ _ _ _ _ _ _ _ (s9_) s1_.2 rfl ?_
    refine zw_c (hs 20 _ rfl) (a := [.ref ql_]) (st := []) rfl rfl (Nat.le_of_ble_eq_true rfl) (zm_l.rc l4_) (by omega) (by omega) (zm_size_M g l4_ ?_)
    show S 41 [some (.ref x), some (.int (Int32.ofInt (i : Int)))] [.int (Int32.ofInt ((vl_.eraseIdx i).length : Int))] _ _ _
    have sz_ : (vl_.eraseIdx i).length = (c.2.2.1.eraseIdx i).length := by rw [List.length_eraseIdx, List.length_eraseIdx, e1_]
    rw [sz_]
    exact hs 21 _ rfl _ _ _ _ _ (rv _) (by omega) (by omega) (hP _ _ _ _ (Or.inl ⟨c1_, rfl, rfl, rfl⟩) ((f2_.tr f3_).tr (zm_fr.f f4_ zm_d4.ok)) ⟨_, _, _, _, up2_⟩)
theorem zt_or {L : List (Option Value)} {st : List Value} {v x y : Int} (hx : x = 0 ∨ x = 1) (hy : y = 0 ∨ y = 1) : ck_cf 15 6 v L (.int (Int32.ofInt y) :: .int (Int32.ofInt x) :: st) = some (L, .int (Int32.ofInt (max x y)) :: st) := by
  rcases hx with rfl | rfl <;> rcases hy with rfl | rfl <;> rfl
set_option maxHeartbeats 4000000 in
theorem zm_base_M {l : Launch} {G : am_G} {X : ck_XT} (g : gM l G X) {o : Nat → Nat} {x tx now qw : Nat} {th j m k : Int} {c : sp_S} {P : List sp_S} {h : List am_C} (hX : zm_x G h o x tx now qw th j m k c P) (hok : sp_ok c) (hp12 : P.length ≤ 12) {e e2 : Int} (he1 : -2147483648 ≤ e) (he2 : e ≤ 2147483647) {mc ms : Nat} {Post : am_O → List am_C → Prop} (hmc : 17 ≤ mc) (hms : 94 ≤ ms)
    (hP : ∀ (a th : Int) (T' : sp_T) (h' : List am_C), sp_d14 e e2 (c, P, j, m, k) a th T' → zm_fr G h h' → zm_Y G h' x th T' → Post (.inl (some (.int (Int32.ofInt a)))) h') :
    am_M l G yX14_base (.code yX14_base prog_14_method_37_code 5 (some .int)) 11 294 mc ms [.ref x, .int (Int32.ofInt e)] h Post := by
  refine gh_yX14_base_X g (Nat.le_of_ble_eq_true rfl) fun S SX hs hr hw hx => ?_
  have rv : ∀ x : Int32, ck_fv 0 (.int x) := fun x => ⟨_, rfl⟩
  obtain ⟨a1_, a2_, a3_, a4_⟩ := id hX
  obtain ⟨t_, qn_, ql_, qb_, vb_, s1_, l1_, ⟨e1_, e2_⟩, up_⟩ := hX.baseL
  obtain ⟨p9_, N9_, ml_, L1_, r1_, r2_⟩ := l1_.L
  obtain ⟨tl_, trl_, wl_, k1_, k2_, k3_, k4_, -⟩ := id L1_
  have lq_ := zg_lt k1_
  have lp_ := zg_lt k3_
  have ok5_ := hok.2.2.2.1
  refine hs 0 _ rfl _ _ _ _ _ _ _ rfl ?_
  refine hs 1 _ rfl _ _ _ _ _ _ _ rfl ?_
  refine hs 2 _ rfl _ _ _ _ _ _ _ rfl ?_
  refine hs 3 _ rfl _ _ _ _ _ _ _ _ _ (a1_) a2_.1 rfl ?_
  refine hs 4 _ rfl _ _ _ _ _ _ _ _ _ (s1_.1) s1_.2 rfl ?_
  refine zw_cm (hs 5 _ rfl) (a := [.ref qb_]) (st := []) 1 4 rfl rfl (Nat.le_of_ble_eq_true rfl) ⟨_, _, _, rfl, k1_, k2_⟩ (by omega) (by omega) (zl_iter_M g L1_ (by omega) (by omega) fun hj_ e_ gj_ lj_ cj_ => ?_)
  show S 12 [some (.ref x), some (.int (Int32.ofInt e)), some (.int (Int32.ofInt (0 : Int))), none, none] [.ref e_] _ _ _
  refine hs 6 _ rfl _ _ _ _ _ _ _ rfl ?_
  have he_ : 1000 + h.length ≤ e_ := lj_
  have loop : ∀ (m_ i_ : Nat) (h1_ : List am_C) (k_ n_ : Nat) (b_ la_ : Int) (u_ : Option Value), i_ + m_ = vb_.length → zg G h h1_ → (b_ = 0 ∨ b_ = 1) → (2 ≤ e ∧ e ≤ 999 → (b_ = 0 ↔ ∀ (j_ : Nat) (d_ : Int), j_ < i_ → c.2.2.2[j_]? = some d_ → Nat.gcd d_.toNat e.toNat = 1)) → am_g G h1_ e_ = some (5, [.int (Int32.ofInt (i_ : Int)), .int (Int32.ofInt la_), .int (Int32.ofInt ml_), .ref qb_]) → k_ ≤ 1 → n_ ≤ 4 → S 13 [some (.ref x), some (.int (Int32.ofInt e)), some (.int (Int32.ofInt b_)), some (.ref e_), u_] [] h1_ k_ n_ := by
    intro m_
    induction m_ with
    | zero =>
      intro i_ h1_ k_ n_ b_ la_ u_ hi_ gh_ hb01_ hB_ hE_ hk_ hn_
      have x1_ := hX.g gh_ fun _ _ => rfl
      refine hs 7 _ rfl _ _ _ _ _ _ _ rfl ?_
      refine zw_cn (hs 8 _ rfl) (a := [.ref e_]) (st := []) rfl rfl (Nat.le_of_ble_eq_true rfl) ⟨_, _, _, rfl, hE_, rfl⟩ (by omega) (by omega) (⟨zl_hasNext_M g (zl_L.keep L1_ fun x_ c_ _ hg_ => gh_.2 _ _ hg_) hE_ rfl r1_ r2_ (by omega) (fun y_ => absurd y_ (by omega)) (fun y_ => ?_), fun _ _ h9 => h9⟩)
      show S 19 [some (.ref x), some (.int (Int32.ofInt e)), some (.int (Int32.ofInt b_)), some (.ref e_), _] [.int (Int32.ofInt (0 : Int))] _ _ _
      refine hs 9 _ rfl _ _ _ _ _ _ (fun _ => ?_) (fun zq => absurd (hd_c1t (c := 0) (by omega) (by omega) (by omega : (0 : Int) = 0)) zq)
      by_cases c1_ : 2 ≤ e ∧ e ≤ 999
      rotate_left
      · 
        refine hs 32 _ rfl _ _ _ _ _ _ _ rfl ?_
        refine hs 33 _ rfl _ _ _ _ _ _ _ rfl ?_
        refine hs 34 _ rfl _ _ _ _ _ _ _ rfl ?_
        refine hs 35 _ rfl _ _ _ _ _ _ _ rfl ?_
        refine zw_c (hs 36 _ rfl) (a := [.int (Int32.ofInt e), .int (Int32.ofInt (2 : Int)), .int (Int32.ofInt (999 : Int))]) (st := [.ref x]) rfl rfl (Nat.le_of_ble_eq_true rfl) trivial (by omega) (by omega) (zm_isIn_M g (v := e) (a := 2) (b := 999) (by omega) (by omega) (by omega) (by omega) (by omega) (by omega) (fun y_ => absurd y_ (by omega)) (fun y_ => ?_))
        show S 77 [some (.ref x), some (.int (Int32.ofInt e)), some (.int (Int32.ofInt b_)), some (.ref e_), _] [.int (Int32.ofInt (0 : Int)), .ref x] _ _ _
        refine hs 37 _ rfl _ _ _ _ _ _ (fun zq => absurd (hd_c1z (c := 1) (by omega) (by omega) zq) (by omega : ¬ ((0 : Int) ≠ 0))) (fun _ => ?_)
        refine hs 38 _ rfl _ _ _ _ _ _ _ rfl ?_
        refine hs 39 _ rfl _ _ _ _ _ ?_
        refine hs 41 _ rfl _ _ _ _ _ _ _ rfl ?_
        refine zw_c (hs 42 _ rfl) (a := [.ref x, .int (Int32.ofInt (1 : Int)), .int (Int32.ofInt (1 : Int))]) (st := []) rfl rfl (Nat.le_of_ble_eq_true rfl) (zm_rc x1_) (by omega) (by omega) (zm_start_M g x1_ (i_ := 1) (w_ := 1) (Or.inr rfl) (by decide) (fun y_ h2_ f2_ x2_ => ?_) (fun y_ => absurd y_ (by decide)))
        show S 89 [some (.ref x), some (.int (Int32.ofInt e)), some (.int (Int32.ofInt b_)), some (.ref e_), _] [.int (Int32.ofInt (1 : Int))] _ _ _
        refine hs 43 _ rfl _ _ _ _ _ _ (fun _ => ?_) (fun zq => absurd (hd_c1t (c := 1) (by omega) (by omega) (by omega : (1 : Int) ≠ 0)) zq)
        refine hs 59 _ rfl _ _ _ _ _ _ _ rfl ?_
        exact hs 60 _ rfl _ _ _ _ _ (rv _) (by omega) (by omega) (hP 0 _ _ _ (Or.inr ⟨c1_, rfl, rfl⟩) ((zm_fr.g gh_).tr f2_) ⟨_, _, _, _, x2_⟩)
      · have hB_ := hB_ c1_
        have tb_ : sp_tb c e ↔ b_ = 0 ∧ c.2.2.2.length < 5 := by
          unfold sp_tb
          rw [hB_]
          constructor
          · rintro ⟨y1_, y2_⟩
            exact ⟨fun j_ d_ _ hd_ => y1_ d_ (List.mem_of_getElem? hd_), y2_⟩
          · rintro ⟨y1_, y2_⟩
            refine ⟨fun d_ hd_ => ?_, y2_⟩
            obtain ⟨j_, hj_⟩ := List.getElem?_of_mem hd_
            exact y1_ j_ d_ (by have := (List.getElem?_eq_some_iff.mp hj_).1; omega) hj_
        by_cases c5_ : c.2.2.2.length = 5
        · have nt_ : ¬ sp_tb c e := fun y_ => by
            have := (tb_.mp y_).2
            omega
          refine hs 32 _ rfl _ _ _ _ _ _ _ rfl ?_
          refine hs 33 _ rfl _ _ _ _ _ _ _ rfl ?_
          refine hs 34 _ rfl _ _ _ _ _ _ _ rfl ?_
          refine hs 35 _ rfl _ _ _ _ _ _ _ rfl ?_
          refine zw_c (hs 36 _ rfl) (a := [.int (Int32.ofInt e), .int (Int32.ofInt (2 : Int)), .int (Int32.ofInt (999 : Int))]) (st := [.ref x]) rfl rfl (Nat.le_of_ble_eq_true rfl) trivial (by omega) (by omega) (zm_isIn_M g (v := e) (a := 2) (b := 999) (by omega) (by omega) (by omega) (by omega) (by omega) (by omega) (fun y_ => ?_) (fun y_ => absurd (by omega) y_))
          show S 77 [some (.ref x), some (.int (Int32.ofInt e)), some (.int (Int32.ofInt b_)), some (.ref e_), _] [.int (Int32.ofInt (1 : Int)), .ref x] _ _ _
          refine hs 37 _ rfl _ _ _ _ _ _ (fun _ => ?_) (fun zq => absurd (hd_c1t (c := 1) (by omega) (by omega) (by omega : (1 : Int) ≠ 0)) zq)
          refine hs 40 _ rfl _ _ _ _ _ _ _ rfl ?_
          refine hs 41 _ rfl _ _ _ _ _ _ _ rfl ?_
          refine zw_c (hs 42 _ rfl) (a := [.ref x, .int (Int32.ofInt (0 : Int)), .int (Int32.ofInt (1 : Int))]) (st := []) rfl rfl (Nat.le_of_ble_eq_true rfl) (zm_rc x1_) (by omega) (by omega) (zm_start_M g x1_ (i_ := 0) (w_ := 1) (Or.inl rfl) (by decide) (fun y_ => absurd y_ (by decide)) (fun y_ h2_ f2_ x2_ => ?_))
          obtain ⟨t_, qn_, ql_, qb_, vb_, s1_, l1_, ⟨e1_, e2_⟩, up_⟩ := x2_.baseL
          show S 89 [some (.ref x), some (.int (Int32.ofInt e)), some (.int (Int32.ofInt b_)), some (.ref e_), _] [.int (Int32.ofInt (0 : Int))] _ _ _
          refine hs 43 _ rfl _ _ _ _ _ _ (fun zq => absurd (hd_c1z (c := 1) (by omega) (by omega) zq) (by omega : ¬ ((0 : Int) ≠ 0))) (fun _ => ?_)
          refine hs 44 _ rfl _ _ _ _ _ _ _ rfl ?_
          refine hs 45 _ rfl _ _ _ _ _ _ _ rfl ?_
          refine hs 46 _ rfl _ _ _ _ _ _ _ _ _ (x2_.1) a2_.1 rfl ?_
          refine hs 47 _ rfl _ _ _ _ _ _ _ _ _ (s1_.1) s1_.2 rfl ?_
          refine zw_c (hs 48 _ rfl) (a := [.ref qb_]) (st := [.ref x]) rfl rfl (Nat.le_of_ble_eq_true rfl) (zm_l.rc l1_) (by omega) (by omega) (zm_size_M g l1_ ?_)
          show S 103 [some (.ref x), some (.int (Int32.ofInt e)), some (.int (Int32.ofInt b_)), some (.ref e_), _] [.int (Int32.ofInt (vb_.length : Int)), .ref x] _ _ _
          refine hs 49 _ rfl _ _ _ _ _ _ _ rfl ?_
          refine hs 50 _ rfl _ _ _ _ _ _ _ (fun _ => ?_) (fun zq => absurd (hd_c2t (c := 0) (by omega) (by omega) (by omega) (by omega) (by omega : ((vb_.length : Int) - (5 : Int)) = 0)) zq)
          refine hs 53 _ rfl _ _ _ _ _ _ _ rfl ?_
          refine hs 54 _ rfl _ _ _ _ _ ?_
          refine hs 56 _ rfl _ _ _ _ _ _ _ rfl ?_
          refine zw_c (hs 57 _ rfl) (a := [.ref x, .int (Int32.ofInt (1 : Int)), .int (Int32.ofInt (2 : Int))]) (st := []) rfl rfl (Nat.le_of_ble_eq_true rfl) ⟨_, _, _, rfl, x2_.1, a2_.1⟩ (by omega) (by omega) (zm_refuse_M g x2_ (i_ := 1) (w_ := 2) (Or.inr rfl) (by decide) (fun y_ h3_ f3_ x3_ => ?_) (fun y_ => absurd y_ (by decide)))
          show S 120 [some (.ref x), some (.int (Int32.ofInt e)), some (.int (Int32.ofInt b_)), some (.ref e_), _] [.int (Int32.ofInt (1 : Int))] _ _ _
          refine hs 58 _ rfl _ _ _ _ _ _ (fun zq => absurd (hd_c1z (c := 0) (by omega) (by omega) zq) (by omega : ¬ ((1 : Int) = 0))) (fun _ => ?_)
          refine hs 59 _ rfl _ _ _ _ _ _ _ rfl ?_
          exact hs 60 _ rfl _ _ _ _ _ (rv _) (by omega) (by omega) (hP 0 _ _ _ (Or.inl ⟨c1_, Or.inr ⟨nt_, rfl, rfl⟩⟩) ((zm_fr.g gh_).tr (f2_.tr f3_)) ⟨_, _, _, _, x3_⟩)
        · rcases hb01_ with rfl | rfl
          · have nt_ : sp_tb c e := tb_.mpr ⟨rfl, by omega⟩
            refine hs 32 _ rfl _ _ _ _ _ _ _ rfl ?_
            refine hs 33 _ rfl _ _ _ _ _ _ _ rfl ?_
            refine hs 34 _ rfl _ _ _ _ _ _ _ rfl ?_
            refine hs 35 _ rfl _ _ _ _ _ _ _ rfl ?_
            refine zw_c (hs 36 _ rfl) (a := [.int (Int32.ofInt e), .int (Int32.ofInt (2 : Int)), .int (Int32.ofInt (999 : Int))]) (st := [.ref x]) rfl rfl (Nat.le_of_ble_eq_true rfl) trivial (by omega) (by omega) (zm_isIn_M g (v := e) (a := 2) (b := 999) (by omega) (by omega) (by omega) (by omega) (by omega) (by omega) (fun y_ => ?_) (fun y_ => absurd (by omega) y_))
            show S 77 [some (.ref x), some (.int (Int32.ofInt e)), some (.int (Int32.ofInt (0 : Int))), some (.ref e_), _] [.int (Int32.ofInt (1 : Int)), .ref x] _ _ _
            refine hs 37 _ rfl _ _ _ _ _ _ (fun _ => ?_) (fun zq => absurd (hd_c1t (c := 1) (by omega) (by omega) (by omega : (1 : Int) ≠ 0)) zq)
            refine hs 40 _ rfl _ _ _ _ _ _ _ rfl ?_
            refine hs 41 _ rfl _ _ _ _ _ _ _ rfl ?_
            refine zw_c (hs 42 _ rfl) (a := [.ref x, .int (Int32.ofInt (0 : Int)), .int (Int32.ofInt (1 : Int))]) (st := []) rfl rfl (Nat.le_of_ble_eq_true rfl) (zm_rc x1_) (by omega) (by omega) (zm_start_M g x1_ (i_ := 0) (w_ := 1) (Or.inl rfl) (by decide) (fun y_ => absurd y_ (by decide)) (fun y_ h2_ f2_ x2_ => ?_))
            obtain ⟨t_, qn_, ql_, qb_, vb_, s1_, l1_, ⟨e1_, e2_⟩, up_⟩ := x2_.baseL
            show S 89 [some (.ref x), some (.int (Int32.ofInt e)), some (.int (Int32.ofInt (0 : Int))), some (.ref e_), _] [.int (Int32.ofInt (0 : Int))] _ _ _
            refine hs 43 _ rfl _ _ _ _ _ _ (fun zq => absurd (hd_c1z (c := 1) (by omega) (by omega) zq) (by omega : ¬ ((0 : Int) ≠ 0))) (fun _ => ?_)
            refine hs 44 _ rfl _ _ _ _ _ _ _ rfl ?_
            refine hs 45 _ rfl _ _ _ _ _ _ _ rfl ?_
            refine hs 46 _ rfl _ _ _ _ _ _ _ _ _ (x2_.1) a2_.1 rfl ?_
            refine hs 47 _ rfl _ _ _ _ _ _ _ _ _ (s1_.1) s1_.2 rfl ?_
            refine zw_c (hs 48 _ rfl) (a := [.ref qb_]) (st := [.ref x]) rfl rfl (Nat.le_of_ble_eq_true rfl) (zm_l.rc l1_) (by omega) (by omega) (zm_size_M g l1_ ?_)
            show S 103 [some (.ref x), some (.int (Int32.ofInt e)), some (.int (Int32.ofInt (0 : Int))), some (.ref e_), _] [.int (Int32.ofInt (vb_.length : Int)), .ref x] _ _ _
            refine hs 49 _ rfl _ _ _ _ _ _ _ rfl ?_
            refine hs 50 _ rfl _ _ _ _ _ _ _ (fun zq => absurd (hd_c2z (c := 0) (by omega) (by omega) (by omega) (by omega) zq) (by omega : ¬ (((vb_.length : Int) - (5 : Int)) = 0))) (fun _ => ?_)
            refine hs 51 _ rfl _ _ _ _ _ _ _ rfl ?_
            refine hs 52 _ rfl _ _ _ _ _ _ (fun _ => ?_) (fun zq => absurd (hd_c1t (c := 0) (by omega) (by omega) (by omega : (0 : Int) = 0)) zq)
            refine hs 55 _ rfl _ _ _ _ _ _ _ rfl ?_
            refine hs 56 _ rfl _ _ _ _ _ _ _ rfl ?_
            refine zw_c (hs 57 _ rfl) (a := [.ref x, .int (Int32.ofInt (0 : Int)), .int (Int32.ofInt (2 : Int))]) (st := []) rfl rfl (Nat.le_of_ble_eq_true rfl) ⟨_, _, _, rfl, x2_.1, a2_.1⟩ (by omega) (by omega) (zm_refuse_M g x2_ (i_ := 0) (w_ := 2) (Or.inl rfl) (by decide) (fun y_ => absurd y_ (by decide)) (fun y_ => ?_))
            show S 120 [some (.ref x), some (.int (Int32.ofInt e)), some (.int (Int32.ofInt (0 : Int))), some (.ref e_), _] [.int (Int32.ofInt (0 : Int))] _ _ _
            refine hs 58 _ rfl _ _ _ _ _ _ (fun _ => ?_) (fun zq => absurd (hd_c1t (c := 0) (by omega) (by omega) (by omega : (0 : Int) = 0)) zq)
            refine hs 61 _ rfl _ _ _ _ _ _ _ rfl ?_
            refine zw_cm (hs 62 _ rfl) (a := [.ref x]) (st := []) 14 69 rfl rfl (Nat.le_of_ble_eq_true rfl) ⟨_, _, _, rfl, x2_.1, a2_.1⟩ (by omega) (by omega) (zm_keep_M g x2_ hok hp12 (by omega) (by omega) fun h3_ o3_ f3_ x3_ => ?_)
            obtain ⟨t_, qn_, ql_, qb_, vb_, s1_, l1_, ⟨e1_, e2_⟩, up_⟩ := x3_.baseL
            show S 129 [some (.ref x), some (.int (Int32.ofInt e)), some (.int (Int32.ofInt (0 : Int))), some (.ref e_), _] [] _ _ _
            refine hs 63 _ rfl _ _ _ _ _ _ _ rfl ?_
            refine hs 64 _ rfl _ _ _ _ _ _ _ _ _ (x3_.1) a2_.1 rfl ?_
            refine hs 65 _ rfl _ _ _ _ _ _ _ _ _ (s1_.1) s1_.2 rfl ?_
            refine hs 66 _ rfl _ _ _ _ _ _ _ rfl ?_
            refine zw_cm (hs 67 _ rfl) (a := [.int (Int32.ofInt e)]) (st := [.ref qb_]) 1 1 rfl rfl (Nat.le_of_ble_eq_true rfl) trivial (by omega) (by omega) (zi_val_M g (by omega) (by omega) (by omega) (by omega) fun h4_ v9_ t9_ g4_ c4_ d4_ => ?_)
            have f4_ : zm_f G o3_ o3_ h3_ h4_ (fun _ _ => False) := zm_f.g g4_ fun _ _ => rfl
            have l4_ := l1_.f f4_ (fun _ _ y_ => y_.elim) id (fun _ _ y_ => y_)
            have ob_ : zl_ob G h4_ vb_ := (zl_ob.B e1_ e2_).g g4_
            show S 140 [some (.ref x), some (.int (Int32.ofInt e)), some (.int (Int32.ofInt (0 : Int))), some (.ref e_), _] [.ref v9_, .ref qb_] _ _ _
            refine zw_cm (hs 68 _ rfl) (a := [.ref qb_, .ref v9_]) (st := []) 1 20 rfl rfl (Nat.le_of_ble_eq_true rfl) (zm_l.rc l4_) (by omega) (by omega) (zm_add_M g l4_ ob_ (by omega) c4_ (Or.inr (Or.inl d4_)) (by omega) (by omega) fun h5_ o5_ f5_ l5_ => ?_)
            have f6_ : zm_f G o3_ o5_ h3_ h5_ (zm_d4 o3_ qb_) := f4_.tr f5_ (fun _ _ y_ => y_.elim) (fun _ _ _ _ y_ => y_)
            have up2_ := up_ h5_ o5_ (vb_ ++ [v9_]) (c.2.2.2 ++ [e]) f6_ l5_ (by rw [List.length_append, List.length_append, e1_]; rfl) (fun i_ a_ b9_ y1_ y2_ => by
              by_cases c_ : i_ < vb_.length
              · rw [List.getElem?_append_left c_] at y1_
                rw [List.getElem?_append_left (by omega)] at y2_
                exact (e2_ _ _ _ y1_ y2_).f f6_ zm_d4.ok
              · have y3_ := (List.getElem?_eq_some_iff.mp y1_).1
                rw [List.length_append, List.length_singleton] at y3_
                obtain rfl : i_ = vb_.length := by omega
                rw [List.getElem?_append_right (Nat.le_refl _), Nat.sub_self] at y1_
                rw [List.getElem?_append_right (by omega), e1_, Nat.sub_self] at y2_
                cases y1_
                cases y2_
                exact ⟨t9_, f5_.2.2 _ _ _ c4_ (by rw [d4_]; exact zm_d4.nk (by decide) (by decide)), d4_⟩)
            have s9_ := f6_.2.2 _ _ _ s1_.1 (by rw [s1_.2]; exact zm_d4.nk (by decide) (by decide))
            show S 143 [some (.ref x), some (.int (Int32.ofInt e)), some (.int (Int32.ofInt (0 : Int))), some (.ref e_), _] [.int (Int32.ofInt (1 : Int))] _ _ _
            refine hs 69 _ rfl _ _ _ _ _ _ _ rfl ?_
            refine hs 70 _ rfl _ _ _ _ _ _ _ rfl ?_
            refine hs 71 _ rfl _ _ _ _ _ _ _ _ _ (up2_.1) a2_.1 rfl ?_
            refine hs 72 _ rfl _ _ _ _ _ _ _ _ _ (s9_) s1_.2 rfl ?_
            refine zw_c (hs 73 _ rfl) (a := [.ref qb_]) (st := []) rfl rfl (Nat.le_of_ble_eq_true rfl) (zm_l.rc l5_) (by omega) (by omega) (zm_size_M g l5_ ?_)
            show S 154 [some (.ref x), some (.int (Int32.ofInt e)), some (.int (Int32.ofInt (0 : Int))), some (.ref e_), _] [.int (Int32.ofInt ((vb_ ++ [v9_]).length : Int))] _ _ _
            refine hs 74 _ rfl _ _ _ _ _ _ _ rfl ?_
            refine hs 75 _ rfl _ _ _ _ _ _ _ hd_sub ?_
            have sl_ : ((vb_ ++ [v9_]).length : Int) - 1 = (c.2.2.2.length : Int) := by
              rw [List.length_append, List.length_singleton]
              omega
            rw [sl_]
            exact hs 76 _ rfl _ _ _ _ _ (rv _) (by omega) (by omega) (hP _ _ _ _ (Or.inl ⟨c1_, Or.inl ⟨nt_, rfl, rfl, rfl⟩⟩) ((((zm_fr.g gh_).tr f2_).tr f3_).tr ((zm_fr.g g4_).tr (zm_fr.f f5_ zm_d4.ok))) ⟨_, _, _, _, up2_⟩)
          · have nt_ : ¬ sp_tb c e := fun y_ => absurd (tb_.mp y_).1 (by decide)
            refine hs 32 _ rfl _ _ _ _ _ _ _ rfl ?_
            refine hs 33 _ rfl _ _ _ _ _ _ _ rfl ?_
            refine hs 34 _ rfl _ _ _ _ _ _ _ rfl ?_
            refine hs 35 _ rfl _ _ _ _ _ _ _ rfl ?_
            refine zw_c (hs 36 _ rfl) (a := [.int (Int32.ofInt e), .int (Int32.ofInt (2 : Int)), .int (Int32.ofInt (999 : Int))]) (st := [.ref x]) rfl rfl (Nat.le_of_ble_eq_true rfl) trivial (by omega) (by omega) (zm_isIn_M g (v := e) (a := 2) (b := 999) (by omega) (by omega) (by omega) (by omega) (by omega) (by omega) (fun y_ => ?_) (fun y_ => absurd (by omega) y_))
            show S 77 [some (.ref x), some (.int (Int32.ofInt e)), some (.int (Int32.ofInt (1 : Int))), some (.ref e_), _] [.int (Int32.ofInt (1 : Int)), .ref x] _ _ _
            refine hs 37 _ rfl _ _ _ _ _ _ (fun _ => ?_) (fun zq => absurd (hd_c1t (c := 1) (by omega) (by omega) (by omega : (1 : Int) ≠ 0)) zq)
            refine hs 40 _ rfl _ _ _ _ _ _ _ rfl ?_
            refine hs 41 _ rfl _ _ _ _ _ _ _ rfl ?_
            refine zw_c (hs 42 _ rfl) (a := [.ref x, .int (Int32.ofInt (0 : Int)), .int (Int32.ofInt (1 : Int))]) (st := []) rfl rfl (Nat.le_of_ble_eq_true rfl) (zm_rc x1_) (by omega) (by omega) (zm_start_M g x1_ (i_ := 0) (w_ := 1) (Or.inl rfl) (by decide) (fun y_ => absurd y_ (by decide)) (fun y_ h2_ f2_ x2_ => ?_))
            obtain ⟨t_, qn_, ql_, qb_, vb_, s1_, l1_, ⟨e1_, e2_⟩, up_⟩ := x2_.baseL
            show S 89 [some (.ref x), some (.int (Int32.ofInt e)), some (.int (Int32.ofInt (1 : Int))), some (.ref e_), _] [.int (Int32.ofInt (0 : Int))] _ _ _
            refine hs 43 _ rfl _ _ _ _ _ _ (fun zq => absurd (hd_c1z (c := 1) (by omega) (by omega) zq) (by omega : ¬ ((0 : Int) ≠ 0))) (fun _ => ?_)
            refine hs 44 _ rfl _ _ _ _ _ _ _ rfl ?_
            refine hs 45 _ rfl _ _ _ _ _ _ _ rfl ?_
            refine hs 46 _ rfl _ _ _ _ _ _ _ _ _ (x2_.1) a2_.1 rfl ?_
            refine hs 47 _ rfl _ _ _ _ _ _ _ _ _ (s1_.1) s1_.2 rfl ?_
            refine zw_c (hs 48 _ rfl) (a := [.ref qb_]) (st := [.ref x]) rfl rfl (Nat.le_of_ble_eq_true rfl) (zm_l.rc l1_) (by omega) (by omega) (zm_size_M g l1_ ?_)
            show S 103 [some (.ref x), some (.int (Int32.ofInt e)), some (.int (Int32.ofInt (1 : Int))), some (.ref e_), _] [.int (Int32.ofInt (vb_.length : Int)), .ref x] _ _ _
            refine hs 49 _ rfl _ _ _ _ _ _ _ rfl ?_
            refine hs 50 _ rfl _ _ _ _ _ _ _ (fun zq => absurd (hd_c2z (c := 0) (by omega) (by omega) (by omega) (by omega) zq) (by omega : ¬ (((vb_.length : Int) - (5 : Int)) = 0))) (fun _ => ?_)
            refine hs 51 _ rfl _ _ _ _ _ _ _ rfl ?_
            refine hs 52 _ rfl _ _ _ _ _ _ (fun zq => absurd (hd_c1z (c := 0) (by omega) (by omega) zq) (by omega : ¬ ((1 : Int) = 0))) (fun _ => ?_)
            refine hs 53 _ rfl _ _ _ _ _ _ _ rfl ?_
            refine hs 54 _ rfl _ _ _ _ _ ?_
            refine hs 56 _ rfl _ _ _ _ _ _ _ rfl ?_
            refine zw_c (hs 57 _ rfl) (a := [.ref x, .int (Int32.ofInt (1 : Int)), .int (Int32.ofInt (2 : Int))]) (st := []) rfl rfl (Nat.le_of_ble_eq_true rfl) ⟨_, _, _, rfl, x2_.1, a2_.1⟩ (by omega) (by omega) (zm_refuse_M g x2_ (i_ := 1) (w_ := 2) (Or.inr rfl) (by decide) (fun y_ h3_ f3_ x3_ => ?_) (fun y_ => absurd y_ (by decide)))
            show S 120 [some (.ref x), some (.int (Int32.ofInt e)), some (.int (Int32.ofInt (1 : Int))), some (.ref e_), _] [.int (Int32.ofInt (1 : Int))] _ _ _
            refine hs 58 _ rfl _ _ _ _ _ _ (fun zq => absurd (hd_c1z (c := 0) (by omega) (by omega) zq) (by omega : ¬ ((1 : Int) = 0))) (fun _ => ?_)
            refine hs 59 _ rfl _ _ _ _ _ _ _ rfl ?_
            exact hs 60 _ rfl _ _ _ _ _ (rv _) (by omega) (by omega) (hP 0 _ _ _ (Or.inl ⟨c1_, Or.inr ⟨nt_, rfl, rfl⟩⟩) ((zm_fr.g gh_).tr (f2_.tr f3_)) ⟨_, _, _, _, x3_⟩)
    | succ m_ ih =>
      intro i_ h1_ k_ n_ b_ la_ u_ hi_ gh_ hb01_ hB_ hE_ hk_ hn_
      obtain ⟨v_, hv_⟩ : ∃ v_, vb_[i_]? = some v_ := ⟨_, List.getElem?_eq_getElem (by omega)⟩
      obtain ⟨d_, hd_⟩ : ∃ d_, c.2.2.2[i_]? = some d_ := ⟨_, List.getElem?_eq_getElem (by omega)⟩
      obtain ⟨tv_, rv1_, rv2_⟩ := e2_ _ _ _ hv_ hd_
      have db_ := hok.2.2.2.2 d_ (List.mem_of_getElem? hd_)
      have nx_ : ∀ b2_ : Int, (b2_ = 0 ↔ b_ = 0 ∧ Nat.gcd d_.toNat e.toNat = 1) → (2 ≤ e ∧ e ≤ 999 → (b2_ = 0 ↔ ∀ (j_ : Nat) (d_ : Int), j_ < i_ + 1 → c.2.2.2[j_]? = some d_ → Nat.gcd d_.toNat e.toNat = 1)) := fun b2_ hb2_ hr_ => by
        rw [hb2_, hB_ hr_]
        constructor
        · rintro ⟨y1_, y2_⟩ j_ d2b_ hj_ hd2_
          by_cases c_ : j_ = i_
          · rw [c_, hd_] at hd2_
            cases hd2_
            exact y2_
          · exact y1_ j_ d2b_ (by omega) hd2_
        · intro y_
          exact ⟨fun j_ d2b_ hj_ hd2_ => y_ j_ d2b_ (by omega) hd2_, y_ i_ d_ (by omega) hd_⟩
      refine hs 7 _ rfl _ _ _ _ _ _ _ rfl ?_
      refine zw_cn (hs 8 _ rfl) (a := [.ref e_]) (st := []) rfl rfl (Nat.le_of_ble_eq_true rfl) ⟨_, _, _, rfl, hE_, rfl⟩ (by omega) (by omega) (⟨zl_hasNext_M g (zl_L.keep L1_ fun x_ c_ _ hg_ => gh_.2 _ _ hg_) hE_ rfl r1_ r2_ (by omega) (fun y_ => ?_) (fun y_ => absurd y_ (by omega)), fun _ _ h9 => h9⟩)
      show S 19 [some (.ref x), some (.int (Int32.ofInt e)), some (.int (Int32.ofInt b_)), some (.ref e_), _] [.int (Int32.ofInt (1 : Int))] _ _ _
      by_cases c1_ : 2 ≤ e ∧ e ≤ 999
      rotate_left
      · 
        refine hs 9 _ rfl _ _ _ _ _ _ (fun zq => absurd (hd_c1z (c := 0) (by omega) (by omega) zq) (by omega : ¬ ((1 : Int) = 0))) (fun _ => ?_)
        refine hs 10 _ rfl _ _ _ _ _ _ _ rfl ?_
        refine zw_cn (hs 11 _ rfl) (a := [.ref e_]) (st := []) rfl rfl (Nat.le_of_ble_eq_true rfl) ⟨_, _, _, rfl, hE_, rfl⟩ (by omega) (by omega) (⟨zl_next_M g (zl_L.keep L1_ fun x_ c_ _ hg_ => gh_.2 _ _ hg_) hE_ rfl r1_ r2_ (by omega) hv_ (by omega) (by omega) fun hx_ wx_ => ?_, fun _ _ h9 => h9⟩)
        have gx_ : zg G h hx_ := gh_.w wx_ (by omega)
        have rx_ := gx_.2 _ _ rv1_
        show S 28 [some (.ref x), some (.int (Int32.ofInt e)), some (.int (Int32.ofInt b_)), some (.ref e_), _] [.ref v_] _ _ _
        refine hs 12 _ rfl _ _ _ _ _ _ (Or.inr ⟨_, _, _, rfl, (rx_), List.mem_singleton.mpr rv2_⟩) ?_
        refine zw_c (hs 13 _ rfl) (a := [.ref v_]) (st := []) rfl rfl (Nat.le_of_ble_eq_true rfl) ⟨_, _, _, rfl, (rx_), rv2_⟩ (by omega) (by omega) (zi_int_M g rx_ rv2_ ?_)
        show S 34 [some (.ref x), some (.int (Int32.ofInt e)), some (.int (Int32.ofInt b_)), some (.ref e_), _] [.int (Int32.ofInt d_)] _ _ _
        refine hs 14 _ rfl _ _ _ _ _ _ _ rfl ?_
        refine hs 15 _ rfl _ _ _ _ _ _ _ rfl ?_
        refine hs 16 _ rfl _ _ _ _ _ _ _ rfl ?_
        refine hs 17 _ rfl _ _ _ _ _ _ _ rfl ?_
        refine hs 18 _ rfl _ _ _ _ _ _ _ rfl ?_
        refine zw_c (hs 19 _ rfl) (a := [.int (Int32.ofInt e), .int (Int32.ofInt (2 : Int)), .int (Int32.ofInt (999 : Int))]) (st := [.int (Int32.ofInt b_)]) rfl rfl (Nat.le_of_ble_eq_true rfl) trivial (by omega) (by omega) (zm_isIn_M g (v := e) (a := 2) (b := 999) (by omega) (by omega) (by omega) (by omega) (by omega) (by omega) (fun y_ => absurd y_ (by omega)) (fun y_ => ?_))
        show S 45 [some (.ref x), some (.int (Int32.ofInt e)), some (.int (Int32.ofInt b_)), some (.ref e_), some (.int (Int32.ofInt d_))] [.int (Int32.ofInt (0 : Int)), .int (Int32.ofInt b_)] _ _ _
        refine hs 20 _ rfl _ _ _ _ _ _ (fun _ => ?_) (fun zq => absurd (hd_c1t (c := 0) (by omega) (by omega) (by omega : (0 : Int) = 0)) zq)
        refine hs 28 _ rfl _ _ _ _ _ _ _ rfl ?_
        refine hs 29 _ rfl _ _ _ _ _ _ _ (zt_or hb01_ (Or.inl rfl)) ?_
        refine hs 30 _ rfl _ _ _ _ _ _ _ rfl ?_
        refine hs 31 _ rfl _ _ _ _ _ ?_
        show S 13 [some (.ref x), some (.int (Int32.ofInt e)), some (.int (Int32.ofInt (max b_ 0))), some (.ref e_), some (.int (Int32.ofInt d_))] [] _ _ _
        exact ih (i_ + 1) _ _ _ _ (i_ : Int) _ (by omega) gx_ (by omega) (fun y_ => absurd y_ c1_) wx_.at hk_ hn_
      · obtain ⟨E_, rfl⟩ : ∃ E_ : Nat, e = (E_ : Int) := ⟨e.toNat, by omega⟩
        obtain ⟨D_, rfl⟩ : ∃ D_ : Nat, d_ = (D_ : Int) := ⟨d_.toNat, by omega⟩
        have nx_ : ∀ b2_ : Int, (b2_ = 0 ↔ b_ = 0 ∧ Nat.gcd E_ D_ = 1) → _ := fun b2_ hb2_ => nx_ b2_ (by rw [Int.toNat_natCast, Int.toNat_natCast, Nat.gcd_comm]; exact hb2_)
        have gl_ : Nat.gcd E_ D_ ≤ D_ := Nat.le_of_dvd (by omega) (Nat.gcd_dvd_right E_ D_)
        by_cases g1_ : Nat.gcd E_ D_ = 1
        · 
          refine hs 9 _ rfl _ _ _ _ _ _ (fun zq => absurd (hd_c1z (c := 0) (by omega) (by omega) zq) (by omega : ¬ ((1 : Int) = 0))) (fun _ => ?_)
          refine hs 10 _ rfl _ _ _ _ _ _ _ rfl ?_
          refine zw_cn (hs 11 _ rfl) (a := [.ref e_]) (st := []) rfl rfl (Nat.le_of_ble_eq_true rfl) ⟨_, _, _, rfl, hE_, rfl⟩ (by omega) (by omega) (⟨zl_next_M g (zl_L.keep L1_ fun x_ c_ _ hg_ => gh_.2 _ _ hg_) hE_ rfl r1_ r2_ (by omega) hv_ (by omega) (by omega) fun hx_ wx_ => ?_, fun _ _ h9 => h9⟩)
          have gx_ : zg G h hx_ := gh_.w wx_ (by omega)
          have rx_ := gx_.2 _ _ rv1_
          show S 28 [some (.ref x), some (.int (Int32.ofInt (E_ : Int))), some (.int (Int32.ofInt b_)), some (.ref e_), _] [.ref v_] _ _ _
          refine hs 12 _ rfl _ _ _ _ _ _ (Or.inr ⟨_, _, _, rfl, (rx_), List.mem_singleton.mpr rv2_⟩) ?_
          refine zw_c (hs 13 _ rfl) (a := [.ref v_]) (st := []) rfl rfl (Nat.le_of_ble_eq_true rfl) ⟨_, _, _, rfl, (rx_), rv2_⟩ (by omega) (by omega) (zi_int_M g rx_ rv2_ ?_)
          show S 34 [some (.ref x), some (.int (Int32.ofInt (E_ : Int))), some (.int (Int32.ofInt b_)), some (.ref e_), _] [.int (Int32.ofInt (D_ : Int))] _ _ _
          refine hs 14 _ rfl _ _ _ _ _ _ _ rfl ?_
          refine hs 15 _ rfl _ _ _ _ _ _ _ rfl ?_
          refine hs 16 _ rfl _ _ _ _ _ _ _ rfl ?_
          refine hs 17 _ rfl _ _ _ _ _ _ _ rfl ?_
          refine hs 18 _ rfl _ _ _ _ _ _ _ rfl ?_
          refine zw_c (hs 19 _ rfl) (a := [.int (Int32.ofInt (E_ : Int)), .int (Int32.ofInt (2 : Int)), .int (Int32.ofInt (999 : Int))]) (st := [.int (Int32.ofInt b_)]) rfl rfl (Nat.le_of_ble_eq_true rfl) trivial (by omega) (by omega) (zm_isIn_M g (v := (E_ : Int)) (a := 2) (b := 999) (by omega) (by omega) (by omega) (by omega) (by omega) (by omega) (fun y_ => ?_) (fun y_ => absurd (by omega) y_))
          show S 45 [some (.ref x), some (.int (Int32.ofInt (E_ : Int))), some (.int (Int32.ofInt b_)), some (.ref e_), some (.int (Int32.ofInt (D_ : Int)))] [.int (Int32.ofInt (1 : Int)), .int (Int32.ofInt b_)] _ _ _
          refine hs 20 _ rfl _ _ _ _ _ _ (fun zq => absurd (hd_c1z (c := 0) (by omega) (by omega) zq) (by omega : ¬ ((1 : Int) = 0))) (fun _ => ?_)
          refine hs 21 _ rfl _ _ _ _ _ _ _ rfl ?_
          refine hs 22 _ rfl _ _ _ _ _ _ _ rfl ?_
          refine zw_c (hs 23 _ rfl) (a := [.int (Int32.ofInt (E_ : Int)), .int (Int32.ofInt (D_ : Int))]) (st := [.int (Int32.ofInt b_)]) rfl rfl (Nat.le_of_ble_eq_true rfl) trivial (by omega) (by omega) (nu_gcd_M g.1 (a := E_) (b := D_) (by omega) (by omega) ?_)
          show S 54 [some (.ref x), some (.int (Int32.ofInt (E_ : Int))), some (.int (Int32.ofInt b_)), some (.ref e_), some (.int (Int32.ofInt (D_ : Int)))] [.int (Int32.ofInt ((Nat.gcd E_ D_ : Nat) : Int)), .int (Int32.ofInt b_)] _ _ _
          refine hs 24 _ rfl _ _ _ _ _ _ _ rfl ?_
          refine hs 25 _ rfl _ _ _ _ _ _ _ (fun _ => ?_) (fun zq => absurd (hd_c2t (c := 0) (by omega) (by omega) (by omega) (by omega) (by omega : (((Nat.gcd E_ D_ : Nat) : Int) - (1 : Int)) = 0)) zq)
          refine hs 28 _ rfl _ _ _ _ _ _ _ rfl ?_
          refine hs 29 _ rfl _ _ _ _ _ _ _ (zt_or hb01_ (Or.inl rfl)) ?_
          refine hs 30 _ rfl _ _ _ _ _ _ _ rfl ?_
          refine hs 31 _ rfl _ _ _ _ _ ?_
          show S 13 [some (.ref x), some (.int (Int32.ofInt (E_ : Int))), some (.int (Int32.ofInt (max b_ 0))), some (.ref e_), some (.int (Int32.ofInt (D_ : Int)))] [] _ _ _
          exact ih (i_ + 1) _ _ _ _ (i_ : Int) _ (by omega) gx_ (by omega) (nx_ _ (by omega)) wx_.at hk_ hn_
        · 
          refine hs 9 _ rfl _ _ _ _ _ _ (fun zq => absurd (hd_c1z (c := 0) (by omega) (by omega) zq) (by omega : ¬ ((1 : Int) = 0))) (fun _ => ?_)
          refine hs 10 _ rfl _ _ _ _ _ _ _ rfl ?_
          refine zw_cn (hs 11 _ rfl) (a := [.ref e_]) (st := []) rfl rfl (Nat.le_of_ble_eq_true rfl) ⟨_, _, _, rfl, hE_, rfl⟩ (by omega) (by omega) (⟨zl_next_M g (zl_L.keep L1_ fun x_ c_ _ hg_ => gh_.2 _ _ hg_) hE_ rfl r1_ r2_ (by omega) hv_ (by omega) (by omega) fun hx_ wx_ => ?_, fun _ _ h9 => h9⟩)
          have gx_ : zg G h hx_ := gh_.w wx_ (by omega)
          have rx_ := gx_.2 _ _ rv1_
          show S 28 [some (.ref x), some (.int (Int32.ofInt (E_ : Int))), some (.int (Int32.ofInt b_)), some (.ref e_), _] [.ref v_] _ _ _
          refine hs 12 _ rfl _ _ _ _ _ _ (Or.inr ⟨_, _, _, rfl, (rx_), List.mem_singleton.mpr rv2_⟩) ?_
          refine zw_c (hs 13 _ rfl) (a := [.ref v_]) (st := []) rfl rfl (Nat.le_of_ble_eq_true rfl) ⟨_, _, _, rfl, (rx_), rv2_⟩ (by omega) (by omega) (zi_int_M g rx_ rv2_ ?_)
          show S 34 [some (.ref x), some (.int (Int32.ofInt (E_ : Int))), some (.int (Int32.ofInt b_)), some (.ref e_), _] [.int (Int32.ofInt (D_ : Int))] _ _ _
          refine hs 14 _ rfl _ _ _ _ _ _ _ rfl ?_
          refine hs 15 _ rfl _ _ _ _ _ _ _ rfl ?_
          refine hs 16 _ rfl _ _ _ _ _ _ _ rfl ?_
          refine hs 17 _ rfl _ _ _ _ _ _ _ rfl ?_
          refine hs 18 _ rfl _ _ _ _ _ _ _ rfl ?_
          refine zw_c (hs 19 _ rfl) (a := [.int (Int32.ofInt (E_ : Int)), .int (Int32.ofInt (2 : Int)), .int (Int32.ofInt (999 : Int))]) (st := [.int (Int32.ofInt b_)]) rfl rfl (Nat.le_of_ble_eq_true rfl) trivial (by omega) (by omega) (zm_isIn_M g (v := (E_ : Int)) (a := 2) (b := 999) (by omega) (by omega) (by omega) (by omega) (by omega) (by omega) (fun y_ => ?_) (fun y_ => absurd (by omega) y_))
          show S 45 [some (.ref x), some (.int (Int32.ofInt (E_ : Int))), some (.int (Int32.ofInt b_)), some (.ref e_), some (.int (Int32.ofInt (D_ : Int)))] [.int (Int32.ofInt (1 : Int)), .int (Int32.ofInt b_)] _ _ _
          refine hs 20 _ rfl _ _ _ _ _ _ (fun zq => absurd (hd_c1z (c := 0) (by omega) (by omega) zq) (by omega : ¬ ((1 : Int) = 0))) (fun _ => ?_)
          refine hs 21 _ rfl _ _ _ _ _ _ _ rfl ?_
          refine hs 22 _ rfl _ _ _ _ _ _ _ rfl ?_
          refine zw_c (hs 23 _ rfl) (a := [.int (Int32.ofInt (E_ : Int)), .int (Int32.ofInt (D_ : Int))]) (st := [.int (Int32.ofInt b_)]) rfl rfl (Nat.le_of_ble_eq_true rfl) trivial (by omega) (by omega) (nu_gcd_M g.1 (a := E_) (b := D_) (by omega) (by omega) ?_)
          show S 54 [some (.ref x), some (.int (Int32.ofInt (E_ : Int))), some (.int (Int32.ofInt b_)), some (.ref e_), some (.int (Int32.ofInt (D_ : Int)))] [.int (Int32.ofInt ((Nat.gcd E_ D_ : Nat) : Int)), .int (Int32.ofInt b_)] _ _ _
          refine hs 24 _ rfl _ _ _ _ _ _ _ rfl ?_
          refine hs 25 _ rfl _ _ _ _ _ _ _ (fun zq => absurd (hd_c2z (c := 0) (by omega) (by omega) (by omega) (by omega) zq) (by omega : ¬ ((((Nat.gcd E_ D_ : Nat) : Int) - (1 : Int)) = 0))) (fun _ => ?_)
          refine hs 26 _ rfl _ _ _ _ _ _ _ rfl ?_
          refine hs 27 _ rfl _ _ _ _ _ ?_
          refine hs 29 _ rfl _ _ _ _ _ _ _ (zt_or hb01_ (Or.inr rfl)) ?_
          refine hs 30 _ rfl _ _ _ _ _ _ _ rfl ?_
          refine hs 31 _ rfl _ _ _ _ _ ?_
          show S 13 [some (.ref x), some (.int (Int32.ofInt (E_ : Int))), some (.int (Int32.ofInt (max b_ 1))), some (.ref e_), some (.int (Int32.ofInt (D_ : Int)))] [] _ _ _
          exact ih (i_ + 1) _ _ _ _ (i_ : Int) _ (by omega) gx_ (by omega) (nx_ _ (by omega)) wx_.at hk_ hn_
  exact loop vb_.length 0 _ _ _ 0 (-1) _ (by omega) gj_ (Or.inl rfl) (fun _ => ⟨fun _ j_ d_ hj_ => absurd hj_ (by omega), fun _ => rfl⟩) cj_ (by omega) (by omega)
end
section
/-! THE CALLS OF THE REFERENCE: unbase, undo, knock, size -/
theorem zt_erl {α : Type} {l : List α} {n i : Nat} (hn : l.length = n + 1) : (l.eraseIdx n)[i]? = if i < n then l[i]? else none := by
  rw [List.getElem?_eraseIdx]
  by_cases c_ : i < n
  · rw [if_pos c_, if_pos c_]
  · rw [if_neg c_, if_neg c_, List.getElem?_eq_none (by omega)]
theorem zt_apl {α : Type} {B : List α} {b : α} {n i : Nat} (hn : B.length = n) (hi : i < n) : (B ++ [b])[i]? = B[i]? := List.getElem?_append_left (by omega)
set_option maxHeartbeats 4000000 in
theorem zm_unbase_M {l : Launch} {G : am_G} {X : ck_XT} (g : gM l G X) {o : Nat → Nat} {x tx now qw : Nat} {th j m k : Int} {c : sp_S} {P : List sp_S} {h : List am_C} (hX : zm_x G h o x tx now qw th j m k c P) (hok : sp_ok c) (hp12 : P.length ≤ 12) {e e2 : Int} {mc ms : Nat} {Post : am_O → List am_C → Prop} (hmc : 14 ≤ mc) (hms : 69 ≤ ms)
    (hP : ∀ (a th : Int) (T' : sp_T) (h' : List am_C), sp_d15 e e2 (c, P, j, m, k) a th T' → zm_fr G h h' → zm_Y G h' x th T' → Post (.inl (some (.int (Int32.ofInt a)))) h') :
    am_M l G yX14_unbase (.code yX14_unbase prog_14_method_38_code 1 (some .int)) 11 294 mc ms [.ref x] h Post := by
  refine gh_yX14_unbase_X g (Nat.le_of_ble_eq_true rfl) fun S SX hs hr hw hx => ?_
  have rv : ∀ x : Int32, ck_fv 0 (.int x) := fun x => ⟨_, rfl⟩
  obtain ⟨a1_, a2_, a3_, a4_⟩ := id hX
  obtain ⟨t_, qn_, ql_, qb_, vb_, s1_, l1_, ⟨e1_, e2_⟩, up_⟩ := hX.baseL
  have ok5_ := hok.2.2.2.1
  by_cases c1_ : c.2.2.2 = []
  · have c1l_ : vb_.length = 0 := by rw [e1_, c1_]; rfl
    refine hs 0 _ rfl _ _ _ _ _ _ _ rfl ?_
    refine hs 1 _ rfl _ _ _ _ _ _ _ rfl ?_
    refine hs 2 _ rfl _ _ _ _ _ _ _ _ _ (a1_) a2_.1 rfl ?_
    refine hs 3 _ rfl _ _ _ _ _ _ _ _ _ (s1_.1) s1_.2 rfl ?_
    refine zw_c (hs 4 _ rfl) (a := [.ref qb_]) (st := [.ref x]) rfl rfl (Nat.le_of_ble_eq_true rfl) (zm_l.rc l1_) (by omega) (by omega) (zm_emp_M g l1_ (fun y_ => ?_) (fun y_ => absurd y_ (by omega)))
    show S 11 [some (.ref x)] [.int (Int32.ofInt (1 : Int)), .ref x] _ _ _
    refine hs 5 _ rfl _ _ _ _ _ _ _ rfl ?_
    refine zw_c (hs 6 _ rfl) (a := [.ref x, .int (Int32.ofInt (1 : Int)), .int (Int32.ofInt (1 : Int))]) (st := []) rfl rfl (Nat.le_of_ble_eq_true rfl) ⟨_, _, _, rfl, a1_, a2_.1⟩ (by omega) (by omega) (zm_start_M g hX (i_ := 1) (w_ := 1) (Or.inr rfl) (by decide) (fun y_ h2_ f2_ x2_ => ?_) (fun y_ => absurd y_ (by decide)))
    show S 15 [some (.ref x)] [.int (Int32.ofInt (1 : Int))] _ _ _
    refine hs 7 _ rfl _ _ _ _ _ _ (fun zq => absurd (hd_c1z (c := 0) (by omega) (by omega) zq) (by omega : ¬ ((1 : Int) = 0))) (fun _ => ?_)
    refine hs 8 _ rfl _ _ _ _ _ _ _ rfl ?_
    exact hs 9 _ rfl _ _ _ _ _ (rv _) (by omega) (by omega) (hP 0 _ _ _ (Or.inr ⟨c1_, rfl, rfl⟩) f2_ ⟨_, _, _, _, x2_⟩)
  · have c2_ : c.2.2.2.length ≠ 0 := fun y_ => c1_ (List.eq_nil_of_length_eq_zero y_)
    obtain ⟨n9_, hn9_⟩ : ∃ n9_, c.2.2.2.length = n9_ + 1 := ⟨c.2.2.2.length - 1, by omega⟩
    obtain ⟨B_, b9_, hB_, hb9_, -, hl_⟩ := sp_last c.2.2.2 n9_ hn9_
    refine hs 0 _ rfl _ _ _ _ _ _ _ rfl ?_
    refine hs 1 _ rfl _ _ _ _ _ _ _ rfl ?_
    refine hs 2 _ rfl _ _ _ _ _ _ _ _ _ (a1_) a2_.1 rfl ?_
    refine hs 3 _ rfl _ _ _ _ _ _ _ _ _ (s1_.1) s1_.2 rfl ?_
    refine zw_c (hs 4 _ rfl) (a := [.ref qb_]) (st := [.ref x]) rfl rfl (Nat.le_of_ble_eq_true rfl) (zm_l.rc l1_) (by omega) (by omega) (zm_emp_M g l1_ (fun y_ => absurd y_ (by omega)) (fun y_ => ?_))
    show S 11 [some (.ref x)] [.int (Int32.ofInt (0 : Int)), .ref x] _ _ _
    refine hs 5 _ rfl _ _ _ _ _ _ _ rfl ?_
    refine zw_c (hs 6 _ rfl) (a := [.ref x, .int (Int32.ofInt (0 : Int)), .int (Int32.ofInt (1 : Int))]) (st := []) rfl rfl (Nat.le_of_ble_eq_true rfl) ⟨_, _, _, rfl, a1_, a2_.1⟩ (by omega) (by omega) (zm_start_M g hX (i_ := 0) (w_ := 1) (Or.inl rfl) (by decide) (fun y_ => absurd y_ (by decide)) (fun y_ h2_ f2_ x2_ => ?_))
    show S 15 [some (.ref x)] [.int (Int32.ofInt (0 : Int))] _ _ _
    refine hs 7 _ rfl _ _ _ _ _ _ (fun _ => ?_) (fun zq => absurd (hd_c1t (c := 0) (by omega) (by omega) (by omega : (0 : Int) = 0)) zq)
    refine hs 10 _ rfl _ _ _ _ _ _ _ rfl ?_
    refine zw_cm (hs 11 _ rfl) (a := [.ref x]) (st := []) 14 69 rfl rfl (Nat.le_of_ble_eq_true rfl) ⟨_, _, _, rfl, x2_.1, a2_.1⟩ (by omega) (by omega) (zm_keep_M g x2_ hok hp12 (by omega) (by omega) fun h3_ o3_ f3_ x3_ => ?_)
    obtain ⟨t_, qn_, ql_, qb_, vb_, s1_, l1_, ⟨e1_, e2_⟩, up_⟩ := x3_.baseL
    have ll_ : vb_.length = n9_ + 1 := e1_.trans hn9_
    obtain ⟨v9_, hv9_⟩ : ∃ v_, vb_[n9_]? = some v_ := ⟨_, List.getElem?_eq_getElem (by omega)⟩
    show S 24 [some (.ref x)] [] _ _ _
    refine hs 12 _ rfl _ _ _ _ _ _ _ rfl ?_
    refine hs 13 _ rfl _ _ _ _ _ _ _ _ _ (x3_.1) a2_.1 rfl ?_
    refine hs 14 _ rfl _ _ _ _ _ _ _ _ _ (s1_.1) s1_.2 rfl ?_
    refine hs 15 _ rfl _ _ _ _ _ _ _ rfl ?_
    refine hs 16 _ rfl _ _ _ _ _ _ _ _ _ (x3_.1) a2_.1 rfl ?_
    refine hs 17 _ rfl _ _ _ _ _ _ _ _ _ (s1_.1) s1_.2 rfl ?_
    refine zw_c (hs 18 _ rfl) (a := [.ref qb_]) (st := [.ref qb_]) rfl rfl (Nat.le_of_ble_eq_true rfl) (zm_l.rc l1_) (by omega) (by omega) (zm_size_M g l1_ ?_)
    show S 41 [some (.ref x)] [.int (Int32.ofInt (vb_.length : Int)), .ref qb_] _ _ _
    refine hs 19 _ rfl _ _ _ _ _ _ _ rfl ?_
    refine hs 20 _ rfl _ _ _ _ _ _ _ hd_sub ?_
    refine zw_c (hs 21 _ rfl) (a := [.ref qb_, .int (Int32.ofInt ((vb_.length : Int) - (1 : Int)))]) (st := []) rfl rfl (Nat.le_of_ble_eq_true rfl) (zm_l.rc l1_) (by omega) (by omega) (zm_rem_M g (j := n9_) (v := v9_) l1_ (zl_ob.B e1_ e2_) (by omega) hv9_ fun h4_ f4_ l4_ => ?_)
    obtain ⟨t9_, c4_, d4_⟩ := (e2_ n9_ v9_ b9_ hv9_ hb9_).f f4_ zm_d4.ok
    show S 46 [some (.ref x)] [.ref v9_] _ _ _
    refine hs 22 _ rfl _ _ _ _ _ _ (Or.inr ⟨_, _, _, rfl, (c4_), List.mem_singleton.mpr d4_⟩) ?_
    refine zw_c (hs 23 _ rfl) (a := [.ref v9_]) (st := []) rfl rfl (Nat.le_of_ble_eq_true rfl) ⟨_, _, _, rfl, (c4_), d4_⟩ (by omega) (by omega) (zi_int_M g c4_ d4_ ?_)
    show S 52 [some (.ref x)] [.int (Int32.ofInt b9_)] _ _ _
    have up2_ := up_ h4_ o3_ (vb_.eraseIdx n9_) B_ f4_ l4_ (by rw [List.length_eraseIdx, if_pos (by omega)]; omega) (fun i_ a_ b_ y1_ y2_ => by
      rw [zt_erl ll_] at y1_
      have li_ := (List.getElem?_eq_some_iff.mp y2_).1
      rw [if_pos (by omega)] at y1_
      exact (e2_ i_ a_ b_ y1_ (by rw [hB_, zt_apl hl_ (by omega)]; exact y2_)).f f4_ zm_d4.ok)
    exact hs 24 _ rfl _ _ _ _ _ (rv _) (by omega) (by omega) (hP _ _ _ _ (Or.inl ⟨B_, b9_, hB_, rfl, rfl, rfl⟩) ((f2_.tr f3_).tr (zm_fr.f f4_ zm_d4.ok)) ⟨_, _, _, _, up2_⟩)
/-- the last one of those that may come back comes back -/
theorem zm_x.pop {G : am_G} {h h2 h3 : List am_C} {o : Nat → Nat} {x tx now qw s n : Nat} {th th2 j m k : Int} {c c2 : sp_S} {P P2 : List sp_S} {ss : List Nat} (a : zm_x G h o x tx now qw th j m k c P) (w1 : ss.length = n + 1) (hP : P = P2 ++ [c2]) (hl2 : P2.length = n) (w2 : ∀ (i s : Nat) (p : sp_S), ss[i]? = some s → P[i]? = some p → zm_s G h o s p) (w3 : ∀ (i j s : Nat), ss[i]? = some s → ss[j]? = some s → i = j) (hs : ss[n]? = some s) (f : zm_f G o o h h2 (zm_d4 o qw)) (hl : zm_l G h2 o qw 5 (ss.eraseIdx n)) (w : hd_w G h2 h3 x (tx, zm_c th2 s qw j m k)) : zm_x G h3 o x tx s qw th2 j m k c2 P2 := by
  obtain ⟨a1_, a2_, a3_, a4_⟩ := a
  have l_ := a4_.lab
  have g1_ := f.2.2 _ _ _ a1_ (by rw [a2_.1]; exact zm_d4.nk (by decide) (by decide))
  have f_ : zm_f G o o h2 h3 (zm_d1 x 19) := zm_f.w g1_ w ⟨rfl, a2_.1⟩
  have ok_ : zm_ok (zm_d1 x 19) := zm_d1.ok a2_.2 (by decide)
  have no_ : ∀ s, zm_no o s (zm_d1 x 19) := fun s => ⟨ok_, zm_d1.no (by decide), fun _ _ => zm_d1.no (by decide), fun _ _ => ⟨zm_d1.no (by decide), fun _ _ => zm_d1.no (by decide)⟩⟩
  have pn_ : P[n]? = some c2 := by rw [hP, List.getElem?_append_right (by omega), hl2, Nat.sub_self]; rfl
  have z_ := w2 _ _ _ hs pn_
  refine ⟨w.at, a2_, (z_.f f (zm_d4w l_ z_.lo)).f f_ (no_ _), ⟨ss.eraseIdx n, hl.f f_ ok_ (zm_d1.no (by decide)) (fun _ _ => zm_d1.no (by decide)), ?_, fun i s2 p e1 e2 => ?_, fun i j s2 e1 e2 => ?_, fun i e1 => ?_⟩⟩
  · rw [List.length_eraseIdx, if_pos (by omega)]
    omega
  · rw [zt_erl w1] at e1
    have li_ := (List.getElem?_eq_some_iff.mp e2).1
    rw [if_pos (by omega)] at e1
    have y_ := w2 i s2 p e1 (by rw [hP, zt_apl hl2 (by omega)]; exact e2)
    exact (y_.f f (zm_d4w l_ y_.lo)).f f_ (no_ _)
  · rw [zt_erl w1] at e1 e2
    split at e1
    · split at e2
      · exact w3 _ _ _ e1 e2
      · cases e2
    · cases e1
  · rw [zt_erl w1] at e1
    split at e1
    · have := w3 _ _ _ e1 hs
      omega
    · cases e1
set_option maxHeartbeats 4000000 in
theorem zm_undo_M {l : Launch} {G : am_G} {X : ck_XT} (g : gM l G X) {o : Nat → Nat} {x tx now qw : Nat} {th j m k : Int} {c : sp_S} {P : List sp_S} {h : List am_C} (hX : zm_x G h o x tx now qw th j m k c P) (hok : sp_ok c) (hp12 : P.length ≤ 12) {e e2 : Int} {mc ms : Nat} {Post : am_O → List am_C → Prop}
    (hP : ∀ (a th : Int) (T' : sp_T) (h' : List am_C), sp_d16 e e2 (c, P, j, m, k) a th T' → zm_fr G h h' → zm_Y G h' x th T' → Post (.inl (some (.int (Int32.ofInt a)))) h') :
    am_M l G yX14_undo (.code yX14_undo prog_14_method_39_code 1 (some .int)) 4 105 mc ms [.ref x] h Post := by
  refine gh_yX14_undo_X g (Nat.le_of_ble_eq_true rfl) fun S SX hs hr hw hx => ?_
  have rv : ∀ x : Int32, ck_fv 0 (.int x) := fun x => ⟨_, rfl⟩
  obtain ⟨a1_, a2_, a3_, a4_⟩ := id hX
  obtain ⟨ss_, w0_, w1_, w2_, w3_, w4_⟩ := id a4_
  by_cases c1_ : P = []
  · have c1l_ : ss_.length = 0 := by rw [w1_, c1_]; rfl
    refine hs 0 _ rfl _ _ _ _ _ _ _ rfl ?_
    refine hs 1 _ rfl _ _ _ _ _ _ _ rfl ?_
    refine hs 2 _ rfl _ _ _ _ _ _ _ _ _ (a1_) a2_.1 rfl ?_
    refine zw_c (hs 3 _ rfl) (a := [.ref qw]) (st := [.ref x]) rfl rfl (Nat.le_of_ble_eq_true rfl) (zm_l.rc w0_) (by omega) (by omega) (zm_emp_M g w0_ (fun y_ => ?_) (fun y_ => absurd y_ (by omega)))
    show S 8 [some (.ref x)] [.int (Int32.ofInt (1 : Int)), .ref x] _ _ _
    refine hs 4 _ rfl _ _ _ _ _ _ _ rfl ?_
    refine zw_c (hs 5 _ rfl) (a := [.ref x, .int (Int32.ofInt (1 : Int)), .int (Int32.ofInt (1 : Int))]) (st := []) rfl rfl (Nat.le_of_ble_eq_true rfl) ⟨_, _, _, rfl, a1_, a2_.1⟩ (by omega) (by omega) (zm_start_M g hX (i_ := 1) (w_ := 1) (Or.inr rfl) (by decide) (fun y_ h2_ f2_ x2_ => ?_) (fun y_ => absurd y_ (by decide)))
    show S 12 [some (.ref x)] [.int (Int32.ofInt (1 : Int))] _ _ _
    refine hs 6 _ rfl _ _ _ _ _ _ (fun zq => absurd (hd_c1z (c := 0) (by omega) (by omega) zq) (by omega : ¬ ((1 : Int) = 0))) (fun _ => ?_)
    refine hs 7 _ rfl _ _ _ _ _ _ _ rfl ?_
    exact hs 8 _ rfl _ _ _ _ _ (rv _) (by omega) (by omega) (hP 0 _ _ _ (Or.inr ⟨c1_, rfl, rfl⟩) f2_ ⟨_, _, _, _, x2_⟩)
  · have c2_ : P.length ≠ 0 := fun y_ => c1_ (List.eq_nil_of_length_eq_zero y_)
    obtain ⟨n9_, hn9_⟩ : ∃ n9_, P.length = n9_ + 1 := ⟨P.length - 1, by omega⟩
    obtain ⟨P2_, c9b_, hP_, hpn_, -, hl_⟩ := sp_last P n9_ hn9_
    refine hs 0 _ rfl _ _ _ _ _ _ _ rfl ?_
    refine hs 1 _ rfl _ _ _ _ _ _ _ rfl ?_
    refine hs 2 _ rfl _ _ _ _ _ _ _ _ _ (a1_) a2_.1 rfl ?_
    refine zw_c (hs 3 _ rfl) (a := [.ref qw]) (st := [.ref x]) rfl rfl (Nat.le_of_ble_eq_true rfl) (zm_l.rc w0_) (by omega) (by omega) (zm_emp_M g w0_ (fun y_ => absurd y_ (by omega)) (fun y_ => ?_))
    show S 8 [some (.ref x)] [.int (Int32.ofInt (0 : Int)), .ref x] _ _ _
    refine hs 4 _ rfl _ _ _ _ _ _ _ rfl ?_
    refine zw_c (hs 5 _ rfl) (a := [.ref x, .int (Int32.ofInt (0 : Int)), .int (Int32.ofInt (1 : Int))]) (st := []) rfl rfl (Nat.le_of_ble_eq_true rfl) ⟨_, _, _, rfl, a1_, a2_.1⟩ (by omega) (by omega) (zm_start_M g hX (i_ := 0) (w_ := 1) (Or.inl rfl) (by decide) (fun y_ => absurd y_ (by decide)) (fun y_ h2_ f2_ x2_ => ?_))
    obtain ⟨sz_, v0_, v1_, v2_, v3_, v4_⟩ := x2_.2.2.2
    have v5_ : sz_.length = n9_ + 1 := v1_.trans hn9_
    obtain ⟨s9_, hs9_⟩ : ∃ v_, sz_[n9_]? = some v_ := ⟨_, List.getElem?_eq_getElem (by omega)⟩
    show S 12 [some (.ref x)] [.int (Int32.ofInt (0 : Int))] _ _ _
    refine hs 6 _ rfl _ _ _ _ _ _ (fun _ => ?_) (fun zq => absurd (hd_c1t (c := 0) (by omega) (by omega) (by omega : (0 : Int) = 0)) zq)
    refine hs 9 _ rfl _ _ _ _ _ _ _ rfl ?_
    refine hs 10 _ rfl _ _ _ _ _ _ _ rfl ?_
    refine hs 11 _ rfl _ _ _ _ _ _ _ _ _ (x2_.1) a2_.1 rfl ?_
    refine hs 12 _ rfl _ _ _ _ _ _ _ rfl ?_
    refine hs 13 _ rfl _ _ _ _ _ _ _ _ _ (x2_.1) a2_.1 rfl ?_
    refine zw_c (hs 14 _ rfl) (a := [.ref qw]) (st := [.ref qw, .ref x]) rfl rfl (Nat.le_of_ble_eq_true rfl) (zm_l.rc v0_) (by omega) (by omega) (zm_size_M g v0_ ?_)
    show S 29 [some (.ref x)] [.int (Int32.ofInt (sz_.length : Int)), .ref qw, .ref x] _ _ _
    refine hs 15 _ rfl _ _ _ _ _ _ _ rfl ?_
    refine hs 16 _ rfl _ _ _ _ _ _ _ hd_sub ?_
    refine zw_c (hs 17 _ rfl) (a := [.ref qw, .int (Int32.ofInt ((sz_.length : Int) - (1 : Int)))]) (st := [.ref x]) rfl rfl (Nat.le_of_ble_eq_true rfl) (zm_l.rc v0_) (by omega) (by omega) (zm_rem_M g (j := n9_) (v := s9_) v0_ (zl_ob.W v1_ v2_) (by omega) hs9_ fun h3_ f3_ l3_ => ?_)
    have x3_ := f3_.2.2 _ _ _ x2_.1 (by rw [a2_.1]; exact zm_d4.nk (by decide) (by decide))
    obtain ⟨t9_, u9_, c9_, d9_⟩ := ((v2_ n9_ s9_ c9b_ hs9_ hpn_).f f3_ (zm_d4w x2_.2.2.2.lab (v2_ n9_ s9_ c9b_ hs9_ hpn_).lo)).k
    show S 34 [some (.ref x)] [.ref s9_, .ref x] _ _ _
    refine hs 18 _ rfl _ _ _ _ _ _ (Or.inr ⟨_, _, _, rfl, (c9_), List.mem_singleton.mpr d9_⟩) ?_
    refine zw_U (hs 19 _ rfl) (by omega) (x3_) a2_.1 (Or.inl ⟨_, rfl⟩) fun hz325 wz326 => ?_
    have wz326 : hd_w G h3_ hz325 x (tx, [.int (Int32.ofInt (0 : Int)), .ref s9_, .ref qw, .int (Int32.ofInt j), .int (Int32.ofInt m), .int (Int32.ofInt k)]) := wz326
    have lwz326 := wz326.1
    have x4_ := x2_.pop (th2 := 0) v5_ hP_ hl_ v2_ v3_ hs9_ f3_ l3_ wz326
    have l4_ := l3_.f (zm_f.w x3_ wz326 ⟨rfl, a2_.1⟩ : zm_f G o o h3_ _ (zm_d1 x 19)) (zm_d1.ok a2_.2 (by decide)) (zm_d1.no (by decide)) (fun _ _ => zm_d1.no (by decide))
    refine hs 20 _ rfl _ _ _ _ _ _ _ rfl ?_
    refine hs 21 _ rfl _ _ _ _ _ _ _ _ _ (x4_.1) a2_.1 rfl ?_
    refine zw_c (hs 22 _ rfl) (a := [.ref qw]) (st := []) rfl rfl (Nat.le_of_ble_eq_true rfl) (zm_l.rc l4_) (by omega) (by omega) (zm_size_M g l4_ ?_)
    show S 47 [some (.ref x)] [.int (Int32.ofInt ((sz_.eraseIdx n9_).length : Int))] _ _ _
    have sl_ : (sz_.eraseIdx n9_).length = P2_.length := by
      rw [List.length_eraseIdx, if_pos (by omega)]
      omega
    rw [sl_]
    exact hs 23 _ rfl _ _ _ _ _ (rv _) (by omega) (by omega) (hP _ _ _ _ (Or.inl ⟨P2_, c9b_, hP_, rfl, rfl, rfl⟩) ((f2_.tr (zm_fr.f f3_ zm_d4.ok)).tr (zm_fr.w wz326 x3_ (Or.inl a2_.1))) ⟨_, _, _, _, x4_⟩)
set_option maxHeartbeats 4000000 in
theorem zm_knock_M {l : Launch} {G : am_G} {X : ck_XT} (g : gM l G X) {o : Nat → Nat} {x tx now qw : Nat} {th j m k : Int} {c : sp_S} {P : List sp_S} {h : List am_C} (hX : zm_x G h o x tx now qw th j m k c P) {e e2 : Int} {mc ms : Nat} {Post : am_O → List am_C → Prop}
    (hP : ∀ (a th : Int) (T' : sp_T) (h' : List am_C), sp_d17 e e2 (c, P, j, m, k) a th T' → zm_fr G h h' → zm_Y G h' x th T' → Post (.inl (some (.int (Int32.ofInt a)))) h') :
    am_M l G yX14_knock (.code yX14_knock prog_14_method_40_code 1 (some .int)) 1 20 mc ms [.ref x] h Post := by
  refine gh_yX14_knock_X g (Nat.le_of_ble_eq_true rfl) fun S SX hs hr hw hx => ?_
  have rv : ∀ x : Int32, ck_fv 0 (.int x) := fun x => ⟨_, rfl⟩
  obtain ⟨a1_, a2_, a3_, a4_⟩ := id hX
  refine hs 0 _ rfl _ _ _ _ _ _ _ rfl ?_
  refine hs 1 _ rfl _ _ _ _ _ _ _ rfl ?_
  refine zw_U (hs 2 _ rfl) (by omega) (a1_) a2_.1 ⟨_, rfl⟩ fun hz327 wz328 => ?_
  have wz328 : hd_w G h hz327 x (tx, [.int (Int32.ofInt (0 : Int)), .ref now, .ref qw, .int (Int32.ofInt j), .int (Int32.ofInt m), .int (Int32.ofInt k)]) := wz328
  have lwz328 := wz328.1
  refine hs 3 _ rfl _ _ _ _ _ _ _ rfl ?_
  refine hs 4 _ rfl _ _ _ _ _ _ _ rfl ?_
  refine hs 5 _ rfl _ _ _ _ _ _ _ _ _ (wz328.at) a2_.1 rfl ?_
  refine hs 6 _ rfl _ _ _ _ _ _ _ rfl ?_
  refine hs 7 _ rfl _ _ _ _ _ _ _ hd_add ?_
  refine hs 8 _ rfl _ _ _ _ _ _ _ rfl ?_
  refine zw_U (hs 9 _ rfl) (by omega) (wz328.at) a2_.1 ⟨_, rfl⟩ fun hz329 wz330 => ?_
  have wz330 : hd_w G hz327 hz329 x (tx, [.int (Int32.ofInt (0 : Int)), .ref now, .ref qw, .int (Int32.ofInt j), .int (Int32.ofInt m), .int (Int32.ofInt (k + (1 : Int)))]) := wz330
  have lwz330 := wz330.1
  exact hs 10 _ rfl _ _ _ _ _ (rv _) (Nat.zero_le _) (Nat.zero_le _) (hP _ _ _ _ ⟨rfl, rfl, rfl⟩ (zm_fr.w (hd_w.tr wz328 wz330) a1_ (Or.inl a2_.1)) ⟨_, _, _, _, hX.own (hd_w.tr wz328 wz330)⟩)
set_option maxHeartbeats 4000000 in
theorem zm_size9_M {l : Launch} {G : am_G} {X : ck_XT} (g : gM l G X) {o : Nat → Nat} {x tx now qw : Nat} {th j m k : Int} {c : sp_S} {P : List sp_S} {h : List am_C} (hX : zm_x G h o x tx now qw th j m k c P) {mc ms : Nat} {Post : am_O → List am_C → Prop}
    (hP : ∀ h', zm_fr G h h' → zm_Y G h' x 0 (c, P, j, m, k) → Post (.inl (some (.int (Int32.ofInt c.1)))) h') :
    am_M l G yX14_size (.code yX14_size prog_14_method_48_code 1 (some .int)) 1 20 mc ms [.ref x] h Post := by
  refine gh_yX14_size_X g (Nat.le_of_ble_eq_true rfl) fun S SX hs hr hw hx => ?_
  have rv : ∀ x : Int32, ck_fv 0 (.int x) := fun x => ⟨_, rfl⟩
  obtain ⟨a1_, a2_, a3_, a4_⟩ := id hX
  obtain ⟨t_, qn_, ql_, qb_, s1_, up_⟩ := hX.dialL
  have nx_ := zg_ne s1_.1 a1_ (by rw [s1_.2, a2_.1]; decide)
  refine hs 0 _ rfl _ _ _ _ _ _ _ rfl ?_
  refine hs 1 _ rfl _ _ _ _ _ _ _ rfl ?_
  refine zw_U (hs 2 _ rfl) (by omega) (a1_) a2_.1 ⟨_, rfl⟩ fun hz331 wz332 => ?_
  have wz332 : hd_w G h hz331 x (tx, [.int (Int32.ofInt (0 : Int)), .ref now, .ref qw, .int (Int32.ofInt j), .int (Int32.ofInt m), .int (Int32.ofInt k)]) := wz332
  have lwz332 := wz332.1
  refine hs 3 _ rfl _ _ _ _ _ _ _ rfl ?_
  refine hs 4 _ rfl _ _ _ _ _ _ _ _ _ (wz332.at) a2_.1 rfl ?_
  refine hs 5 _ rfl _ _ _ _ _ _ _ _ _ (((wz332.ne nx_).trans s1_.1)) s1_.2 rfl ?_
  exact hs 6 _ rfl _ _ _ _ _ (rv _) (Nat.zero_le _) (Nat.zero_le _) (hP _ (zm_fr.w wz332 a1_ (Or.inl a2_.1)) ⟨_, _, _, _, hX.own wz332⟩)
end
section
/-! THE CONSTRUCTOR OF THE REFERENCE, TO BE WALKED BY HAND -/
def gt_yX14_init_X : ck_TB := ([], [], [], [], [(18, 19, 1, 4), (27, 19, 2, 4)], [(7, 18, [0, 2, 2, 2]), (24, 6, [0, 2, 0])], [(9, 55)], [], ([], [(15, 1), (26, 2)], [(11, 0)], []), [], [1], [], 9)
def ge_yX14_init_X : ck_E := (gT, [(55, 17)], (([], [], [], 0, []), ((0, []), (0, [])), [], [], ([], [], [], 0, []), []), 1, [(0, (0, 5, 0, 0, 1, 0, [])), (1, (18, 0, 0, 0, 4, 0, [])), (4, (0, 5, 0, 0, 5, 0, [])), (5, (9, 18, 18, 0, 8, 0, [(0, 0), (0, 2), (0, 2), (0, 2)])), (8, (0, 12, 0, 0, 9, 0, [])), (9, (0, 0, 0, 6, 11, 0, [])), (11, (10, 55, 55, 2, 14, 0, [])), (14, (0, 12, 0, 0, 15, 0, [])), (15, (0, 0, 0, 0, 16, 0, [])), (16, (0, 1, 0, 0, 17, 0, [])), (17, (16, 0, 0, 0, 20, 0, [])), (20, (13, 53, 57, 0, 21, 0, [])), (21, (0, 12, 0, 0, 22, 0, [])), (22, (0, 0, 0, 1, 23, 0, [])), (23, (0, 1, 0, 0, 24, 0, [])), (24, (16, 0, 0, 0, 27, 0, [])), (27, (13, 53, 57, 0, 28, 0, [])), (28, (0, 12, 0, 0, 29, 0, [])), (29, (0, 0, 0, 2, 30, 0, [])), (30, (0, 1, 0, 0, 31, 0, [])), (31, (16, 0, 0, 0, 34, 0, [])), (34, (13, 53, 57, 0, 35, 0, [])), (35, (0, 12, 0, 0, 36, 0, [])), (36, (0, 0, 0, 3, 37, 0, [])), (37, (0, 1, 0, 0, 38, 0, [])), (38, (16, 0, 0, 0, 41, 0, [])), (41, (13, 53, 57, 0, 42, 0, [])), (42, (0, 12, 0, 0, 43, 0, [])), (43, (0, 0, 0, 4, 44, 0, [])), (44, (0, 1, 0, 0, 45, 0, [])), (45, (16, 0, 0, 0, 48, 0, [])), (48, (13, 53, 57, 0, 49, 0, [])), (49, (0, 12, 0, 0, 50, 0, [])), (50, (0, 0, 0, 5, 51, 0, [])), (51, (0, 1, 0, 0, 52, 0, [])), (52, (16, 0, 0, 0, 55, 0, [])), (55, (13, 53, 57, 0, 56, 0, [])), (56, (16, 1, 0, 0, 59, 0, [])), (59, (8, 19, 1, 4, 62, 0, [])), (62, (0, 5, 0, 0, 63, 0, [])), (63, (9, 6, 6, 0, 66, 0, [(0, 0), (0, 2), (0, 0)])), (66, (0, 12, 0, 0, 67, 0, [])), (67, (16, 2, 0, 0, 70, 0, [])), (70, (8, 19, 2, 4, 73, 0, [])), (73, (15, 0, 0, 0, 0, 0, []))], [(none, 1, []), (some 18, 2, []), (some 6, 1, [])], [], [], [])
theorem gd_yX14_init_X : ck_dec prog_14_method_1_code gt_yX14_init_X ge_yX14_init_X.2.2.2.2.1 = true := by decide +kernel
theorem gh_yX14_init_X {l : Launch} {G : am_G} {X : ck_XT} (g : gM l G X) {a : List Value} {h : List am_C} {mc ms : Nat} {Post : am_O → List am_C → Prop} (hay : (am_lay a).length ≤ 1) (H : ∀ (S : ck_SS) (SX : Nat → ck_SX), ck_hs G S SX Post mc ms (ck_cms [am_cm l G yX12_of (.code yX12_of prog_15_method_2_code 6 (some (.object "ClockhouseModel$Num"))) 2 44, am_cn l G yX13_init (.code yX13_init prog_16_method_1_code 2 none) 4 80, am_cn l G yJx4a65c_init_da8c8 (.code yJx4a65c_init_da8c8 prog_46_method_2_code 1 none) 3 60]) ge_yX14_init_X → (∀ pc, ck_sR G S pc) → ck_hw S → zw_hx SX Post mc ms → S 0 (am_ent a 1) [] h 0 0) : am_M l G yX14_init (.code yX14_init prog_14_method_1_code 1 none) 5 101 mc ms a h Post :=
  zw_handX (E := ge_yX14_init_X) (tb := gt_yX14_init_X) (init := true) (cm := (ck_cms [am_cm l G yX12_of (.code yX12_of prog_15_method_2_code 6 (some (.object "ClockhouseModel$Num"))) 2 44, am_cn l G yX13_init (.code yX13_init prog_16_method_1_code 2 none) 4 80, am_cn l G yJx4a65c_init_da8c8 (.code yJx4a65c_init_da8c8 prog_46_method_2_code 1 none) 3 60])) g.1.1 (by decide +kernel) rfl gd_yX14_init_X ⟨(List.forall_mem_nil _), (List.forall_mem_nil _), (List.forall_mem_nil _), (List.forall_mem_nil _), (List.forall_mem_cons.mpr ⟨⟨_, _, _, g_nw18, rfl, w1642, by decide⟩, (List.forall_mem_cons.mpr ⟨⟨_, _, _, g_nw6, rfl, w1715, by decide⟩, (List.forall_mem_nil _)⟩)⟩), (List.forall_mem_cons.mpr ⟨Or.inl ⟨_, rfl, by decide, by decide, w1644, w1645⟩, (List.forall_mem_nil _)⟩), (List.forall_mem_cons.mpr ⟨w1641, (List.forall_mem_nil _)⟩), (List.forall_mem_nil _)⟩ (List.forall_mem_cons.mpr ⟨⟨⟨_, _, _, rfl, Or.inl w1718⟩, by decide, _, Or.inl ⟨_, rfl⟩, Or.inl g_fd19_1⟩, (List.forall_mem_cons.mpr ⟨⟨⟨_, _, _, rfl, Or.inl w1719⟩, by decide, _, Or.inl ⟨_, rfl⟩, Or.inr ⟨g_fd19_2, rfl, fun r hr => by cases hr; rfl⟩⟩, (List.forall_mem_nil _)⟩)⟩) (fun _ => rfl) rfl (by decide) (by decide) g_oi g_ar
    (fun s hk _ => (List.forall_mem_cons.mpr ⟨⟨by decide, by decide, am_asg_own hk (T := TX12) (N := 2) (by decide) (by decide) rfl rfl (by decide)⟩, (List.forall_mem_nil _)⟩)) (fun s hk => (List.forall_mem_nil _))
    (List.forall_mem_nil _) (List.forall_mem_cons.mpr ⟨(ck_kI g_y_yX13_init w1665 w1666 rfl (by decide) (by decide)), (List.forall_mem_cons.mpr ⟨(ck_kI g_y_yJx4a65c_init_da8c8 w1716 w1672 rfl (by decide) (by decide)), (List.forall_mem_nil _)⟩)⟩) (List.forall_mem_cons.mpr ⟨(ck_kS g_y_yX12_of w1646 w1647 (by decide) (by decide)), (List.forall_mem_nil _)⟩) (List.forall_mem_nil _)
    (List.forall_mem_nil _) hay H
end
section
/-! THE CONSTRUCTOR OF THE REFERENCE -/
theorem zm_fr.w6 {G : am_G} {h h' : List am_C} {q t : Nat} {vs : List Value} {c : am_C} (w : hd_w G h h' q c) (hg : am_g G h q = some (t, vs)) (ht : t % 100 = 6 ∨ t % 100 = 56) : zm_fr G h h' := ⟨Nat.le_of_eq w.1.symm, fun y t2 v2 e hn => (w.ne fun y_ => by
  rw [y_, hg] at e
  have e2_ := congrArg Prod.fst (Option.some.inj e)
  dsimp only at e2_
  omega).trans e⟩
theorem zm_fr.zk {G : am_G} {h h' : List am_C} {q t : Nat} {vs : List Value} (k : zk G h h' (fun y => y = q)) (hg : am_g G h q = some (t, vs)) (ht : t % 100 = 18) : zm_fr G h h' := ⟨k.1, fun y t2 v2 e hn => k.2 _ _ e fun (y_ : y = q) => by
  rw [y_, hg] at e
  have e2_ := congrArg Prod.fst (Option.some.inj e)
  dsimp only at e2_
  omega⟩
def sp_0 : sp_S := (12, [0, 0, 0, 0, 0, 0], [], [])
/-- an empty list, just made -/
theorem zm_l.nil {l : Launch} {G : am_G} {X : ck_XT} (g : gM l G X) {h : List am_C} {o : Nat → Nat} {q lab : Nat} (hg : am_g G h q = some (6, [.int (Int32.ofInt 0), .ref 4, .int 0])) (hq : 1000 ≤ q) (hl : o q = lab) : zm_l G h o q lab [] := ⟨4, 0, 6, 43056, 0, hg, rfl, zl_k4 g, rfl, ⟨Nat.le_refl _, hq⟩, Or.inl ⟨rfl, rfl⟩, hl, fun z => absurd z (by decide)⟩
set_option maxHeartbeats 4000000 in
theorem zm_init_M {l : Launch} {G : am_G} {X : ck_XT} (g : gM l G X) {x tx : Nat} {h : List am_C} (hg : am_g G h x = some (tx, [.int 0, .null, .null, .int 0, .int 0, .int 0])) (ht : tx % 100 = 19) (hx_ : 1000 ≤ x) {mc ms : Nat} {Post : am_O → List am_C → Prop} (hmc : 23 ≤ mc) (hms : 271 ≤ ms)
    (hP : ∀ h', zm_fr G h h' → zm_X G h' x 0 0 0 0 sp_0 [] → Post (.inl none) h') :
    am_M l G yX14_init (.code yX14_init prog_14_method_1_code 1 none) 5 101 mc ms [.ref x] h Post := by
  refine gh_yX14_init_X g (Nat.le_of_ble_eq_true rfl) fun S SX hs hr hw hx => ?_
  have rv : ∀ x : Int32, ck_fv 0 (.int x) := fun x => ⟨_, rfl⟩
  have lx_ := zg_lt hg
  refine hs 0 _ rfl _ _ _ _ _ _ _ rfl ?_
  refine hs 1 _ rfl _ _ _ _ _ _ rfl (Nat.le_of_ble_eq_true rfl) ?_
  refine hs 2 _ rfl _ _ _ _ _ _ _ rfl ?_
  refine zw_W (G := G) (hs 3 _ rfl) (t := 18) (vs := [.int 0, .null, .null, .null]) (m := 4) rfl rfl rfl (by omega) (by omega) fun hz333 az334 ez335 lz336 gz337 cz338 => ?_
  refine hs 4 _ rfl _ _ _ _ _ _ _ rfl ?_
  refine hs 5 _ rfl _ _ _ _ _ _ _ rfl ?_
  refine zw_E2 (G := G) (hs 6 _ rfl) (t := 55) (N := 6) rfl (by omega) (by omega) (by omega) (by omega) fun hz339 az340 ez341 lz342 gz343 cz344 => ?_
  refine hs 7 _ rfl _ _ _ _ _ _ _ rfl ?_
  refine hs 8 _ rfl _ _ _ _ _ _ _ rfl ?_
  refine hs 9 _ rfl _ _ _ _ _ _ _ rfl ?_
  refine zw_cm (hs 10 _ rfl) (a := [.long (Int64.ofInt (0 : Int))]) (st := [.int (Int32.ofInt (0 : Int)), .ref az340, .ref az340, .ref az334, .ref az334, .ref x]) 3 42 rfl rfl (Nat.le_of_ble_eq_true rfl) trivial (by omega) (by omega) (zn_of_M g (v := 0) (by omega) (by omega) (by omega) (by omega) fun hn0_ qn0_ gn0_ zn0_ => ?_)
  have lgn0_ := gn0_.1
  obtain ⟨ct0_, _, _, _, _, cg0_, ck0_, -⟩ := id zn0_
  show S 20 [some (.ref x)] [.ref qn0_, .int (Int32.ofInt (0 : Int)), .ref az340, .ref az340, .ref az334, .ref az334, .ref x] _ _ _
  refine zw_Br (hs 11 _ rfl) (by omega) ((gn0_.2 _ _ cz344)) (by first | decide | (rw [rfl]; decide)) (by first | decide | (rw [rfl]; decide)) (j := 0) (by omega) (by omega) (by simp only [List.length_set, List.length_replicate]; decide) (Or.inr (Or.inr (Or.inr (Or.inr ⟨_, _, _, rfl, cg0_, by rw [ck0_]; decide⟩)))) fun hz345 wz346 => ?_
  have lwz346 := wz346.1
  refine hs 12 _ rfl _ _ _ _ _ _ _ rfl ?_
  refine hs 13 _ rfl _ _ _ _ _ _ _ rfl ?_
  refine hs 14 _ rfl _ _ _ _ _ _ _ rfl ?_
  refine zw_cm (hs 15 _ rfl) (a := [.long (Int64.ofInt (0 : Int))]) (st := [.int (Int32.ofInt (1 : Int)), .ref az340, .ref az340, .ref az334, .ref az334, .ref x]) 3 42 rfl rfl (Nat.le_of_ble_eq_true rfl) trivial (by omega) (by omega) (zn_of_M g (v := 0) (by omega) (by omega) (by omega) (by omega) fun hn1_ qn1_ gn1_ zn1_ => ?_)
  have lgn1_ := gn1_.1
  obtain ⟨ct1_, _, _, _, _, cg1_, ck1_, -⟩ := id zn1_
  show S 27 [some (.ref x)] [.ref qn1_, .int (Int32.ofInt (1 : Int)), .ref az340, .ref az340, .ref az334, .ref az334, .ref x] _ _ _
  refine zw_Br (hs 16 _ rfl) (by omega) ((gn1_.2 _ _ wz346.at)) (by first | decide | (rw [rfl]; decide)) (by first | decide | (rw [rfl]; decide)) (j := 1) (by omega) (by omega) (by simp only [List.length_set, List.length_replicate]; decide) (Or.inr (Or.inr (Or.inr (Or.inr ⟨_, _, _, rfl, cg1_, by rw [ck1_]; decide⟩)))) fun hz347 wz348 => ?_
  have lwz348 := wz348.1
  refine hs 17 _ rfl _ _ _ _ _ _ _ rfl ?_
  refine hs 18 _ rfl _ _ _ _ _ _ _ rfl ?_
  refine hs 19 _ rfl _ _ _ _ _ _ _ rfl ?_
  refine zw_cm (hs 20 _ rfl) (a := [.long (Int64.ofInt (0 : Int))]) (st := [.int (Int32.ofInt (2 : Int)), .ref az340, .ref az340, .ref az334, .ref az334, .ref x]) 3 42 rfl rfl (Nat.le_of_ble_eq_true rfl) trivial (by omega) (by omega) (zn_of_M g (v := 0) (by omega) (by omega) (by omega) (by omega) fun hn2_ qn2_ gn2_ zn2_ => ?_)
  have lgn2_ := gn2_.1
  obtain ⟨ct2_, _, _, _, _, cg2_, ck2_, -⟩ := id zn2_
  show S 34 [some (.ref x)] [.ref qn2_, .int (Int32.ofInt (2 : Int)), .ref az340, .ref az340, .ref az334, .ref az334, .ref x] _ _ _
  refine zw_Br (hs 21 _ rfl) (by omega) ((gn2_.2 _ _ wz348.at)) (by first | decide | (rw [rfl]; decide)) (by first | decide | (rw [rfl]; decide)) (j := 2) (by omega) (by omega) (by simp only [List.length_set, List.length_replicate]; decide) (Or.inr (Or.inr (Or.inr (Or.inr ⟨_, _, _, rfl, cg2_, by rw [ck2_]; decide⟩)))) fun hz349 wz350 => ?_
  have lwz350 := wz350.1
  refine hs 22 _ rfl _ _ _ _ _ _ _ rfl ?_
  refine hs 23 _ rfl _ _ _ _ _ _ _ rfl ?_
  refine hs 24 _ rfl _ _ _ _ _ _ _ rfl ?_
  refine zw_cm (hs 25 _ rfl) (a := [.long (Int64.ofInt (0 : Int))]) (st := [.int (Int32.ofInt (3 : Int)), .ref az340, .ref az340, .ref az334, .ref az334, .ref x]) 3 42 rfl rfl (Nat.le_of_ble_eq_true rfl) trivial (by omega) (by omega) (zn_of_M g (v := 0) (by omega) (by omega) (by omega) (by omega) fun hn3_ qn3_ gn3_ zn3_ => ?_)
  have lgn3_ := gn3_.1
  obtain ⟨ct3_, _, _, _, _, cg3_, ck3_, -⟩ := id zn3_
  show S 41 [some (.ref x)] [.ref qn3_, .int (Int32.ofInt (3 : Int)), .ref az340, .ref az340, .ref az334, .ref az334, .ref x] _ _ _
  refine zw_Br (hs 26 _ rfl) (by omega) ((gn3_.2 _ _ wz350.at)) (by first | decide | (rw [rfl]; decide)) (by first | decide | (rw [rfl]; decide)) (j := 3) (by omega) (by omega) (by simp only [List.length_set, List.length_replicate]; decide) (Or.inr (Or.inr (Or.inr (Or.inr ⟨_, _, _, rfl, cg3_, by rw [ck3_]; decide⟩)))) fun hz351 wz352 => ?_
  have lwz352 := wz352.1
  refine hs 27 _ rfl _ _ _ _ _ _ _ rfl ?_
  refine hs 28 _ rfl _ _ _ _ _ _ _ rfl ?_
  refine hs 29 _ rfl _ _ _ _ _ _ _ rfl ?_
  refine zw_cm (hs 30 _ rfl) (a := [.long (Int64.ofInt (0 : Int))]) (st := [.int (Int32.ofInt (4 : Int)), .ref az340, .ref az340, .ref az334, .ref az334, .ref x]) 3 42 rfl rfl (Nat.le_of_ble_eq_true rfl) trivial (by omega) (by omega) (zn_of_M g (v := 0) (by omega) (by omega) (by omega) (by omega) fun hn4_ qn4_ gn4_ zn4_ => ?_)
  have lgn4_ := gn4_.1
  obtain ⟨ct4_, _, _, _, _, cg4_, ck4_, -⟩ := id zn4_
  show S 48 [some (.ref x)] [.ref qn4_, .int (Int32.ofInt (4 : Int)), .ref az340, .ref az340, .ref az334, .ref az334, .ref x] _ _ _
  refine zw_Br (hs 31 _ rfl) (by omega) ((gn4_.2 _ _ wz352.at)) (by first | decide | (rw [rfl]; decide)) (by first | decide | (rw [rfl]; decide)) (j := 4) (by omega) (by omega) (by simp only [List.length_set, List.length_replicate]; decide) (Or.inr (Or.inr (Or.inr (Or.inr ⟨_, _, _, rfl, cg4_, by rw [ck4_]; decide⟩)))) fun hz353 wz354 => ?_
  have lwz354 := wz354.1
  refine hs 32 _ rfl _ _ _ _ _ _ _ rfl ?_
  refine hs 33 _ rfl _ _ _ _ _ _ _ rfl ?_
  refine hs 34 _ rfl _ _ _ _ _ _ _ rfl ?_
  refine zw_cm (hs 35 _ rfl) (a := [.long (Int64.ofInt (0 : Int))]) (st := [.int (Int32.ofInt (5 : Int)), .ref az340, .ref az340, .ref az334, .ref az334, .ref x]) 3 42 rfl rfl (Nat.le_of_ble_eq_true rfl) trivial (by omega) (by omega) (zn_of_M g (v := 0) (by omega) (by omega) (by omega) (by omega) fun hn5_ qn5_ gn5_ zn5_ => ?_)
  have lgn5_ := gn5_.1
  obtain ⟨ct5_, _, _, _, _, cg5_, ck5_, -⟩ := id zn5_
  show S 55 [some (.ref x)] [.ref qn5_, .int (Int32.ofInt (5 : Int)), .ref az340, .ref az340, .ref az334, .ref az334, .ref x] _ _ _
  refine zw_Br (hs 36 _ rfl) (by omega) ((gn5_.2 _ _ wz354.at)) (by first | decide | (rw [rfl]; decide)) (by first | decide | (rw [rfl]; decide)) (j := 5) (by omega) (by omega) (by simp only [List.length_set, List.length_replicate]; decide) (Or.inr (Or.inr (Or.inr (Or.inr ⟨_, _, _, rfl, cg5_, by rw [ck5_]; decide⟩)))) fun hz355 wz356 => ?_
  have lwz356 := wz356.1
  refine zw_cmn (hs 37 _ rfl) (a := [.ref az334, .ref az340]) (st := [.ref az334, .ref x]) 2 6 rfl rfl (Nat.le_of_ble_eq_true rfl) ⟨_, _, _, rfl, ((wz356.ne (by omega)).trans ((gn5_.2 _ _ ((wz354.ne (by omega)).trans ((gn4_.2 _ _ ((wz352.ne (by omega)).trans ((gn3_.2 _ _ ((wz350.ne (by omega)).trans ((gn2_.2 _ _ ((wz348.ne (by omega)).trans ((gn1_.2 _ _ ((wz346.ne (by omega)).trans ((gn0_.2 _ _ ((gz343.2 _ _ cz338)))))))))))))))))))), rfl⟩ (by omega) (by omega) (⟨zs_init_M g ((wz356.ne (by omega)).trans ((gn5_.2 _ _ ((wz354.ne (by omega)).trans ((gn4_.2 _ _ ((wz352.ne (by omega)).trans ((gn3_.2 _ _ ((wz350.ne (by omega)).trans ((gn2_.2 _ _ ((wz348.ne (by omega)).trans ((gn1_.2 _ _ ((wz346.ne (by omega)).trans ((gn0_.2 _ _ ((gz343.2 _ _ cz338)))))))))))))))))))) rfl (by omega) (by omega) (by omega) fun hi_ ai_ bi_ ki_ li_ mi_ ni_ ci_ di_ ei_ => ?_, fun _ _ h9 => h9⟩)
  have lki_ := ki_.1
  have lai_ := zg_lt di_
  have lbi_ := zg_lt ei_
  show S 59 [some (.ref x)] [.ref az334, .ref x] _ _ _
  refine zw_U (hs 38 _ rfl) (by omega) ((ki_.2 _ _ ((wz356.ne (by omega)).trans ((gn5_.2 _ _ ((wz354.ne (by omega)).trans ((gn4_.2 _ _ ((wz352.ne (by omega)).trans ((gn3_.2 _ _ ((wz350.ne (by omega)).trans ((gn2_.2 _ _ ((wz348.ne (by omega)).trans ((gn1_.2 _ _ ((wz346.ne (by omega)).trans ((gn0_.2 _ _ ((gz343.2 _ _ ((gz337.2 _ _ hg)))))))))))))))))))))) (by omega))) ht (Or.inl ⟨_, rfl⟩) fun hz357 wz358 => ?_
  have wz358 : hd_w G hi_ hz357 x (tx, [.int 0, .ref az334, .null, .int 0, .int 0, .int 0]) := wz358
  have lwz358 := wz358.1
  refine hs 39 _ rfl _ _ _ _ _ _ _ rfl ?_
  refine zw_W (G := G) (hs 40 _ rfl) (t := 6) (vs := [.int 0, .null, .int 0]) (m := 3) rfl rfl rfl (by omega) (by omega) fun hz359 az360 ez361 lz362 gz363 cz364 => ?_
  refine hs 41 _ rfl _ _ _ _ _ _ _ rfl ?_
  refine zw_cn (hs 42 _ rfl) (a := [.ref az360]) (st := [.ref az360, .ref x]) rfl rfl (Nat.le_of_ble_eq_true rfl) ⟨_, _, _, rfl, (cz364), rfl⟩ (by omega) (by omega) (⟨zl_init_M g (cz364) rfl (by omega) fun hl9_ wl9_ => ?_, fun _ _ h9 => h9⟩)
  have lwl9_ := wl9_.1
  show S 70 [some (.ref x)] [.ref az360, .ref x] _ _ _
  refine zw_U (hs 43 _ rfl) (by omega) ((wl9_.ne (by omega)).trans ((gz363.2 _ _ wz358.at))) ht (Or.inl ⟨_, rfl⟩) fun hz365 wz366 => ?_
  have wz366 : hd_w G hl9_ hz365 x (tx, [.int 0, .ref az334, .ref az360, .int 0, .int 0, .int 0]) := wz366
  have lwz366 := wz366.1
  have fr18_ := (zm_fr.w wz366 ((wl9_.ne (by omega)).trans ((gz363.2 _ _ wz358.at))) (by first | decide | omega)).tr zm_fr.rf
  have fr17_ := (zm_fr.w6 wl9_ (cz364) (Or.inl rfl)).tr fr18_
  have fr16_ := (zm_fr.g gz363).tr fr17_
  have fr15_ := (zm_fr.w wz358 ((ki_.2 _ _ ((wz356.ne (by omega)).trans ((gn5_.2 _ _ ((wz354.ne (by omega)).trans ((gn4_.2 _ _ ((wz352.ne (by omega)).trans ((gn3_.2 _ _ ((wz350.ne (by omega)).trans ((gn2_.2 _ _ ((wz348.ne (by omega)).trans ((gn1_.2 _ _ ((wz346.ne (by omega)).trans ((gn0_.2 _ _ ((gz343.2 _ _ ((gz337.2 _ _ hg)))))))))))))))))))))) (by omega))) (by first | decide | omega)).tr fr16_
  have fr14_ := (zm_fr.zk ki_ ((wz356.ne (by omega)).trans ((gn5_.2 _ _ ((wz354.ne (by omega)).trans ((gn4_.2 _ _ ((wz352.ne (by omega)).trans ((gn3_.2 _ _ ((wz350.ne (by omega)).trans ((gn2_.2 _ _ ((wz348.ne (by omega)).trans ((gn1_.2 _ _ ((wz346.ne (by omega)).trans ((gn0_.2 _ _ ((gz343.2 _ _ cz338)))))))))))))))))))) rfl).tr fr15_
  have fr13_ := (zm_fr.w wz356 ((gn5_.2 _ _ wz354.at)) (by first | decide | omega)).tr fr14_
  have fr12_ := (zm_fr.g gn5_).tr fr13_
  have fr11_ := (zm_fr.w wz354 ((gn4_.2 _ _ wz352.at)) (by first | decide | omega)).tr fr12_
  have fr10_ := (zm_fr.g gn4_).tr fr11_
  have fr9_ := (zm_fr.w wz352 ((gn3_.2 _ _ wz350.at)) (by first | decide | omega)).tr fr10_
  have fr8_ := (zm_fr.g gn3_).tr fr9_
  have fr7_ := (zm_fr.w wz350 ((gn2_.2 _ _ wz348.at)) (by first | decide | omega)).tr fr8_
  have fr6_ := (zm_fr.g gn2_).tr fr7_
  have fr5_ := (zm_fr.w wz348 ((gn1_.2 _ _ wz346.at)) (by first | decide | omega)).tr fr6_
  have fr4_ := (zm_fr.g gn1_).tr fr5_
  have fr3_ := (zm_fr.w wz346 ((gn0_.2 _ _ cz344)) (by first | decide | omega)).tr fr4_
  have fr2_ := (zm_fr.g gn0_).tr fr3_
  have fr1_ := (zm_fr.g gz343).tr fr2_
  have fr0_ := (zm_fr.g gz337).tr fr1_
  have n1_ := (wz366.at)
  have n2_ := ((wz366.ne (by omega)).trans ((wl9_.ne (by omega)).trans ((gz363.2 _ _ ((wz358.ne (by omega)).trans ci_)))))
  have n3_ := ((wz366.ne (by omega)).trans ((wl9_.ne (by omega)).trans ((gz363.2 _ _ ((wz358.ne (by omega)).trans ((ki_.2 _ _ (wz356.at) (by omega))))))))
  have n4_ := ((wz366.ne (by omega)).trans ((wl9_.ne (by omega)).trans ((gz363.2 _ _ ((wz358.ne (by omega)).trans di_)))))
  have n5_ := ((wz366.ne (by omega)).trans ((wl9_.ne (by omega)).trans ((gz363.2 _ _ ((wz358.ne (by omega)).trans ei_)))))
  have n6_ := ((wz366.ne (by omega)).trans wl9_.at)
  have m1_ := zg_ne n2_ n1_ (by first | decide | (rw [ht]; decide))
  refine hs 44 _ rfl _ _ _ _ (by omega) (by omega) (hP _ fr0_ ⟨fun y => if y = az340 then 8 * az334 + 1 else if y = ai_ then 8 * az334 + 2 else if y = bi_ then 8 * az334 + 3 else 5, tx, az334, az360, n1_, ⟨ht, hx_⟩, ⟨18, az340, 55, ai_, bi_, [qn0_, qn1_, qn2_, qn3_, qn4_, qn5_], [], [], n2_, ⟨rfl, by omega⟩, ⟨n3_, rfl, by omega, if_pos rfl⟩, ⟨zm_l.nil g n4_ (by omega) ?_, zm_l.nil g n5_ (by omega) ?_⟩, ⟨rfl, ?_⟩, ⟨rfl, fun i v r z _ => by rw [List.getElem?_nil] at z; cases z⟩, ⟨rfl, fun i v r z _ => by rw [List.getElem?_nil] at z; cases z⟩⟩, ⟨[], zm_l.nil g n6_ (by omega) ?_, rfl, (fun i v r z _ => by rw [List.getElem?_nil] at z; cases z), (fun i j v z _ => by rw [List.getElem?_nil] at z; cases z), (fun i z => by rw [List.getElem?_nil] at z; cases z)⟩⟩)
  · show (if ai_ = az340 then _ else _) = _
    rw [if_neg (by omega), if_pos rfl]
  · show (if bi_ = az340 then _ else _) = _
    rw [if_neg (by omega), if_neg (fun z => ni_ z.symm), if_pos rfl]
  · intro i v z h1 h2
    have hz_ : z = 0 := by
      have := List.mem_of_getElem? h2
      simp only [sp_0, List.mem_cons, List.not_mem_nil, or_false] at this
      omega
    rw [hz_]
    match i, h1 with
    | 0, h1 => cases h1; exact fr3_.num zn0_
    | 1, h1 => cases h1; exact fr5_.num zn1_
    | 2, h1 => cases h1; exact fr7_.num zn2_
    | 3, h1 => cases h1; exact fr9_.num zn3_
    | 4, h1 => cases h1; exact fr11_.num zn4_
    | 5, h1 => cases h1; exact fr13_.num zn5_
    | i + 6, h1 => cases h1
  · show (if az360 = az340 then _ else _) = _
    rw [if_neg (by omega), if_neg (by omega), if_neg (by omega)]
end
section
/-! THE CONSTRUCTORS OF THE CLASS, TO BE WALKED BY HAND -/
def gt_yX0_init_X : ck_TB := ([], [], [], [], [(9, 7, 0, 4)], [], [], [], ([], [], [], []), [], [3], [], 9)
def ge_yX0_init_X : ck_E := (gT, [], (([], [], [], 0, []), ((0, []), (0, [])), [], [], ([], [], [], 0, []), []), 1, [(0, (0, 5, 0, 0, 1, 0, [])), (1, (18, 0, 0, 0, 4, 0, [])), (4, (0, 5, 0, 0, 5, 0, [])), (5, (0, 0, 0, 10, 7, 0, [])), (7, (10, 50, 50, 0, 9, 0, [])), (9, (8, 7, 0, 4, 12, 0, [])), (12, (15, 0, 0, 0, 0, 0, []))], [], [], [], [])
theorem gd_yX0_init_X : ck_dec prog_2_method_1_code gt_yX0_init_X ge_yX0_init_X.2.2.2.2.1 = true := by decide +kernel
theorem gh_yX0_init_X {l : Launch} {G : am_G} {X : ck_XT} (g : gM l G X) {a : List Value} {h : List am_C} {mc ms : Nat} {Post : am_O → List am_C → Prop} (hay : (am_lay a).length ≤ 1) (H : ∀ (S : ck_SS) (SX : Nat → ck_SX), ck_hs G S SX Post mc ms (ck_cms []) ge_yX0_init_X → (∀ pc, ck_sR G S pc) → ck_hw S → zw_hx SX Post mc ms → S 0 (am_ent a 1) [] h 0 0) : am_M l G yX0_init (.code yX0_init prog_2_method_1_code 1 none) 1 20 mc ms a h Post :=
  zw_handX (E := ge_yX0_init_X) (tb := gt_yX0_init_X) (init := true) (cm := (ck_cms [])) g.1.1 (by decide +kernel) rfl gd_yX0_init_X ⟨(List.forall_mem_nil _), (List.forall_mem_nil _), (List.forall_mem_nil _), (List.forall_mem_nil _), (List.forall_mem_nil _), (List.forall_mem_nil _), (List.forall_mem_cons.mpr ⟨w143, (List.forall_mem_nil _)⟩), (List.forall_mem_nil _)⟩ (List.forall_mem_cons.mpr ⟨⟨⟨_, _, _, rfl, Or.inl w144⟩, by decide, _, Or.inr ⟨_, rfl⟩, Or.inr ⟨g_fd7_0, rfl, fun r hr => by cases hr; rfl⟩⟩, (List.forall_mem_nil _)⟩) (fun _ => rfl) rfl (by decide) (by decide) g_oi g_ar
    (fun s hk _ => (List.forall_mem_nil _)) (fun s hk => (List.forall_mem_nil _))
    (List.forall_mem_nil _) (List.forall_mem_nil _) (List.forall_mem_nil _) (List.forall_mem_nil _)
    (List.forall_mem_nil _) hay H
def gt_yX9_init_X : ck_TB := ([], [], [], [(11, 14, 1)], [(11, 14, 1, 4), (17, 14, 3, 4), (21, 14, 4, 4), (24, 14, 6, 4)], [(9, 7, [2, 0, 0])], [(9, 53)], [], ([], [(27, 0)], [], []), [], [3], [], 9)
def ge_yX9_init_X : ck_E := (gT, [(53, 7)], (([], [], [], 0, []), ((0, []), (0, [])), [], [], ([], [], [], 0, []), []), 2, [(0, (0, 5, 0, 0, 1, 0, [])), (1, (18, 0, 0, 0, 4, 0, [])), (4, (0, 5, 0, 0, 5, 0, [])), (5, (0, 0, 0, 6, 7, 0, [])), (7, (10, 53, 53, 2, 10, 0, [])), (10, (8, 14, 1, 4, 13, 0, [])), (13, (0, 5, 0, 0, 14, 0, [])), (14, (0, 0, 0, 6, 16, 0, [])), (16, (10, 50, 50, 0, 18, 0, [])), (18, (8, 14, 3, 4, 21, 0, [])), (21, (0, 5, 0, 0, 22, 0, [])), (22, (0, 0, 0, 6, 24, 0, [])), (24, (10, 50, 50, 0, 26, 0, [])), (26, (8, 14, 4, 4, 29, 0, [])), (29, (0, 5, 0, 0, 30, 0, [])), (30, (0, 0, 0, 5, 31, 0, [])), (31, (10, 50, 50, 0, 33, 0, [])), (33, (8, 14, 6, 4, 36, 0, [])), (36, (0, 0, 0, 0, 37, 0, [])), (37, (0, 6, 1, 0, 38, 0, [])), (38, (0, 3, 1, 0, 39, 0, [])), (39, (0, 0, 0, 6, 41, 0, [])), (41, (2, 3, 0, 0, 44, 63, [])), (44, (0, 5, 0, 0, 45, 0, [])), (45, (7, 14, 1, 0, 48, 0, [])), (48, (0, 3, 1, 0, 49, 0, [])), (49, (9, 7, 7, 0, 52, 0, [(0, 2), (0, 0), (0, 0)])), (52, (0, 12, 0, 0, 53, 0, [])), (53, (16, 0, 0, 0, 56, 0, [])), (56, (13, 53, 57, 0, 57, 0, [])), (57, (0, 9, 1, 1, 60, 0, [])), (60, (3, 0, 0, 0, 0, 38, [])), (63, (15, 0, 0, 0, 0, 0, []))], [(some 7, 1, [])], [], [], [])
theorem gd_yX9_init_X : ck_dec prog_11_method_1_code gt_yX9_init_X ge_yX9_init_X.2.2.2.2.1 = true := by decide +kernel
theorem gh_yX9_init_X {l : Launch} {G : am_G} {X : ck_XT} (g : gM l G X) {a : List Value} {h : List am_C} {mc ms : Nat} {Post : am_O → List am_C → Prop} (hay : (am_lay a).length ≤ 2) (H : ∀ (S : ck_SS) (SX : Nat → ck_SX), ck_hs G S SX Post mc ms (ck_cms [am_cn l G yX0_init (.code yX0_init prog_2_method_1_code 1 none) 1 20]) ge_yX9_init_X → (∀ pc, ck_sR G S pc) → ck_hw S → zw_hx SX Post mc ms → S 0 (am_ent a 2) [] h 0 0) : am_M l G yX9_init (.code yX9_init prog_11_method_1_code 2 none) 2 40 mc ms a h Post :=
  zw_handX (E := ge_yX9_init_X) (tb := gt_yX9_init_X) (init := true) (cm := (ck_cms [am_cn l G yX0_init (.code yX0_init prog_2_method_1_code 1 none) 1 20])) g.1.1 (by decide +kernel) rfl gd_yX9_init_X ⟨(List.forall_mem_nil _), (List.forall_mem_nil _), (List.forall_mem_nil _), (List.forall_mem_cons.mpr ⟨⟨⟨_, _, _, rfl, Or.inl w163⟩, by decide, _, _, g_fd14_1⟩, (List.forall_mem_nil _)⟩), (List.forall_mem_cons.mpr ⟨⟨_, _, _, g_nw7, rfl, w137, by decide⟩, (List.forall_mem_nil _)⟩), (List.forall_mem_cons.mpr ⟨Or.inl ⟨_, rfl, by decide, by decide, w137, w138⟩, (List.forall_mem_nil _)⟩), (List.forall_mem_cons.mpr ⟨w136, (List.forall_mem_nil _)⟩), (List.forall_mem_nil _)⟩ (List.forall_mem_cons.mpr ⟨⟨⟨_, _, _, rfl, Or.inl w163⟩, by decide, _, Or.inr ⟨_, rfl⟩, Or.inr ⟨g_fd14_1, rfl, fun r hr => by cases hr; rfl⟩⟩, (List.forall_mem_cons.mpr ⟨⟨⟨_, _, _, rfl, Or.inl w167⟩, by decide, _, Or.inr ⟨_, rfl⟩, Or.inr ⟨g_fd14_3, rfl, fun r hr => by cases hr; rfl⟩⟩, (List.forall_mem_cons.mpr ⟨⟨⟨_, _, _, rfl, Or.inl w169⟩, by decide, _, Or.inr ⟨_, rfl⟩, Or.inr ⟨g_fd14_4, rfl, fun r hr => by cases hr; rfl⟩⟩, (List.forall_mem_cons.mpr ⟨⟨⟨_, _, _, rfl, Or.inl w173⟩, by decide, _, Or.inr ⟨_, rfl⟩, Or.inr ⟨g_fd14_6, rfl, fun r hr => by cases hr; rfl⟩⟩, (List.forall_mem_nil _)⟩)⟩)⟩)⟩) (fun _ => rfl) rfl (by decide) (by decide) g_oi g_ar
    (fun s hk _ => (List.forall_mem_cons.mpr ⟨⟨by decide, by decide, am_asg_own hk (T := TX0) (N := 3) (by decide) (by decide) rfl rfl (by decide)⟩, (List.forall_mem_nil _)⟩)) (fun s hk => (List.forall_mem_nil _))
    (List.forall_mem_nil _) (List.forall_mem_cons.mpr ⟨(ck_kIN g_y_yX0_init w140 w141 rfl (by decide) (by decide)), (List.forall_mem_nil _)⟩) (List.forall_mem_nil _) (List.forall_mem_nil _)
    (List.forall_mem_nil _) hay H
def gt_yX5_init_X : ck_TB := ([], [], [], [(11, 12, 0)], [(11, 12, 0, 4)], [(9, 14, [0, 2, 0, 2, 2, 0, 2])], [(9, 54)], [], ([], [(17, 0)], [], []), [], [3], [], 9)
def ge_yX5_init_X : ck_E := (gT, [(54, 14)], (([], [], [], 0, []), ((0, []), (0, [])), [], [], ([], [], [], 0, []), []), 2, [(0, (0, 5, 0, 0, 1, 0, [])), (1, (18, 0, 0, 0, 4, 0, [])), (4, (0, 5, 0, 0, 5, 0, [])), (5, (0, 0, 0, 12, 7, 0, [])), (7, (10, 54, 54, 2, 10, 0, [])), (10, (8, 12, 0, 4, 13, 0, [])), (13, (0, 0, 0, 0, 14, 0, [])), (14, (0, 6, 1, 0, 15, 0, [])), (15, (0, 3, 1, 0, 16, 0, [])), (16, (0, 0, 0, 12, 18, 0, [])), (18, (2, 3, 0, 0, 21, 40, [])), (21, (0, 5, 0, 0, 22, 0, [])), (22, (7, 12, 0, 0, 25, 0, [])), (25, (0, 3, 1, 0, 26, 0, [])), (26, (9, 14, 14, 0, 29, 0, [(0, 0), (0, 2), (0, 0), (0, 2), (0, 2), (0, 0), (0, 2)])), (29, (0, 12, 0, 0, 30, 0, [])), (30, (16, 0, 0, 0, 33, 0, [])), (33, (13, 53, 57, 0, 34, 0, [])), (34, (0, 9, 1, 1, 37, 0, [])), (37, (3, 0, 0, 0, 0, 15, [])), (40, (15, 0, 0, 0, 0, 0, []))], [(some 14, 1, [])], [], [], [])
theorem gd_yX5_init_X : ck_dec prog_7_method_1_code gt_yX5_init_X ge_yX5_init_X.2.2.2.2.1 = true := by decide +kernel
theorem gh_yX5_init_X {l : Launch} {G : am_G} {X : ck_XT} (g : gM l G X) {a : List Value} {h : List am_C} {mc ms : Nat} {Post : am_O → List am_C → Prop} (hay : (am_lay a).length ≤ 2) (H : ∀ (S : ck_SS) (SX : Nat → ck_SX), ck_hs G S SX Post mc ms (ck_cms [am_cn l G yX9_init (.code yX9_init prog_11_method_1_code 2 none) 2 40]) ge_yX5_init_X → (∀ pc, ck_sR G S pc) → ck_hw S → zw_hx SX Post mc ms → S 0 (am_ent a 2) [] h 0 0) : am_M l G yX5_init (.code yX5_init prog_7_method_1_code 2 none) 3 61 mc ms a h Post :=
  zw_handX (E := ge_yX5_init_X) (tb := gt_yX5_init_X) (init := true) (cm := (ck_cms [am_cn l G yX9_init (.code yX9_init prog_11_method_1_code 2 none) 2 40])) g.1.1 (by decide +kernel) rfl gd_yX5_init_X ⟨(List.forall_mem_nil _), (List.forall_mem_nil _), (List.forall_mem_nil _), (List.forall_mem_cons.mpr ⟨⟨⟨_, _, _, rfl, Or.inl w199⟩, by decide, _, _, g_fd12_0⟩, (List.forall_mem_nil _)⟩), (List.forall_mem_cons.mpr ⟨⟨_, _, _, g_nw14, rfl, w196, by decide⟩, (List.forall_mem_nil _)⟩), (List.forall_mem_cons.mpr ⟨Or.inl ⟨_, rfl, by decide, by decide, w196, w197⟩, (List.forall_mem_nil _)⟩), (List.forall_mem_cons.mpr ⟨w195, (List.forall_mem_nil _)⟩), (List.forall_mem_nil _)⟩ (List.forall_mem_cons.mpr ⟨⟨⟨_, _, _, rfl, Or.inl w199⟩, by decide, _, Or.inr ⟨_, rfl⟩, Or.inr ⟨g_fd12_0, rfl, fun r hr => by cases hr; rfl⟩⟩, (List.forall_mem_nil _)⟩) (fun _ => rfl) rfl (by decide) (by decide) g_oi g_ar
    (fun s hk _ => (List.forall_mem_cons.mpr ⟨⟨by decide, by decide, am_asg_own hk (T := TX9) (N := 7) (by decide) (by decide) rfl rfl (by decide)⟩, (List.forall_mem_nil _)⟩)) (fun s hk => (List.forall_mem_nil _))
    (List.forall_mem_nil _) (List.forall_mem_cons.mpr ⟨(ck_kI g_y_yX9_init w198 w134 rfl (by decide) (by decide)), (List.forall_mem_nil _)⟩) (List.forall_mem_nil _) (List.forall_mem_nil _)
    (List.forall_mem_nil _) hay H
def gt_yX2_init_X : ck_TB := ([], [], [], [], [(12, 9, 0, 4), (18, 9, 1, 4), (21, 9, 2, 4)], [(9, 7, [2, 0, 0])], [], [], ([], [(11, 0)], [], []), [], [3], [], 9)
def ge_yX2_init_X : ck_E := (gT, [], (([], [], [], 0, []), ((0, []), (0, [])), [], [], ([], [], [], 0, []), []), 1, [(0, (0, 5, 0, 0, 1, 0, [])), (1, (18, 0, 0, 0, 4, 0, [])), (4, (0, 5, 0, 0, 5, 0, [])), (5, (9, 7, 7, 0, 8, 0, [(0, 2), (0, 0), (0, 0)])), (8, (0, 12, 0, 0, 9, 0, [])), (9, (16, 0, 0, 0, 12, 0, [])), (12, (8, 9, 0, 4, 15, 0, [])), (15, (0, 5, 0, 0, 16, 0, [])), (16, (9, 7, 7, 0, 19, 0, [(0, 2), (0, 0), (0, 0)])), (19, (0, 12, 0, 0, 20, 0, [])), (20, (16, 0, 0, 0, 23, 0, [])), (23, (8, 9, 1, 4, 26, 0, [])), (26, (0, 5, 0, 0, 27, 0, [])), (27, (9, 7, 7, 0, 30, 0, [(0, 2), (0, 0), (0, 0)])), (30, (0, 12, 0, 0, 31, 0, [])), (31, (16, 0, 0, 0, 34, 0, [])), (34, (8, 9, 2, 4, 37, 0, [])), (37, (15, 0, 0, 0, 0, 0, []))], [(some 7, 1, [])], [], [], [])
theorem gd_yX2_init_X : ck_dec prog_4_method_1_code gt_yX2_init_X ge_yX2_init_X.2.2.2.2.1 = true := by decide +kernel
theorem gh_yX2_init_X {l : Launch} {G : am_G} {X : ck_XT} (g : gM l G X) {a : List Value} {h : List am_C} {mc ms : Nat} {Post : am_O → List am_C → Prop} (hay : (am_lay a).length ≤ 1) (H : ∀ (S : ck_SS) (SX : Nat → ck_SX), ck_hs G S SX Post mc ms (ck_cms [am_cn l G yX0_init (.code yX0_init prog_2_method_1_code 1 none) 1 20]) ge_yX2_init_X → (∀ pc, ck_sR G S pc) → ck_hw S → zw_hx SX Post mc ms → S 0 (am_ent a 1) [] h 0 0) : am_M l G yX2_init (.code yX2_init prog_4_method_1_code 1 none) 2 40 mc ms a h Post :=
  zw_handX (E := ge_yX2_init_X) (tb := gt_yX2_init_X) (init := true) (cm := (ck_cms [am_cn l G yX0_init (.code yX0_init prog_2_method_1_code 1 none) 1 20])) g.1.1 (by decide +kernel) rfl gd_yX2_init_X ⟨(List.forall_mem_nil _), (List.forall_mem_nil _), (List.forall_mem_nil _), (List.forall_mem_nil _), (List.forall_mem_cons.mpr ⟨⟨_, _, _, g_nw7, rfl, w226, by decide⟩, (List.forall_mem_nil _)⟩), (List.forall_mem_nil _), (List.forall_mem_cons.mpr ⟨w225, (List.forall_mem_nil _)⟩), (List.forall_mem_nil _)⟩ (List.forall_mem_cons.mpr ⟨⟨⟨_, _, _, rfl, Or.inl w228⟩, by decide, _, Or.inl ⟨_, rfl⟩, Or.inr ⟨g_fd9_0, rfl, fun r hr => by cases hr; rfl⟩⟩, (List.forall_mem_cons.mpr ⟨⟨⟨_, _, _, rfl, Or.inl w230⟩, by decide, _, Or.inl ⟨_, rfl⟩, Or.inr ⟨g_fd9_1, rfl, fun r hr => by cases hr; rfl⟩⟩, (List.forall_mem_cons.mpr ⟨⟨⟨_, _, _, rfl, Or.inl w232⟩, by decide, _, Or.inl ⟨_, rfl⟩, Or.inr ⟨g_fd9_2, rfl, fun r hr => by cases hr; rfl⟩⟩, (List.forall_mem_nil _)⟩)⟩)⟩) (fun _ => rfl) rfl (by decide) (by decide) g_oi g_ar
    (fun s hk _ => (List.forall_mem_nil _)) (fun s hk => (List.forall_mem_nil _))
    (List.forall_mem_nil _) (List.forall_mem_cons.mpr ⟨(ck_kIN g_y_yX0_init w227 w141 rfl (by decide) (by decide)), (List.forall_mem_nil _)⟩) (List.forall_mem_nil _) (List.forall_mem_nil _)
    (List.forall_mem_nil _) hay H
def gt_yX1_init_X : ck_TB := ([], [], [], [], [(12, 8, 0, 4), (21, 8, 1, 4), (25, 8, 2, 4), (28, 8, 3, 4), (31, 8, 4, 4), (34, 8, 5, 4), (37, 8, 6, 4)], [(9, 7, [2, 0, 0]), (18, 9, [2, 2, 2])], [], [], ([], [(11, 0), (20, 1)], [], []), [], [3], [], 9)
def ge_yX1_init_X : ck_E := (gT, [], (([], [], [], 0, []), ((0, []), (0, [])), [], [], ([], [], [], 0, []), []), 1, [(0, (0, 5, 0, 0, 1, 0, [])), (1, (18, 0, 0, 0, 4, 0, [])), (4, (0, 5, 0, 0, 5, 0, [])), (5, (9, 7, 7, 0, 8, 0, [(0, 2), (0, 0), (0, 0)])), (8, (0, 12, 0, 0, 9, 0, [])), (9, (16, 0, 0, 0, 12, 0, [])), (12, (8, 8, 0, 4, 15, 0, [])), (15, (0, 5, 0, 0, 16, 0, [])), (16, (9, 9, 9, 0, 19, 0, [(0, 2), (0, 2), (0, 2)])), (19, (0, 12, 0, 0, 20, 0, [])), (20, (16, 1, 0, 0, 23, 0, [])), (23, (8, 8, 1, 4, 26, 0, [])), (26, (0, 5, 0, 0, 27, 0, [])), (27, (9, 7, 7, 0, 30, 0, [(0, 2), (0, 0), (0, 0)])), (30, (0, 12, 0, 0, 31, 0, [])), (31, (16, 0, 0, 0, 34, 0, [])), (34, (8, 8, 2, 4, 37, 0, [])), (37, (0, 5, 0, 0, 38, 0, [])), (38, (9, 7, 7, 0, 41, 0, [(0, 2), (0, 0), (0, 0)])), (41, (0, 12, 0, 0, 42, 0, [])), (42, (16, 0, 0, 0, 45, 0, [])), (45, (8, 8, 3, 4, 48, 0, [])), (48, (0, 5, 0, 0, 49, 0, [])), (49, (9, 7, 7, 0, 52, 0, [(0, 2), (0, 0), (0, 0)])), (52, (0, 12, 0, 0, 53, 0, [])), (53, (16, 0, 0, 0, 56, 0, [])), (56, (8, 8, 4, 4, 59, 0, [])), (59, (0, 5, 0, 0, 60, 0, [])), (60, (9, 7, 7, 0, 63, 0, [(0, 2), (0, 0), (0, 0)])), (63, (0, 12, 0, 0, 64, 0, [])), (64, (16, 0, 0, 0, 67, 0, [])), (67, (8, 8, 5, 4, 70, 0, [])), (70, (0, 5, 0, 0, 71, 0, [])), (71, (9, 7, 7, 0, 74, 0, [(0, 2), (0, 0), (0, 0)])), (74, (0, 12, 0, 0, 75, 0, [])), (75, (16, 0, 0, 0, 78, 0, [])), (78, (8, 8, 6, 4, 81, 0, [])), (81, (15, 0, 0, 0, 0, 0, []))], [(some 7, 1, []), (some 9, 1, [])], [], [], [])
theorem gd_yX1_init_X : ck_dec prog_3_method_1_code gt_yX1_init_X ge_yX1_init_X.2.2.2.2.1 = true := by decide +kernel
theorem gh_yX1_init_X {l : Launch} {G : am_G} {X : ck_XT} (g : gM l G X) {a : List Value} {h : List am_C} {mc ms : Nat} {Post : am_O → List am_C → Prop} (hay : (am_lay a).length ≤ 1) (H : ∀ (S : ck_SS) (SX : Nat → ck_SX), ck_hs G S SX Post mc ms (ck_cms [am_cn l G yX0_init (.code yX0_init prog_2_method_1_code 1 none) 1 20, am_cn l G yX2_init (.code yX2_init prog_4_method_1_code 1 none) 2 40]) ge_yX1_init_X → (∀ pc, ck_sR G S pc) → ck_hw S → zw_hx SX Post mc ms → S 0 (am_ent a 1) [] h 0 0) : am_M l G yX1_init (.code yX1_init prog_3_method_1_code 1 none) 3 60 mc ms a h Post :=
  zw_handX (E := ge_yX1_init_X) (tb := gt_yX1_init_X) (init := true) (cm := (ck_cms [am_cn l G yX0_init (.code yX0_init prog_2_method_1_code 1 none) 1 20, am_cn l G yX2_init (.code yX2_init prog_4_method_1_code 1 none) 2 40])) g.1.1 (by decide +kernel) rfl gd_yX1_init_X ⟨(List.forall_mem_nil _), (List.forall_mem_nil _), (List.forall_mem_nil _), (List.forall_mem_nil _), (List.forall_mem_cons.mpr ⟨⟨_, _, _, g_nw7, rfl, w218, by decide⟩, (List.forall_mem_cons.mpr ⟨⟨_, _, _, g_nw9, rfl, w220, by decide⟩, (List.forall_mem_nil _)⟩)⟩), (List.forall_mem_nil _), (List.forall_mem_cons.mpr ⟨w217, (List.forall_mem_nil _)⟩), (List.forall_mem_nil _)⟩ (List.forall_mem_cons.mpr ⟨⟨⟨_, _, _, rfl, Or.inl w240⟩, by decide, _, Or.inl ⟨_, rfl⟩, Or.inr ⟨g_fd8_0, rfl, fun r hr => by cases hr; rfl⟩⟩, (List.forall_mem_cons.mpr ⟨⟨⟨_, _, _, rfl, Or.inl w242⟩, by decide, _, Or.inl ⟨_, rfl⟩, Or.inr ⟨g_fd8_1, rfl, fun r hr => by cases hr; rfl⟩⟩, (List.forall_mem_cons.mpr ⟨⟨⟨_, _, _, rfl, Or.inl w243⟩, by decide, _, Or.inl ⟨_, rfl⟩, Or.inr ⟨g_fd8_2, rfl, fun r hr => by cases hr; rfl⟩⟩, (List.forall_mem_cons.mpr ⟨⟨⟨_, _, _, rfl, Or.inl w244⟩, by decide, _, Or.inl ⟨_, rfl⟩, Or.inr ⟨g_fd8_3, rfl, fun r hr => by cases hr; rfl⟩⟩, (List.forall_mem_cons.mpr ⟨⟨⟨_, _, _, rfl, Or.inl w245⟩, by decide, _, Or.inl ⟨_, rfl⟩, Or.inr ⟨g_fd8_4, rfl, fun r hr => by cases hr; rfl⟩⟩, (List.forall_mem_cons.mpr ⟨⟨⟨_, _, _, rfl, Or.inl w246⟩, by decide, _, Or.inl ⟨_, rfl⟩, Or.inr ⟨g_fd8_5, rfl, fun r hr => by cases hr; rfl⟩⟩, (List.forall_mem_cons.mpr ⟨⟨⟨_, _, _, rfl, Or.inl w247⟩, by decide, _, Or.inl ⟨_, rfl⟩, Or.inr ⟨g_fd8_6, rfl, fun r hr => by cases hr; rfl⟩⟩, (List.forall_mem_nil _)⟩)⟩)⟩)⟩)⟩)⟩)⟩) (fun _ => rfl) rfl (by decide) (by decide) g_oi g_ar
    (fun s hk _ => (List.forall_mem_nil _)) (fun s hk => (List.forall_mem_nil _))
    (List.forall_mem_nil _) (List.forall_mem_cons.mpr ⟨(ck_kIN g_y_yX0_init w219 w141 rfl (by decide) (by decide)), (List.forall_mem_cons.mpr ⟨(ck_kIN g_y_yX2_init w222 w223 rfl (by decide) (by decide)), (List.forall_mem_nil _)⟩)⟩) (List.forall_mem_nil _) (List.forall_mem_nil _)
    (List.forall_mem_nil _) hay H
def gt_yX6_init_X : ck_TB := ([], [], [], [], [(9, 13, 0, 4), (15, 13, 1, 4)], [], [], [], ([], [], [], []), [], [3], [], 9)
def ge_yX6_init_X : ck_E := (gT, [], (([], [], [], 0, []), ((0, []), (0, [])), [], [], ([], [], [], 0, []), []), 1, [(0, (0, 5, 0, 0, 1, 0, [])), (1, (18, 0, 0, 0, 4, 0, [])), (4, (0, 5, 0, 0, 5, 0, [])), (5, (0, 0, 0, 400, 8, 0, [])), (8, (10, 50, 50, 0, 10, 0, [])), (10, (8, 13, 0, 4, 13, 0, [])), (13, (0, 5, 0, 0, 14, 0, [])), (14, (0, 0, 0, 400, 17, 0, [])), (17, (10, 50, 50, 0, 19, 0, [])), (19, (8, 13, 1, 4, 22, 0, [])), (22, (15, 0, 0, 0, 0, 0, []))], [], [], [], [])
theorem gd_yX6_init_X : ck_dec prog_8_method_1_code gt_yX6_init_X ge_yX6_init_X.2.2.2.2.1 = true := by decide +kernel
theorem gh_yX6_init_X {l : Launch} {G : am_G} {X : ck_XT} (g : gM l G X) {a : List Value} {h : List am_C} {mc ms : Nat} {Post : am_O → List am_C → Prop} (hay : (am_lay a).length ≤ 1) (H : ∀ (S : ck_SS) (SX : Nat → ck_SX), ck_hs G S SX Post mc ms (ck_cms []) ge_yX6_init_X → (∀ pc, ck_sR G S pc) → ck_hw S → zw_hx SX Post mc ms → S 0 (am_ent a 1) [] h 0 0) : am_M l G yX6_init (.code yX6_init prog_8_method_1_code 1 none) 1 20 mc ms a h Post :=
  zw_handX (E := ge_yX6_init_X) (tb := gt_yX6_init_X) (init := true) (cm := (ck_cms [])) g.1.1 (by decide +kernel) rfl gd_yX6_init_X ⟨(List.forall_mem_nil _), (List.forall_mem_nil _), (List.forall_mem_nil _), (List.forall_mem_nil _), (List.forall_mem_nil _), (List.forall_mem_nil _), (List.forall_mem_cons.mpr ⟨w268, (List.forall_mem_nil _)⟩), (List.forall_mem_nil _)⟩ (List.forall_mem_cons.mpr ⟨⟨⟨_, _, _, rfl, Or.inl w269⟩, by decide, _, Or.inr ⟨_, rfl⟩, Or.inr ⟨g_fd13_0, rfl, fun r hr => by cases hr; rfl⟩⟩, (List.forall_mem_cons.mpr ⟨⟨⟨_, _, _, rfl, Or.inl w270⟩, by decide, _, Or.inr ⟨_, rfl⟩, Or.inr ⟨g_fd13_1, rfl, fun r hr => by cases hr; rfl⟩⟩, (List.forall_mem_nil _)⟩)⟩) (fun _ => rfl) rfl (by decide) (by decide) g_oi g_ar
    (fun s hk _ => (List.forall_mem_nil _)) (fun s hk => (List.forall_mem_nil _))
    (List.forall_mem_nil _) (List.forall_mem_nil _) (List.forall_mem_nil _) (List.forall_mem_nil _)
    (List.forall_mem_nil _) hay H
def gt_yX3_init_X : ck_TB := ([], [], [], [], [(9, 10, 0, 4)], [], [], [], ([], [], [], []), [], [3], [], 9)
def ge_yX3_init_X : ck_E := (gT, [], (([], [], [], 0, []), ((0, []), (0, [])), [], [], ([], [], [], 0, []), []), 1, [(0, (0, 5, 0, 0, 1, 0, [])), (1, (18, 0, 0, 0, 4, 0, [])), (4, (0, 5, 0, 0, 5, 0, [])), (5, (0, 0, 0, 4, 6, 0, [])), (6, (10, 50, 50, 0, 8, 0, [])), (8, (8, 10, 0, 4, 11, 0, [])), (11, (15, 0, 0, 0, 0, 0, []))], [], [], [], [])
theorem gd_yX3_init_X : ck_dec prog_5_method_1_code gt_yX3_init_X ge_yX3_init_X.2.2.2.2.1 = true := by decide +kernel
theorem gh_yX3_init_X {l : Launch} {G : am_G} {X : ck_XT} (g : gM l G X) {a : List Value} {h : List am_C} {mc ms : Nat} {Post : am_O → List am_C → Prop} (hay : (am_lay a).length ≤ 1) (H : ∀ (S : ck_SS) (SX : Nat → ck_SX), ck_hs G S SX Post mc ms (ck_cms []) ge_yX3_init_X → (∀ pc, ck_sR G S pc) → ck_hw S → zw_hx SX Post mc ms → S 0 (am_ent a 1) [] h 0 0) : am_M l G yX3_init (.code yX3_init prog_5_method_1_code 1 none) 1 20 mc ms a h Post :=
  zw_handX (E := ge_yX3_init_X) (tb := gt_yX3_init_X) (init := true) (cm := (ck_cms [])) g.1.1 (by decide +kernel) rfl gd_yX3_init_X ⟨(List.forall_mem_nil _), (List.forall_mem_nil _), (List.forall_mem_nil _), (List.forall_mem_nil _), (List.forall_mem_nil _), (List.forall_mem_nil _), (List.forall_mem_cons.mpr ⟨w287, (List.forall_mem_nil _)⟩), (List.forall_mem_nil _)⟩ (List.forall_mem_cons.mpr ⟨⟨⟨_, _, _, rfl, Or.inl w288⟩, by decide, _, Or.inr ⟨_, rfl⟩, Or.inr ⟨g_fd10_0, rfl, fun r hr => by cases hr; rfl⟩⟩, (List.forall_mem_nil _)⟩) (fun _ => rfl) rfl (by decide) (by decide) g_oi g_ar
    (fun s hk _ => (List.forall_mem_nil _)) (fun s hk => (List.forall_mem_nil _))
    (List.forall_mem_nil _) (List.forall_mem_nil _) (List.forall_mem_nil _) (List.forall_mem_nil _)
    (List.forall_mem_nil _) hay H
def gt_yX4_init_X : ck_TB := ([], [], [], [], [], [], [], [], ([], [], [], []), [], [1], [], 9)
def ge_yX4_init_X : ck_E := (gT, [], (([], [], [], 0, []), ((0, []), (0, [])), [], [], ([], [], [], 0, []), []), 1, [(0, (0, 5, 0, 0, 1, 0, [])), (1, (18, 0, 0, 0, 4, 0, [])), (4, (15, 0, 0, 0, 0, 0, []))], [], [], [], [])
theorem gd_yX4_init_X : ck_dec prog_6_method_1_code gt_yX4_init_X ge_yX4_init_X.2.2.2.2.1 = true := by decide +kernel
theorem gh_yX4_init_X {l : Launch} {G : am_G} {X : ck_XT} (g : gM l G X) {a : List Value} {h : List am_C} {mc ms : Nat} {Post : am_O → List am_C → Prop} (hay : (am_lay a).length ≤ 1) (H : ∀ (S : ck_SS) (SX : Nat → ck_SX), ck_hs G S SX Post mc ms (ck_cms []) ge_yX4_init_X → (∀ pc, ck_sR G S pc) → ck_hw S → zw_hx SX Post mc ms → S 0 (am_ent a 1) [] h 0 0) : am_M l G yX4_init (.code yX4_init prog_6_method_1_code 1 none) 1 20 mc ms a h Post :=
  zw_handX (E := ge_yX4_init_X) (tb := gt_yX4_init_X) (init := true) (cm := (ck_cms [])) g.1.1 (by decide +kernel) rfl gd_yX4_init_X ⟨(List.forall_mem_nil _), (List.forall_mem_nil _), (List.forall_mem_nil _), (List.forall_mem_nil _), (List.forall_mem_nil _), (List.forall_mem_nil _), (List.forall_mem_cons.mpr ⟨w306, (List.forall_mem_nil _)⟩), (List.forall_mem_nil _)⟩ (List.forall_mem_nil _) (fun _ => rfl) rfl (by decide) (by decide) g_oi g_ar
    (fun s hk _ => (List.forall_mem_nil _)) (fun s hk => (List.forall_mem_nil _))
    (List.forall_mem_nil _) (List.forall_mem_nil _) (List.forall_mem_nil _) (List.forall_mem_nil _)
    (List.forall_mem_nil _) hay H
def gt_yJ5_init_d00df_X : ck_TB := ([], [], [], [], [(15, 1, 0, 4), (22, 1, 1, 2)], [], [], [], ([], [], [], []), [], [3], [(18, 0, 1)], 9)
def ge_yJ5_init_d00df_X : ck_E := (gT, [], (([], [], [], 0, []), ((0, []), (0, [])), [], [], ([], [], [], 0, []), []), 2, [(0, (0, 5, 0, 0, 1, 0, [])), (1, (18, 0, 0, 0, 4, 0, [])), (4, (0, 0, 0, 1, 7, 0, [])), (7, (1, 0, 0, 0, 10, 25, [])), (10, (0, 5, 0, 0, 11, 0, [])), (11, (0, 3, 1, 0, 12, 0, [])), (12, (10, 51, 51, 0, 14, 0, [])), (14, (8, 1, 0, 4, 17, 0, [])), (17, (0, 5, 0, 0, 18, 0, [])), (18, (0, 0, 0, 0, 19, 0, [])), (19, (8, 1, 1, 2, 22, 0, [])), (22, (3, 0, 0, 0, 0, 38, [])), (25, (0, 5, 0, 0, 26, 0, [])), (26, (0, 3, 1, 0, 27, 0, [])), (38, (15, 0, 0, 0, 0, 0, []))], [], [], [], [])
theorem gd_yJ5_init_d00df_X : ck_dec prog_18_method_2_code gt_yJ5_init_d00df_X ge_yJ5_init_d00df_X.2.2.2.2.1 = true := by decide +kernel
theorem gh_yJ5_init_d00df_X {l : Launch} {G : am_G} {X : ck_XT} (g : gM l G X) {a : List Value} {h : List am_C} {mc ms : Nat} {Post : am_O → List am_C → Prop} (hay : (am_lay a).length ≤ 2) (H : ∀ (S : ck_SS) (SX : Nat → ck_SX), ck_hs G S SX Post mc ms (ck_cms []) ge_yJ5_init_d00df_X → (∀ pc, ck_sR G S pc) → ck_hw S → zw_hx SX Post mc ms → S 0 (am_ent a 2) [] h 0 0) : am_M l G yJ5_init_d00df (.code yJ5_init_d00df prog_18_method_2_code 2 none) 1 20 mc ms a h Post :=
  zw_handX (E := ge_yJ5_init_d00df_X) (tb := gt_yJ5_init_d00df_X) (init := true) (cm := (ck_cms [])) g.1.1 (by decide +kernel) rfl gd_yJ5_init_d00df_X ⟨(List.forall_mem_nil _), (List.forall_mem_nil _), (List.forall_mem_nil _), (List.forall_mem_nil _), (List.forall_mem_nil _), (List.forall_mem_nil _), (List.forall_mem_cons.mpr ⟨w328, (List.forall_mem_nil _)⟩), (List.forall_mem_cons.mpr ⟨⟨_, List.mem_of_getElem? (i := 0) rfl, w329, Or.inl ⟨rfl, rfl⟩⟩, (List.forall_mem_nil _)⟩)⟩ (List.forall_mem_cons.mpr ⟨⟨⟨_, _, _, rfl, Or.inl w338⟩, by decide, _, Or.inr ⟨_, rfl⟩, Or.inl g_fd1_0⟩, (List.forall_mem_cons.mpr ⟨⟨⟨_, _, _, rfl, Or.inl w339⟩, by decide, _, rfl, Or.inl g_fd1_1⟩, (List.forall_mem_nil _)⟩)⟩) (fun _ => rfl) rfl (by decide) (by decide) g_oi g_ar
    (fun s hk _ => (List.forall_mem_nil _)) (fun s hk => (List.forall_mem_nil _))
    (List.forall_mem_nil _) (List.forall_mem_nil _) (List.forall_mem_nil _) (List.forall_mem_nil _)
    (List.forall_mem_nil _) hay H
def gt_yJ4_init_da8c8_X : ck_TB := ([], [], [], [], [], [], [], [], ([], [(1, 0)], [], []), [], [], [], 9)
def ge_yJ4_init_da8c8_X : ck_E := (gT, [], (([], [], [], 0, []), ((0, []), (0, [])), [], [], ([], [], [], 0, []), []), 1, [(0, (0, 5, 0, 0, 1, 0, [])), (1, (0, 0, 0, 16, 3, 0, [])), (3, (16, 0, 0, 0, 6, 0, [])), (6, (15, 0, 0, 0, 0, 0, []))], [(some 1, 2, [])], [], [], [])
theorem gd_yJ4_init_da8c8_X : ck_dec prog_36_method_1_code gt_yJ4_init_da8c8_X ge_yJ4_init_da8c8_X.2.2.2.2.1 = true := by decide +kernel
theorem gh_yJ4_init_da8c8_X {l : Launch} {G : am_G} {X : ck_XT} (g : gM l G X) {a : List Value} {h : List am_C} {mc ms : Nat} {Post : am_O → List am_C → Prop} (hay : (am_lay a).length ≤ 1) (H : ∀ (S : ck_SS) (SX : Nat → ck_SX), ck_hs G S SX Post mc ms (ck_cms [am_cn l G yJ5_init_d00df (.code yJ5_init_d00df prog_18_method_2_code 2 none) 1 20]) ge_yJ4_init_da8c8_X → (∀ pc, ck_sR G S pc) → ck_hw S → zw_hx SX Post mc ms → S 0 (am_ent a 1) [] h 0 0) : am_M l G yJ4_init_da8c8 (.code yJ4_init_da8c8 prog_36_method_1_code 1 none) 2 41 mc ms a h Post :=
  zw_handX (E := ge_yJ4_init_da8c8_X) (tb := gt_yJ4_init_da8c8_X) (init := true) (cm := (ck_cms [am_cn l G yJ5_init_d00df (.code yJ5_init_d00df prog_18_method_2_code 2 none) 1 20])) g.1.1 (by decide +kernel) rfl gd_yJ4_init_da8c8_X ⟨(List.forall_mem_nil _), (List.forall_mem_nil _), (List.forall_mem_nil _), (List.forall_mem_nil _), (List.forall_mem_nil _), (List.forall_mem_nil _), (List.forall_mem_nil _), (List.forall_mem_nil _)⟩ (List.forall_mem_nil _) (fun _ => rfl) rfl (by decide) (by decide) g_oi g_ar
    (fun s hk _ => (List.forall_mem_nil _)) (fun s hk => (List.forall_mem_nil _))
    (List.forall_mem_nil _) (List.forall_mem_cons.mpr ⟨(ck_kI g_y_yJ5_init_d00df w325 w326 rfl (by decide) (by decide)), (List.forall_mem_nil _)⟩) (List.forall_mem_nil _) (List.forall_mem_nil _)
    (List.forall_mem_nil _) hay H
def gt_yX10_init_X : ck_TB := ([], [], [], [(10, 15, 0)], [(10, 15, 0, 4), (19, 15, 1, 4), (26, 15, 5, 4), (30, 15, 6, 4), (33, 15, 7, 4), (39, 15, 8, 4), (46, 15, 9, 4), (53, 15, 10, 4), (60, 15, 11, 4), (67, 15, 12, 4), (71, 14, 0, 0)], [(7, 14, [0, 2, 0, 2, 2, 0, 2]), (16, 12, [2, 0, 0]), (23, 7, [2, 0, 0]), (36, 8, [2, 2, 2, 2, 2, 2, 2]), (43, 13, [2, 2, 0, 0]), (50, 10, [2, 0, 0, 0]), (57, 11, [0, 1, 1]), (64, 1, [2, 0, 0, 0])], [], [], ([], [(9, 0), (18, 1), (25, 2), (38, 3), (45, 4), (52, 5), (59, 6), (66, 7)], [], []), [], [1], [], 9)
def ge_yX10_init_X : ck_E := (gT, [], (([], [], [], 0, []), ((0, []), (0, [])), [], [], ([], [], [], 0, []), []), 1, [(0, (0, 5, 0, 0, 1, 0, [])), (1, (18, 0, 0, 0, 4, 0, [])), (4, (0, 5, 0, 0, 5, 0, [])), (5, (9, 14, 14, 0, 8, 0, [(0, 0), (0, 2), (0, 0), (0, 2), (0, 2), (0, 0), (0, 2)])), (8, (0, 12, 0, 0, 9, 0, [])), (9, (16, 0, 0, 0, 12, 0, [])), (12, (8, 15, 0, 4, 15, 0, [])), (15, (0, 5, 0, 0, 16, 0, [])), (16, (9, 12, 12, 0, 19, 0, [(0, 2), (0, 0), (0, 0)])), (19, (0, 12, 0, 0, 20, 0, [])), (20, (16, 1, 0, 0, 23, 0, [])), (23, (8, 15, 1, 4, 26, 0, [])), (26, (0, 5, 0, 0, 27, 0, [])), (27, (9, 7, 7, 0, 30, 0, [(0, 2), (0, 0), (0, 0)])), (30, (0, 12, 0, 0, 31, 0, [])), (31, (16, 2, 0, 0, 34, 0, [])), (34, (8, 15, 5, 4, 37, 0, [])), (37, (0, 5, 0, 0, 38, 0, [])), (38, (9, 7, 7, 0, 41, 0, [(0, 2), (0, 0), (0, 0)])), (41, (0, 12, 0, 0, 42, 0, [])), (42, (16, 2, 0, 0, 45, 0, [])), (45, (8, 15, 6, 4, 48, 0, [])), (48, (0, 5, 0, 0, 49, 0, [])), (49, (9, 7, 7, 0, 52, 0, [(0, 2), (0, 0), (0, 0)])), (52, (0, 12, 0, 0, 53, 0, [])), (53, (16, 2, 0, 0, 56, 0, [])), (56, (8, 15, 7, 4, 59, 0, [])), (59, (0, 5, 0, 0, 60, 0, [])), (60, (9, 8, 8, 0, 63, 0, [(0, 2), (0, 2), (0, 2), (0, 2), (0, 2), (0, 2), (0, 2)])), (63, (0, 12, 0, 0, 64, 0, [])), (64, (16, 3, 0, 0, 67, 0, [])), (67, (8, 15, 8, 4, 70, 0, [])), (70, (0, 5, 0, 0, 71, 0, [])), (71, (9, 13, 13, 0, 74, 0, [(0, 2), (0, 2), (0, 0), (0, 0)])), (74, (0, 12, 0, 0, 75, 0, [])), (75, (16, 4, 0, 0, 78, 0, [])), (78, (8, 15, 9, 4, 81, 0, [])), (81, (0, 5, 0, 0, 82, 0, [])), (82, (9, 10, 10, 0, 85, 0, [(0, 2), (0, 0), (0, 0), (0, 0)])), (85, (0, 12, 0, 0, 86, 0, [])), (86, (16, 5, 0, 0, 89, 0, [])), (89, (8, 15, 10, 4, 92, 0, [])), (92, (0, 5, 0, 0, 93, 0, [])), (93, (9, 11, 11, 0, 96, 0, [(0, 0), (0, 1), (0, 1)])), (96, (0, 12, 0, 0, 97, 0, [])), (97, (16, 6, 0, 0, 100, 0, [])), (100, (8, 15, 11, 4, 103, 0, [])), (103, (0, 5, 0, 0, 104, 0, [])), (104, (9, 1, 1, 0, 107, 0, [(0, 2), (0, 0), (0, 0), (0, 0)])), (107, (0, 12, 0, 0, 108, 0, [])), (108, (16, 7, 0, 0, 111, 0, [])), (111, (8, 15, 12, 4, 114, 0, [])), (114, (0, 5, 0, 0, 115, 0, [])), (115, (7, 15, 0, 0, 118, 0, [])), (118, (0, 0, 0, 12, 120, 0, [])), (120, (8, 14, 0, 0, 123, 0, [])), (123, (15, 0, 0, 0, 0, 0, []))], [(some 14, 1, []), (some 12, 1, []), (some 7, 1, []), (some 8, 1, []), (some 13, 1, []), (some 10, 1, []), (some 11, 1, []), (some 1, 1, [])], [], [], [])
theorem gd_yX10_init_X : ck_dec prog_1_method_1_code gt_yX10_init_X ge_yX10_init_X.2.2.2.2.1 = true := by decide +kernel
theorem gh_yX10_init_X {l : Launch} {G : am_G} {X : ck_XT} (g : gM l G X) {a : List Value} {h : List am_C} {mc ms : Nat} {Post : am_O → List am_C → Prop} (hay : (am_lay a).length ≤ 1) (H : ∀ (S : ck_SS) (SX : Nat → ck_SX), ck_hs G S SX Post mc ms (ck_cms [am_cn l G yX9_init (.code yX9_init prog_11_method_1_code 2 none) 2 40, am_cn l G yX5_init (.code yX5_init prog_7_method_1_code 2 none) 3 61, am_cn l G yX0_init (.code yX0_init prog_2_method_1_code 1 none) 1 20, am_cn l G yX1_init (.code yX1_init prog_3_method_1_code 1 none) 3 60, am_cn l G yX6_init (.code yX6_init prog_8_method_1_code 1 none) 1 20, am_cn l G yX3_init (.code yX3_init prog_5_method_1_code 1 none) 1 20, am_cn l G yX4_init (.code yX4_init prog_6_method_1_code 1 none) 1 20, am_cn l G yJ4_init_da8c8 (.code yJ4_init_da8c8 prog_36_method_1_code 1 none) 2 41]) ge_yX10_init_X → (∀ pc, ck_sR G S pc) → ck_hw S → zw_hx SX Post mc ms → S 0 (am_ent a 1) [] h 0 0) : am_M l G yX10_init (.code yX10_init prog_1_method_1_code 1 none) 4 82 mc ms a h Post :=
  zw_handX (E := ge_yX10_init_X) (tb := gt_yX10_init_X) (init := true) (cm := (ck_cms [am_cn l G yX9_init (.code yX9_init prog_11_method_1_code 2 none) 2 40, am_cn l G yX5_init (.code yX5_init prog_7_method_1_code 2 none) 3 61, am_cn l G yX0_init (.code yX0_init prog_2_method_1_code 1 none) 1 20, am_cn l G yX1_init (.code yX1_init prog_3_method_1_code 1 none) 3 60, am_cn l G yX6_init (.code yX6_init prog_8_method_1_code 1 none) 1 20, am_cn l G yX3_init (.code yX3_init prog_5_method_1_code 1 none) 1 20, am_cn l G yX4_init (.code yX4_init prog_6_method_1_code 1 none) 1 20, am_cn l G yJ4_init_da8c8 (.code yJ4_init_da8c8 prog_36_method_1_code 1 none) 2 41])) g.1.1 (by decide +kernel) rfl gd_yX10_init_X ⟨(List.forall_mem_nil _), (List.forall_mem_nil _), (List.forall_mem_nil _), (List.forall_mem_cons.mpr ⟨⟨⟨_, _, _, rfl, Or.inl w353⟩, by decide, _, _, g_fd15_0⟩, (List.forall_mem_nil _)⟩), (List.forall_mem_cons.mpr ⟨⟨_, _, _, g_nw14, rfl, w131, by decide⟩, (List.forall_mem_cons.mpr ⟨⟨_, _, _, g_nw12, rfl, w190, by decide⟩, (List.forall_mem_cons.mpr ⟨⟨_, _, _, g_nw7, rfl, w210, by decide⟩, (List.forall_mem_cons.mpr ⟨⟨_, _, _, g_nw8, rfl, w212, by decide⟩, (List.forall_mem_cons.mpr ⟨⟨_, _, _, g_nw13, rfl, w263, by decide⟩, (List.forall_mem_cons.mpr ⟨⟨_, _, _, g_nw10, rfl, w282, by decide⟩, (List.forall_mem_cons.mpr ⟨⟨_, _, _, g_nw11, rfl, w301, by decide⟩, (List.forall_mem_cons.mpr ⟨⟨_, _, _, g_nw1, rfl, w320, by decide⟩, (List.forall_mem_nil _)⟩)⟩)⟩)⟩)⟩)⟩)⟩)⟩), (List.forall_mem_nil _), (List.forall_mem_cons.mpr ⟨w128, (List.forall_mem_nil _)⟩), (List.forall_mem_nil _)⟩ (List.forall_mem_cons.mpr ⟨⟨⟨_, _, _, rfl, Or.inl w353⟩, by decide, _, Or.inl ⟨_, rfl⟩, Or.inr ⟨g_fd15_0, rfl, fun r hr => by cases hr; rfl⟩⟩, (List.forall_mem_cons.mpr ⟨⟨⟨_, _, _, rfl, Or.inl w354⟩, by decide, _, Or.inl ⟨_, rfl⟩, Or.inr ⟨g_fd15_1, rfl, fun r hr => by cases hr; rfl⟩⟩, (List.forall_mem_cons.mpr ⟨⟨⟨_, _, _, rfl, Or.inl w358⟩, by decide, _, Or.inl ⟨_, rfl⟩, Or.inr ⟨g_fd15_5, rfl, fun r hr => by cases hr; rfl⟩⟩, (List.forall_mem_cons.mpr ⟨⟨⟨_, _, _, rfl, Or.inl w359⟩, by decide, _, Or.inl ⟨_, rfl⟩, Or.inr ⟨g_fd15_6, rfl, fun r hr => by cases hr; rfl⟩⟩, (List.forall_mem_cons.mpr ⟨⟨⟨_, _, _, rfl, Or.inl w360⟩, by decide, _, Or.inl ⟨_, rfl⟩, Or.inr ⟨g_fd15_7, rfl, fun r hr => by cases hr; rfl⟩⟩, (List.forall_mem_cons.mpr ⟨⟨⟨_, _, _, rfl, Or.inl w361⟩, by decide, _, Or.inl ⟨_, rfl⟩, Or.inr ⟨g_fd15_8, rfl, fun r hr => by cases hr; rfl⟩⟩, (List.forall_mem_cons.mpr ⟨⟨⟨_, _, _, rfl, Or.inl w362⟩, by decide, _, Or.inl ⟨_, rfl⟩, Or.inr ⟨g_fd15_9, rfl, fun r hr => by cases hr; rfl⟩⟩, (List.forall_mem_cons.mpr ⟨⟨⟨_, _, _, rfl, Or.inl w363⟩, by decide, _, Or.inl ⟨_, rfl⟩, Or.inr ⟨g_fd15_10, rfl, fun r hr => by cases hr; rfl⟩⟩, (List.forall_mem_cons.mpr ⟨⟨⟨_, _, _, rfl, Or.inl w364⟩, by decide, _, Or.inl ⟨_, rfl⟩, Or.inr ⟨g_fd15_11, rfl, fun r hr => by cases hr; rfl⟩⟩, (List.forall_mem_cons.mpr ⟨⟨⟨_, _, _, rfl, Or.inl w365⟩, by decide, _, Or.inl ⟨_, rfl⟩, Or.inr ⟨g_fd15_12, rfl, fun r hr => by cases hr; rfl⟩⟩, (List.forall_mem_cons.mpr ⟨⟨⟨_, _, _, rfl, Or.inr (Or.inl ⟨_, w161⟩)⟩, by decide, _, rfl, Or.inl g_fd14_0⟩, (List.forall_mem_nil _)⟩)⟩)⟩)⟩)⟩)⟩)⟩)⟩)⟩)⟩)⟩) (fun _ => rfl) rfl (by decide) (by decide) g_oi g_ar
    (fun s hk _ => (List.forall_mem_nil _)) (fun s hk => (List.forall_mem_nil _))
    (List.forall_mem_nil _) (List.forall_mem_cons.mpr ⟨(ck_kI g_y_yX9_init w133 w134 rfl (by decide) (by decide)), (List.forall_mem_cons.mpr ⟨(ck_kI g_y_yX5_init w192 w193 rfl (by decide) (by decide)), (List.forall_mem_cons.mpr ⟨(ck_kIN g_y_yX0_init w211 w141 rfl (by decide) (by decide)), (List.forall_mem_cons.mpr ⟨(ck_kIN g_y_yX1_init w214 w215 rfl (by decide) (by decide)), (List.forall_mem_cons.mpr ⟨(ck_kIN g_y_yX6_init w265 w266 rfl (by decide) (by decide)), (List.forall_mem_cons.mpr ⟨(ck_kIN g_y_yX3_init w284 w285 rfl (by decide) (by decide)), (List.forall_mem_cons.mpr ⟨(ck_kIN g_y_yX4_init w303 w304 rfl (by decide) (by decide)), (List.forall_mem_cons.mpr ⟨(ck_kI g_y_yJ4_init_da8c8 w322 w323 rfl (by decide) (by decide)), (List.forall_mem_nil _)⟩)⟩)⟩)⟩)⟩)⟩)⟩)⟩) (List.forall_mem_nil _) (List.forall_mem_nil _)
    (List.forall_mem_nil _) hay H
end
section
/-! THE CONSTRUCTORS OF THE CLASS -/
theorem zi_sb0 : sb_is 0 0 (List.replicate 10 0) 0 := ⟨⟨rfl, fun x hx => by
  rw [List.eq_of_mem_replicate hx]
  exact ⟨by decide, by decide⟩⟩, ⟨Nat.zero_le _, fun j d _ hd => by
  exact List.eq_of_mem_replicate (List.mem_of_getElem? hd), fun y => absurd y (by decide)⟩, by decide, Or.inr (Or.inl rfl), by decide⟩
/-- a row of references, the first ones there -/
def zc_rp (n i : Nat) (f : Nat → Nat) : List Value := (List.range n).map fun j => if j < i then Value.ref (f j) else Value.null
theorem zc_rp_len {n i : Nat} {f : Nat → Nat} : (zc_rp n i f).length = n := by unfold zc_rp; rw [List.length_map, List.length_range]
theorem zc_rp_0 {n : Nat} {f : Nat → Nat} : zc_rp n 0 f = List.replicate n Value.null := by
  apply List.ext_getElem?
  intro j
  unfold zc_rp
  rw [List.getElem?_map, List.getElem?_replicate]
  by_cases c_ : j < n
  · rw [List.getElem?_range c_, if_pos c_]
    show some (if j < 0 then Value.ref (f j) else Value.null) = _
    rw [if_neg (by omega)]
  · rw [List.getElem?_eq_none (by rw [List.length_range]; omega), if_neg c_]
    rfl
theorem zc_rp_n {n : Nat} {f : Nat → Nat} : zc_rp n n f = zc_rl n f := by
  unfold zc_rp zc_rl
  apply List.map_congr_left
  intro j hj
  rw [if_pos (List.mem_range.mp hj)]
theorem zc_rp_s {n i q : Nat} {f : Nat → Nat} (hi : i < n) (hq : q = f i) : (zc_rp n i f).set i (Value.ref q) = zc_rp n (i + 1) f := by
  apply List.ext_getElem?
  intro j
  by_cases e_ : j = i
  · rw [e_, List.getElem?_set_self (by rw [zc_rp_len]; exact hi)]
    unfold zc_rp
    rw [List.getElem?_map, List.getElem?_range hi]
    show _ = some (if i < i + 1 then Value.ref (f i) else Value.null)
    rw [if_pos (by omega), hq]
  · rw [List.getElem?_set_ne (fun y_ => e_ y_.symm)]
    unfold zc_rp
    rw [List.getElem?_map, List.getElem?_map]
    by_cases c_ : j < n
    · rw [List.getElem?_range c_]
      show some (if j < i then Value.ref (f j) else Value.null) = some (if j < i + 1 then Value.ref (f j) else Value.null)
      by_cases d_ : j < i
      · rw [if_pos d_, if_pos (by omega)]
      · rw [if_neg d_, if_neg (by omega)]
    · rw [List.getElem?_eq_none (by rw [List.length_range]; omega)]
      rfl
theorem zc_n.k {G : am_G} {h h' : List am_C} {q : Nat} {z : Int} {D : Nat → Prop} (a : zc_n G h q z) (f : zk G h h' D) (h1 : ¬ D q) (h2 : ¬ D (q + 1)) : zc_n G h' q z := by
  obtain ⟨n_, sg_, ls_, a1_, a2_, a3_⟩ := a
  exact ⟨n_, sg_, ls_, f.2 _ _ a1_ h1, f.2 _ _ a2_ h2, a3_⟩
theorem zc_s.k {G : am_G} {h h' : List am_C} {s : Nat} {c : sp_S} {D : Nat → Prop} (a : zc_s G h s c) (f : zk G h h' D) (hD : ∀ y, s ≤ y → y < s + 17 → ¬ D y) : zc_s G h' s c := by
  obtain ⟨rs_, zs_, bs_, a1_, a2_, a3_, a4_, a5_, a6_, a7_⟩ := a
  exact ⟨rs_, zs_, bs_, f.2 _ _ a1_ (hD _ (by omega) (by omega)), f.2 _ _ a2_ (hD _ (by omega) (by omega)), f.2 _ _ a3_ (hD _ (by omega) (by omega)), f.2 _ _ a4_ (hD _ (by omega) (by omega)), f.2 _ _ a5_ (hD _ (by omega) (by omega)), a6_, fun i hi => (a7_ i hi).k f (hD _ (by omega) (by omega)) (hD _ (by omega) (by omega))⟩
theorem zc_p.k {G : am_G} {h h' : List am_C} {p : Nat} {R : Nat → sp_S} {old cnt : Nat} {D : Nat → Prop} (a : zc_p G h p R old cnt) (f : zk G h h' D) (hD : ∀ y, p ≤ y → y < p + 206 → ¬ D y) : zc_p G h' p R old cnt := by
  obtain ⟨a1_, a2_, a3_, a4_, a5_⟩ := a
  exact ⟨f.2 _ _ a1_ (hD _ (by omega) (by omega)), f.2 _ _ a2_ (hD _ (by omega) (by omega)), fun j hj => ⟨(a3_ j hj).1.k f fun y h1 h2 => hD y (by omega) (by omega), (a3_ j hj).2⟩, a4_, a5_⟩
theorem zc_w.k {G : am_G} {h h' : List am_C} {q : Nat} {D : Nat → Prop} (a : zc_w G h q) (f : zk G h h' D) (h1 : ¬ D q) (h2 : ¬ D (q + 1)) : zc_w G h' q := by
  obtain ⟨n_, sg_, ls_, a1_, a2_, a3_⟩ := a
  exact ⟨n_, sg_, ls_, f.2 _ _ a1_ h1, f.2 _ _ a2_ h2, a3_⟩
def sp_z : sp_S := (0, [0, 0, 0, 0, 0, 0], [], [])
theorem sp_z_ok : sp_ok sp_z := ⟨⟨by decide, by decide⟩, ⟨rfl, fun z hz => by
  simp only [sp_z, List.mem_cons, List.not_mem_nil, or_false] at hz
  omega⟩, ⟨Nat.zero_le _, fun p hp => by cases hp⟩, Nat.zero_le _, fun b hb => by cases hb⟩
set_option maxHeartbeats 4000000 in
theorem zi_big_M {l : Launch} {G : am_G} {X : ck_XT} (g : gM l G X) {q t td : Nat} {x0 x1 x2 : Value} {h : List am_C} (hg : am_g G h q = some (t, [x0, x1, x2])) (ht : t % 100 = 7) (htd : td % 100 = 50) (hq : 1000 ≤ q) {mc ms : Nat} {Post : am_O → List am_C → Prop} (hmc : 1 ≤ mc) (hms : 10 ≤ ms)
    (hP : ∀ h', h'.length = h.length + 1 → zk G h h' (fun y => y = q) → am_g G h' q = some (t, [.ref (1000 + h.length), x1, x2]) → am_g G h' (1000 + h.length) = some (td, hd_r (List.replicate 10 0)) → Post (.inl none) h') :
    am_M l G yX0_init (.code yX0_init prog_2_method_1_code 1 none) 1 20 mc ms [.ref q] h Post := by
  refine gh_yX0_init_X g (Nat.le_of_ble_eq_true rfl) fun S SX hs hr hw hx => ?_
  have rv : ∀ x : Int32, ck_fv 0 (.int x) := fun x => ⟨_, rfl⟩
  have lq_ := zg_lt hg
  refine hs 0 _ rfl _ _ _ _ _ _ _ rfl ?_
  refine hs 1 _ rfl _ _ _ _ _ _ rfl (Nat.le_of_ble_eq_true rfl) ?_
  refine hs 2 _ rfl _ _ _ _ _ _ _ rfl ?_
  refine hs 3 _ rfl _ _ _ _ _ _ _ rfl ?_
  refine zw_E (G := G) (hs 4 _ rfl) (t := td) (N := 10) htd (by omega) (by omega) (by omega) (by omega) fun hz367 az368 ez369 lz370 gz371 cz372 => ?_
  refine zw_U (hs 5 _ rfl) (by omega) ((gz371.2 _ _ hg)) ht (Or.inl ⟨_, rfl⟩) fun hz373 wz374 => ?_
  have wz374 : hd_w G hz367 hz373 q (t, [.ref az368, x1, x2]) := wz374
  have lwz374 := wz374.1
  have ez_ := ez369
  refine hs 6 _ rfl _ _ _ _ (by omega) (by omega) (hP _ (by omega) ((zk.g gz371).tr (zk.w wz374 (Or.inl rfl))) ?_ ?_)
  · rw [← ez_]
    exact wz374.at
  · rw [← ez_]
    exact ((wz374.ne (by omega)).trans cz372)
set_option maxHeartbeats 4000000 in
theorem zi_state_M {l : Launch} {G : am_G} {X : ck_XT} (g : gM l G X) {s : Nat} {h : List am_C} (hg : am_g G h s = some (1014, [.int 0, .null, .int 0, .null, .null, .int 0, .null])) (hs_ : 1000 ≤ s) (hl_ : s + 1 = 1000 + h.length) {mc ms : Nat} {Post : am_O → List am_C → Prop} (hmc : 16 ≤ mc) (hms : 101 ≤ ms)
    (hP : ∀ h', h'.length = h.length + 16 → zk G h h' (fun y => y = s) → zc_s G h' s sp_z → Post (.inl none) h') :
    am_M l G yX9_init (.code yX9_init prog_11_method_1_code 2 none) 2 40 mc ms [.ref s] h Post := by
  refine gh_yX9_init_X g (Nat.le_of_ble_eq_true rfl) fun S SX hs hr hw hx => ?_
  have rv : ∀ x : Int32, ck_fv 0 (.int x) := fun x => ⟨_, rfl⟩
  refine hs 0 _ rfl _ _ _ _ _ _ _ rfl ?_
  refine hs 1 _ rfl _ _ _ _ _ _ rfl (Nat.le_of_ble_eq_true rfl) ?_
  refine hs 2 _ rfl _ _ _ _ _ _ _ rfl ?_
  refine hs 3 _ rfl _ _ _ _ _ _ _ rfl ?_
  refine zw_E2 (G := G) (hs 4 _ rfl) (t := 1053) (N := 6) rfl (by omega) (by omega) (by omega) (by omega) fun hz375 az376 ez377 lz378 gz379 cz380 => ?_
  refine zw_U (hs 5 _ rfl) (by omega) ((gz379.2 _ _ hg)) rfl (Or.inl ⟨_, rfl⟩) fun hz381 wz382 => ?_
  have wz382 : hd_w G hz375 hz381 s (1014, [.int 0, .ref az376, .int 0, .null, .null, .int 0, .null]) := wz382
  have lwz382 := wz382.1
  refine hs 6 _ rfl _ _ _ _ _ _ _ rfl ?_
  refine hs 7 _ rfl _ _ _ _ _ _ _ rfl ?_
  refine zw_E (G := G) (hs 8 _ rfl) (t := 1150) (N := 6) rfl (by omega) (by omega) (by omega) (by omega) fun hz383 az384 ez385 lz386 gz387 cz388 => ?_
  refine zw_U (hs 9 _ rfl) (by omega) ((gz387.2 _ _ wz382.at)) rfl (Or.inl ⟨_, rfl⟩) fun hz389 wz390 => ?_
  have wz390 : hd_w G hz383 hz389 s (1014, [.int 0, .ref az376, .int 0, .ref az384, .null, .int 0, .null]) := wz390
  have lwz390 := wz390.1
  refine hs 10 _ rfl _ _ _ _ _ _ _ rfl ?_
  refine hs 11 _ rfl _ _ _ _ _ _ _ rfl ?_
  refine zw_E (G := G) (hs 12 _ rfl) (t := 1250) (N := 6) rfl (by omega) (by omega) (by omega) (by omega) fun hz391 az392 ez393 lz394 gz395 cz396 => ?_
  refine zw_U (hs 13 _ rfl) (by omega) ((gz395.2 _ _ wz390.at)) rfl (Or.inl ⟨_, rfl⟩) fun hz397 wz398 => ?_
  have wz398 : hd_w G hz391 hz397 s (1014, [.int 0, .ref az376, .int 0, .ref az384, .ref az392, .int 0, .null]) := wz398
  have lwz398 := wz398.1
  refine hs 14 _ rfl _ _ _ _ _ _ _ rfl ?_
  refine hs 15 _ rfl _ _ _ _ _ _ _ rfl ?_
  refine zw_E (G := G) (hs 16 _ rfl) (t := 1350) (N := 5) rfl (by omega) (by omega) (by omega) (by omega) fun hz399 az400 ez401 lz402 gz403 cz404 => ?_
  refine zw_U (hs 17 _ rfl) (by omega) ((gz403.2 _ _ wz398.at)) rfl (Or.inl ⟨_, rfl⟩) fun hz405 wz406 => ?_
  have wz406 : hd_w G hz399 hz405 s (1014, [.int 0, .ref az376, .int 0, .ref az384, .ref az392, .int 0, .ref az400]) := wz406
  have lwz406 := wz406.1
  refine hs 18 _ rfl _ _ _ _ _ _ _ rfl ?_
  refine hs 19 _ rfl _ _ _ _ _ _ _ rfl ?_
  have loop : ∀ (m_ i_ : Nat) (h1_ : List am_C) (k_ n_ : Nat), i_ + m_ = 6 → h1_.length = h.length + 4 + 2 * i_ → zk G h h1_ (fun y => y = s) → am_g G h1_ s = some (1014, [.int 0, .ref (s + 1), .int 0, .ref (s + 2), .ref (s + 3), .int 0, .ref (s + 4)]) → am_g G h1_ (s + 1) = some (1053, zc_rp 6 i_ (fun i => s + 5 + 2 * i)) → (am_g G h1_ (s + 2) = some (1150, hd_r (List.replicate 6 0)) ∧ am_g G h1_ (s + 3) = some (1250, hd_r (List.replicate 6 0)) ∧ am_g G h1_ (s + 4) = some (1350, hd_r (List.replicate 5 0))) → (∀ j_, j_ < i_ → zc_n G h1_ (s + 5 + 2 * j_) 0) → k_ = 4 + 2 * i_ → n_ = 23 + 13 * i_ → S 38 [some (.ref s), some (.int (Int32.ofInt (i_ : Int)))] [] h1_ k_ n_ := by
    intro m_
    induction m_ with
    | zero =>
      intro i_ h1_ k_ n_ hi_ hL_ hK_ hS_ hR_ hA_ hN_ hk_ hn_
      have i6_ : i_ = 6 := by omega
      refine hs 20 _ rfl _ _ _ _ _ _ _ rfl ?_
      refine hs 21 _ rfl _ _ _ _ _ _ _ rfl ?_
      refine hs 22 _ rfl _ _ _ _ _ _ _ (fun _ => ?_) (fun zq => absurd (hd_c2t (c := 3) (by omega) (by omega) (by omega) (by omega) (by omega : 0 ≤ ((i_ : Int) - (6 : Int)))) zq)
      refine hs 32 _ rfl _ _ _ _ (by omega) (by omega) (hP _ (by omega) hK_ ?_)
      rw [i6_] at hR_ hN_
      refine ⟨_, _, _, hS_, by rw [hR_, zc_rp_n], hA_.1, hA_.2.1, hA_.2.2, ⟨⟨rfl, rfl, rfl⟩, ⟨fun y hy => by rw [List.eq_of_mem_replicate hy]; exact ⟨by decide, by decide⟩, fun y hy => by rw [List.eq_of_mem_replicate hy]; exact ⟨by decide, by decide⟩⟩, fun i p y => (by cases y), fun i b y => (by cases y)⟩, fun i hi => ?_⟩
      have z_ : sp_z.2.1.getD i 0 = 0 := by
        match i, hi with
        | 0, _ => rfl
        | 1, _ => rfl
        | 2, _ => rfl
        | 3, _ => rfl
        | 4, _ => rfl
        | 5, _ => rfl
      rw [z_]
      exact hN_ i hi
    | succ m_ ih =>
      intro i_ h1_ k_ n_ hi_ hL_ hK_ hS_ hR_ hA_ hN_ hk_ hn_
      refine hs 20 _ rfl _ _ _ _ _ _ _ rfl ?_
      refine hs 21 _ rfl _ _ _ _ _ _ _ rfl ?_
      refine hs 22 _ rfl _ _ _ _ _ _ _ (fun zq => absurd (hd_c2z (c := 3) (by omega) (by omega) (by omega) (by omega) zq) (by omega : ¬ (0 ≤ ((i_ : Int) - (6 : Int))))) (fun _ => ?_)
      refine hs 23 _ rfl _ _ _ _ _ _ _ rfl ?_
      refine hs 24 _ rfl _ _ _ _ _ _ _ _ _ (hS_) rfl rfl ?_
      refine hs 25 _ rfl _ _ _ _ _ _ _ rfl ?_
      refine zw_W (G := G) (hs 26 _ rfl) (t := 1407) (vs := [.null, .int 0, .int 0]) (m := 3) rfl rfl rfl (by omega) (by omega) fun hz407 az408 ez409 lz410 gz411 cz412 => ?_
      refine hs 27 _ rfl _ _ _ _ _ _ _ rfl ?_
      refine zw_cmn (hs 28 _ rfl) (a := [.ref az408]) (st := [.ref az408, .int (Int32.ofInt (i_ : Int)), .ref (s + 1)]) 1 10 rfl rfl (Nat.le_of_ble_eq_true rfl) ⟨_, _, _, rfl, (cz412), rfl⟩ (by omega) (by omega) (⟨zi_big_M g (td := 1450) (cz412) rfl rfl (by omega) (by omega) (by omega) fun hb_ lb_ kb_ qb_ rb_ => ?_, fun _ _ h9 => h9⟩)
      show S 56 [some (.ref s), some (.int (Int32.ofInt (i_ : Int)))] [.ref az408, .int (Int32.ofInt (i_ : Int)), .ref (s + 1)] _ _ _
      refine zw_Br (hs 29 _ rfl) (by omega) ((kb_.2 _ _ ((gz411.2 _ _ hR_)) (by omega))) (by first | decide | (rw [rfl]; decide)) (by first | decide | (rw [rfl]; decide)) (j := i_) (by omega) (by omega) (by rw [zc_rp_len]; omega) (Or.inr (Or.inr (Or.inr (Or.inr ⟨_, _, _, rfl, qb_, by decide⟩)))) fun hz413 wz414 => ?_
      have lwz414 := wz414.1
      refine hs 30 _ rfl _ _ _ _ _ _ _ (hd_inc rfl) ?_
      refine hs 31 _ rfl _ _ _ _ _ ?_
      have q9_ : az408 = s + 5 + 2 * i_ := by omega
      have kk_ : zk G h1_ _ (fun y => y = s + 1) := ((zk.g (D := fun y => y = s + 1) gz411).tr2 (kb_ : zk _ _ _ (fun y => y = az408)) (fun p_ y1_ (y2_ : p_ = az408) => absurd y1_ (by omega))).tr (zk.w (D := fun y => y = s + 1) wz414 (Or.inl rfl))
      have r9_ : 1000 + hz407.length = s + 5 + 2 * i_ + 1 := by omega
      rw [r9_] at qb_ rb_
      rw [q9_] at qb_
      have lk_ := kk_.1
      refine ih (i_ + 1) _ _ _ (by omega) (by omega) (hK_.tr2 kk_ fun p_ y1_ (y2_ : p_ = s + 1) => absurd y1_ (by omega)) (kk_.2 _ _ hS_ (by omega)) ?_ ⟨kk_.2 _ _ hA_.1 (by omega), kk_.2 _ _ hA_.2.1 (by omega), kk_.2 _ _ hA_.2.2 (by omega)⟩ (fun j_ hj_ => ?_) (by omega) (by omega)
      · exact wz414.at.trans (by rw [zc_rp_s (f := fun i => s + 5 + 2 * i) (by omega) q9_])
      · by_cases e_ : j_ = i_
        · rw [e_]
          exact ⟨0, 0, _, (wz414.ne (by omega)).trans qb_, (wz414.ne (by omega)).trans rb_, zi_sb0⟩
        · exact (hN_ j_ (by omega)).k kk_ (by omega) (by omega)
  have e1_ : az376 = s + 1 := by omega
  have e2_ : az384 = s + 2 := by omega
  have e3_ : az392 = s + 3 := by omega
  have e4_ : az400 = s + 4 := by omega
  have fs_ := (wz406.at)
  have fr_ := ((wz406.ne (by omega)).trans ((gz403.2 _ _ ((wz398.ne (by omega)).trans ((gz395.2 _ _ ((wz390.ne (by omega)).trans ((gz387.2 _ _ ((wz382.ne (by omega)).trans cz380))))))))))
  have f2_ := ((wz406.ne (by omega)).trans ((gz403.2 _ _ ((wz398.ne (by omega)).trans ((gz395.2 _ _ ((wz390.ne (by omega)).trans cz388)))))))
  have f3_ := ((wz406.ne (by omega)).trans ((gz403.2 _ _ ((wz398.ne (by omega)).trans cz396))))
  have f4_ := ((wz406.ne (by omega)).trans cz404)
  rw [e1_, e2_, e3_, e4_] at fs_
  rw [e1_] at fr_
  rw [e2_] at f2_
  rw [e3_] at f3_
  rw [e4_] at f4_
  exact loop 6 0 _ _ _ (by omega) (by omega) ((((((((zk.g gz379).tr (zk.w (D := fun y => y = s) wz382 (Or.inl rfl))).tr (zk.g gz387)).tr (zk.w (D := fun y => y = s) wz390 (Or.inl rfl))).tr (zk.g gz395)).tr (zk.w (D := fun y => y = s) wz398 (Or.inl rfl))).tr (zk.g gz403)).tr (zk.w (D := fun y => y = s) wz406 (Or.inl rfl))) fs_ (by rw [zc_rp_0]; exact fr_) ⟨f2_, f3_, f4_⟩ (fun j_ hj_ => absurd hj_ (by omega)) (by omega) (by omega)
set_option maxHeartbeats 4000000 in
theorem zi_past_M {l : Launch} {G : am_G} {X : ck_XT} (g : gM l G X) {p : Nat} {h : List am_C} (hg : am_g G h p = some (1012, [.null, .int 0, .int 0])) (hp_ : 1000 ≤ p) (hl_ : p + 1 = 1000 + h.length) {mc ms : Nat} {Post : am_O → List am_C → Prop} (hmc : 205 ≤ mc) (hms : 1308 ≤ ms)
    (hP : ∀ h', h'.length = h.length + 205 → zk G h h' (fun y => y = p) → zc_p G h' p (fun _ => sp_z) 0 0 → Post (.inl none) h') :
    am_M l G yX5_init (.code yX5_init prog_7_method_1_code 2 none) 3 61 mc ms [.ref p] h Post := by
  refine gh_yX5_init_X g (Nat.le_of_ble_eq_true rfl) fun S SX hs hr hw hx => ?_
  have rv : ∀ x : Int32, ck_fv 0 (.int x) := fun x => ⟨_, rfl⟩
  refine hs 0 _ rfl _ _ _ _ _ _ _ rfl ?_
  refine hs 1 _ rfl _ _ _ _ _ _ rfl (Nat.le_of_ble_eq_true rfl) ?_
  refine hs 2 _ rfl _ _ _ _ _ _ _ rfl ?_
  refine hs 3 _ rfl _ _ _ _ _ _ _ rfl ?_
  refine zw_E2 (G := G) (hs 4 _ rfl) (t := 1054) (N := 12) rfl (by omega) (by omega) (by omega) (by omega) fun hz415 az416 ez417 lz418 gz419 cz420 => ?_
  refine zw_U (hs 5 _ rfl) (by omega) ((gz419.2 _ _ hg)) rfl (Or.inl ⟨_, rfl⟩) fun hz421 wz422 => ?_
  have wz422 : hd_w G hz415 hz421 p (1012, [.ref az416, .int 0, .int 0]) := wz422
  have lwz422 := wz422.1
  refine hs 6 _ rfl _ _ _ _ _ _ _ rfl ?_
  refine hs 7 _ rfl _ _ _ _ _ _ _ rfl ?_
  have loop : ∀ (m_ i_ : Nat) (h1_ : List am_C) (k_ n_ : Nat), i_ + m_ = 12 → h1_.length = h.length + 1 + 17 * i_ → zk G h h1_ (fun y => y = p) → am_g G h1_ p = some (1012, [.ref (p + 1), .int 0, .int 0]) → am_g G h1_ (p + 1) = some (1054, zc_rp 12 i_ (fun i => p + 2 + 17 * i)) → (∀ j_, j_ < i_ → zc_s G h1_ (p + 2 + 17 * j_) sp_z) → k_ = 1 + 17 * i_ → n_ = 12 + 108 * i_ → S 15 [some (.ref p), some (.int (Int32.ofInt (i_ : Int)))] [] h1_ k_ n_ := by
    intro m_
    induction m_ with
    | zero =>
      intro i_ h1_ k_ n_ hi_ hL_ hK_ hS_ hR_ hN_ hk_ hn_
      have i6_ : i_ = 12 := by omega
      refine hs 8 _ rfl _ _ _ _ _ _ _ rfl ?_
      refine hs 9 _ rfl _ _ _ _ _ _ _ rfl ?_
      refine hs 10 _ rfl _ _ _ _ _ _ _ (fun _ => ?_) (fun zq => absurd (hd_c2t (c := 3) (by omega) (by omega) (by omega) (by omega) (by omega : 0 ≤ ((i_ : Int) - (12 : Int)))) zq)
      refine hs 20 _ rfl _ _ _ _ (by omega) (by omega) (hP _ (by omega) hK_ ?_)
      rw [i6_] at hR_ hN_
      exact ⟨hS_, by rw [hR_, zc_rp_n], fun j hj => ⟨hN_ j hj, sp_z_ok⟩, by decide, by decide⟩
    | succ m_ ih =>
      intro i_ h1_ k_ n_ hi_ hL_ hK_ hS_ hR_ hN_ hk_ hn_
      refine hs 8 _ rfl _ _ _ _ _ _ _ rfl ?_
      refine hs 9 _ rfl _ _ _ _ _ _ _ rfl ?_
      refine hs 10 _ rfl _ _ _ _ _ _ _ (fun zq => absurd (hd_c2z (c := 3) (by omega) (by omega) (by omega) (by omega) zq) (by omega : ¬ (0 ≤ ((i_ : Int) - (12 : Int))))) (fun _ => ?_)
      refine hs 11 _ rfl _ _ _ _ _ _ _ rfl ?_
      refine hs 12 _ rfl _ _ _ _ _ _ _ _ _ (hS_) rfl rfl ?_
      refine hs 13 _ rfl _ _ _ _ _ _ _ rfl ?_
      refine zw_W (G := G) (hs 14 _ rfl) (t := 1014) (vs := [.int 0, .null, .int 0, .null, .null, .int 0, .null]) (m := 7) rfl rfl rfl (by omega) (by omega) fun hz423 az424 ez425 lz426 gz427 cz428 => ?_
      refine hs 15 _ rfl _ _ _ _ _ _ _ rfl ?_
      refine zw_cmn (hs 16 _ rfl) (a := [.ref az424]) (st := [.ref az424, .int (Int32.ofInt (i_ : Int)), .ref (p + 1)]) 16 101 rfl rfl (Nat.le_of_ble_eq_true rfl) ⟨_, _, _, rfl, (cz428), rfl⟩ (by omega) (by omega) (⟨zi_state_M g (cz428) (by omega) (by omega) (by omega) (by omega) fun hb_ lb_ kb_ sb9_ => ?_, fun _ _ h9 => h9⟩)
      show S 33 [some (.ref p), some (.int (Int32.ofInt (i_ : Int)))] [.ref az424, .int (Int32.ofInt (i_ : Int)), .ref (p + 1)] _ _ _
      refine zw_Br (hs 17 _ rfl) (by omega) ((kb_.2 _ _ ((gz427.2 _ _ hR_)) (by omega))) (by first | decide | (rw [rfl]; decide)) (by first | decide | (rw [rfl]; decide)) (j := i_) (by omega) (by omega) (by rw [zc_rp_len]; omega) (Or.inr (Or.inr (Or.inr (Or.inr ⟨_, _, _, rfl, sb9_.d, by decide⟩)))) fun hz429 wz430 => ?_
      have lwz430 := wz430.1
      refine hs 18 _ rfl _ _ _ _ _ _ _ (hd_inc rfl) ?_
      refine hs 19 _ rfl _ _ _ _ _ ?_
      have q9_ : az424 = p + 2 + 17 * i_ := by omega
      have kk_ : zk G h1_ _ (fun y => y = p + 1) := ((zk.g (D := fun y => y = p + 1) gz427).tr2 (kb_ : zk _ _ _ (fun y => y = az424)) (fun p_ y1_ (y2_ : p_ = az424) => absurd y1_ (by omega))).tr (zk.w (D := fun y => y = p + 1) wz430 (Or.inl rfl))
      have lk_ := kk_.1
      refine ih (i_ + 1) _ _ _ (by omega) (by omega) (hK_.tr2 kk_ fun p_ y1_ (y2_ : p_ = p + 1) => absurd y1_ (by omega)) (kk_.2 _ _ hS_ (by omega)) ?_ (fun j_ hj_ => ?_) (by omega) (by omega)
      · exact wz430.at.trans (by rw [zc_rp_s (f := fun i => p + 2 + 17 * i) (by omega) q9_])
      · by_cases e_ : j_ = i_
        · rw [e_, ← q9_]
          exact sb9_.k (zk.w (D := fun y => y = p + 1) wz430 (Or.inl rfl)) (fun y h1 h2 (h3 : y = p + 1) => by omega)
        · exact (hN_ j_ (by omega)).k kk_ (fun y h1 h2 (h3 : y = p + 1) => by omega)
  have e1_ : az416 = p + 1 := by omega
  have fs_ := (wz422.at)
  have fr_ := ((wz422.ne (by omega)).trans cz420)
  rw [e1_] at fs_ fr_
  exact loop 12 0 _ _ _ (by omega) (by omega) ((zk.g gz419).tr (zk.w (D := fun y => y = p) wz422 (Or.inl rfl))) fs_ (by rw [zc_rp_0]; exact fr_) (fun j_ hj_ => absurd hj_ (by omega)) (by omega) (by omega)
end
