/-! THE CALLS OF THE REFERENCE: more of numbers, round the dial -/
set_option maxHeartbeats 4000000 in
theorem zm_lengthen_M {l : Launch} {G : am_G} {X : ck_XT} (g : gM l G X) {o : Nat → Nat} {x tx now qw : Nat} {th j m k : Int} {c : sp_S} {P : List sp_S} {h : List am_C} (hX : zm_x G h o x tx now qw th j m k c P) (hok : sp_ok c) (hp12 : P.length ≤ 12) {e e2 : Int} (he1 : -2147483648 ≤ e) (he2 : e ≤ 2147483647) (hf1 : -2147483648 ≤ e2) (hf2 : e2 ≤ 2147483647) {mc ms : Nat} {Post : am_O → List am_C → Prop} (hmc : 26 ≤ mc) (hms : 465 ≤ ms)
    (hP : ∀ (a th : Int) (T' : sp_T) (h' : List am_C), sp_d2 e e2 (c, P, j, m, k) a th T' → zm_fr G h h' → zm_Y G h' x th T' → Post (.inl (some (.int (Int32.ofInt a)))) h') :
    am_M l G yX14_lengthen (.code yX14_lengthen prog_14_method_13_code 4 (some .int)) 12 316 mc ms [.ref x, .int (Int32.ofInt e), .int (Int32.ofInt e2)] h Post := by
  refine gh_yX14_lengthen_X g (Nat.le_of_ble_eq_true rfl) fun S SX hs hr hw hx => ?_
  have rv : ∀ x : Int32, ck_fv 0 (.int x) := fun x => ⟨_, rfl⟩
  obtain ⟨a1_, a2_, a3_, a4_⟩ := id hX
  by_cases c1_ : sp_s1 e
  rotate_left
  · have c1b_ : ¬ (0 ≤ e ∧ e < 6) := c1_
    refine hs 0 _ rfl _ _ _ _ _ _ _ rfl ?_
    refine hs 1 _ rfl _ _ _ _ _ _ _ rfl ?_
    refine zw_c (hs 2 _ rfl) (a := [.int (Int32.ofInt e)]) (st := [.ref x]) rfl rfl (Nat.le_of_ble_eq_true rfl) trivial (by omega) (by omega) (zm_noSlot_M g (e := e) (by omega) (by omega) (fun y_ => ?_) (fun y_ => absurd y_ (by omega)))
    show S 5 [some (.ref x), some (.int (Int32.ofInt e)), some (.int (Int32.ofInt e2)), none] [.int (Int32.ofInt (1 : Int)), .ref x] _ _ _
    refine hs 3 _ rfl _ _ _ _ _ _ _ rfl ?_
    refine zw_c (hs 4 _ rfl) (a := [.ref x, .int (Int32.ofInt (1 : Int)), .int (Int32.ofInt (1 : Int))]) (st := []) rfl rfl (Nat.le_of_ble_eq_true rfl) ⟨_, _, _, rfl, a1_, a2_.1⟩ (by omega) (by omega) (zm_start_M g hX (i_ := 1) (w_ := 1) (Or.inr rfl) (by decide) (fun y_ h2_ f2_ x2_ => ?_) (fun y_ => absurd y_ (by decide)))
    show S 9 [some (.ref x), some (.int (Int32.ofInt e)), some (.int (Int32.ofInt e2)), none] [.int (Int32.ofInt (1 : Int))] _ _ _
    refine hs 5 _ rfl _ _ _ _ _ _ (fun _ => ?_) (fun zq => absurd (hd_c1t (c := 1) (by omega) (by omega) (by omega : (1 : Int) ≠ 0)) zq)
    refine hs 18 _ rfl _ _ _ _ _ _ _ rfl ?_
    exact hs 19 _ rfl _ _ _ _ _ (rv _) (by omega) (by omega) (hP 0 _ _ _ (Or.inr ⟨c1_, rfl, rfl⟩) f2_ ⟨_, _, _, _, x2_⟩)
  · 
    obtain ⟨i, rfl⟩ : ∃ i : Nat, e = (i : Int) := ⟨e.toNat, by have := c1_.1; omega⟩
    have hi : i < 6 := by have := c1_.2; omega
    have c1b_ := c1_.1
    have c1c_ := c1_.2
    by_cases c3_ : 0 ≤ e2 ∧ e2 < 1000000000
    rotate_left
    · 
      refine hs 0 _ rfl _ _ _ _ _ _ _ rfl ?_
      refine hs 1 _ rfl _ _ _ _ _ _ _ rfl ?_
      refine zw_c (hs 2 _ rfl) (a := [.int (Int32.ofInt (i : Int))]) (st := [.ref x]) rfl rfl (Nat.le_of_ble_eq_true rfl) trivial (by omega) (by omega) (zm_noSlot_M g (e := (i : Int)) (by omega) (by omega) (fun y_ => absurd (by omega) y_) (fun y_ => ?_))
      show S 5 [some (.ref x), some (.int (Int32.ofInt (i : Int))), some (.int (Int32.ofInt e2)), none] [.int (Int32.ofInt (0 : Int)), .ref x] _ _ _
      refine hs 3 _ rfl _ _ _ _ _ _ _ rfl ?_
      refine zw_c (hs 4 _ rfl) (a := [.ref x, .int (Int32.ofInt (0 : Int)), .int (Int32.ofInt (1 : Int))]) (st := []) rfl rfl (Nat.le_of_ble_eq_true rfl) ⟨_, _, _, rfl, a1_, a2_.1⟩ (by omega) (by omega) (zm_start_M g hX (i_ := 0) (w_ := 1) (Or.inl rfl) (by decide) (fun y_ => absurd y_ (by decide)) (fun y_ h2_ f2_ x2_ => ?_))
      show S 9 [some (.ref x), some (.int (Int32.ofInt (i : Int))), some (.int (Int32.ofInt e2)), none] [.int (Int32.ofInt (0 : Int))] _ _ _
      refine hs 5 _ rfl _ _ _ _ _ _ (fun zq => absurd (hd_c1z (c := 1) (by omega) (by omega) zq) (by omega : ¬ ((0 : Int) ≠ 0))) (fun _ => ?_)
      refine hs 6 _ rfl _ _ _ _ _ _ _ rfl ?_
      refine hs 7 _ rfl _ _ _ _ _ _ _ rfl ?_
      refine hs 8 _ rfl _ _ _ _ _ _ _ rfl ?_
      refine hs 9 _ rfl _ _ _ _ _ _ _ rfl ?_
      refine zw_c (hs 10 _ rfl) (a := [.int (Int32.ofInt e2), .int (Int32.ofInt (0 : Int)), .int (Int32.ofInt (999999999 : Int))]) (st := [.ref x]) rfl rfl (Nat.le_of_ble_eq_true rfl) trivial (by omega) (by omega) (zm_isIn_M g (v := e2) (a := 0) (b := 999999999) (by omega) (by omega) (by omega) (by omega) (by omega) (by omega) (fun y_ => absurd y_ (by omega)) (fun y_ => ?_))
      show S 20 [some (.ref x), some (.int (Int32.ofInt (i : Int))), some (.int (Int32.ofInt e2)), none] [.int (Int32.ofInt (0 : Int)), .ref x] _ _ _
      refine hs 11 _ rfl _ _ _ _ _ _ (fun zq => absurd (hd_c1z (c := 1) (by omega) (by omega) zq) (by omega : ¬ ((0 : Int) ≠ 0))) (fun _ => ?_)
      refine hs 12 _ rfl _ _ _ _ _ _ _ rfl ?_
      refine hs 13 _ rfl _ _ _ _ _ ?_
      refine hs 15 _ rfl _ _ _ _ _ _ _ rfl ?_
      refine zw_c (hs 16 _ rfl) (a := [.ref x, .int (Int32.ofInt (1 : Int)), .int (Int32.ofInt (2 : Int))]) (st := []) rfl rfl (Nat.le_of_ble_eq_true rfl) ⟨_, _, _, rfl, x2_.1, a2_.1⟩ (by omega) (by omega) (zm_refuse_M g x2_ (i_ := 1) (w_ := 2) (Or.inr rfl) (by decide) (fun y_ h3_ f3_ x3_ => ?_) (fun y_ => absurd y_ (by decide)))
      show S 32 [some (.ref x), some (.int (Int32.ofInt (i : Int))), some (.int (Int32.ofInt e2)), none] [.int (Int32.ofInt (1 : Int))] _ _ _
      refine hs 17 _ rfl _ _ _ _ _ _ (fun zq => absurd (hd_c1z (c := 0) (by omega) (by omega) zq) (by omega : ¬ ((1 : Int) = 0))) (fun _ => ?_)
      refine hs 18 _ rfl _ _ _ _ _ _ _ rfl ?_
      exact hs 19 _ rfl _ _ _ _ _ (rv _) (by omega) (by omega) (hP 0 _ _ _ (Or.inl ⟨c1_, Or.inr ⟨c3_, rfl, rfl⟩⟩) (f2_.tr f3_) ⟨_, _, _, _, x3_⟩)
    · 
      refine hs 0 _ rfl _ _ _ _ _ _ _ rfl ?_
      refine hs 1 _ rfl _ _ _ _ _ _ _ rfl ?_
      refine zw_c (hs 2 _ rfl) (a := [.int (Int32.ofInt (i : Int))]) (st := [.ref x]) rfl rfl (Nat.le_of_ble_eq_true rfl) trivial (by omega) (by omega) (zm_noSlot_M g (e := (i : Int)) (by omega) (by omega) (fun y_ => absurd (by omega) y_) (fun y_ => ?_))
      show S 5 [some (.ref x), some (.int (Int32.ofInt (i : Int))), some (.int (Int32.ofInt e2)), none] [.int (Int32.ofInt (0 : Int)), .ref x] _ _ _
      refine hs 3 _ rfl _ _ _ _ _ _ _ rfl ?_
      refine zw_c (hs 4 _ rfl) (a := [.ref x, .int (Int32.ofInt (0 : Int)), .int (Int32.ofInt (1 : Int))]) (st := []) rfl rfl (Nat.le_of_ble_eq_true rfl) ⟨_, _, _, rfl, a1_, a2_.1⟩ (by omega) (by omega) (zm_start_M g hX (i_ := 0) (w_ := 1) (Or.inl rfl) (by decide) (fun y_ => absurd y_ (by decide)) (fun y_ h2_ f2_ x2_ => ?_))
      have ok1_ := hok.2.1.1
      obtain ⟨t_, qn_, tn_, ql_, qb_, vn_, s1_, ⟨b1_, b2_, b3_⟩, ⟨d1_, d2_⟩, up_⟩ := x2_.numL
      obtain ⟨v_, hvv_⟩ : ∃ v_, vn_[i]? = some v_ := ⟨_, List.getElem?_eq_getElem (by omega)⟩
      have gzv_ : c.2.1[i]? = some (c.2.1.getD i 0) := sb_ge (by omega)
      obtain ⟨nt_, nd_, ntd_, nb_, nds_, n1_, n2_, n3_, n4_, n5_⟩ := d2_ _ _ _ hvv_ gzv_
      have nl_ : nds_.length ≤ 36 := zm_len n5_ (hok.get (by omega))
      show S 9 [some (.ref x), some (.int (Int32.ofInt (i : Int))), some (.int (Int32.ofInt e2)), none] [.int (Int32.ofInt (0 : Int))] _ _ _
      refine hs 5 _ rfl _ _ _ _ _ _ (fun zq => absurd (hd_c1z (c := 1) (by omega) (by omega) zq) (by omega : ¬ ((0 : Int) ≠ 0))) (fun _ => ?_)
      refine hs 6 _ rfl _ _ _ _ _ _ _ rfl ?_
      refine hs 7 _ rfl _ _ _ _ _ _ _ rfl ?_
      refine hs 8 _ rfl _ _ _ _ _ _ _ rfl ?_
      refine hs 9 _ rfl _ _ _ _ _ _ _ rfl ?_
      refine zw_c (hs 10 _ rfl) (a := [.int (Int32.ofInt e2), .int (Int32.ofInt (0 : Int)), .int (Int32.ofInt (999999999 : Int))]) (st := [.ref x]) rfl rfl (Nat.le_of_ble_eq_true rfl) trivial (by omega) (by omega) (zm_isIn_M g (v := e2) (a := 0) (b := 999999999) (by omega) (by omega) (by omega) (by omega) (by omega) (by omega) (fun y_ => ?_) (fun y_ => absurd (by omega) y_))
      show S 20 [some (.ref x), some (.int (Int32.ofInt (i : Int))), some (.int (Int32.ofInt e2)), none] [.int (Int32.ofInt (1 : Int)), .ref x] _ _ _
      refine hs 11 _ rfl _ _ _ _ _ _ (fun _ => ?_) (fun zq => absurd (hd_c1t (c := 1) (by omega) (by omega) (by omega : (1 : Int) ≠ 0)) zq)
      refine hs 14 _ rfl _ _ _ _ _ _ _ rfl ?_
      refine hs 15 _ rfl _ _ _ _ _ _ _ rfl ?_
      refine zw_c (hs 16 _ rfl) (a := [.ref x, .int (Int32.ofInt (0 : Int)), .int (Int32.ofInt (2 : Int))]) (st := []) rfl rfl (Nat.le_of_ble_eq_true rfl) ⟨_, _, _, rfl, x2_.1, a2_.1⟩ (by omega) (by omega) (zm_refuse_M g x2_ (i_ := 0) (w_ := 2) (Or.inl rfl) (by decide) (fun y_ => absurd y_ (by decide)) (fun y_ => ?_))
      show S 32 [some (.ref x), some (.int (Int32.ofInt (i : Int))), some (.int (Int32.ofInt e2)), none] [.int (Int32.ofInt (0 : Int))] _ _ _
      refine hs 17 _ rfl _ _ _ _ _ _ (fun _ => ?_) (fun zq => absurd (hd_c1t (c := 0) (by omega) (by omega) (by omega : (0 : Int) = 0)) zq)
      refine hs 20 _ rfl _ _ _ _ _ _ _ rfl ?_
      refine hs 21 _ rfl _ _ _ _ _ _ _ _ _ (x2_.1) a2_.1 rfl ?_
      refine hs 22 _ rfl _ _ _ _ _ _ _ _ _ (s1_.1) s1_.2 rfl ?_
      refine hs 23 _ rfl _ _ _ _ _ _ _ rfl ?_
      refine zw_Ar (hs 24 _ rfl) (b1_) (by first | rfl | (rw [b2_]; rfl)) (j := i) (by omega) (by omega) (zm_nv hvv_) ?_
      refine hs 25 _ rfl _ _ _ _ _ _ _ rfl ?_
      refine zw_cm (hs 26 _ rfl) (a := [.long (Int64.ofInt (1000000000 : Int))]) (st := [.ref v_]) 3 42 rfl rfl (Nat.le_of_ble_eq_true rfl) trivial (by omega) (by omega) (zn_of_M g (v := 1000000000) (by omega) (by omega) (by omega) (by omega) fun h3_ q3_ g3_ z3_ => ?_)
      obtain ⟨pt_, pd_, ptd_, pb_, pds_, p1_, p2_, p3_, p4_, p5_⟩ := id z3_
      have pl_ : pds_.length ≤ 10 := zm_big p5_ (by decide) (by decide)
      have m1_ := g3_.2 _ _ n1_
      have m3_ := g3_.2 _ _ n3_
      show S 52 [some (.ref x), some (.int (Int32.ofInt (i : Int))), some (.int (Int32.ofInt e2)), none] [.ref q3_, .ref v_] _ _ _
      refine zw_cm (hs 27 _ rfl) (a := [.ref v_, .ref q3_]) (st := []) 3 148 rfl rfl (Nat.le_of_ble_eq_true rfl) ⟨_, _, _, rfl, m1_, n2_⟩ (by omega) (by omega) (zn_times_M g m1_ n2_ m3_ n4_ n5_ p1_ p2_ p3_ p4_ p5_ (by omega) (by omega) (by omega) (by omega) fun h4_ q4_ g4_ z4_ => ?_)
      show S 55 [some (.ref x), some (.int (Int32.ofInt (i : Int))), some (.int (Int32.ofInt e2)), none] [.ref q4_] _ _ _
      refine hs 28 _ rfl _ _ _ _ _ _ _ rfl ?_
      refine hs 29 _ rfl _ _ _ _ _ _ _ (hd_i2l (by omega) (by omega)) ?_
      refine zw_cm (hs 30 _ rfl) (a := [.long (Int64.ofInt e2)]) (st := [.ref q4_]) 3 42 rfl rfl (Nat.le_of_ble_eq_true rfl) trivial (by omega) (by omega) (zn_of_M g (v := e2) (by omega) (by omega) (by omega) (by omega) fun h5_ q5_ g5_ z5_ => ?_)
      have z4b_ := z4_.g g5_
      obtain ⟨ut_, ud_, utd_, ub_, uds_, u1_, u2_, u3_, u4_, u5_⟩ := id z4b_
      obtain ⟨wt_, wd_, wtd_, wb_, wds_, w1_, w2_, w3_, w4_, w5_⟩ := id z5_
      have ia_ : sp_in (c.2.1.getD i 0) := hok.get hi
      unfold sp_in at ia_
      have ul_ : uds_.length ≤ 46 := zm_big u5_ (by decide) (by rw [show (10 : Int) ^ 46 = 10000000000000000000000000000000000000000000000 from by decide]; omega)
      have wl_ : wds_.length ≤ 10 := zm_big w5_ (by decide) (by rw [show (10 : Int) ^ 10 = 10000000000 from by decide]; omega)
      show S 60 [some (.ref x), some (.int (Int32.ofInt (i : Int))), some (.int (Int32.ofInt e2)), none] [.ref q5_, .ref q4_] _ _ _
      refine zw_cm (hs 31 _ rfl) (a := [.ref q4_, .ref q5_]) (st := []) 3 164 rfl rfl (Nat.le_of_ble_eq_true rfl) ⟨_, _, _, rfl, u1_, u2_⟩ (by omega) (by omega) (zn_plus_M g u1_ u2_ u3_ u4_ u5_ w1_ w2_ w3_ w4_ w5_ (M := max uds_.length wds_.length) (by omega) (by omega) (by omega) (by omega) (by omega) (by omega) fun h6_ q6_ g6_ z6_ => ?_)
      show S 63 [some (.ref x), some (.int (Int32.ofInt (i : Int))), some (.int (Int32.ofInt e2)), none] [.ref q6_] _ _ _
      have x6_ := (((x2_.g g3_ fun _ _ => rfl).g g4_ fun _ _ => rfl).g g5_ fun _ _ => rfl).g g6_ fun _ _ => rfl
      obtain ⟨rt_, rd_, rtd_, rb_, rds_, r1_, r2_, r3_, r4_, r5_⟩ := id z6_
      have hb_ : ((c.2.1.getD i 0 * 1000000000 + e2).natAbs : Int) < 10 ^ 72 := by
        rw [show (10 : Int) ^ 72 = 1000000000000000000000000000000000000000000000000000000000000000000000000 from by decide]
        omega
      have rl_ : rds_.length ≤ 72 := zm_big r5_ (by decide) hb_
      have md_ := zm_dg r5_
      have mu_ := md_.le (n := 72) (by decide) hb_
      refine hs 32 _ rfl _ _ _ _ _ _ _ rfl ?_
      refine hs 33 _ rfl _ _ _ _ _ _ _ rfl ?_
      refine hs 34 _ rfl _ _ _ _ _ _ _ rfl ?_
      refine zw_c (hs 35 _ rfl) (a := [.ref q6_]) (st := [.ref x]) rfl rfl (Nat.le_of_ble_eq_true rfl) ⟨_, _, _, rfl, r1_, r2_⟩ (by omega) (by omega) (zn_many_M g r1_ r2_ r3_ r4_ r5_ (by omega) ?_)
      show S 69 [some (.ref x), some (.int (Int32.ofInt (i : Int))), some (.int (Int32.ofInt e2)), some (.ref q6_)] [.int (Int32.ofInt ((if rds_.length = 0 then 1 else rds_.length : Nat) : Int)), .ref x] _ _ _
      by_cases c2_ : sp_in (c.2.1.getD i 0 * 1000000000 + e2)
      · have ml_ := md_.le (n := 36) (by decide) (sp_in.abs.mp c2_)
        refine hs 36 _ rfl _ _ _ _ _ _ _ rfl ?_
        refine hs 37 _ rfl _ _ _ _ _ _ _ (fun _ => ?_) (fun zq => absurd (hd_c2t (c := 5) (by omega) (by omega) (by omega) (by omega) (by omega : (((if rds_.length = 0 then 1 else rds_.length : Nat) : Int) - (36 : Int)) ≤ 0)) zq)
        refine hs 40 _ rfl _ _ _ _ _ _ _ rfl ?_
        refine hs 41 _ rfl _ _ _ _ _ _ _ rfl ?_
        refine zw_c (hs 42 _ rfl) (a := [.ref x, .int (Int32.ofInt (0 : Int)), .int (Int32.ofInt (3 : Int))]) (st := []) rfl rfl (Nat.le_of_ble_eq_true rfl) ⟨_, _, _, rfl, x6_.1, a2_.1⟩ (by omega) (by omega) (zm_refuse_M g x6_ (i_ := 0) (w_ := 3) (Or.inl rfl) (by decide) (fun y_ => absurd y_ (by decide)) (fun y_ => ?_))
        show S 83 [some (.ref x), some (.int (Int32.ofInt (i : Int))), some (.int (Int32.ofInt e2)), some (.ref q6_)] [.int (Int32.ofInt (0 : Int))] _ _ _
        refine hs 43 _ rfl _ _ _ _ _ _ (fun _ => ?_) (fun zq => absurd (hd_c1t (c := 0) (by omega) (by omega) (by omega : (0 : Int) = 0)) zq)
        refine hs 46 _ rfl _ _ _ _ _ _ _ rfl ?_
        refine hs 47 _ rfl _ _ _ _ _ _ _ rfl ?_
        refine hs 48 _ rfl _ _ _ _ _ _ _ rfl ?_
        refine zw_cm (hs 49 _ rfl) (a := [.ref x, .int (Int32.ofInt (i : Int)), .ref q6_]) (st := []) 14 69 rfl rfl (Nat.le_of_ble_eq_true rfl) (zm_rc x6_) (by omega) (by omega) (zm_put_M g x6_ hok hp12 rfl hi z6_ c2_ (by omega) (by omega) fun h7_ d_ f7_ x7_ dg_ => ?_)
        show S 96 [some (.ref x), some (.int (Int32.ofInt (i : Int))), some (.int (Int32.ofInt e2)), some (.ref q6_)] [.int (Int32.ofInt (d_ : Int))] _ _ _
        exact hs 50 _ rfl _ _ _ _ _ (rv _) (by omega) (by omega) (hP _ _ _ _ (Or.inl ⟨c1_, Or.inl ⟨c3_, Or.inl ⟨c2_, rfl, rfl, d_, rfl, dg_⟩⟩⟩) ((f2_.tr (((zm_fr.g g3_).tr (zm_fr.g g4_)).tr ((zm_fr.g g5_).tr (zm_fr.g g6_)))).tr f7_) x7_)
      · have ml_ := md_.gt (n := 36) (fun y_ => c2_ (sp_in.abs.mpr y_))
        refine hs 36 _ rfl _ _ _ _ _ _ _ rfl ?_
        refine hs 37 _ rfl _ _ _ _ _ _ _ (fun zq => absurd (hd_c2z (c := 5) (by omega) (by omega) (by omega) (by omega) zq) (by omega : ¬ ((((if rds_.length = 0 then 1 else rds_.length : Nat) : Int) - (36 : Int)) ≤ 0))) (fun _ => ?_)
        refine hs 38 _ rfl _ _ _ _ _ _ _ rfl ?_
        refine hs 39 _ rfl _ _ _ _ _ ?_
        refine hs 41 _ rfl _ _ _ _ _ _ _ rfl ?_
        refine zw_c (hs 42 _ rfl) (a := [.ref x, .int (Int32.ofInt (1 : Int)), .int (Int32.ofInt (3 : Int))]) (st := []) rfl rfl (Nat.le_of_ble_eq_true rfl) ⟨_, _, _, rfl, x6_.1, a2_.1⟩ (by omega) (by omega) (zm_refuse_M g x6_ (i_ := 1) (w_ := 3) (Or.inr rfl) (by decide) (fun y_ h7_ f7_ x7_ => ?_) (fun y_ => absurd y_ (by decide)))
        show S 83 [some (.ref x), some (.int (Int32.ofInt (i : Int))), some (.int (Int32.ofInt e2)), some (.ref q6_)] [.int (Int32.ofInt (1 : Int))] _ _ _
        refine hs 43 _ rfl _ _ _ _ _ _ (fun zq => absurd (hd_c1z (c := 0) (by omega) (by omega) zq) (by omega : ¬ ((1 : Int) = 0))) (fun _ => ?_)
        refine hs 44 _ rfl _ _ _ _ _ _ _ rfl ?_
        refine hs 45 _ rfl _ _ _ _ _ ?_
        exact hs 50 _ rfl _ _ _ _ _ (rv _) (by omega) (by omega) (hP _ _ _ _ (Or.inl ⟨c1_, Or.inl ⟨c3_, Or.inr ⟨c2_, rfl, rfl⟩⟩⟩) ((f2_.tr (((zm_fr.g g3_).tr (zm_fr.g g4_)).tr ((zm_fr.g g5_).tr (zm_fr.g g6_)))).tr f7_) ⟨_, _, _, _, x7_⟩)
set_option maxHeartbeats 4000000 in
theorem zm_negate_M {l : Launch} {G : am_G} {X : ck_XT} (g : gM l G X) {o : Nat → Nat} {x tx now qw : Nat} {th j m k : Int} {c : sp_S} {P : List sp_S} {h : List am_C} (hX : zm_x G h o x tx now qw th j m k c P) (hok : sp_ok c) (hp12 : P.length ≤ 12) {e e2 : Int} (he1 : -2147483648 ≤ e) (he2 : e ≤ 2147483647) {mc ms : Nat} {Post : am_O → List am_C → Prop} (hmc : 16 ≤ mc) (hms : 107 ≤ ms)
    (hP : ∀ (a th : Int) (T' : sp_T) (h' : List am_C), sp_d5 e e2 (c, P, j, m, k) a th T' → zm_fr G h h' → zm_Y G h' x th T' → Post (.inl (some (.int (Int32.ofInt a)))) h') :
    am_M l G yX14_negate (.code yX14_negate prog_14_method_16_code 2 (some .int)) 12 316 mc ms [.ref x, .int (Int32.ofInt e)] h Post := by
  refine gh_yX14_negate_X g (Nat.le_of_ble_eq_true rfl) fun S SX hs hr hw hx => ?_
  have rv : ∀ x : Int32, ck_fv 0 (.int x) := fun x => ⟨_, rfl⟩
  obtain ⟨a1_, a2_, a3_, a4_⟩ := id hX
  by_cases c1_ : sp_s1 e
  rotate_left
  · have c1b_ : ¬ (0 ≤ e ∧ e < 6) := c1_
    refine hs 0 _ rfl _ _ _ _ _ _ _ rfl ?_
    refine hs 1 _ rfl _ _ _ _ _ _ _ rfl ?_
    refine zw_c (hs 2 _ rfl) (a := [.int (Int32.ofInt e)]) (st := [.ref x]) rfl rfl (Nat.le_of_ble_eq_true rfl) trivial (by omega) (by omega) (zm_noSlot_M g (e := e) (by omega) (by omega) (fun y_ => ?_) (fun y_ => absurd y_ (by omega)))
    show S 5 [some (.ref x), some (.int (Int32.ofInt e))] [.int (Int32.ofInt (1 : Int)), .ref x] _ _ _
    refine hs 3 _ rfl _ _ _ _ _ _ _ rfl ?_
    refine zw_c (hs 4 _ rfl) (a := [.ref x, .int (Int32.ofInt (1 : Int)), .int (Int32.ofInt (1 : Int))]) (st := []) rfl rfl (Nat.le_of_ble_eq_true rfl) ⟨_, _, _, rfl, a1_, a2_.1⟩ (by omega) (by omega) (zm_start_M g hX (i_ := 1) (w_ := 1) (Or.inr rfl) (by decide) (fun y_ h2_ f2_ x2_ => ?_) (fun y_ => absurd y_ (by decide)))
    show S 9 [some (.ref x), some (.int (Int32.ofInt e))] [.int (Int32.ofInt (1 : Int))] _ _ _
    refine hs 5 _ rfl _ _ _ _ _ _ (fun zq => absurd (hd_c1z (c := 0) (by omega) (by omega) zq) (by omega : ¬ ((1 : Int) = 0))) (fun _ => ?_)
    refine hs 6 _ rfl _ _ _ _ _ _ _ rfl ?_
    exact hs 7 _ rfl _ _ _ _ _ (rv _) (by omega) (by omega) (hP 0 _ _ _ (Or.inr ⟨c1_, rfl, rfl⟩) f2_ ⟨_, _, _, _, x2_⟩)
  · 
    obtain ⟨i, rfl⟩ : ∃ i : Nat, e = (i : Int) := ⟨e.toNat, by have := c1_.1; omega⟩
    have hi : i < 6 := by have := c1_.2; omega
    have c1b_ := c1_.1
    have c1c_ := c1_.2
    refine hs 0 _ rfl _ _ _ _ _ _ _ rfl ?_
    refine hs 1 _ rfl _ _ _ _ _ _ _ rfl ?_
    refine zw_c (hs 2 _ rfl) (a := [.int (Int32.ofInt (i : Int))]) (st := [.ref x]) rfl rfl (Nat.le_of_ble_eq_true rfl) trivial (by omega) (by omega) (zm_noSlot_M g (e := (i : Int)) (by omega) (by omega) (fun y_ => absurd (by omega) y_) (fun y_ => ?_))
    show S 5 [some (.ref x), some (.int (Int32.ofInt (i : Int)))] [.int (Int32.ofInt (0 : Int)), .ref x] _ _ _
    refine hs 3 _ rfl _ _ _ _ _ _ _ rfl ?_
    refine zw_c (hs 4 _ rfl) (a := [.ref x, .int (Int32.ofInt (0 : Int)), .int (Int32.ofInt (1 : Int))]) (st := []) rfl rfl (Nat.le_of_ble_eq_true rfl) ⟨_, _, _, rfl, a1_, a2_.1⟩ (by omega) (by omega) (zm_start_M g hX (i_ := 0) (w_ := 1) (Or.inl rfl) (by decide) (fun y_ => absurd y_ (by decide)) (fun y_ h2_ f2_ x2_ => ?_))
    have ok1_ := hok.2.1.1
    obtain ⟨t_, qn_, tn_, ql_, qb_, vn_, s1_, ⟨b1_, b2_, b3_⟩, ⟨d1_, d2_⟩, up_⟩ := x2_.numL
    obtain ⟨v_, hvv_⟩ : ∃ v_, vn_[i]? = some v_ := ⟨_, List.getElem?_eq_getElem (by omega)⟩
    have gzv_ : c.2.1[i]? = some (c.2.1.getD i 0) := sb_ge (by omega)
    obtain ⟨nt_, nd_, ntd_, nb_, nds_, n1_, n2_, n3_, n4_, n5_⟩ := d2_ _ _ _ hvv_ gzv_
    have nl_ : nds_.length ≤ 36 := zm_len n5_ (hok.get (by omega))
    have ia_ : sp_in (c.2.1.getD i 0) := hok.get hi
    have in_ : sp_in (-(c.2.1.getD i 0)) := by unfold sp_in at ia_ ⊢; omega
    show S 9 [some (.ref x), some (.int (Int32.ofInt (i : Int)))] [.int (Int32.ofInt (0 : Int))] _ _ _
    refine hs 5 _ rfl _ _ _ _ _ _ (fun _ => ?_) (fun zq => absurd (hd_c1t (c := 0) (by omega) (by omega) (by omega : (0 : Int) = 0)) zq)
    refine hs 8 _ rfl _ _ _ _ _ _ _ rfl ?_
    refine hs 9 _ rfl _ _ _ _ _ _ _ rfl ?_
    refine hs 10 _ rfl _ _ _ _ _ _ _ rfl ?_
    refine hs 11 _ rfl _ _ _ _ _ _ _ _ _ (x2_.1) a2_.1 rfl ?_
    refine hs 12 _ rfl _ _ _ _ _ _ _ _ _ (s1_.1) s1_.2 rfl ?_
    refine hs 13 _ rfl _ _ _ _ _ _ _ rfl ?_
    refine zw_Ar (hs 14 _ rfl) (b1_) (by first | rfl | (rw [b2_]; rfl)) (j := i) (by omega) (by omega) (zm_nv hvv_) ?_
    refine zw_cm (hs 15 _ rfl) (a := [.ref v_]) (st := [.int (Int32.ofInt (i : Int)), .ref x]) 2 38 rfl rfl (Nat.le_of_ble_eq_true rfl) ⟨_, _, _, rfl, n1_, n2_⟩ (by omega) (by omega) (zn_turned_M g n1_ n2_ n3_ n4_ n5_ (by omega) (by omega) (by omega) fun h3_ q3_ g3_ z3_ => ?_)
    show S 28 [some (.ref x), some (.int (Int32.ofInt (i : Int)))] [.ref q3_, .int (Int32.ofInt (i : Int)), .ref x] _ _ _
    refine zw_cm (hs 16 _ rfl) (a := [.ref x, .int (Int32.ofInt (i : Int)), .ref q3_]) (st := []) 14 69 rfl rfl (Nat.le_of_ble_eq_true rfl) (zm_rc (x2_.g g3_ fun _ _ => rfl)) (by omega) (by omega) (zm_put_M g (x2_.g g3_ fun _ _ => rfl) hok hp12 rfl hi z3_ in_ (by omega) (by omega) fun h4_ d_ f4_ x4_ dg_ => ?_)
    show S 31 [some (.ref x), some (.int (Int32.ofInt (i : Int)))] [.int (Int32.ofInt (d_ : Int))] _ _ _
    refine hs 17 _ rfl _ _ _ _ _ _ _ rfl ?_
    obtain ⟨o5_, tx5_, now5_, qw5_, x5_⟩ := id x4_
    obtain ⟨t_, qn_, tn_, ql_, qb_, vn_, s1_, ⟨b1_, b2_, b3_⟩, ⟨d1_, d2_⟩, up_⟩ := x5_.numL
    have d1_ : vn_.length = (c.2.1.set i (-(c.2.1.getD i 0))).length := d1_
    rw [List.length_set] at d1_
    obtain ⟨v9_, hv9_⟩ : ∃ v_, vn_[i]? = some v_ := ⟨_, List.getElem?_eq_getElem (by omega)⟩
    obtain ⟨rt_, rd_, rtd_, rb_, rds_, r1_, r2_, r3_, r4_, r5_⟩ := d2_ i v9_ (-(c.2.1.getD i 0)) hv9_ (List.getElem?_set_self (by omega))
    have rl_ : rds_.length ≤ 36 := zm_len r5_ in_
    refine hs 18 _ rfl _ _ _ _ _ _ _ rfl ?_
    refine hs 19 _ rfl _ _ _ _ _ _ _ _ _ (x5_.1) x5_.2.1.1 rfl ?_
    refine hs 20 _ rfl _ _ _ _ _ _ _ _ _ (s1_.1) s1_.2 rfl ?_
    refine hs 21 _ rfl _ _ _ _ _ _ _ rfl ?_
    refine zw_Ar (hs 22 _ rfl) (b1_) (by first | rfl | (rw [b2_]; rfl)) (j := i) (by omega) (by omega) (zm_nv hv9_) ?_
    refine zw_c (hs 23 _ rfl) (a := [.ref v9_]) (st := []) rfl rfl (Nat.le_of_ble_eq_true rfl) ⟨_, _, _, rfl, r1_, r2_⟩ (by omega) (by omega) (zn_sign_M g r1_ r2_ r3_ r4_ r5_ (by omega) ?_)
    show S 44 [some (.ref x), some (.int (Int32.ofInt (i : Int)))] [.int (Int32.ofInt ((-(c.2.1.getD i 0)).sign))] _ _ _
    rw [Int.sign_neg]
    exact hs 24 _ rfl _ _ _ _ _ (rv _) (by omega) (by omega) (hP _ _ _ _ (Or.inl ⟨c1_, rfl, rfl, rfl⟩) ((f2_.tr (zm_fr.g g3_)).tr f4_) x4_)
set_option maxHeartbeats 4000000 in
theorem zm_reduce_M {l : Launch} {G : am_G} {X : ck_XT} (g : gM l G X) {o : Nat → Nat} {x tx now qw : Nat} {th j m k : Int} {c : sp_S} {P : List sp_S} {h : List am_C} (hX : zm_x G h o x tx now qw th j m k c P) (hok : sp_ok c) (hp12 : P.length ≤ 12) {e e2 : Int} (he1 : -2147483648 ≤ e) (he2 : e ≤ 2147483647) {mc ms : Nat} {Post : am_O → List am_C → Prop} (hmc : 17 ≤ mc) (hms : 111 ≤ ms)
    (hP : ∀ (a th : Int) (T' : sp_T) (h' : List am_C), sp_d6 e e2 (c, P, j, m, k) a th T' → zm_fr G h h' → zm_Y G h' x th T' → Post (.inl (some (.int (Int32.ofInt a)))) h') :
    am_M l G yX14_reduce (.code yX14_reduce prog_14_method_20_code 2 (some .int)) 13 338 mc ms [.ref x, .int (Int32.ofInt e)] h Post := by
  refine gh_yX14_reduce_X g (Nat.le_of_ble_eq_true rfl) fun S SX hs hr hw hx => ?_
  have rv : ∀ x : Int32, ck_fv 0 (.int x) := fun x => ⟨_, rfl⟩
  obtain ⟨a1_, a2_, a3_, a4_⟩ := id hX
  by_cases c1_ : sp_s1 e
  rotate_left
  · have c1b_ : ¬ (0 ≤ e ∧ e < 6) := c1_
    refine hs 0 _ rfl _ _ _ _ _ _ _ rfl ?_
    refine hs 1 _ rfl _ _ _ _ _ _ _ rfl ?_
    refine zw_c (hs 2 _ rfl) (a := [.int (Int32.ofInt e)]) (st := [.ref x]) rfl rfl (Nat.le_of_ble_eq_true rfl) trivial (by omega) (by omega) (zm_noSlot_M g (e := e) (by omega) (by omega) (fun y_ => ?_) (fun y_ => absurd y_ (by omega)))
    show S 5 [some (.ref x), some (.int (Int32.ofInt e))] [.int (Int32.ofInt (1 : Int)), .ref x] _ _ _
    refine hs 3 _ rfl _ _ _ _ _ _ _ rfl ?_
    refine zw_c (hs 4 _ rfl) (a := [.ref x, .int (Int32.ofInt (1 : Int)), .int (Int32.ofInt (1 : Int))]) (st := []) rfl rfl (Nat.le_of_ble_eq_true rfl) ⟨_, _, _, rfl, a1_, a2_.1⟩ (by omega) (by omega) (zm_start_M g hX (i_ := 1) (w_ := 1) (Or.inr rfl) (by decide) (fun y_ h2_ f2_ x2_ => ?_) (fun y_ => absurd y_ (by decide)))
    show S 9 [some (.ref x), some (.int (Int32.ofInt e))] [.int (Int32.ofInt (1 : Int))] _ _ _
    refine hs 5 _ rfl _ _ _ _ _ _ (fun zq => absurd (hd_c1z (c := 0) (by omega) (by omega) zq) (by omega : ¬ ((1 : Int) = 0))) (fun _ => ?_)
    refine hs 6 _ rfl _ _ _ _ _ _ _ rfl ?_
    refine hs 7 _ rfl _ _ _ _ _ ?_
    exact hs 14 _ rfl _ _ _ _ _ (rv _) (by omega) (by omega) (hP 0 _ _ _ (Or.inr ⟨c1_, rfl, rfl⟩) f2_ ⟨_, _, _, _, x2_⟩)
  · 
    obtain ⟨i, rfl⟩ : ∃ i : Nat, e = (i : Int) := ⟨e.toNat, by have := c1_.1; omega⟩
    have hi : i < 6 := by have := c1_.2; omega
    have c1b_ := c1_.1
    have c1c_ := c1_.2
    have okd_ := hok.1
    by_cases cj_ : c.1 ≤ 0
    · 
      refine hs 0 _ rfl _ _ _ _ _ _ _ rfl ?_
      refine hs 1 _ rfl _ _ _ _ _ _ _ rfl ?_
      refine zw_c (hs 2 _ rfl) (a := [.int (Int32.ofInt (i : Int))]) (st := [.ref x]) rfl rfl (Nat.le_of_ble_eq_true rfl) trivial (by omega) (by omega) (zm_noSlot_M g (e := (i : Int)) (by omega) (by omega) (fun y_ => absurd (by omega) y_) (fun y_ => ?_))
      show S 5 [some (.ref x), some (.int (Int32.ofInt (i : Int)))] [.int (Int32.ofInt (0 : Int)), .ref x] _ _ _
      refine hs 3 _ rfl _ _ _ _ _ _ _ rfl ?_
      refine zw_c (hs 4 _ rfl) (a := [.ref x, .int (Int32.ofInt (0 : Int)), .int (Int32.ofInt (1 : Int))]) (st := []) rfl rfl (Nat.le_of_ble_eq_true rfl) ⟨_, _, _, rfl, a1_, a2_.1⟩ (by omega) (by omega) (zm_start_M g hX (i_ := 0) (w_ := 1) (Or.inl rfl) (by decide) (fun y_ => absurd y_ (by decide)) (fun y_ h2_ f2_ x2_ => ?_))
      show S 9 [some (.ref x), some (.int (Int32.ofInt (i : Int)))] [.int (Int32.ofInt (0 : Int))] _ _ _
      refine hs 5 _ rfl _ _ _ _ _ _ (fun _ => ?_) (fun zq => absurd (hd_c1t (c := 0) (by omega) (by omega) (by omega : (0 : Int) = 0)) zq)
      refine hs 8 _ rfl _ _ _ _ _ _ _ rfl ?_
      refine hs 9 _ rfl _ _ _ _ _ _ _ rfl ?_
      refine hs 10 _ rfl _ _ _ _ _ _ _ rfl ?_
      refine hs 11 _ rfl _ _ _ _ _ _ _ rfl ?_
      refine zw_c (hs 12 _ rfl) (a := [.ref x, .int (Int32.ofInt (i : Int))]) (st := [.int (Int32.ofInt (i : Int)), .ref x]) rfl rfl (Nat.le_of_ble_eq_true rfl) (zm_rc x2_) (by omega) (by omega) (zm_modAt_M g x2_ hok rfl hi (fun y_ => ?_) (fun y_ => absurd y_ (by omega)))
      show S 23 [some (.ref x), some (.int (Int32.ofInt (i : Int)))] [.int (Int32.ofInt (-9 : Int)), .int (Int32.ofInt (i : Int)), .ref x] _ _ _
      refine zw_cm (hs 13 _ rfl) (a := [.ref x, .int (Int32.ofInt (i : Int)), .int (Int32.ofInt (-9 : Int))]) (st := []) 17 111 rfl rfl (Nat.le_of_ble_eq_true rfl) (zm_rc x2_) (by omega) (by omega) (zm_round_M g x2_ hok hp12 rfl hi (Or.inl rfl) (by omega) (by omega) (by omega) (fun y_ h4_ f4_ x4_ => ?_) (fun y_ => absurd y_ (by decide)) (fun y_ => absurd y_ (by decide)))
      show S 26 [some (.ref x), some (.int (Int32.ofInt (i : Int)))] [.int (Int32.ofInt (-9 : Int))] _ _ _
      exact hs 14 _ rfl _ _ _ _ _ (rv _) (by omega) (by omega) (hP _ _ _ _ (Or.inl ⟨c1_, rfl, Or.inl ⟨cj_, rfl, rfl⟩⟩) (f2_.tr f4_) ⟨_, _, _, _, x4_⟩)
    · have cp_ : 0 < c.1 := by omega
      have hm9_ : c.1 ≠ 0 := by omega
      have q1_ := Int.emod_nonneg (c.2.1.getD i 0) hm9_
      have q2_ := Int.emod_lt_of_pos (c.2.1.getD i 0) (show 0 < c.1 by omega)
      refine hs 0 _ rfl _ _ _ _ _ _ _ rfl ?_
      refine hs 1 _ rfl _ _ _ _ _ _ _ rfl ?_
      refine zw_c (hs 2 _ rfl) (a := [.int (Int32.ofInt (i : Int))]) (st := [.ref x]) rfl rfl (Nat.le_of_ble_eq_true rfl) trivial (by omega) (by omega) (zm_noSlot_M g (e := (i : Int)) (by omega) (by omega) (fun y_ => absurd (by omega) y_) (fun y_ => ?_))
      show S 5 [some (.ref x), some (.int (Int32.ofInt (i : Int)))] [.int (Int32.ofInt (0 : Int)), .ref x] _ _ _
      refine hs 3 _ rfl _ _ _ _ _ _ _ rfl ?_
      refine zw_c (hs 4 _ rfl) (a := [.ref x, .int (Int32.ofInt (0 : Int)), .int (Int32.ofInt (1 : Int))]) (st := []) rfl rfl (Nat.le_of_ble_eq_true rfl) ⟨_, _, _, rfl, a1_, a2_.1⟩ (by omega) (by omega) (zm_start_M g hX (i_ := 0) (w_ := 1) (Or.inl rfl) (by decide) (fun y_ => absurd y_ (by decide)) (fun y_ h2_ f2_ x2_ => ?_))
      show S 9 [some (.ref x), some (.int (Int32.ofInt (i : Int)))] [.int (Int32.ofInt (0 : Int))] _ _ _
      refine hs 5 _ rfl _ _ _ _ _ _ (fun _ => ?_) (fun zq => absurd (hd_c1t (c := 0) (by omega) (by omega) (by omega : (0 : Int) = 0)) zq)
      refine hs 8 _ rfl _ _ _ _ _ _ _ rfl ?_
      refine hs 9 _ rfl _ _ _ _ _ _ _ rfl ?_
      refine hs 10 _ rfl _ _ _ _ _ _ _ rfl ?_
      refine hs 11 _ rfl _ _ _ _ _ _ _ rfl ?_
      refine zw_c (hs 12 _ rfl) (a := [.ref x, .int (Int32.ofInt (i : Int))]) (st := [.int (Int32.ofInt (i : Int)), .ref x]) rfl rfl (Nat.le_of_ble_eq_true rfl) (zm_rc x2_) (by omega) (by omega) (zm_modAt_M g x2_ hok rfl hi (fun y_ => absurd y_ (by omega)) (fun y_ => ?_))
      show S 23 [some (.ref x), some (.int (Int32.ofInt (i : Int)))] [.int (Int32.ofInt (c.2.1.getD i 0 % c.1)), .int (Int32.ofInt (i : Int)), .ref x] _ _ _
      refine zw_cm (hs 13 _ rfl) (a := [.ref x, .int (Int32.ofInt (i : Int)), .int (Int32.ofInt (c.2.1.getD i 0 % c.1))]) (st := []) 17 111 rfl rfl (Nat.le_of_ble_eq_true rfl) (zm_rc x2_) (by omega) (by omega) (zm_round_M g x2_ hok hp12 rfl hi (Or.inr (Or.inr (by omega))) (by omega) (by omega) (by omega) (fun y_ => absurd y_ (by omega)) (fun y_ => absurd y_ (by omega)) (fun y_ h4_ f4_ x4_ => ?_))
      show S 26 [some (.ref x), some (.int (Int32.ofInt (i : Int)))] [.int (Int32.ofInt (c.2.1.getD i 0 % c.1))] _ _ _
      exact hs 14 _ rfl _ _ _ _ _ (rv _) (by omega) (by omega) (hP _ _ _ _ (Or.inl ⟨c1_, rfl, Or.inr ⟨cp_, rfl, Or.inr ⟨by omega, rfl⟩⟩⟩) (f2_.tr f4_) x4_)
set_option maxHeartbeats 4000000 in
theorem zm_roundInverse_M {l : Launch} {G : am_G} {X : ck_XT} (g : gM l G X) {o : Nat → Nat} {x tx now qw : Nat} {th j m k : Int} {c : sp_S} {P : List sp_S} {h : List am_C} (hX : zm_x G h o x tx now qw th j m k c P) (hok : sp_ok c) (hp12 : P.length ≤ 12) {e e2 : Int} (he1 : -2147483648 ≤ e) (he2 : e ≤ 2147483647) {mc ms : Nat} {Post : am_O → List am_C → Prop} (hmc : 17 ≤ mc) (hms : 111 ≤ ms)
    (hP : ∀ (a th : Int) (T' : sp_T) (h' : List am_C), sp_d10 e e2 (c, P, j, m, k) a th T' → zm_fr G h h' → zm_Y G h' x th T' → Post (.inl (some (.int (Int32.ofInt a)))) h') :
    am_M l G yX14_roundInverse (.code yX14_roundInverse prog_14_method_26_code 2 (some .int)) 13 338 mc ms [.ref x, .int (Int32.ofInt e)] h Post := by
  refine gh_yX14_roundInverse_X g (Nat.le_of_ble_eq_true rfl) fun S SX hs hr hw hx => ?_
  have rv : ∀ x : Int32, ck_fv 0 (.int x) := fun x => ⟨_, rfl⟩
  obtain ⟨a1_, a2_, a3_, a4_⟩ := id hX
  by_cases c1_ : sp_s1 e
  rotate_left
  · have c1b_ : ¬ (0 ≤ e ∧ e < 6) := c1_
    refine hs 0 _ rfl _ _ _ _ _ _ _ rfl ?_
    refine hs 1 _ rfl _ _ _ _ _ _ _ rfl ?_
    refine zw_c (hs 2 _ rfl) (a := [.int (Int32.ofInt e)]) (st := [.ref x]) rfl rfl (Nat.le_of_ble_eq_true rfl) trivial (by omega) (by omega) (zm_noSlot_M g (e := e) (by omega) (by omega) (fun y_ => ?_) (fun y_ => absurd y_ (by omega)))
    show S 5 [some (.ref x), some (.int (Int32.ofInt e))] [.int (Int32.ofInt (1 : Int)), .ref x] _ _ _
    refine hs 3 _ rfl _ _ _ _ _ _ _ rfl ?_
    refine zw_c (hs 4 _ rfl) (a := [.ref x, .int (Int32.ofInt (1 : Int)), .int (Int32.ofInt (1 : Int))]) (st := []) rfl rfl (Nat.le_of_ble_eq_true rfl) ⟨_, _, _, rfl, a1_, a2_.1⟩ (by omega) (by omega) (zm_start_M g hX (i_ := 1) (w_ := 1) (Or.inr rfl) (by decide) (fun y_ h2_ f2_ x2_ => ?_) (fun y_ => absurd y_ (by decide)))
    show S 9 [some (.ref x), some (.int (Int32.ofInt e))] [.int (Int32.ofInt (1 : Int))] _ _ _
    refine hs 5 _ rfl _ _ _ _ _ _ (fun zq => absurd (hd_c1z (c := 0) (by omega) (by omega) zq) (by omega : ¬ ((1 : Int) = 0))) (fun _ => ?_)
    refine hs 6 _ rfl _ _ _ _ _ _ _ rfl ?_
    refine hs 7 _ rfl _ _ _ _ _ ?_
    exact hs 14 _ rfl _ _ _ _ _ (rv _) (by omega) (by omega) (hP 0 _ _ _ (Or.inr ⟨c1_, rfl, rfl⟩) f2_ ⟨_, _, _, _, x2_⟩)
  · 
    obtain ⟨i, rfl⟩ : ∃ i : Nat, e = (i : Int) := ⟨e.toNat, by have := c1_.1; omega⟩
    have hi : i < 6 := by have := c1_.2; omega
    have c1b_ := c1_.1
    have c1c_ := c1_.2
    have okd_ := hok.1
    by_cases cj_ : c.1 ≤ 0
    · 
      refine hs 0 _ rfl _ _ _ _ _ _ _ rfl ?_
      refine hs 1 _ rfl _ _ _ _ _ _ _ rfl ?_
      refine zw_c (hs 2 _ rfl) (a := [.int (Int32.ofInt (i : Int))]) (st := [.ref x]) rfl rfl (Nat.le_of_ble_eq_true rfl) trivial (by omega) (by omega) (zm_noSlot_M g (e := (i : Int)) (by omega) (by omega) (fun y_ => absurd (by omega) y_) (fun y_ => ?_))
      show S 5 [some (.ref x), some (.int (Int32.ofInt (i : Int)))] [.int (Int32.ofInt (0 : Int)), .ref x] _ _ _
      refine hs 3 _ rfl _ _ _ _ _ _ _ rfl ?_
      refine zw_c (hs 4 _ rfl) (a := [.ref x, .int (Int32.ofInt (0 : Int)), .int (Int32.ofInt (1 : Int))]) (st := []) rfl rfl (Nat.le_of_ble_eq_true rfl) ⟨_, _, _, rfl, a1_, a2_.1⟩ (by omega) (by omega) (zm_start_M g hX (i_ := 0) (w_ := 1) (Or.inl rfl) (by decide) (fun y_ => absurd y_ (by decide)) (fun y_ h2_ f2_ x2_ => ?_))
      show S 9 [some (.ref x), some (.int (Int32.ofInt (i : Int)))] [.int (Int32.ofInt (0 : Int))] _ _ _
      refine hs 5 _ rfl _ _ _ _ _ _ (fun _ => ?_) (fun zq => absurd (hd_c1t (c := 0) (by omega) (by omega) (by omega : (0 : Int) = 0)) zq)
      refine hs 8 _ rfl _ _ _ _ _ _ _ rfl ?_
      refine hs 9 _ rfl _ _ _ _ _ _ _ rfl ?_
      refine hs 10 _ rfl _ _ _ _ _ _ _ rfl ?_
      refine hs 11 _ rfl _ _ _ _ _ _ _ rfl ?_
      refine zw_c (hs 12 _ rfl) (a := [.ref x, .int (Int32.ofInt (i : Int))]) (st := [.int (Int32.ofInt (i : Int)), .ref x]) rfl rfl (Nat.le_of_ble_eq_true rfl) (zm_rc x2_) (by omega) (by omega) (zm_inv_M g x2_ hok rfl hi (fun y_ => ?_) (fun y_ => absurd y_ (by omega)))
      show S 23 [some (.ref x), some (.int (Int32.ofInt (i : Int)))] [.int (Int32.ofInt (-9 : Int)), .int (Int32.ofInt (i : Int)), .ref x] _ _ _
      refine zw_cm (hs 13 _ rfl) (a := [.ref x, .int (Int32.ofInt (i : Int)), .int (Int32.ofInt (-9 : Int))]) (st := []) 17 111 rfl rfl (Nat.le_of_ble_eq_true rfl) (zm_rc x2_) (by omega) (by omega) (zm_round_M g x2_ hok hp12 rfl hi (Or.inl rfl) (by omega) (by omega) (by omega) (fun y_ h4_ f4_ x4_ => ?_) (fun y_ => absurd y_ (by decide)) (fun y_ => absurd y_ (by decide)))
      show S 26 [some (.ref x), some (.int (Int32.ofInt (i : Int)))] [.int (Int32.ofInt (-9 : Int))] _ _ _
      exact hs 14 _ rfl _ _ _ _ _ (rv _) (by omega) (by omega) (hP _ _ _ _ (Or.inl ⟨c1_, rfl, Or.inl ⟨cj_, rfl, rfl⟩⟩) (f2_.tr f4_) ⟨_, _, _, _, x4_⟩)
    · have cp_ : 0 < c.1 := by omega
      have hm9_ : c.1 ≠ 0 := by omega
      have q1_ := Int.emod_nonneg (c.2.1.getD i 0) hm9_
      have q2_ := Int.emod_lt_of_pos (c.2.1.getD i 0) (show 0 < c.1 by omega)
      refine hs 0 _ rfl _ _ _ _ _ _ _ rfl ?_
      refine hs 1 _ rfl _ _ _ _ _ _ _ rfl ?_
      refine zw_c (hs 2 _ rfl) (a := [.int (Int32.ofInt (i : Int))]) (st := [.ref x]) rfl rfl (Nat.le_of_ble_eq_true rfl) trivial (by omega) (by omega) (zm_noSlot_M g (e := (i : Int)) (by omega) (by omega) (fun y_ => absurd (by omega) y_) (fun y_ => ?_))
      show S 5 [some (.ref x), some (.int (Int32.ofInt (i : Int)))] [.int (Int32.ofInt (0 : Int)), .ref x] _ _ _
      refine hs 3 _ rfl _ _ _ _ _ _ _ rfl ?_
      refine zw_c (hs 4 _ rfl) (a := [.ref x, .int (Int32.ofInt (0 : Int)), .int (Int32.ofInt (1 : Int))]) (st := []) rfl rfl (Nat.le_of_ble_eq_true rfl) ⟨_, _, _, rfl, a1_, a2_.1⟩ (by omega) (by omega) (zm_start_M g hX (i_ := 0) (w_ := 1) (Or.inl rfl) (by decide) (fun y_ => absurd y_ (by decide)) (fun y_ h2_ f2_ x2_ => ?_))
      show S 9 [some (.ref x), some (.int (Int32.ofInt (i : Int)))] [.int (Int32.ofInt (0 : Int))] _ _ _
      refine hs 5 _ rfl _ _ _ _ _ _ (fun _ => ?_) (fun zq => absurd (hd_c1t (c := 0) (by omega) (by omega) (by omega : (0 : Int) = 0)) zq)
      refine hs 8 _ rfl _ _ _ _ _ _ _ rfl ?_
      refine hs 9 _ rfl _ _ _ _ _ _ _ rfl ?_
      refine hs 10 _ rfl _ _ _ _ _ _ _ rfl ?_
      refine hs 11 _ rfl _ _ _ _ _ _ _ rfl ?_
      refine zw_c (hs 12 _ rfl) (a := [.ref x, .int (Int32.ofInt (i : Int))]) (st := [.int (Int32.ofInt (i : Int)), .ref x]) rfl rfl (Nat.le_of_ble_eq_true rfl) (zm_rc x2_) (by omega) (by omega) (zm_inv_M g x2_ hok rfl hi (fun y_ => absurd y_ (by omega)) (fun y_ v_ hv_ => ?_))
      show S 23 [some (.ref x), some (.int (Int32.ofInt (i : Int)))] [.int (Int32.ofInt v_), .int (Int32.ofInt (i : Int)), .ref x] _ _ _
      have vb_ : v_ = -8 ∨ (0 ≤ v_ ∧ v_ < 400) := by
        rcases hv_ with ⟨-, y_⟩ | ⟨-, y1_, y2_, -⟩
        · exact Or.inl y_
        · exact Or.inr ⟨y1_, by omega⟩
      by_cases m8_ : v_ = -8
      · rw [m8_] at hv_ ⊢
        refine zw_cm (hs 13 _ rfl) (a := [.ref x, .int (Int32.ofInt (i : Int)), .int (Int32.ofInt (-8 : Int))]) (st := []) 17 111 rfl rfl (Nat.le_of_ble_eq_true rfl) (zm_rc x2_) (by omega) (by omega) (zm_round_M g x2_ hok hp12 rfl hi (Or.inr (Or.inl rfl)) (by omega) (by omega) (by omega) (fun y_ => absurd y_ (by decide)) (fun y_ h4_ f4_ x4_ => ?_) (fun y_ => absurd y_ (by decide)))
        show S 26 [some (.ref x), some (.int (Int32.ofInt (i : Int)))] [.int (Int32.ofInt (-8 : Int))] _ _ _
        exact hs 14 _ rfl _ _ _ _ _ (rv _) (by omega) (by omega) (hP _ _ _ _ (Or.inl ⟨c1_, rfl, Or.inr ⟨cp_, hv_, Or.inl ⟨rfl, rfl⟩⟩⟩) (f2_.tr f4_) ⟨_, _, _, _, x4_⟩)
      · 
        refine zw_cm (hs 13 _ rfl) (a := [.ref x, .int (Int32.ofInt (i : Int)), .int (Int32.ofInt v_)]) (st := []) 17 111 rfl rfl (Nat.le_of_ble_eq_true rfl) (zm_rc x2_) (by omega) (by omega) (zm_round_M g x2_ hok hp12 rfl hi (Or.inr (Or.inr (by omega))) (by omega) (by omega) (by omega) (fun y_ => absurd y_ (by omega)) (fun y_ => absurd y_ (by omega)) (fun y_ h4_ f4_ x4_ => ?_))
        show S 26 [some (.ref x), some (.int (Int32.ofInt (i : Int)))] [.int (Int32.ofInt v_)] _ _ _
        exact hs 14 _ rfl _ _ _ _ _ (rv _) (by omega) (by omega) (hP _ _ _ _ (Or.inl ⟨c1_, rfl, Or.inr ⟨cp_, hv_, Or.inr ⟨by omega, rfl⟩⟩⟩) (f2_.tr f4_) x4_)
set_option maxHeartbeats 4000000 in
theorem zm_roundPlus_M {l : Launch} {G : am_G} {X : ck_XT} (g : gM l G X) {o : Nat → Nat} {x tx now qw : Nat} {th j m k : Int} {c : sp_S} {P : List sp_S} {h : List am_C} (hX : zm_x G h o x tx now qw th j m k c P) (hok : sp_ok c) (hp12 : P.length ≤ 12) {e e2 : Int} (he1 : -2147483648 ≤ e) (he2 : e ≤ 2147483647) (hf1 : -2147483648 ≤ e2) (hf2 : e2 ≤ 2147483647) {mc ms : Nat} {Post : am_O → List am_C → Prop} (hmc : 17 ≤ mc) (hms : 111 ≤ ms)
    (hP : ∀ (a th : Int) (T' : sp_T) (h' : List am_C), sp_d7 e e2 (c, P, j, m, k) a th T' → zm_fr G h h' → zm_Y G h' x th T' → Post (.inl (some (.int (Int32.ofInt a)))) h') :
    am_M l G yX14_roundPlus (.code yX14_roundPlus prog_14_method_21_code 3 (some .int)) 13 338 mc ms [.ref x, .int (Int32.ofInt e), .int (Int32.ofInt e2)] h Post := by
  refine gh_yX14_roundPlus_X g (Nat.le_of_ble_eq_true rfl) fun S SX hs hr hw hx => ?_
  have rv : ∀ x : Int32, ck_fv 0 (.int x) := fun x => ⟨_, rfl⟩
  obtain ⟨a1_, a2_, a3_, a4_⟩ := id hX
  by_cases c1_ : sp_s1 e ∧ sp_s1 e2
  rotate_left
  · by_cases c3_ : 0 ≤ e ∧ e < 6
    · have c4_ : ¬ (0 ≤ e2 ∧ e2 < 6) := fun y_ => c1_ ⟨c3_, y_⟩
      refine hs 0 _ rfl _ _ _ _ _ _ _ rfl ?_
      refine hs 1 _ rfl _ _ _ _ _ _ _ rfl ?_
      refine zw_c (hs 2 _ rfl) (a := [.int (Int32.ofInt e)]) (st := [.ref x]) rfl rfl (Nat.le_of_ble_eq_true rfl) trivial (by omega) (by omega) (zm_noSlot_M g (e := e) (by omega) (by omega) (fun y_ => absurd (by omega) y_) (fun y_ => ?_))
      show S 5 [some (.ref x), some (.int (Int32.ofInt e)), some (.int (Int32.ofInt e2))] [.int (Int32.ofInt (0 : Int)), .ref x] _ _ _
      refine hs 3 _ rfl _ _ _ _ _ _ (fun zq => absurd (hd_c1z (c := 1) (by omega) (by omega) zq) (by omega : ¬ ((0 : Int) ≠ 0))) (fun _ => ?_)
      refine hs 4 _ rfl _ _ _ _ _ _ _ rfl ?_
      refine zw_c (hs 5 _ rfl) (a := [.int (Int32.ofInt e2)]) (st := [.ref x]) rfl rfl (Nat.le_of_ble_eq_true rfl) trivial (by omega) (by omega) (zm_noSlot_M g (e := e2) (by omega) (by omega) (fun y_ => ?_) (fun y_ => absurd y_ (by omega)))
      show S 12 [some (.ref x), some (.int (Int32.ofInt e)), some (.int (Int32.ofInt e2))] [.int (Int32.ofInt (1 : Int)), .ref x] _ _ _
      refine hs 6 _ rfl _ _ _ _ _ _ (fun zq => absurd (hd_c1z (c := 0) (by omega) (by omega) zq) (by omega : ¬ ((1 : Int) = 0))) (fun _ => ?_)
      refine hs 7 _ rfl _ _ _ _ _ _ _ rfl ?_
      refine hs 8 _ rfl _ _ _ _ _ ?_
      refine hs 10 _ rfl _ _ _ _ _ _ _ rfl ?_
      refine zw_c (hs 11 _ rfl) (a := [.ref x, .int (Int32.ofInt (1 : Int)), .int (Int32.ofInt (1 : Int))]) (st := []) rfl rfl (Nat.le_of_ble_eq_true rfl) ⟨_, _, _, rfl, a1_, a2_.1⟩ (by omega) (by omega) (zm_start_M g hX (i_ := 1) (w_ := 1) (Or.inr rfl) (by decide) (fun y_ h2_ f2_ x2_ => ?_) (fun y_ => absurd y_ (by decide)))
      show S 24 [some (.ref x), some (.int (Int32.ofInt e)), some (.int (Int32.ofInt e2))] [.int (Int32.ofInt (1 : Int))] _ _ _
      refine hs 12 _ rfl _ _ _ _ _ _ (fun zq => absurd (hd_c1z (c := 0) (by omega) (by omega) zq) (by omega : ¬ ((1 : Int) = 0))) (fun _ => ?_)
      refine hs 13 _ rfl _ _ _ _ _ _ _ rfl ?_
      exact hs 14 _ rfl _ _ _ _ _ (rv _) (by omega) (by omega) (hP 0 _ _ _ (Or.inr ⟨c1_, rfl, rfl⟩) f2_ ⟨_, _, _, _, x2_⟩)
    · 
      refine hs 0 _ rfl _ _ _ _ _ _ _ rfl ?_
      refine hs 1 _ rfl _ _ _ _ _ _ _ rfl ?_
      refine zw_c (hs 2 _ rfl) (a := [.int (Int32.ofInt e)]) (st := [.ref x]) rfl rfl (Nat.le_of_ble_eq_true rfl) trivial (by omega) (by omega) (zm_noSlot_M g (e := e) (by omega) (by omega) (fun y_ => ?_) (fun y_ => absurd y_ (by omega)))
      show S 5 [some (.ref x), some (.int (Int32.ofInt e)), some (.int (Int32.ofInt e2))] [.int (Int32.ofInt (1 : Int)), .ref x] _ _ _
      refine hs 3 _ rfl _ _ _ _ _ _ (fun _ => ?_) (fun zq => absurd (hd_c1t (c := 1) (by omega) (by omega) (by omega : (1 : Int) ≠ 0)) zq)
      refine hs 7 _ rfl _ _ _ _ _ _ _ rfl ?_
      refine hs 8 _ rfl _ _ _ _ _ ?_
      refine hs 10 _ rfl _ _ _ _ _ _ _ rfl ?_
      refine zw_c (hs 11 _ rfl) (a := [.ref x, .int (Int32.ofInt (1 : Int)), .int (Int32.ofInt (1 : Int))]) (st := []) rfl rfl (Nat.le_of_ble_eq_true rfl) ⟨_, _, _, rfl, a1_, a2_.1⟩ (by omega) (by omega) (zm_start_M g hX (i_ := 1) (w_ := 1) (Or.inr rfl) (by decide) (fun y_ h2_ f2_ x2_ => ?_) (fun y_ => absurd y_ (by decide)))
      show S 24 [some (.ref x), some (.int (Int32.ofInt e)), some (.int (Int32.ofInt e2))] [.int (Int32.ofInt (1 : Int))] _ _ _
      refine hs 12 _ rfl _ _ _ _ _ _ (fun zq => absurd (hd_c1z (c := 0) (by omega) (by omega) zq) (by omega : ¬ ((1 : Int) = 0))) (fun _ => ?_)
      refine hs 13 _ rfl _ _ _ _ _ _ _ rfl ?_
      exact hs 14 _ rfl _ _ _ _ _ (rv _) (by omega) (by omega) (hP 0 _ _ _ (Or.inr ⟨c1_, rfl, rfl⟩) f2_ ⟨_, _, _, _, x2_⟩)
  · obtain ⟨i, rfl⟩ : ∃ i : Nat, e = (i : Int) := ⟨e.toNat, by have := c1_.1.1; omega⟩
    obtain ⟨i2, rfl⟩ : ∃ i2 : Nat, e2 = (i2 : Int) := ⟨e2.toNat, by have := c1_.2.1; omega⟩
    have hi : i < 6 := by have := c1_.1.2; omega
    have hi2 : i2 < 6 := by have := c1_.2.2; omega
    have okd_ := hok.1
    by_cases cj_ : c.1 ≤ 0
    · 
      refine hs 0 _ rfl _ _ _ _ _ _ _ rfl ?_
      refine hs 1 _ rfl _ _ _ _ _ _ _ rfl ?_
      refine zw_c (hs 2 _ rfl) (a := [.int (Int32.ofInt (i : Int))]) (st := [.ref x]) rfl rfl (Nat.le_of_ble_eq_true rfl) trivial (by omega) (by omega) (zm_noSlot_M g (e := (i : Int)) (by omega) (by omega) (fun y_ => absurd (by omega) y_) (fun y_ => ?_))
      show S 5 [some (.ref x), some (.int (Int32.ofInt (i : Int))), some (.int (Int32.ofInt (i2 : Int)))] [.int (Int32.ofInt (0 : Int)), .ref x] _ _ _
      refine hs 3 _ rfl _ _ _ _ _ _ (fun zq => absurd (hd_c1z (c := 1) (by omega) (by omega) zq) (by omega : ¬ ((0 : Int) ≠ 0))) (fun _ => ?_)
      refine hs 4 _ rfl _ _ _ _ _ _ _ rfl ?_
      refine zw_c (hs 5 _ rfl) (a := [.int (Int32.ofInt (i2 : Int))]) (st := [.ref x]) rfl rfl (Nat.le_of_ble_eq_true rfl) trivial (by omega) (by omega) (zm_noSlot_M g (e := (i2 : Int)) (by omega) (by omega) (fun y_ => absurd (by omega) y_) (fun y_ => ?_))
      show S 12 [some (.ref x), some (.int (Int32.ofInt (i : Int))), some (.int (Int32.ofInt (i2 : Int)))] [.int (Int32.ofInt (0 : Int)), .ref x] _ _ _
      refine hs 6 _ rfl _ _ _ _ _ _ (fun _ => ?_) (fun zq => absurd (hd_c1t (c := 0) (by omega) (by omega) (by omega : (0 : Int) = 0)) zq)
      refine hs 9 _ rfl _ _ _ _ _ _ _ rfl ?_
      refine hs 10 _ rfl _ _ _ _ _ _ _ rfl ?_
      refine zw_c (hs 11 _ rfl) (a := [.ref x, .int (Int32.ofInt (0 : Int)), .int (Int32.ofInt (1 : Int))]) (st := []) rfl rfl (Nat.le_of_ble_eq_true rfl) ⟨_, _, _, rfl, a1_, a2_.1⟩ (by omega) (by omega) (zm_start_M g hX (i_ := 0) (w_ := 1) (Or.inl rfl) (by decide) (fun y_ => absurd y_ (by decide)) (fun y_ h2_ f2_ x2_ => ?_))
      show S 24 [some (.ref x), some (.int (Int32.ofInt (i : Int))), some (.int (Int32.ofInt (i2 : Int)))] [.int (Int32.ofInt (0 : Int))] _ _ _
      refine hs 12 _ rfl _ _ _ _ _ _ (fun _ => ?_) (fun zq => absurd (hd_c1t (c := 0) (by omega) (by omega) (by omega : (0 : Int) = 0)) zq)
      refine hs 15 _ rfl _ _ _ _ _ _ _ rfl ?_
      refine hs 16 _ rfl _ _ _ _ _ _ _ rfl ?_
      refine hs 17 _ rfl _ _ _ _ _ _ _ rfl ?_
      refine zw_c (hs 18 _ rfl) (a := [.ref x]) (st := [.int (Int32.ofInt (i : Int)), .ref x]) rfl rfl (Nat.le_of_ble_eq_true rfl) (zm_rc x2_) (by omega) (by omega) (zm_jam_M g x2_ hok (fun y_ => ?_) (fun y_ => absurd y_ (by omega)))
      show S 35 [some (.ref x), some (.int (Int32.ofInt (i : Int))), some (.int (Int32.ofInt (i2 : Int)))] [.int (Int32.ofInt (1 : Int)), .int (Int32.ofInt (i : Int)), .ref x] _ _ _
      refine hs 19 _ rfl _ _ _ _ _ _ (fun zq => absurd (hd_c1z (c := 0) (by omega) (by omega) zq) (by omega : ¬ ((1 : Int) = 0))) (fun _ => ?_)
      refine hs 20 _ rfl _ _ _ _ _ _ _ rfl ?_
      refine hs 21 _ rfl _ _ _ _ _ ?_
      refine zw_cm (hs 33 _ rfl) (a := [.ref x, .int (Int32.ofInt (i : Int)), .int (Int32.ofInt (-9 : Int))]) (st := []) 17 111 rfl rfl (Nat.le_of_ble_eq_true rfl) (zm_rc x2_) (by omega) (by omega) (zm_round_M g x2_ hok hp12 rfl hi (Or.inl rfl) (by omega) (by omega) (by omega) (fun y_ h4_ f4_ x4_ => ?_) (fun y_ => absurd y_ (by decide)) (fun y_ => absurd y_ (by decide)))
      show S 65 [some (.ref x), some (.int (Int32.ofInt (i : Int))), some (.int (Int32.ofInt (i2 : Int)))] [.int (Int32.ofInt (-9 : Int))] _ _ _
      exact hs 34 _ rfl _ _ _ _ _ (rv _) (by omega) (by omega) (hP _ _ _ _ (Or.inl ⟨c1_, rfl, Or.inl ⟨cj_, rfl, rfl⟩⟩) (f2_.tr f4_) ⟨_, _, _, _, x4_⟩)
    · have cp_ : 0 < c.1 := by omega
      have hm9_ : c.1 ≠ 0 := by omega
      have q1_ := Int.emod_nonneg (c.2.1.getD i 0) hm9_
      have q2_ := Int.emod_lt_of_pos (c.2.1.getD i 0) (show 0 < c.1 by omega)
      have q3_ := Int.emod_nonneg (c.2.1.getD i2 0) hm9_
      have q4_ := Int.emod_lt_of_pos (c.2.1.getD i2 0) (show 0 < c.1 by omega)
      have q5_ := Int.emod_nonneg ((c.2.1.getD i 0 % c.1) + (c.2.1.getD i2 0 % c.1)) hm9_
      have q6_ := Int.emod_lt_of_pos ((c.2.1.getD i 0 % c.1) + (c.2.1.getD i2 0 % c.1)) (show 0 < c.1 by omega)
      refine hs 0 _ rfl _ _ _ _ _ _ _ rfl ?_
      refine hs 1 _ rfl _ _ _ _ _ _ _ rfl ?_
      refine zw_c (hs 2 _ rfl) (a := [.int (Int32.ofInt (i : Int))]) (st := [.ref x]) rfl rfl (Nat.le_of_ble_eq_true rfl) trivial (by omega) (by omega) (zm_noSlot_M g (e := (i : Int)) (by omega) (by omega) (fun y_ => absurd (by omega) y_) (fun y_ => ?_))
      show S 5 [some (.ref x), some (.int (Int32.ofInt (i : Int))), some (.int (Int32.ofInt (i2 : Int)))] [.int (Int32.ofInt (0 : Int)), .ref x] _ _ _
      refine hs 3 _ rfl _ _ _ _ _ _ (fun zq => absurd (hd_c1z (c := 1) (by omega) (by omega) zq) (by omega : ¬ ((0 : Int) ≠ 0))) (fun _ => ?_)
      refine hs 4 _ rfl _ _ _ _ _ _ _ rfl ?_
      refine zw_c (hs 5 _ rfl) (a := [.int (Int32.ofInt (i2 : Int))]) (st := [.ref x]) rfl rfl (Nat.le_of_ble_eq_true rfl) trivial (by omega) (by omega) (zm_noSlot_M g (e := (i2 : Int)) (by omega) (by omega) (fun y_ => absurd (by omega) y_) (fun y_ => ?_))
      show S 12 [some (.ref x), some (.int (Int32.ofInt (i : Int))), some (.int (Int32.ofInt (i2 : Int)))] [.int (Int32.ofInt (0 : Int)), .ref x] _ _ _
      refine hs 6 _ rfl _ _ _ _ _ _ (fun _ => ?_) (fun zq => absurd (hd_c1t (c := 0) (by omega) (by omega) (by omega : (0 : Int) = 0)) zq)
      refine hs 9 _ rfl _ _ _ _ _ _ _ rfl ?_
      refine hs 10 _ rfl _ _ _ _ _ _ _ rfl ?_
      refine zw_c (hs 11 _ rfl) (a := [.ref x, .int (Int32.ofInt (0 : Int)), .int (Int32.ofInt (1 : Int))]) (st := []) rfl rfl (Nat.le_of_ble_eq_true rfl) ⟨_, _, _, rfl, a1_, a2_.1⟩ (by omega) (by omega) (zm_start_M g hX (i_ := 0) (w_ := 1) (Or.inl rfl) (by decide) (fun y_ => absurd y_ (by decide)) (fun y_ h2_ f2_ x2_ => ?_))
      obtain ⟨t_, qn_, ql_, qb_, s1_, up_⟩ := x2_.dialL
      show S 24 [some (.ref x), some (.int (Int32.ofInt (i : Int))), some (.int (Int32.ofInt (i2 : Int)))] [.int (Int32.ofInt (0 : Int))] _ _ _
      refine hs 12 _ rfl _ _ _ _ _ _ (fun _ => ?_) (fun zq => absurd (hd_c1t (c := 0) (by omega) (by omega) (by omega : (0 : Int) = 0)) zq)
      refine hs 15 _ rfl _ _ _ _ _ _ _ rfl ?_
      refine hs 16 _ rfl _ _ _ _ _ _ _ rfl ?_
      refine hs 17 _ rfl _ _ _ _ _ _ _ rfl ?_
      refine zw_c (hs 18 _ rfl) (a := [.ref x]) (st := [.int (Int32.ofInt (i : Int)), .ref x]) rfl rfl (Nat.le_of_ble_eq_true rfl) (zm_rc x2_) (by omega) (by omega) (zm_jam_M g x2_ hok (fun y_ => absurd y_ (by omega)) (fun y_ => ?_))
      show S 35 [some (.ref x), some (.int (Int32.ofInt (i : Int))), some (.int (Int32.ofInt (i2 : Int)))] [.int (Int32.ofInt (0 : Int)), .int (Int32.ofInt (i : Int)), .ref x] _ _ _
      refine hs 19 _ rfl _ _ _ _ _ _ (fun _ => ?_) (fun zq => absurd (hd_c1t (c := 0) (by omega) (by omega) (by omega : (0 : Int) = 0)) zq)
      refine hs 22 _ rfl _ _ _ _ _ _ _ rfl ?_
      refine hs 23 _ rfl _ _ _ _ _ _ _ rfl ?_
      refine zw_c (hs 24 _ rfl) (a := [.ref x, .int (Int32.ofInt (i : Int))]) (st := [.int (Int32.ofInt (i : Int)), .ref x]) rfl rfl (Nat.le_of_ble_eq_true rfl) (zm_rc x2_) (by omega) (by omega) (zm_modAt_M g x2_ hok rfl hi (fun y_ => absurd y_ (by omega)) (fun y_ => ?_))
      show S 48 [some (.ref x), some (.int (Int32.ofInt (i : Int))), some (.int (Int32.ofInt (i2 : Int)))] [.int (Int32.ofInt (c.2.1.getD i 0 % c.1)), .int (Int32.ofInt (i : Int)), .ref x] _ _ _
      refine hs 25 _ rfl _ _ _ _ _ _ _ rfl ?_
      refine hs 26 _ rfl _ _ _ _ _ _ _ rfl ?_
      refine zw_c (hs 27 _ rfl) (a := [.ref x, .int (Int32.ofInt (i2 : Int))]) (st := [.int (Int32.ofInt (c.2.1.getD i 0 % c.1)), .int (Int32.ofInt (i : Int)), .ref x]) rfl rfl (Nat.le_of_ble_eq_true rfl) (zm_rc x2_) (by omega) (by omega) (zm_modAt_M g x2_ hok rfl hi2 (fun y_ => absurd y_ (by omega)) (fun y_ => ?_))
      show S 53 [some (.ref x), some (.int (Int32.ofInt (i : Int))), some (.int (Int32.ofInt (i2 : Int)))] [.int (Int32.ofInt (c.2.1.getD i2 0 % c.1)), .int (Int32.ofInt (c.2.1.getD i 0 % c.1)), .int (Int32.ofInt (i : Int)), .ref x] _ _ _
      refine hs 28 _ rfl _ _ _ _ _ _ _ hd_add ?_
      refine hs 29 _ rfl _ _ _ _ _ _ _ rfl ?_
      refine hs 30 _ rfl _ _ _ _ _ _ _ _ _ (x2_.1) a2_.1 rfl ?_
      refine hs 31 _ rfl _ _ _ _ _ _ _ _ _ (s1_.1) s1_.2 rfl ?_
      refine hs 32 _ rfl _ _ _ _ _ _ _ (hd_rem (by omega) (by omega) (by omega) (by omega)) ?_
      refine zw_cm (hs 33 _ rfl) (a := [.ref x, .int (Int32.ofInt (i : Int)), .int (Int32.ofInt (((c.2.1.getD i 0 % c.1) + (c.2.1.getD i2 0 % c.1)) % c.1))]) (st := []) 17 111 rfl rfl (Nat.le_of_ble_eq_true rfl) (zm_rc x2_) (by omega) (by omega) (zm_round_M g x2_ hok hp12 rfl hi (Or.inr (Or.inr (by omega))) (by omega) (by omega) (by omega) (fun y_ => absurd y_ (by omega)) (fun y_ => absurd y_ (by omega)) (fun y_ h4_ f4_ x4_ => ?_))
      show S 65 [some (.ref x), some (.int (Int32.ofInt (i : Int))), some (.int (Int32.ofInt (i2 : Int)))] [.int (Int32.ofInt (((c.2.1.getD i 0 % c.1) + (c.2.1.getD i2 0 % c.1)) % c.1))] _ _ _
      exact hs 34 _ rfl _ _ _ _ _ (rv _) (by omega) (by omega) (hP _ _ _ _ (Or.inl ⟨c1_, rfl, Or.inr ⟨cp_, rfl, Or.inr ⟨by omega, rfl⟩⟩⟩) (f2_.tr f4_) x4_)
set_option maxHeartbeats 4000000 in
theorem zm_roundTimes_M {l : Launch} {G : am_G} {X : ck_XT} (g : gM l G X) {o : Nat → Nat} {x tx now qw : Nat} {th j m k : Int} {c : sp_S} {P : List sp_S} {h : List am_C} (hX : zm_x G h o x tx now qw th j m k c P) (hok : sp_ok c) (hp12 : P.length ≤ 12) {e e2 : Int} (he1 : -2147483648 ≤ e) (he2 : e ≤ 2147483647) (hf1 : -2147483648 ≤ e2) (hf2 : e2 ≤ 2147483647) {mc ms : Nat} {Post : am_O → List am_C → Prop} (hmc : 17 ≤ mc) (hms : 111 ≤ ms)
    (hP : ∀ (a th : Int) (T' : sp_T) (h' : List am_C), sp_d8 e e2 (c, P, j, m, k) a th T' → zm_fr G h h' → zm_Y G h' x th T' → Post (.inl (some (.int (Int32.ofInt a)))) h') :
    am_M l G yX14_roundTimes (.code yX14_roundTimes prog_14_method_22_code 3 (some .int)) 13 338 mc ms [.ref x, .int (Int32.ofInt e), .int (Int32.ofInt e2)] h Post := by
  refine gh_yX14_roundTimes_X g (Nat.le_of_ble_eq_true rfl) fun S SX hs hr hw hx => ?_
  have rv : ∀ x : Int32, ck_fv 0 (.int x) := fun x => ⟨_, rfl⟩
  obtain ⟨a1_, a2_, a3_, a4_⟩ := id hX
  by_cases c1_ : sp_s1 e ∧ sp_s1 e2
  rotate_left
  · by_cases c3_ : 0 ≤ e ∧ e < 6
    · have c4_ : ¬ (0 ≤ e2 ∧ e2 < 6) := fun y_ => c1_ ⟨c3_, y_⟩
      refine hs 0 _ rfl _ _ _ _ _ _ _ rfl ?_
      refine hs 1 _ rfl _ _ _ _ _ _ _ rfl ?_
      refine zw_c (hs 2 _ rfl) (a := [.int (Int32.ofInt e)]) (st := [.ref x]) rfl rfl (Nat.le_of_ble_eq_true rfl) trivial (by omega) (by omega) (zm_noSlot_M g (e := e) (by omega) (by omega) (fun y_ => absurd (by omega) y_) (fun y_ => ?_))
      show S 5 [some (.ref x), some (.int (Int32.ofInt e)), some (.int (Int32.ofInt e2))] [.int (Int32.ofInt (0 : Int)), .ref x] _ _ _
      refine hs 3 _ rfl _ _ _ _ _ _ (fun zq => absurd (hd_c1z (c := 1) (by omega) (by omega) zq) (by omega : ¬ ((0 : Int) ≠ 0))) (fun _ => ?_)
      refine hs 4 _ rfl _ _ _ _ _ _ _ rfl ?_
      refine zw_c (hs 5 _ rfl) (a := [.int (Int32.ofInt e2)]) (st := [.ref x]) rfl rfl (Nat.le_of_ble_eq_true rfl) trivial (by omega) (by omega) (zm_noSlot_M g (e := e2) (by omega) (by omega) (fun y_ => ?_) (fun y_ => absurd y_ (by omega)))
      show S 12 [some (.ref x), some (.int (Int32.ofInt e)), some (.int (Int32.ofInt e2))] [.int (Int32.ofInt (1 : Int)), .ref x] _ _ _
      refine hs 6 _ rfl _ _ _ _ _ _ (fun zq => absurd (hd_c1z (c := 0) (by omega) (by omega) zq) (by omega : ¬ ((1 : Int) = 0))) (fun _ => ?_)
      refine hs 7 _ rfl _ _ _ _ _ _ _ rfl ?_
      refine hs 8 _ rfl _ _ _ _ _ ?_
      refine hs 10 _ rfl _ _ _ _ _ _ _ rfl ?_
      refine zw_c (hs 11 _ rfl) (a := [.ref x, .int (Int32.ofInt (1 : Int)), .int (Int32.ofInt (1 : Int))]) (st := []) rfl rfl (Nat.le_of_ble_eq_true rfl) ⟨_, _, _, rfl, a1_, a2_.1⟩ (by omega) (by omega) (zm_start_M g hX (i_ := 1) (w_ := 1) (Or.inr rfl) (by decide) (fun y_ h2_ f2_ x2_ => ?_) (fun y_ => absurd y_ (by decide)))
      show S 24 [some (.ref x), some (.int (Int32.ofInt e)), some (.int (Int32.ofInt e2))] [.int (Int32.ofInt (1 : Int))] _ _ _
      refine hs 12 _ rfl _ _ _ _ _ _ (fun zq => absurd (hd_c1z (c := 0) (by omega) (by omega) zq) (by omega : ¬ ((1 : Int) = 0))) (fun _ => ?_)
      refine hs 13 _ rfl _ _ _ _ _ _ _ rfl ?_
      exact hs 14 _ rfl _ _ _ _ _ (rv _) (by omega) (by omega) (hP 0 _ _ _ (Or.inr ⟨c1_, rfl, rfl⟩) f2_ ⟨_, _, _, _, x2_⟩)
    · 
      refine hs 0 _ rfl _ _ _ _ _ _ _ rfl ?_
      refine hs 1 _ rfl _ _ _ _ _ _ _ rfl ?_
      refine zw_c (hs 2 _ rfl) (a := [.int (Int32.ofInt e)]) (st := [.ref x]) rfl rfl (Nat.le_of_ble_eq_true rfl) trivial (by omega) (by omega) (zm_noSlot_M g (e := e) (by omega) (by omega) (fun y_ => ?_) (fun y_ => absurd y_ (by omega)))
      show S 5 [some (.ref x), some (.int (Int32.ofInt e)), some (.int (Int32.ofInt e2))] [.int (Int32.ofInt (1 : Int)), .ref x] _ _ _
      refine hs 3 _ rfl _ _ _ _ _ _ (fun _ => ?_) (fun zq => absurd (hd_c1t (c := 1) (by omega) (by omega) (by omega : (1 : Int) ≠ 0)) zq)
      refine hs 7 _ rfl _ _ _ _ _ _ _ rfl ?_
      refine hs 8 _ rfl _ _ _ _ _ ?_
      refine hs 10 _ rfl _ _ _ _ _ _ _ rfl ?_
      refine zw_c (hs 11 _ rfl) (a := [.ref x, .int (Int32.ofInt (1 : Int)), .int (Int32.ofInt (1 : Int))]) (st := []) rfl rfl (Nat.le_of_ble_eq_true rfl) ⟨_, _, _, rfl, a1_, a2_.1⟩ (by omega) (by omega) (zm_start_M g hX (i_ := 1) (w_ := 1) (Or.inr rfl) (by decide) (fun y_ h2_ f2_ x2_ => ?_) (fun y_ => absurd y_ (by decide)))
      show S 24 [some (.ref x), some (.int (Int32.ofInt e)), some (.int (Int32.ofInt e2))] [.int (Int32.ofInt (1 : Int))] _ _ _
      refine hs 12 _ rfl _ _ _ _ _ _ (fun zq => absurd (hd_c1z (c := 0) (by omega) (by omega) zq) (by omega : ¬ ((1 : Int) = 0))) (fun _ => ?_)
      refine hs 13 _ rfl _ _ _ _ _ _ _ rfl ?_
      exact hs 14 _ rfl _ _ _ _ _ (rv _) (by omega) (by omega) (hP 0 _ _ _ (Or.inr ⟨c1_, rfl, rfl⟩) f2_ ⟨_, _, _, _, x2_⟩)
  · obtain ⟨i, rfl⟩ : ∃ i : Nat, e = (i : Int) := ⟨e.toNat, by have := c1_.1.1; omega⟩
    obtain ⟨i2, rfl⟩ : ∃ i2 : Nat, e2 = (i2 : Int) := ⟨e2.toNat, by have := c1_.2.1; omega⟩
    have hi : i < 6 := by have := c1_.1.2; omega
    have hi2 : i2 < 6 := by have := c1_.2.2; omega
    have okd_ := hok.1
    by_cases cj_ : c.1 ≤ 0
    · 
      refine hs 0 _ rfl _ _ _ _ _ _ _ rfl ?_
      refine hs 1 _ rfl _ _ _ _ _ _ _ rfl ?_
      refine zw_c (hs 2 _ rfl) (a := [.int (Int32.ofInt (i : Int))]) (st := [.ref x]) rfl rfl (Nat.le_of_ble_eq_true rfl) trivial (by omega) (by omega) (zm_noSlot_M g (e := (i : Int)) (by omega) (by omega) (fun y_ => absurd (by omega) y_) (fun y_ => ?_))
      show S 5 [some (.ref x), some (.int (Int32.ofInt (i : Int))), some (.int (Int32.ofInt (i2 : Int)))] [.int (Int32.ofInt (0 : Int)), .ref x] _ _ _
      refine hs 3 _ rfl _ _ _ _ _ _ (fun zq => absurd (hd_c1z (c := 1) (by omega) (by omega) zq) (by omega : ¬ ((0 : Int) ≠ 0))) (fun _ => ?_)
      refine hs 4 _ rfl _ _ _ _ _ _ _ rfl ?_
      refine zw_c (hs 5 _ rfl) (a := [.int (Int32.ofInt (i2 : Int))]) (st := [.ref x]) rfl rfl (Nat.le_of_ble_eq_true rfl) trivial (by omega) (by omega) (zm_noSlot_M g (e := (i2 : Int)) (by omega) (by omega) (fun y_ => absurd (by omega) y_) (fun y_ => ?_))
      show S 12 [some (.ref x), some (.int (Int32.ofInt (i : Int))), some (.int (Int32.ofInt (i2 : Int)))] [.int (Int32.ofInt (0 : Int)), .ref x] _ _ _
      refine hs 6 _ rfl _ _ _ _ _ _ (fun _ => ?_) (fun zq => absurd (hd_c1t (c := 0) (by omega) (by omega) (by omega : (0 : Int) = 0)) zq)
      refine hs 9 _ rfl _ _ _ _ _ _ _ rfl ?_
      refine hs 10 _ rfl _ _ _ _ _ _ _ rfl ?_
      refine zw_c (hs 11 _ rfl) (a := [.ref x, .int (Int32.ofInt (0 : Int)), .int (Int32.ofInt (1 : Int))]) (st := []) rfl rfl (Nat.le_of_ble_eq_true rfl) ⟨_, _, _, rfl, a1_, a2_.1⟩ (by omega) (by omega) (zm_start_M g hX (i_ := 0) (w_ := 1) (Or.inl rfl) (by decide) (fun y_ => absurd y_ (by decide)) (fun y_ h2_ f2_ x2_ => ?_))
      show S 24 [some (.ref x), some (.int (Int32.ofInt (i : Int))), some (.int (Int32.ofInt (i2 : Int)))] [.int (Int32.ofInt (0 : Int))] _ _ _
      refine hs 12 _ rfl _ _ _ _ _ _ (fun _ => ?_) (fun zq => absurd (hd_c1t (c := 0) (by omega) (by omega) (by omega : (0 : Int) = 0)) zq)
      refine hs 15 _ rfl _ _ _ _ _ _ _ rfl ?_
      refine hs 16 _ rfl _ _ _ _ _ _ _ rfl ?_
      refine hs 17 _ rfl _ _ _ _ _ _ _ rfl ?_
      refine zw_c (hs 18 _ rfl) (a := [.ref x]) (st := [.int (Int32.ofInt (i : Int)), .ref x]) rfl rfl (Nat.le_of_ble_eq_true rfl) (zm_rc x2_) (by omega) (by omega) (zm_jam_M g x2_ hok (fun y_ => ?_) (fun y_ => absurd y_ (by omega)))
      show S 35 [some (.ref x), some (.int (Int32.ofInt (i : Int))), some (.int (Int32.ofInt (i2 : Int)))] [.int (Int32.ofInt (1 : Int)), .int (Int32.ofInt (i : Int)), .ref x] _ _ _
      refine hs 19 _ rfl _ _ _ _ _ _ (fun zq => absurd (hd_c1z (c := 0) (by omega) (by omega) zq) (by omega : ¬ ((1 : Int) = 0))) (fun _ => ?_)
      refine hs 20 _ rfl _ _ _ _ _ _ _ rfl ?_
      refine hs 21 _ rfl _ _ _ _ _ ?_
      refine zw_cm (hs 33 _ rfl) (a := [.ref x, .int (Int32.ofInt (i : Int)), .int (Int32.ofInt (-9 : Int))]) (st := []) 17 111 rfl rfl (Nat.le_of_ble_eq_true rfl) (zm_rc x2_) (by omega) (by omega) (zm_round_M g x2_ hok hp12 rfl hi (Or.inl rfl) (by omega) (by omega) (by omega) (fun y_ h4_ f4_ x4_ => ?_) (fun y_ => absurd y_ (by decide)) (fun y_ => absurd y_ (by decide)))
      show S 65 [some (.ref x), some (.int (Int32.ofInt (i : Int))), some (.int (Int32.ofInt (i2 : Int)))] [.int (Int32.ofInt (-9 : Int))] _ _ _
      exact hs 34 _ rfl _ _ _ _ _ (rv _) (by omega) (by omega) (hP _ _ _ _ (Or.inl ⟨c1_, rfl, Or.inl ⟨cj_, rfl, rfl⟩⟩) (f2_.tr f4_) ⟨_, _, _, _, x4_⟩)
    · have cp_ : 0 < c.1 := by omega
      have hm9_ : c.1 ≠ 0 := by omega
      have q1_ := Int.emod_nonneg (c.2.1.getD i 0) hm9_
      have q2_ := Int.emod_lt_of_pos (c.2.1.getD i 0) (show 0 < c.1 by omega)
      have q3_ := Int.emod_nonneg (c.2.1.getD i2 0) hm9_
      have q4_ := Int.emod_lt_of_pos (c.2.1.getD i2 0) (show 0 < c.1 by omega)
      have mn_ := Int.mul_nonneg q1_ q3_
      have mx_ : c.2.1.getD i 0 % c.1 * (c.2.1.getD i2 0 % c.1) ≤ 400 * 400 := Int.mul_le_mul (by omega) (by omega) q3_ (by omega)
      have q5_ := Int.emod_nonneg ((c.2.1.getD i 0 % c.1) * (c.2.1.getD i2 0 % c.1)) hm9_
      have q6_ := Int.emod_lt_of_pos ((c.2.1.getD i 0 % c.1) * (c.2.1.getD i2 0 % c.1)) (show 0 < c.1 by omega)
      refine hs 0 _ rfl _ _ _ _ _ _ _ rfl ?_
      refine hs 1 _ rfl _ _ _ _ _ _ _ rfl ?_
      refine zw_c (hs 2 _ rfl) (a := [.int (Int32.ofInt (i : Int))]) (st := [.ref x]) rfl rfl (Nat.le_of_ble_eq_true rfl) trivial (by omega) (by omega) (zm_noSlot_M g (e := (i : Int)) (by omega) (by omega) (fun y_ => absurd (by omega) y_) (fun y_ => ?_))
      show S 5 [some (.ref x), some (.int (Int32.ofInt (i : Int))), some (.int (Int32.ofInt (i2 : Int)))] [.int (Int32.ofInt (0 : Int)), .ref x] _ _ _
      refine hs 3 _ rfl _ _ _ _ _ _ (fun zq => absurd (hd_c1z (c := 1) (by omega) (by omega) zq) (by omega : ¬ ((0 : Int) ≠ 0))) (fun _ => ?_)
      refine hs 4 _ rfl _ _ _ _ _ _ _ rfl ?_
      refine zw_c (hs 5 _ rfl) (a := [.int (Int32.ofInt (i2 : Int))]) (st := [.ref x]) rfl rfl (Nat.le_of_ble_eq_true rfl) trivial (by omega) (by omega) (zm_noSlot_M g (e := (i2 : Int)) (by omega) (by omega) (fun y_ => absurd (by omega) y_) (fun y_ => ?_))
      show S 12 [some (.ref x), some (.int (Int32.ofInt (i : Int))), some (.int (Int32.ofInt (i2 : Int)))] [.int (Int32.ofInt (0 : Int)), .ref x] _ _ _
      refine hs 6 _ rfl _ _ _ _ _ _ (fun _ => ?_) (fun zq => absurd (hd_c1t (c := 0) (by omega) (by omega) (by omega : (0 : Int) = 0)) zq)
      refine hs 9 _ rfl _ _ _ _ _ _ _ rfl ?_
      refine hs 10 _ rfl _ _ _ _ _ _ _ rfl ?_
      refine zw_c (hs 11 _ rfl) (a := [.ref x, .int (Int32.ofInt (0 : Int)), .int (Int32.ofInt (1 : Int))]) (st := []) rfl rfl (Nat.le_of_ble_eq_true rfl) ⟨_, _, _, rfl, a1_, a2_.1⟩ (by omega) (by omega) (zm_start_M g hX (i_ := 0) (w_ := 1) (Or.inl rfl) (by decide) (fun y_ => absurd y_ (by decide)) (fun y_ h2_ f2_ x2_ => ?_))
      obtain ⟨t_, qn_, ql_, qb_, s1_, up_⟩ := x2_.dialL
      show S 24 [some (.ref x), some (.int (Int32.ofInt (i : Int))), some (.int (Int32.ofInt (i2 : Int)))] [.int (Int32.ofInt (0 : Int))] _ _ _
      refine hs 12 _ rfl _ _ _ _ _ _ (fun _ => ?_) (fun zq => absurd (hd_c1t (c := 0) (by omega) (by omega) (by omega : (0 : Int) = 0)) zq)
      refine hs 15 _ rfl _ _ _ _ _ _ _ rfl ?_
      refine hs 16 _ rfl _ _ _ _ _ _ _ rfl ?_
      refine hs 17 _ rfl _ _ _ _ _ _ _ rfl ?_
      refine zw_c (hs 18 _ rfl) (a := [.ref x]) (st := [.int (Int32.ofInt (i : Int)), .ref x]) rfl rfl (Nat.le_of_ble_eq_true rfl) (zm_rc x2_) (by omega) (by omega) (zm_jam_M g x2_ hok (fun y_ => absurd y_ (by omega)) (fun y_ => ?_))
      show S 35 [some (.ref x), some (.int (Int32.ofInt (i : Int))), some (.int (Int32.ofInt (i2 : Int)))] [.int (Int32.ofInt (0 : Int)), .int (Int32.ofInt (i : Int)), .ref x] _ _ _
      refine hs 19 _ rfl _ _ _ _ _ _ (fun _ => ?_) (fun zq => absurd (hd_c1t (c := 0) (by omega) (by omega) (by omega : (0 : Int) = 0)) zq)
      refine hs 22 _ rfl _ _ _ _ _ _ _ rfl ?_
      refine hs 23 _ rfl _ _ _ _ _ _ _ rfl ?_
      refine zw_c (hs 24 _ rfl) (a := [.ref x, .int (Int32.ofInt (i : Int))]) (st := [.int (Int32.ofInt (i : Int)), .ref x]) rfl rfl (Nat.le_of_ble_eq_true rfl) (zm_rc x2_) (by omega) (by omega) (zm_modAt_M g x2_ hok rfl hi (fun y_ => absurd y_ (by omega)) (fun y_ => ?_))
      show S 48 [some (.ref x), some (.int (Int32.ofInt (i : Int))), some (.int (Int32.ofInt (i2 : Int)))] [.int (Int32.ofInt (c.2.1.getD i 0 % c.1)), .int (Int32.ofInt (i : Int)), .ref x] _ _ _
      refine hs 25 _ rfl _ _ _ _ _ _ _ rfl ?_
      refine hs 26 _ rfl _ _ _ _ _ _ _ rfl ?_
      refine zw_c (hs 27 _ rfl) (a := [.ref x, .int (Int32.ofInt (i2 : Int))]) (st := [.int (Int32.ofInt (c.2.1.getD i 0 % c.1)), .int (Int32.ofInt (i : Int)), .ref x]) rfl rfl (Nat.le_of_ble_eq_true rfl) (zm_rc x2_) (by omega) (by omega) (zm_modAt_M g x2_ hok rfl hi2 (fun y_ => absurd y_ (by omega)) (fun y_ => ?_))
      show S 53 [some (.ref x), some (.int (Int32.ofInt (i : Int))), some (.int (Int32.ofInt (i2 : Int)))] [.int (Int32.ofInt (c.2.1.getD i2 0 % c.1)), .int (Int32.ofInt (c.2.1.getD i 0 % c.1)), .int (Int32.ofInt (i : Int)), .ref x] _ _ _
      refine hs 28 _ rfl _ _ _ _ _ _ _ hd_mul ?_
      refine hs 29 _ rfl _ _ _ _ _ _ _ rfl ?_
      refine hs 30 _ rfl _ _ _ _ _ _ _ _ _ (x2_.1) a2_.1 rfl ?_
      refine hs 31 _ rfl _ _ _ _ _ _ _ _ _ (s1_.1) s1_.2 rfl ?_
      refine hs 32 _ rfl _ _ _ _ _ _ _ (hd_rem (by omega) (by omega) (by omega) (by omega)) ?_
      refine zw_cm (hs 33 _ rfl) (a := [.ref x, .int (Int32.ofInt (i : Int)), .int (Int32.ofInt (((c.2.1.getD i 0 % c.1) * (c.2.1.getD i2 0 % c.1)) % c.1))]) (st := []) 17 111 rfl rfl (Nat.le_of_ble_eq_true rfl) (zm_rc x2_) (by omega) (by omega) (zm_round_M g x2_ hok hp12 rfl hi (Or.inr (Or.inr (by omega))) (by omega) (by omega) (by omega) (fun y_ => absurd y_ (by omega)) (fun y_ => absurd y_ (by omega)) (fun y_ h4_ f4_ x4_ => ?_))
      show S 65 [some (.ref x), some (.int (Int32.ofInt (i : Int))), some (.int (Int32.ofInt (i2 : Int)))] [.int (Int32.ofInt (((c.2.1.getD i 0 % c.1) * (c.2.1.getD i2 0 % c.1)) % c.1))] _ _ _
      exact hs 34 _ rfl _ _ _ _ _ (rv _) (by omega) (by omega) (hP _ _ _ _ (Or.inl ⟨c1_, rfl, Or.inr ⟨cp_, rfl, Or.inr ⟨by omega, rfl⟩⟩⟩) (f2_.tr f4_) x4_)
set_option maxHeartbeats 4000000 in
theorem zm_roundPower_M {l : Launch} {G : am_G} {X : ck_XT} (g : gM l G X) {o : Nat → Nat} {x tx now qw : Nat} {th j m k : Int} {c : sp_S} {P : List sp_S} {h : List am_C} (hX : zm_x G h o x tx now qw th j m k c P) (hok : sp_ok c) (hp12 : P.length ≤ 12) {e e2 : Int} (he1 : -2147483648 ≤ e) (he2 : e ≤ 2147483647) (hf1 : -2147483648 ≤ e2) (hf2 : e2 ≤ 2147483647) {mc ms : Nat} {Post : am_O → List am_C → Prop} (hmc : 17 ≤ mc) (hms : 111 ≤ ms)
    (hP : ∀ (a th : Int) (T' : sp_T) (h' : List am_C), sp_d9 e e2 (c, P, j, m, k) a th T' → zm_fr G h h' → zm_Y G h' x th T' → Post (.inl (some (.int (Int32.ofInt a)))) h') :
    am_M l G yX14_roundPower (.code yX14_roundPower prog_14_method_25_code 3 (some .int)) 13 338 mc ms [.ref x, .int (Int32.ofInt e), .int (Int32.ofInt e2)] h Post := by
  refine gh_yX14_roundPower_X g (Nat.le_of_ble_eq_true rfl) fun S SX hs hr hw hx => ?_
  have rv : ∀ x : Int32, ck_fv 0 (.int x) := fun x => ⟨_, rfl⟩
  obtain ⟨a1_, a2_, a3_, a4_⟩ := id hX
  by_cases c1_ : sp_s1 e ∧ sp_s1 e2
  rotate_left
  · by_cases c3_ : 0 ≤ e ∧ e < 6
    · have c4_ : ¬ (0 ≤ e2 ∧ e2 < 6) := fun y_ => c1_ ⟨c3_, y_⟩
      refine hs 0 _ rfl _ _ _ _ _ _ _ rfl ?_
      refine hs 1 _ rfl _ _ _ _ _ _ _ rfl ?_
      refine zw_c (hs 2 _ rfl) (a := [.int (Int32.ofInt e)]) (st := [.ref x]) rfl rfl (Nat.le_of_ble_eq_true rfl) trivial (by omega) (by omega) (zm_noSlot_M g (e := e) (by omega) (by omega) (fun y_ => absurd (by omega) y_) (fun y_ => ?_))
      show S 5 [some (.ref x), some (.int (Int32.ofInt e)), some (.int (Int32.ofInt e2))] [.int (Int32.ofInt (0 : Int)), .ref x] _ _ _
      refine hs 3 _ rfl _ _ _ _ _ _ (fun zq => absurd (hd_c1z (c := 1) (by omega) (by omega) zq) (by omega : ¬ ((0 : Int) ≠ 0))) (fun _ => ?_)
      refine hs 4 _ rfl _ _ _ _ _ _ _ rfl ?_
      refine zw_c (hs 5 _ rfl) (a := [.int (Int32.ofInt e2)]) (st := [.ref x]) rfl rfl (Nat.le_of_ble_eq_true rfl) trivial (by omega) (by omega) (zm_noSlot_M g (e := e2) (by omega) (by omega) (fun y_ => ?_) (fun y_ => absurd y_ (by omega)))
      show S 12 [some (.ref x), some (.int (Int32.ofInt e)), some (.int (Int32.ofInt e2))] [.int (Int32.ofInt (1 : Int)), .ref x] _ _ _
      refine hs 6 _ rfl _ _ _ _ _ _ (fun zq => absurd (hd_c1z (c := 0) (by omega) (by omega) zq) (by omega : ¬ ((1 : Int) = 0))) (fun _ => ?_)
      refine hs 7 _ rfl _ _ _ _ _ _ _ rfl ?_
      refine hs 8 _ rfl _ _ _ _ _ ?_
      refine hs 10 _ rfl _ _ _ _ _ _ _ rfl ?_
      refine zw_c (hs 11 _ rfl) (a := [.ref x, .int (Int32.ofInt (1 : Int)), .int (Int32.ofInt (1 : Int))]) (st := []) rfl rfl (Nat.le_of_ble_eq_true rfl) ⟨_, _, _, rfl, a1_, a2_.1⟩ (by omega) (by omega) (zm_start_M g hX (i_ := 1) (w_ := 1) (Or.inr rfl) (by decide) (fun y_ h2_ f2_ x2_ => ?_) (fun y_ => absurd y_ (by decide)))
      show S 24 [some (.ref x), some (.int (Int32.ofInt e)), some (.int (Int32.ofInt e2))] [.int (Int32.ofInt (1 : Int))] _ _ _
      refine hs 12 _ rfl _ _ _ _ _ _ (fun zq => absurd (hd_c1z (c := 0) (by omega) (by omega) zq) (by omega : ¬ ((1 : Int) = 0))) (fun _ => ?_)
      refine hs 13 _ rfl _ _ _ _ _ _ _ rfl ?_
      exact hs 14 _ rfl _ _ _ _ _ (rv _) (by omega) (by omega) (hP 0 _ _ _ (Or.inr ⟨c1_, rfl, rfl⟩) f2_ ⟨_, _, _, _, x2_⟩)
    · 
      refine hs 0 _ rfl _ _ _ _ _ _ _ rfl ?_
      refine hs 1 _ rfl _ _ _ _ _ _ _ rfl ?_
      refine zw_c (hs 2 _ rfl) (a := [.int (Int32.ofInt e)]) (st := [.ref x]) rfl rfl (Nat.le_of_ble_eq_true rfl) trivial (by omega) (by omega) (zm_noSlot_M g (e := e) (by omega) (by omega) (fun y_ => ?_) (fun y_ => absurd y_ (by omega)))
      show S 5 [some (.ref x), some (.int (Int32.ofInt e)), some (.int (Int32.ofInt e2))] [.int (Int32.ofInt (1 : Int)), .ref x] _ _ _
      refine hs 3 _ rfl _ _ _ _ _ _ (fun _ => ?_) (fun zq => absurd (hd_c1t (c := 1) (by omega) (by omega) (by omega : (1 : Int) ≠ 0)) zq)
      refine hs 7 _ rfl _ _ _ _ _ _ _ rfl ?_
      refine hs 8 _ rfl _ _ _ _ _ ?_
      refine hs 10 _ rfl _ _ _ _ _ _ _ rfl ?_
      refine zw_c (hs 11 _ rfl) (a := [.ref x, .int (Int32.ofInt (1 : Int)), .int (Int32.ofInt (1 : Int))]) (st := []) rfl rfl (Nat.le_of_ble_eq_true rfl) ⟨_, _, _, rfl, a1_, a2_.1⟩ (by omega) (by omega) (zm_start_M g hX (i_ := 1) (w_ := 1) (Or.inr rfl) (by decide) (fun y_ h2_ f2_ x2_ => ?_) (fun y_ => absurd y_ (by decide)))
      show S 24 [some (.ref x), some (.int (Int32.ofInt e)), some (.int (Int32.ofInt e2))] [.int (Int32.ofInt (1 : Int))] _ _ _
      refine hs 12 _ rfl _ _ _ _ _ _ (fun zq => absurd (hd_c1z (c := 0) (by omega) (by omega) zq) (by omega : ¬ ((1 : Int) = 0))) (fun _ => ?_)
      refine hs 13 _ rfl _ _ _ _ _ _ _ rfl ?_
      exact hs 14 _ rfl _ _ _ _ _ (rv _) (by omega) (by omega) (hP 0 _ _ _ (Or.inr ⟨c1_, rfl, rfl⟩) f2_ ⟨_, _, _, _, x2_⟩)
  · obtain ⟨i, rfl⟩ : ∃ i : Nat, e = (i : Int) := ⟨e.toNat, by have := c1_.1.1; omega⟩
    obtain ⟨i2, rfl⟩ : ∃ i2 : Nat, e2 = (i2 : Int) := ⟨e2.toNat, by have := c1_.2.1; omega⟩
    have hi : i < 6 := by have := c1_.1.2; omega
    have hi2 : i2 < 6 := by have := c1_.2.2; omega
    have okd_ := hok.1
    by_cases cj_ : c.1 ≤ 0
    · 
      refine hs 0 _ rfl _ _ _ _ _ _ _ rfl ?_
      refine hs 1 _ rfl _ _ _ _ _ _ _ rfl ?_
      refine zw_c (hs 2 _ rfl) (a := [.int (Int32.ofInt (i : Int))]) (st := [.ref x]) rfl rfl (Nat.le_of_ble_eq_true rfl) trivial (by omega) (by omega) (zm_noSlot_M g (e := (i : Int)) (by omega) (by omega) (fun y_ => absurd (by omega) y_) (fun y_ => ?_))
      show S 5 [some (.ref x), some (.int (Int32.ofInt (i : Int))), some (.int (Int32.ofInt (i2 : Int)))] [.int (Int32.ofInt (0 : Int)), .ref x] _ _ _
      refine hs 3 _ rfl _ _ _ _ _ _ (fun zq => absurd (hd_c1z (c := 1) (by omega) (by omega) zq) (by omega : ¬ ((0 : Int) ≠ 0))) (fun _ => ?_)
      refine hs 4 _ rfl _ _ _ _ _ _ _ rfl ?_
      refine zw_c (hs 5 _ rfl) (a := [.int (Int32.ofInt (i2 : Int))]) (st := [.ref x]) rfl rfl (Nat.le_of_ble_eq_true rfl) trivial (by omega) (by omega) (zm_noSlot_M g (e := (i2 : Int)) (by omega) (by omega) (fun y_ => absurd (by omega) y_) (fun y_ => ?_))
      show S 12 [some (.ref x), some (.int (Int32.ofInt (i : Int))), some (.int (Int32.ofInt (i2 : Int)))] [.int (Int32.ofInt (0 : Int)), .ref x] _ _ _
      refine hs 6 _ rfl _ _ _ _ _ _ (fun _ => ?_) (fun zq => absurd (hd_c1t (c := 0) (by omega) (by omega) (by omega : (0 : Int) = 0)) zq)
      refine hs 9 _ rfl _ _ _ _ _ _ _ rfl ?_
      refine hs 10 _ rfl _ _ _ _ _ _ _ rfl ?_
      refine zw_c (hs 11 _ rfl) (a := [.ref x, .int (Int32.ofInt (0 : Int)), .int (Int32.ofInt (1 : Int))]) (st := []) rfl rfl (Nat.le_of_ble_eq_true rfl) ⟨_, _, _, rfl, a1_, a2_.1⟩ (by omega) (by omega) (zm_start_M g hX (i_ := 0) (w_ := 1) (Or.inl rfl) (by decide) (fun y_ => absurd y_ (by decide)) (fun y_ h2_ f2_ x2_ => ?_))
      have ok1_ := hok.2.1.1
      obtain ⟨t_, qn_, tn_, ql_, qb_, vn_, s1_, ⟨b1_, b2_, b3_⟩, ⟨d1_, d2_⟩, up_⟩ := x2_.numL
      obtain ⟨v2_, hvv2_⟩ : ∃ v_, vn_[i2]? = some v_ := ⟨_, List.getElem?_eq_getElem (by omega)⟩
      have gzv2_ : c.2.1[i2]? = some (c.2.1.getD i2 0) := sb_ge (by omega)
      obtain ⟨pt_, pd_, ptd_, pb_, pds_, p1_, p2_, p3_, p4_, p5_⟩ := d2_ _ _ _ hvv2_ gzv2_
      have pl_ : pds_.length ≤ 36 := zm_len p5_ (hok.get (by omega))
      have zq_ : zn_N G h2_ v2_ (c.2.1.getD i2 0) := ⟨_, _, _, _, _, p1_, p2_, p3_, p4_, p5_⟩
      have in2_ : sp_in (c.2.1.getD i2 0) := hok.get hi2
      show S 24 [some (.ref x), some (.int (Int32.ofInt (i : Int))), some (.int (Int32.ofInt (i2 : Int)))] [.int (Int32.ofInt (0 : Int))] _ _ _
      refine hs 12 _ rfl _ _ _ _ _ _ (fun _ => ?_) (fun zq => absurd (hd_c1t (c := 0) (by omega) (by omega) (by omega : (0 : Int) = 0)) zq)
      refine hs 15 _ rfl _ _ _ _ _ _ _ rfl ?_
      refine hs 16 _ rfl _ _ _ _ _ _ _ rfl ?_
      refine hs 17 _ rfl _ _ _ _ _ _ _ rfl ?_
      refine hs 18 _ rfl _ _ _ _ _ _ _ rfl ?_
      refine hs 19 _ rfl _ _ _ _ _ _ _ rfl ?_
      refine hs 20 _ rfl _ _ _ _ _ _ _ _ _ (x2_.1) a2_.1 rfl ?_
      refine hs 21 _ rfl _ _ _ _ _ _ _ _ _ (s1_.1) s1_.2 rfl ?_
      refine hs 22 _ rfl _ _ _ _ _ _ _ rfl ?_
      refine zw_Ar (hs 23 _ rfl) (b1_) (by first | rfl | (rw [b2_]; rfl)) (j := i2) (by omega) (by omega) (zm_nv hvv2_) ?_
      refine zw_c (hs 24 _ rfl) (a := [.ref x, .int (Int32.ofInt (i : Int)), .ref v2_]) (st := [.int (Int32.ofInt (i : Int)), .ref x]) rfl rfl (Nat.le_of_ble_eq_true rfl) (zm_rc x2_) (by omega) (by omega) (zm_pow_M g x2_ hok rfl hi zq_ in2_ (fun y_ => ?_) (fun y_ => absurd y_ (by omega)))
      show S 45 [some (.ref x), some (.int (Int32.ofInt (i : Int))), some (.int (Int32.ofInt (i2 : Int)))] [.int (Int32.ofInt (-9 : Int)), .int (Int32.ofInt (i : Int)), .ref x] _ _ _
      refine zw_cm (hs 25 _ rfl) (a := [.ref x, .int (Int32.ofInt (i : Int)), .int (Int32.ofInt (-9 : Int))]) (st := []) 17 111 rfl rfl (Nat.le_of_ble_eq_true rfl) (zm_rc x2_) (by omega) (by omega) (zm_round_M g x2_ hok hp12 rfl hi (Or.inl rfl) (by omega) (by omega) (by omega) (fun y_ h4_ f4_ x4_ => ?_) (fun y_ => absurd y_ (by decide)) (fun y_ => absurd y_ (by decide)))
      show S 48 [some (.ref x), some (.int (Int32.ofInt (i : Int))), some (.int (Int32.ofInt (i2 : Int)))] [.int (Int32.ofInt (-9 : Int))] _ _ _
      exact hs 26 _ rfl _ _ _ _ _ (rv _) (by omega) (by omega) (hP _ _ _ _ (Or.inl ⟨c1_, rfl, Or.inl ⟨cj_, rfl, rfl⟩⟩) (f2_.tr f4_) ⟨_, _, _, _, x4_⟩)
    · have cp_ : 0 < c.1 := by omega
      have hm9_ : c.1 ≠ 0 := by omega
      have q1_ := Int.emod_nonneg (c.2.1.getD i 0) hm9_
      have q2_ := Int.emod_lt_of_pos (c.2.1.getD i 0) (show 0 < c.1 by omega)
      refine hs 0 _ rfl _ _ _ _ _ _ _ rfl ?_
      refine hs 1 _ rfl _ _ _ _ _ _ _ rfl ?_
      refine zw_c (hs 2 _ rfl) (a := [.int (Int32.ofInt (i : Int))]) (st := [.ref x]) rfl rfl (Nat.le_of_ble_eq_true rfl) trivial (by omega) (by omega) (zm_noSlot_M g (e := (i : Int)) (by omega) (by omega) (fun y_ => absurd (by omega) y_) (fun y_ => ?_))
      show S 5 [some (.ref x), some (.int (Int32.ofInt (i : Int))), some (.int (Int32.ofInt (i2 : Int)))] [.int (Int32.ofInt (0 : Int)), .ref x] _ _ _
      refine hs 3 _ rfl _ _ _ _ _ _ (fun zq => absurd (hd_c1z (c := 1) (by omega) (by omega) zq) (by omega : ¬ ((0 : Int) ≠ 0))) (fun _ => ?_)
      refine hs 4 _ rfl _ _ _ _ _ _ _ rfl ?_
      refine zw_c (hs 5 _ rfl) (a := [.int (Int32.ofInt (i2 : Int))]) (st := [.ref x]) rfl rfl (Nat.le_of_ble_eq_true rfl) trivial (by omega) (by omega) (zm_noSlot_M g (e := (i2 : Int)) (by omega) (by omega) (fun y_ => absurd (by omega) y_) (fun y_ => ?_))
      show S 12 [some (.ref x), some (.int (Int32.ofInt (i : Int))), some (.int (Int32.ofInt (i2 : Int)))] [.int (Int32.ofInt (0 : Int)), .ref x] _ _ _
      refine hs 6 _ rfl _ _ _ _ _ _ (fun _ => ?_) (fun zq => absurd (hd_c1t (c := 0) (by omega) (by omega) (by omega : (0 : Int) = 0)) zq)
      refine hs 9 _ rfl _ _ _ _ _ _ _ rfl ?_
      refine hs 10 _ rfl _ _ _ _ _ _ _ rfl ?_
      refine zw_c (hs 11 _ rfl) (a := [.ref x, .int (Int32.ofInt (0 : Int)), .int (Int32.ofInt (1 : Int))]) (st := []) rfl rfl (Nat.le_of_ble_eq_true rfl) ⟨_, _, _, rfl, a1_, a2_.1⟩ (by omega) (by omega) (zm_start_M g hX (i_ := 0) (w_ := 1) (Or.inl rfl) (by decide) (fun y_ => absurd y_ (by decide)) (fun y_ h2_ f2_ x2_ => ?_))
      have ok1_ := hok.2.1.1
      obtain ⟨t_, qn_, tn_, ql_, qb_, vn_, s1_, ⟨b1_, b2_, b3_⟩, ⟨d1_, d2_⟩, up_⟩ := x2_.numL
      obtain ⟨v2_, hvv2_⟩ : ∃ v_, vn_[i2]? = some v_ := ⟨_, List.getElem?_eq_getElem (by omega)⟩
      have gzv2_ : c.2.1[i2]? = some (c.2.1.getD i2 0) := sb_ge (by omega)
      obtain ⟨pt_, pd_, ptd_, pb_, pds_, p1_, p2_, p3_, p4_, p5_⟩ := d2_ _ _ _ hvv2_ gzv2_
      have pl_ : pds_.length ≤ 36 := zm_len p5_ (hok.get (by omega))
      have zq_ : zn_N G h2_ v2_ (c.2.1.getD i2 0) := ⟨_, _, _, _, _, p1_, p2_, p3_, p4_, p5_⟩
      have in2_ : sp_in (c.2.1.getD i2 0) := hok.get hi2
      show S 24 [some (.ref x), some (.int (Int32.ofInt (i : Int))), some (.int (Int32.ofInt (i2 : Int)))] [.int (Int32.ofInt (0 : Int))] _ _ _
      refine hs 12 _ rfl _ _ _ _ _ _ (fun _ => ?_) (fun zq => absurd (hd_c1t (c := 0) (by omega) (by omega) (by omega : (0 : Int) = 0)) zq)
      refine hs 15 _ rfl _ _ _ _ _ _ _ rfl ?_
      refine hs 16 _ rfl _ _ _ _ _ _ _ rfl ?_
      refine hs 17 _ rfl _ _ _ _ _ _ _ rfl ?_
      refine hs 18 _ rfl _ _ _ _ _ _ _ rfl ?_
      refine hs 19 _ rfl _ _ _ _ _ _ _ rfl ?_
      refine hs 20 _ rfl _ _ _ _ _ _ _ _ _ (x2_.1) a2_.1 rfl ?_
      refine hs 21 _ rfl _ _ _ _ _ _ _ _ _ (s1_.1) s1_.2 rfl ?_
      refine hs 22 _ rfl _ _ _ _ _ _ _ rfl ?_
      refine zw_Ar (hs 23 _ rfl) (b1_) (by first | rfl | (rw [b2_]; rfl)) (j := i2) (by omega) (by omega) (zm_nv hvv2_) ?_
      refine zw_c (hs 24 _ rfl) (a := [.ref x, .int (Int32.ofInt (i : Int)), .ref v2_]) (st := [.int (Int32.ofInt (i : Int)), .ref x]) rfl rfl (Nat.le_of_ble_eq_true rfl) (zm_rc x2_) (by omega) (by omega) (zm_pow_M g x2_ hok rfl hi zq_ in2_ (fun y_ => absurd y_ (by omega)) (fun y_ v_ hv_ => ?_))
      show S 45 [some (.ref x), some (.int (Int32.ofInt (i : Int))), some (.int (Int32.ofInt (i2 : Int)))] [.int (Int32.ofInt v_), .int (Int32.ofInt (i : Int)), .ref x] _ _ _
      have vb_ : v_ = -8 ∨ (0 ≤ v_ ∧ v_ < 400) := by
        rcases hv_ with ⟨-, -, y_⟩ | ⟨-, f_, -, -, -, y_⟩
        · exact Or.inl y_
        · have y2_ : f_ ^ (c.2.1.getD i2 0).natAbs % c.1.toNat < c.1.toNat := Nat.mod_lt _ (by omega)
          exact Or.inr ⟨by omega, by omega⟩
      by_cases m8_ : v_ = -8
      · rw [m8_] at hv_ ⊢
        refine zw_cm (hs 25 _ rfl) (a := [.ref x, .int (Int32.ofInt (i : Int)), .int (Int32.ofInt (-8 : Int))]) (st := []) 17 111 rfl rfl (Nat.le_of_ble_eq_true rfl) (zm_rc x2_) (by omega) (by omega) (zm_round_M g x2_ hok hp12 rfl hi (Or.inr (Or.inl rfl)) (by omega) (by omega) (by omega) (fun y_ => absurd y_ (by decide)) (fun y_ h4_ f4_ x4_ => ?_) (fun y_ => absurd y_ (by decide)))
        show S 48 [some (.ref x), some (.int (Int32.ofInt (i : Int))), some (.int (Int32.ofInt (i2 : Int)))] [.int (Int32.ofInt (-8 : Int))] _ _ _
        exact hs 26 _ rfl _ _ _ _ _ (rv _) (by omega) (by omega) (hP _ _ _ _ (Or.inl ⟨c1_, rfl, Or.inr ⟨cp_, hv_, Or.inl ⟨rfl, rfl⟩⟩⟩) (f2_.tr f4_) ⟨_, _, _, _, x4_⟩)
      · 
        refine zw_cm (hs 25 _ rfl) (a := [.ref x, .int (Int32.ofInt (i : Int)), .int (Int32.ofInt v_)]) (st := []) 17 111 rfl rfl (Nat.le_of_ble_eq_true rfl) (zm_rc x2_) (by omega) (by omega) (zm_round_M g x2_ hok hp12 rfl hi (Or.inr (Or.inr (by omega))) (by omega) (by omega) (by omega) (fun y_ => absurd y_ (by omega)) (fun y_ => absurd y_ (by omega)) (fun y_ h4_ f4_ x4_ => ?_))
        show S 48 [some (.ref x), some (.int (Int32.ofInt (i : Int))), some (.int (Int32.ofInt (i2 : Int)))] [.int (Int32.ofInt v_)] _ _ _
        exact hs 26 _ rfl _ _ _ _ _ (rv _) (by omega) (by omega) (hP _ _ _ _ (Or.inl ⟨c1_, rfl, Or.inr ⟨cp_, hv_, Or.inr ⟨by omega, rfl⟩⟩⟩) (f2_.tr f4_) x4_)
