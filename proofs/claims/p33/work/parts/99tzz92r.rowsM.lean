/-! ROWS AND BOOKS OF THE REFERENCE -/
set_option maxHeartbeats 4000000 in
theorem zm_qofRow_M {l : Launch} {G : am_G} {X : ck_XT} (g : gM l G X) {o : Nat → Nat} {x tx now qw : Nat} {th j m k : Int} {c : sp_S} {P : List sp_S} {h : List am_C} (hX : zm_x G h o x tx now qw th j m k c P) (hok : sp_ok c) {e e2 : Int} (he1 : -2147483648 ≤ e) (he2 : e ≤ 2147483647) (hf1 : -2147483648 ≤ e2) (hf2 : e2 ≤ 2147483647) {mc ms : Nat} {Post : am_O → List am_C → Prop}
    (hP : ∀ (a th : Int) (T' : sp_T) (h' : List am_C), sp_q45 e e2 (c, P, j, m, k) a th T' → zm_fr G h h' → zm_Y G h' x th T' → Post (.inl (some (.int (Int32.ofInt a)))) h') :
    am_M l G yX14_ofRow (.code yX14_ofRow prog_14_method_83_code 3 (some .int)) 4 84 mc ms [.ref x, .int (Int32.ofInt e), .int (Int32.ofInt e2)] h Post := by
  refine gh_yX14_ofRow_X g (Nat.le_of_ble_eq_true rfl) fun S SX hs hr hw hx => ?_
  have rv : ∀ x : Int32, ck_fv 0 (.int x) := fun x => ⟨_, rfl⟩
  obtain ⟨a1_, a2_, a3_, a4_⟩ := id hX
  have hl6_ := hok.2.2.1.1
  by_cases c1_ : 0 ≤ e ∧ e < (c.2.2.1.length : Int)
  rotate_left
  · 
    refine hs 0 _ rfl _ _ _ _ _ _ _ rfl ?_
    refine hs 1 _ rfl _ _ _ _ _ _ _ rfl ?_
    refine hs 2 _ rfl _ _ _ _ _ _ _ rfl ?_
    refine zw_c (hs 3 _ rfl) (a := [.ref x, .int (Int32.ofInt e)]) (st := [.ref x]) rfl rfl (Nat.le_of_ble_eq_true rfl) (zm_rc hX) (by omega) (by omega) (zm_noPlace_M g hX (e := e) (by omega) (by omega) hok (fun y_ => ?_) (fun y_ => absurd y_ c1_))
    show S 6 [some (.ref x), some (.int (Int32.ofInt e)), some (.int (Int32.ofInt e2))] [.int (Int32.ofInt (1 : Int)), .ref x] _ _ _
    refine hs 4 _ rfl _ _ _ _ _ _ _ rfl ?_
    refine zw_c (hs 5 _ rfl) (a := [.ref x, .int (Int32.ofInt (1 : Int)), .int (Int32.ofInt (1 : Int))]) (st := []) rfl rfl (Nat.le_of_ble_eq_true rfl) ⟨_, _, _, rfl, a1_, a2_.1⟩ (by omega) (by omega) (zm_start_M g hX (i_ := 1) (w_ := 1) (Or.inr rfl) (by decide) (fun y_ h2_ f2_ x2_ => ?_) (fun y_ => absurd y_ (by decide)))
    show S 10 [some (.ref x), some (.int (Int32.ofInt e)), some (.int (Int32.ofInt e2))] [.int (Int32.ofInt (1 : Int))] _ _ _
    refine hs 6 _ rfl _ _ _ _ _ _ (fun _ => ?_) (fun zq => absurd (hd_c1t (c := 1) (by omega) (by omega) (by omega : (1 : Int) ≠ 0)) zq)
    refine hs 19 _ rfl _ _ _ _ _ _ _ rfl ?_
    refine hs 20 _ rfl _ _ _ _ _ ?_
    exact hs 29 _ rfl _ _ _ _ _ (rv _) (by omega) (by omega) (hP 0 _ _ _ ⟨rfl, Or.inr (Or.inr ⟨c1_, rfl⟩)⟩ (f2_) ⟨_, _, _, _, x2_⟩)
  · obtain ⟨i, rfl⟩ : ∃ i : Nat, e = (i : Int) := ⟨e.toNat, by omega⟩
    have hi : i < c.2.2.1.length := by omega
    by_cases c3_ : 0 ≤ e2 ∧ e2 ≤ 1
    rotate_left
    · 
      refine hs 0 _ rfl _ _ _ _ _ _ _ rfl ?_
      refine hs 1 _ rfl _ _ _ _ _ _ _ rfl ?_
      refine hs 2 _ rfl _ _ _ _ _ _ _ rfl ?_
      refine zw_c (hs 3 _ rfl) (a := [.ref x, .int (Int32.ofInt (i : Int))]) (st := [.ref x]) rfl rfl (Nat.le_of_ble_eq_true rfl) (zm_rc hX) (by omega) (by omega) (zm_noPlace_M g hX (e := (i : Int)) (by omega) (by omega) hok (fun y_ => absurd c1_ y_) (fun y_ => ?_))
      show S 6 [some (.ref x), some (.int (Int32.ofInt (i : Int))), some (.int (Int32.ofInt e2))] [.int (Int32.ofInt (0 : Int)), .ref x] _ _ _
      refine hs 4 _ rfl _ _ _ _ _ _ _ rfl ?_
      refine zw_c (hs 5 _ rfl) (a := [.ref x, .int (Int32.ofInt (0 : Int)), .int (Int32.ofInt (1 : Int))]) (st := []) rfl rfl (Nat.le_of_ble_eq_true rfl) ⟨_, _, _, rfl, a1_, a2_.1⟩ (by omega) (by omega) (zm_start_M g hX (i_ := 0) (w_ := 1) (Or.inl rfl) (by decide) (fun y_ => absurd y_ (by decide)) (fun y_ h2_ f2_ x2_ => ?_))
      show S 10 [some (.ref x), some (.int (Int32.ofInt (i : Int))), some (.int (Int32.ofInt e2))] [.int (Int32.ofInt (0 : Int))] _ _ _
      refine hs 6 _ rfl _ _ _ _ _ _ (fun zq => absurd (hd_c1z (c := 1) (by omega) (by omega) zq) (by omega : ¬ ((0 : Int) ≠ 0))) (fun _ => ?_)
      refine hs 7 _ rfl _ _ _ _ _ _ _ rfl ?_
      refine hs 8 _ rfl _ _ _ _ _ _ _ rfl ?_
      refine hs 9 _ rfl _ _ _ _ _ _ _ rfl ?_
      refine hs 10 _ rfl _ _ _ _ _ _ _ rfl ?_
      refine zw_c (hs 11 _ rfl) (a := [.int (Int32.ofInt e2), .int (Int32.ofInt (0 : Int)), .int (Int32.ofInt (1 : Int))]) (st := [.ref x]) rfl rfl (Nat.le_of_ble_eq_true rfl) trivial (by omega) (by omega) (zm_isIn_M g (v := e2) (a := 0) (b := 1) (by omega) (by omega) (by omega) (by omega) (by omega) (by omega) (fun y_ => absurd y_ (by omega)) (fun y_ => ?_))
      show S 20 [some (.ref x), some (.int (Int32.ofInt (i : Int))), some (.int (Int32.ofInt e2))] [.int (Int32.ofInt (0 : Int)), .ref x] _ _ _
      refine hs 12 _ rfl _ _ _ _ _ _ (fun zq => absurd (hd_c1z (c := 1) (by omega) (by omega) zq) (by omega : ¬ ((0 : Int) ≠ 0))) (fun _ => ?_)
      refine hs 13 _ rfl _ _ _ _ _ _ _ rfl ?_
      refine hs 14 _ rfl _ _ _ _ _ ?_
      refine hs 16 _ rfl _ _ _ _ _ _ _ rfl ?_
      refine zw_c (hs 17 _ rfl) (a := [.ref x, .int (Int32.ofInt (1 : Int)), .int (Int32.ofInt (2 : Int))]) (st := []) rfl rfl (Nat.le_of_ble_eq_true rfl) ⟨_, _, _, rfl, x2_.1, a2_.1⟩ (by omega) (by omega) (zm_refuse_M g x2_ (i_ := 1) (w_ := 2) (Or.inr rfl) (by decide) (fun y_ h3_ f3_ x3_ => ?_) (fun y_ => absurd y_ (by decide)))
      show S 32 [some (.ref x), some (.int (Int32.ofInt (i : Int))), some (.int (Int32.ofInt e2))] [.int (Int32.ofInt (1 : Int))] _ _ _
      refine hs 18 _ rfl _ _ _ _ _ _ (fun zq => absurd (hd_c1z (c := 0) (by omega) (by omega) zq) (by omega : ¬ ((1 : Int) = 0))) (fun _ => ?_)
      refine hs 19 _ rfl _ _ _ _ _ _ _ rfl ?_
      refine hs 20 _ rfl _ _ _ _ _ ?_
      exact hs 29 _ rfl _ _ _ _ _ (rv _) (by omega) (by omega) (hP 0 _ _ _ ⟨rfl, Or.inr (Or.inl ⟨c1_, c3_, rfl⟩)⟩ (f2_.tr f3_) ⟨_, _, _, _, x3_⟩)
    · by_cases c4_ : e2 = 0
      · subst c4_
        refine hs 0 _ rfl _ _ _ _ _ _ _ rfl ?_
        refine hs 1 _ rfl _ _ _ _ _ _ _ rfl ?_
        refine hs 2 _ rfl _ _ _ _ _ _ _ rfl ?_
        refine zw_c (hs 3 _ rfl) (a := [.ref x, .int (Int32.ofInt (i : Int))]) (st := [.ref x]) rfl rfl (Nat.le_of_ble_eq_true rfl) (zm_rc hX) (by omega) (by omega) (zm_noPlace_M g hX (e := (i : Int)) (by omega) (by omega) hok (fun y_ => absurd c1_ y_) (fun y_ => ?_))
        show S 6 [some (.ref x), some (.int (Int32.ofInt (i : Int))), some (.int (Int32.ofInt (0 : Int)))] [.int (Int32.ofInt (0 : Int)), .ref x] _ _ _
        refine hs 4 _ rfl _ _ _ _ _ _ _ rfl ?_
        refine zw_c (hs 5 _ rfl) (a := [.ref x, .int (Int32.ofInt (0 : Int)), .int (Int32.ofInt (1 : Int))]) (st := []) rfl rfl (Nat.le_of_ble_eq_true rfl) ⟨_, _, _, rfl, a1_, a2_.1⟩ (by omega) (by omega) (zm_start_M g hX (i_ := 0) (w_ := 1) (Or.inl rfl) (by decide) (fun y_ => absurd y_ (by decide)) (fun y_ h2_ f2_ x2_ => ?_))
        obtain ⟨t_, qn_, ql_, qb_, vl_, s1_, l1_, ⟨e1_, e2_⟩, up_⟩ := x2_.rowL
        obtain ⟨v_, hv1_⟩ : ∃ w_, vl_[i]? = some w_ := ⟨_, List.getElem?_eq_getElem (by omega)⟩
        obtain ⟨⟨a_, bz1_⟩, hp1_⟩ : ∃ p, c.2.2.1[i]? = some p := ⟨_, List.getElem?_eq_getElem (by omega)⟩
        obtain ⟨tv1_, rv1a_, rv1b_⟩ := e2_ _ _ _ hv1_ hp1_
        obtain ⟨o11_, o12_, o13_, o14_⟩ : 1 ≤ bz1_ ∧ bz1_ ≤ 999 ∧ 0 ≤ a_ ∧ a_ < bz1_ := hok.2.2.1.2 _ (List.mem_of_getElem? hp1_)
        obtain ⟨B_, rfl⟩ : ∃ s_ : Nat, bz1_ = (s_ : Int) := ⟨bz1_.toNat, by omega⟩
        have rv1a_ : am_g G h2_ v_ = some (tv1_, hd_r [a_, (B_ : Int)]) := rv1a_
        have eq1_ : c.2.2.1.getD i (0, 1) = (a_, (B_ : Int)) := by
          rw [List.getD_eq_getElem?_getD, hp1_, Option.getD_some]
        show S 10 [some (.ref x), some (.int (Int32.ofInt (i : Int))), some (.int (Int32.ofInt (0 : Int)))] [.int (Int32.ofInt (0 : Int))] _ _ _
        refine hs 6 _ rfl _ _ _ _ _ _ (fun zq => absurd (hd_c1z (c := 1) (by omega) (by omega) zq) (by omega : ¬ ((0 : Int) ≠ 0))) (fun _ => ?_)
        refine hs 7 _ rfl _ _ _ _ _ _ _ rfl ?_
        refine hs 8 _ rfl _ _ _ _ _ _ _ rfl ?_
        refine hs 9 _ rfl _ _ _ _ _ _ _ rfl ?_
        refine hs 10 _ rfl _ _ _ _ _ _ _ rfl ?_
        refine zw_c (hs 11 _ rfl) (a := [.int (Int32.ofInt (0 : Int)), .int (Int32.ofInt (0 : Int)), .int (Int32.ofInt (1 : Int))]) (st := [.ref x]) rfl rfl (Nat.le_of_ble_eq_true rfl) trivial (by omega) (by omega) (zm_isIn_M g (v := (0 : Int)) (a := 0) (b := 1) (by omega) (by omega) (by omega) (by omega) (by omega) (by omega) (fun y_ => ?_) (fun y_ => absurd (by omega) y_))
        show S 20 [some (.ref x), some (.int (Int32.ofInt (i : Int))), some (.int (Int32.ofInt (0 : Int)))] [.int (Int32.ofInt (1 : Int)), .ref x] _ _ _
        refine hs 12 _ rfl _ _ _ _ _ _ (fun _ => ?_) (fun zq => absurd (hd_c1t (c := 1) (by omega) (by omega) (by omega : (1 : Int) ≠ 0)) zq)
        refine hs 15 _ rfl _ _ _ _ _ _ _ rfl ?_
        refine hs 16 _ rfl _ _ _ _ _ _ _ rfl ?_
        refine zw_c (hs 17 _ rfl) (a := [.ref x, .int (Int32.ofInt (0 : Int)), .int (Int32.ofInt (2 : Int))]) (st := []) rfl rfl (Nat.le_of_ble_eq_true rfl) ⟨_, _, _, rfl, x2_.1, a2_.1⟩ (by omega) (by omega) (zm_refuse_M g x2_ (i_ := 0) (w_ := 2) (Or.inl rfl) (by decide) (fun y_ => absurd y_ (by decide)) (fun y_ => ?_))
        show S 32 [some (.ref x), some (.int (Int32.ofInt (i : Int))), some (.int (Int32.ofInt (0 : Int)))] [.int (Int32.ofInt (0 : Int))] _ _ _
        refine hs 18 _ rfl _ _ _ _ _ _ (fun _ => ?_) (fun zq => absurd (hd_c1t (c := 0) (by omega) (by omega) (by omega : (0 : Int) = 0)) zq)
        refine hs 21 _ rfl _ _ _ _ _ _ _ rfl ?_
        refine hs 22 _ rfl _ _ _ _ _ _ _ _ _ (x2_.1) a2_.1 rfl ?_
        refine hs 23 _ rfl _ _ _ _ _ _ _ _ _ (s1_.1) s1_.2 rfl ?_
        refine hs 24 _ rfl _ _ _ _ _ _ _ rfl ?_
        refine zw_c (hs 25 _ rfl) (a := [.ref ql_, .int (Int32.ofInt (i : Int))]) (st := []) rfl rfl (Nat.le_of_ble_eq_true rfl) (zm_l.rc l1_) (by omega) (by omega) (zm_get_M g l1_ hv1_ ?_)
        show S 50 [some (.ref x), some (.int (Int32.ofInt (i : Int))), some (.int (Int32.ofInt (0 : Int)))] [.ref v_] _ _ _
        refine hs 26 _ rfl _ _ _ _ _ _ (Or.inr ⟨_, _, _, rfl, (rv1a_), List.mem_singleton.mpr rv1b_⟩) ?_
        refine hs 27 _ rfl _ _ _ _ _ _ _ rfl ?_
        refine hd_A (hs 28 _ rfl) (by decide) (by decide) (rv1a_) rv1b_ (j := 0) (by omega) (by omega) rfl ?_
        exact hs 29 _ rfl _ _ _ _ _ (rv _) (by omega) (by omega) (hP a_ _ _ _ ⟨rfl, Or.inl ⟨c1_, by decide, rfl, by show a_ = (if (0 : Int) = 0 then (c.2.2.1.getD i (0, 1)).1 else (c.2.2.1.getD i (0, 1)).2); rw [eq1_]; rfl⟩⟩ (f2_) ⟨_, _, _, _, x2_⟩)
      · have c5_ : e2 = 1 := by omega
        subst c5_
        refine hs 0 _ rfl _ _ _ _ _ _ _ rfl ?_
        refine hs 1 _ rfl _ _ _ _ _ _ _ rfl ?_
        refine hs 2 _ rfl _ _ _ _ _ _ _ rfl ?_
        refine zw_c (hs 3 _ rfl) (a := [.ref x, .int (Int32.ofInt (i : Int))]) (st := [.ref x]) rfl rfl (Nat.le_of_ble_eq_true rfl) (zm_rc hX) (by omega) (by omega) (zm_noPlace_M g hX (e := (i : Int)) (by omega) (by omega) hok (fun y_ => absurd c1_ y_) (fun y_ => ?_))
        show S 6 [some (.ref x), some (.int (Int32.ofInt (i : Int))), some (.int (Int32.ofInt (1 : Int)))] [.int (Int32.ofInt (0 : Int)), .ref x] _ _ _
        refine hs 4 _ rfl _ _ _ _ _ _ _ rfl ?_
        refine zw_c (hs 5 _ rfl) (a := [.ref x, .int (Int32.ofInt (0 : Int)), .int (Int32.ofInt (1 : Int))]) (st := []) rfl rfl (Nat.le_of_ble_eq_true rfl) ⟨_, _, _, rfl, a1_, a2_.1⟩ (by omega) (by omega) (zm_start_M g hX (i_ := 0) (w_ := 1) (Or.inl rfl) (by decide) (fun y_ => absurd y_ (by decide)) (fun y_ h2_ f2_ x2_ => ?_))
        obtain ⟨t_, qn_, ql_, qb_, vl_, s1_, l1_, ⟨e1_, e2_⟩, up_⟩ := x2_.rowL
        obtain ⟨v_, hv1_⟩ : ∃ w_, vl_[i]? = some w_ := ⟨_, List.getElem?_eq_getElem (by omega)⟩
        obtain ⟨⟨a_, bz1_⟩, hp1_⟩ : ∃ p, c.2.2.1[i]? = some p := ⟨_, List.getElem?_eq_getElem (by omega)⟩
        obtain ⟨tv1_, rv1a_, rv1b_⟩ := e2_ _ _ _ hv1_ hp1_
        obtain ⟨o11_, o12_, o13_, o14_⟩ : 1 ≤ bz1_ ∧ bz1_ ≤ 999 ∧ 0 ≤ a_ ∧ a_ < bz1_ := hok.2.2.1.2 _ (List.mem_of_getElem? hp1_)
        obtain ⟨B_, rfl⟩ : ∃ s_ : Nat, bz1_ = (s_ : Int) := ⟨bz1_.toNat, by omega⟩
        have rv1a_ : am_g G h2_ v_ = some (tv1_, hd_r [a_, (B_ : Int)]) := rv1a_
        have eq1_ : c.2.2.1.getD i (0, 1) = (a_, (B_ : Int)) := by
          rw [List.getD_eq_getElem?_getD, hp1_, Option.getD_some]
        show S 10 [some (.ref x), some (.int (Int32.ofInt (i : Int))), some (.int (Int32.ofInt (1 : Int)))] [.int (Int32.ofInt (0 : Int))] _ _ _
        refine hs 6 _ rfl _ _ _ _ _ _ (fun zq => absurd (hd_c1z (c := 1) (by omega) (by omega) zq) (by omega : ¬ ((0 : Int) ≠ 0))) (fun _ => ?_)
        refine hs 7 _ rfl _ _ _ _ _ _ _ rfl ?_
        refine hs 8 _ rfl _ _ _ _ _ _ _ rfl ?_
        refine hs 9 _ rfl _ _ _ _ _ _ _ rfl ?_
        refine hs 10 _ rfl _ _ _ _ _ _ _ rfl ?_
        refine zw_c (hs 11 _ rfl) (a := [.int (Int32.ofInt (1 : Int)), .int (Int32.ofInt (0 : Int)), .int (Int32.ofInt (1 : Int))]) (st := [.ref x]) rfl rfl (Nat.le_of_ble_eq_true rfl) trivial (by omega) (by omega) (zm_isIn_M g (v := (1 : Int)) (a := 0) (b := 1) (by omega) (by omega) (by omega) (by omega) (by omega) (by omega) (fun y_ => ?_) (fun y_ => absurd (by omega) y_))
        show S 20 [some (.ref x), some (.int (Int32.ofInt (i : Int))), some (.int (Int32.ofInt (1 : Int)))] [.int (Int32.ofInt (1 : Int)), .ref x] _ _ _
        refine hs 12 _ rfl _ _ _ _ _ _ (fun _ => ?_) (fun zq => absurd (hd_c1t (c := 1) (by omega) (by omega) (by omega : (1 : Int) ≠ 0)) zq)
        refine hs 15 _ rfl _ _ _ _ _ _ _ rfl ?_
        refine hs 16 _ rfl _ _ _ _ _ _ _ rfl ?_
        refine zw_c (hs 17 _ rfl) (a := [.ref x, .int (Int32.ofInt (0 : Int)), .int (Int32.ofInt (2 : Int))]) (st := []) rfl rfl (Nat.le_of_ble_eq_true rfl) ⟨_, _, _, rfl, x2_.1, a2_.1⟩ (by omega) (by omega) (zm_refuse_M g x2_ (i_ := 0) (w_ := 2) (Or.inl rfl) (by decide) (fun y_ => absurd y_ (by decide)) (fun y_ => ?_))
        show S 32 [some (.ref x), some (.int (Int32.ofInt (i : Int))), some (.int (Int32.ofInt (1 : Int)))] [.int (Int32.ofInt (0 : Int))] _ _ _
        refine hs 18 _ rfl _ _ _ _ _ _ (fun _ => ?_) (fun zq => absurd (hd_c1t (c := 0) (by omega) (by omega) (by omega : (0 : Int) = 0)) zq)
        refine hs 21 _ rfl _ _ _ _ _ _ _ rfl ?_
        refine hs 22 _ rfl _ _ _ _ _ _ _ _ _ (x2_.1) a2_.1 rfl ?_
        refine hs 23 _ rfl _ _ _ _ _ _ _ _ _ (s1_.1) s1_.2 rfl ?_
        refine hs 24 _ rfl _ _ _ _ _ _ _ rfl ?_
        refine zw_c (hs 25 _ rfl) (a := [.ref ql_, .int (Int32.ofInt (i : Int))]) (st := []) rfl rfl (Nat.le_of_ble_eq_true rfl) (zm_l.rc l1_) (by omega) (by omega) (zm_get_M g l1_ hv1_ ?_)
        show S 50 [some (.ref x), some (.int (Int32.ofInt (i : Int))), some (.int (Int32.ofInt (1 : Int)))] [.ref v_] _ _ _
        refine hs 26 _ rfl _ _ _ _ _ _ (Or.inr ⟨_, _, _, rfl, (rv1a_), List.mem_singleton.mpr rv1b_⟩) ?_
        refine hs 27 _ rfl _ _ _ _ _ _ _ rfl ?_
        refine hd_A (hs 28 _ rfl) (by decide) (by decide) (rv1a_) rv1b_ (j := 1) (by omega) (by omega) rfl ?_
        exact hs 29 _ rfl _ _ _ _ _ (rv _) (by omega) (by omega) (hP (B_ : Int) _ _ _ ⟨rfl, Or.inl ⟨c1_, by decide, rfl, by show (B_ : Int) = (if (1 : Int) = 0 then (c.2.2.1.getD i (0, 1)).1 else (c.2.2.1.getD i (0, 1)).2); rw [eq1_]; rfl⟩⟩ (f2_) ⟨_, _, _, _, x2_⟩)
set_option maxHeartbeats 4000000 in
theorem zm_qagree_M {l : Launch} {G : am_G} {X : ck_XT} (g : gM l G X) {o : Nat → Nat} {x tx now qw : Nat} {th j m k : Int} {c : sp_S} {P : List sp_S} {h : List am_C} (hX : zm_x G h o x tx now qw th j m k c P) (hok : sp_ok c) {e e2 : Int} (he1 : -2147483648 ≤ e) (he2 : e ≤ 2147483647) (hf1 : -2147483648 ≤ e2) (hf2 : e2 ≤ 2147483647) {mc ms : Nat} {Post : am_O → List am_C → Prop}
    (hP : ∀ (a th : Int) (T' : sp_T) (h' : List am_C), sp_q46 e e2 (c, P, j, m, k) a th T' → zm_fr G h h' → zm_Y G h' x th T' → Post (.inl (some (.int (Int32.ofInt a)))) h') :
    am_M l G yX14_agree (.code yX14_agree prog_14_method_85_code 3 (some .boolean)) 5 107 mc ms [.ref x, .int (Int32.ofInt e), .int (Int32.ofInt e2)] h Post := by
  refine gh_yX14_agree_X g (Nat.le_of_ble_eq_true rfl) fun S SX hs hr hw hx => ?_
  have rv : ∀ x : Int32, ck_fv 0 (.int x) := fun x => ⟨_, rfl⟩
  obtain ⟨a1_, a2_, a3_, a4_⟩ := id hX
  have hl6_ := hok.2.2.1.1
  by_cases c1_ : 0 ≤ e ∧ e < (c.2.2.1.length : Int)
  rotate_left
  · 
    refine hs 0 _ rfl _ _ _ _ _ _ _ rfl ?_
    refine hs 1 _ rfl _ _ _ _ _ _ _ rfl ?_
    refine hs 2 _ rfl _ _ _ _ _ _ _ rfl ?_
    refine zw_c (hs 3 _ rfl) (a := [.ref x, .int (Int32.ofInt e)]) (st := [.ref x]) rfl rfl (Nat.le_of_ble_eq_true rfl) (zm_rc hX) (by omega) (by omega) (zm_noPlace_M g hX (e := e) (by omega) (by omega) hok (fun y_ => ?_) (fun y_ => absurd y_ c1_))
    show S 6 [some (.ref x), some (.int (Int32.ofInt e)), some (.int (Int32.ofInt e2))] [.int (Int32.ofInt (1 : Int)), .ref x] _ _ _
    refine hs 4 _ rfl _ _ _ _ _ _ (fun _ => ?_) (fun zq => absurd (hd_c1t (c := 1) (by omega) (by omega) (by omega : (1 : Int) ≠ 0)) zq)
    refine hs 9 _ rfl _ _ _ _ _ _ _ rfl ?_
    refine hs 10 _ rfl _ _ _ _ _ ?_
    refine hs 12 _ rfl _ _ _ _ _ _ _ rfl ?_
    refine zw_c (hs 13 _ rfl) (a := [.ref x, .int (Int32.ofInt (1 : Int)), .int (Int32.ofInt (1 : Int))]) (st := []) rfl rfl (Nat.le_of_ble_eq_true rfl) ⟨_, _, _, rfl, a1_, a2_.1⟩ (by omega) (by omega) (zm_start_M g hX (i_ := 1) (w_ := 1) (Or.inr rfl) (by decide) (fun y_ h2_ f2_ x2_ => ?_) (fun y_ => absurd y_ (by decide)))
    show S 26 [some (.ref x), some (.int (Int32.ofInt e)), some (.int (Int32.ofInt e2))] [.int (Int32.ofInt (1 : Int))] _ _ _
    refine hs 14 _ rfl _ _ _ _ _ _ (fun _ => ?_) (fun zq => absurd (hd_c1t (c := 1) (by omega) (by omega) (by omega : (1 : Int) ≠ 0)) zq)
    refine hs 22 _ rfl _ _ _ _ _ _ _ rfl ?_
    exact hs 23 _ rfl _ _ _ _ _ ⟨_, rfl, by decide, by decide⟩ (by omega) (by omega) (hP 0 _ _ _ ⟨rfl, Or.inr ⟨fun y_ => c1_ y_.1, rfl⟩⟩ (f2_) ⟨_, _, _, _, x2_⟩)
  · by_cases c2_ : 0 ≤ e2 ∧ e2 < (c.2.2.1.length : Int)
    rotate_left
    · 
      refine hs 0 _ rfl _ _ _ _ _ _ _ rfl ?_
      refine hs 1 _ rfl _ _ _ _ _ _ _ rfl ?_
      refine hs 2 _ rfl _ _ _ _ _ _ _ rfl ?_
      refine zw_c (hs 3 _ rfl) (a := [.ref x, .int (Int32.ofInt e)]) (st := [.ref x]) rfl rfl (Nat.le_of_ble_eq_true rfl) (zm_rc hX) (by omega) (by omega) (zm_noPlace_M g hX (e := e) (by omega) (by omega) hok (fun y_ => absurd c1_ y_) (fun y_ => ?_))
      show S 6 [some (.ref x), some (.int (Int32.ofInt e)), some (.int (Int32.ofInt e2))] [.int (Int32.ofInt (0 : Int)), .ref x] _ _ _
      refine hs 4 _ rfl _ _ _ _ _ _ (fun zq => absurd (hd_c1z (c := 1) (by omega) (by omega) zq) (by omega : ¬ ((0 : Int) ≠ 0))) (fun _ => ?_)
      refine hs 5 _ rfl _ _ _ _ _ _ _ rfl ?_
      refine hs 6 _ rfl _ _ _ _ _ _ _ rfl ?_
      refine zw_c (hs 7 _ rfl) (a := [.ref x, .int (Int32.ofInt e2)]) (st := [.ref x]) rfl rfl (Nat.le_of_ble_eq_true rfl) (zm_rc hX) (by omega) (by omega) (zm_noPlace_M g hX (e := e2) (by omega) (by omega) hok (fun y_ => ?_) (fun y_ => absurd y_ c2_))
      show S 14 [some (.ref x), some (.int (Int32.ofInt e)), some (.int (Int32.ofInt e2))] [.int (Int32.ofInt (1 : Int)), .ref x] _ _ _
      refine hs 8 _ rfl _ _ _ _ _ _ (fun zq => absurd (hd_c1z (c := 0) (by omega) (by omega) zq) (by omega : ¬ ((1 : Int) = 0))) (fun _ => ?_)
      refine hs 9 _ rfl _ _ _ _ _ _ _ rfl ?_
      refine hs 10 _ rfl _ _ _ _ _ ?_
      refine hs 12 _ rfl _ _ _ _ _ _ _ rfl ?_
      refine zw_c (hs 13 _ rfl) (a := [.ref x, .int (Int32.ofInt (1 : Int)), .int (Int32.ofInt (1 : Int))]) (st := []) rfl rfl (Nat.le_of_ble_eq_true rfl) ⟨_, _, _, rfl, a1_, a2_.1⟩ (by omega) (by omega) (zm_start_M g hX (i_ := 1) (w_ := 1) (Or.inr rfl) (by decide) (fun y_ h2_ f2_ x2_ => ?_) (fun y_ => absurd y_ (by decide)))
      show S 26 [some (.ref x), some (.int (Int32.ofInt e)), some (.int (Int32.ofInt e2))] [.int (Int32.ofInt (1 : Int))] _ _ _
      refine hs 14 _ rfl _ _ _ _ _ _ (fun _ => ?_) (fun zq => absurd (hd_c1t (c := 1) (by omega) (by omega) (by omega : (1 : Int) ≠ 0)) zq)
      refine hs 22 _ rfl _ _ _ _ _ _ _ rfl ?_
      exact hs 23 _ rfl _ _ _ _ _ ⟨_, rfl, by decide, by decide⟩ (by omega) (by omega) (hP 0 _ _ _ ⟨rfl, Or.inr ⟨fun y_ => c2_ y_.2, rfl⟩⟩ (f2_) ⟨_, _, _, _, x2_⟩)
    · obtain ⟨i, rfl⟩ : ∃ i : Nat, e = (i : Int) := ⟨e.toNat, by omega⟩
      obtain ⟨j2, rfl⟩ : ∃ i : Nat, e2 = (i : Int) := ⟨e2.toNat, by omega⟩
      have hi : i < c.2.2.1.length := by omega
      have hj : j2 < c.2.2.1.length := by omega
      by_cases ag_ : (sp_ag (c.2.2.1.getD i (0, 1)) (c.2.2.1.getD j2 (0, 1)))
      · 
        refine hs 0 _ rfl _ _ _ _ _ _ _ rfl ?_
        refine hs 1 _ rfl _ _ _ _ _ _ _ rfl ?_
        refine hs 2 _ rfl _ _ _ _ _ _ _ rfl ?_
        refine zw_c (hs 3 _ rfl) (a := [.ref x, .int (Int32.ofInt (i : Int))]) (st := [.ref x]) rfl rfl (Nat.le_of_ble_eq_true rfl) (zm_rc hX) (by omega) (by omega) (zm_noPlace_M g hX (e := (i : Int)) (by omega) (by omega) hok (fun y_ => absurd c1_ y_) (fun y_ => ?_))
        show S 6 [some (.ref x), some (.int (Int32.ofInt (i : Int))), some (.int (Int32.ofInt (j2 : Int)))] [.int (Int32.ofInt (0 : Int)), .ref x] _ _ _
        refine hs 4 _ rfl _ _ _ _ _ _ (fun zq => absurd (hd_c1z (c := 1) (by omega) (by omega) zq) (by omega : ¬ ((0 : Int) ≠ 0))) (fun _ => ?_)
        refine hs 5 _ rfl _ _ _ _ _ _ _ rfl ?_
        refine hs 6 _ rfl _ _ _ _ _ _ _ rfl ?_
        refine zw_c (hs 7 _ rfl) (a := [.ref x, .int (Int32.ofInt (j2 : Int))]) (st := [.ref x]) rfl rfl (Nat.le_of_ble_eq_true rfl) (zm_rc hX) (by omega) (by omega) (zm_noPlace_M g hX (e := (j2 : Int)) (by omega) (by omega) hok (fun y_ => absurd c2_ y_) (fun y_ => ?_))
        show S 14 [some (.ref x), some (.int (Int32.ofInt (i : Int))), some (.int (Int32.ofInt (j2 : Int)))] [.int (Int32.ofInt (0 : Int)), .ref x] _ _ _
        refine hs 8 _ rfl _ _ _ _ _ _ (fun _ => ?_) (fun zq => absurd (hd_c1t (c := 0) (by omega) (by omega) (by omega : (0 : Int) = 0)) zq)
        refine hs 11 _ rfl _ _ _ _ _ _ _ rfl ?_
        refine hs 12 _ rfl _ _ _ _ _ _ _ rfl ?_
        refine zw_c (hs 13 _ rfl) (a := [.ref x, .int (Int32.ofInt (0 : Int)), .int (Int32.ofInt (1 : Int))]) (st := []) rfl rfl (Nat.le_of_ble_eq_true rfl) ⟨_, _, _, rfl, a1_, a2_.1⟩ (by omega) (by omega) (zm_start_M g hX (i_ := 0) (w_ := 1) (Or.inl rfl) (by decide) (fun y_ => absurd y_ (by decide)) (fun y_ h2_ f2_ x2_ => ?_))
        show S 26 [some (.ref x), some (.int (Int32.ofInt (i : Int))), some (.int (Int32.ofInt (j2 : Int)))] [.int (Int32.ofInt (0 : Int))] _ _ _
        refine hs 14 _ rfl _ _ _ _ _ _ (fun zq => absurd (hd_c1z (c := 1) (by omega) (by omega) zq) (by omega : ¬ ((0 : Int) ≠ 0))) (fun _ => ?_)
        refine hs 15 _ rfl _ _ _ _ _ _ _ rfl ?_
        refine hs 16 _ rfl _ _ _ _ _ _ _ rfl ?_
        refine hs 17 _ rfl _ _ _ _ _ _ _ rfl ?_
        refine zw_c (hs 18 _ rfl) (a := [.ref x, .int (Int32.ofInt (i : Int)), .int (Int32.ofInt (j2 : Int))]) (st := []) rfl rfl (Nat.le_of_ble_eq_true rfl) (zm_rc x2_) (by omega) (by omega) (zk_agree_M g x2_ hok (i := i) (j2 := j2) hi hj (fun _ => ?_) (fun y_ => absurd ag_ y_))
        show S 35 [some (.ref x), some (.int (Int32.ofInt (i : Int))), some (.int (Int32.ofInt (j2 : Int)))] [.int (Int32.ofInt (1 : Int))] _ _ _
        refine hs 19 _ rfl _ _ _ _ _ _ (fun zq => absurd (hd_c1z (c := 0) (by omega) (by omega) zq) (by omega : ¬ ((1 : Int) = 0))) (fun _ => ?_)
        refine hs 20 _ rfl _ _ _ _ _ _ _ rfl ?_
        refine hs 21 _ rfl _ _ _ _ _ ?_
        exact hs 23 _ rfl _ _ _ _ _ ⟨_, rfl, by decide, by decide⟩ (by omega) (by omega) (hP 1 _ _ _ ⟨rfl, Or.inl ⟨⟨c1_, c2_⟩, rfl, Or.inl ⟨ag_, rfl⟩⟩⟩ (f2_) ⟨_, _, _, _, x2_⟩)
      · 
        refine hs 0 _ rfl _ _ _ _ _ _ _ rfl ?_
        refine hs 1 _ rfl _ _ _ _ _ _ _ rfl ?_
        refine hs 2 _ rfl _ _ _ _ _ _ _ rfl ?_
        refine zw_c (hs 3 _ rfl) (a := [.ref x, .int (Int32.ofInt (i : Int))]) (st := [.ref x]) rfl rfl (Nat.le_of_ble_eq_true rfl) (zm_rc hX) (by omega) (by omega) (zm_noPlace_M g hX (e := (i : Int)) (by omega) (by omega) hok (fun y_ => absurd c1_ y_) (fun y_ => ?_))
        show S 6 [some (.ref x), some (.int (Int32.ofInt (i : Int))), some (.int (Int32.ofInt (j2 : Int)))] [.int (Int32.ofInt (0 : Int)), .ref x] _ _ _
        refine hs 4 _ rfl _ _ _ _ _ _ (fun zq => absurd (hd_c1z (c := 1) (by omega) (by omega) zq) (by omega : ¬ ((0 : Int) ≠ 0))) (fun _ => ?_)
        refine hs 5 _ rfl _ _ _ _ _ _ _ rfl ?_
        refine hs 6 _ rfl _ _ _ _ _ _ _ rfl ?_
        refine zw_c (hs 7 _ rfl) (a := [.ref x, .int (Int32.ofInt (j2 : Int))]) (st := [.ref x]) rfl rfl (Nat.le_of_ble_eq_true rfl) (zm_rc hX) (by omega) (by omega) (zm_noPlace_M g hX (e := (j2 : Int)) (by omega) (by omega) hok (fun y_ => absurd c2_ y_) (fun y_ => ?_))
        show S 14 [some (.ref x), some (.int (Int32.ofInt (i : Int))), some (.int (Int32.ofInt (j2 : Int)))] [.int (Int32.ofInt (0 : Int)), .ref x] _ _ _
        refine hs 8 _ rfl _ _ _ _ _ _ (fun _ => ?_) (fun zq => absurd (hd_c1t (c := 0) (by omega) (by omega) (by omega : (0 : Int) = 0)) zq)
        refine hs 11 _ rfl _ _ _ _ _ _ _ rfl ?_
        refine hs 12 _ rfl _ _ _ _ _ _ _ rfl ?_
        refine zw_c (hs 13 _ rfl) (a := [.ref x, .int (Int32.ofInt (0 : Int)), .int (Int32.ofInt (1 : Int))]) (st := []) rfl rfl (Nat.le_of_ble_eq_true rfl) ⟨_, _, _, rfl, a1_, a2_.1⟩ (by omega) (by omega) (zm_start_M g hX (i_ := 0) (w_ := 1) (Or.inl rfl) (by decide) (fun y_ => absurd y_ (by decide)) (fun y_ h2_ f2_ x2_ => ?_))
        show S 26 [some (.ref x), some (.int (Int32.ofInt (i : Int))), some (.int (Int32.ofInt (j2 : Int)))] [.int (Int32.ofInt (0 : Int))] _ _ _
        refine hs 14 _ rfl _ _ _ _ _ _ (fun zq => absurd (hd_c1z (c := 1) (by omega) (by omega) zq) (by omega : ¬ ((0 : Int) ≠ 0))) (fun _ => ?_)
        refine hs 15 _ rfl _ _ _ _ _ _ _ rfl ?_
        refine hs 16 _ rfl _ _ _ _ _ _ _ rfl ?_
        refine hs 17 _ rfl _ _ _ _ _ _ _ rfl ?_
        refine zw_c (hs 18 _ rfl) (a := [.ref x, .int (Int32.ofInt (i : Int)), .int (Int32.ofInt (j2 : Int))]) (st := []) rfl rfl (Nat.le_of_ble_eq_true rfl) (zm_rc x2_) (by omega) (by omega) (zk_agree_M g x2_ hok (i := i) (j2 := j2) hi hj (fun y_ => absurd y_ ag_) (fun _ => ?_))
        show S 35 [some (.ref x), some (.int (Int32.ofInt (i : Int))), some (.int (Int32.ofInt (j2 : Int)))] [.int (Int32.ofInt (0 : Int))] _ _ _
        refine hs 19 _ rfl _ _ _ _ _ _ (fun _ => ?_) (fun zq => absurd (hd_c1t (c := 0) (by omega) (by omega) (by omega : (0 : Int) = 0)) zq)
        refine hs 22 _ rfl _ _ _ _ _ _ _ rfl ?_
        exact hs 23 _ rfl _ _ _ _ _ ⟨_, rfl, by decide, by decide⟩ (by omega) (by omega) (hP 0 _ _ _ ⟨rfl, Or.inl ⟨⟨c1_, c2_⟩, rfl, Or.inr ⟨ag_, rfl⟩⟩⟩ (f2_) ⟨_, _, _, _, x2_⟩)
set_option maxHeartbeats 4000000 in
theorem zm_booksTold_M {l : Launch} {G : am_G} {X : ck_XT} (g : gM l G X) {o : Nat → Nat} {x tx now qw : Nat} {th j m k : Int} {c : sp_S} {P : List sp_S} {h : List am_C} (hX : zm_x G h o x tx now qw th j m k c P) {e : Int} (he : 0 ≤ e ∧ e ≤ 3) {mc ms : Nat} {Post : am_O → List am_C → Prop} (hP : Post (.inl (some (.int (Int32.ofInt (sp_bk (c, P, j, m, k) e))))) h) :
    am_M l G yX14_booksTold (.code yX14_booksTold prog_14_method_105_code 2 (some .int)) 2 40 mc ms [.ref x, .int (Int32.ofInt e)] h Post := by
  refine gh_yX14_booksTold_X g (Nat.le_of_ble_eq_true rfl) fun S SX hs hr hw hx => ?_
  have rv : ∀ x : Int32, ck_fv 0 (.int x) := fun x => ⟨_, rfl⟩
  obtain ⟨a1_, a2_, a3_, a4_⟩ := id hX
  obtain ⟨ss_, w0_, w1_, w2_, w3_, w4_⟩ := id a4_
  have b_ : e = 0 ∨ e = 1 ∨ e = 2 ∨ e = 3 := by omega
  rcases b_ with b0_ | b1_ | b2_ | b3_
  · subst b0_
    rw [show sp_bk (c, P, j, m, k) 0 = (Int32.ofInt j).toInt from rfl, Int32.ofInt_toInt] at hP
    refine hs 0 _ rfl _ _ _ _ _ _ _ rfl ?_
    refine hs 1 _ rfl _ _ _ _ _ _ (fun zq => absurd (hd_c1z (c := 1) (by omega) (by omega) zq) (by omega : ¬ ((0 : Int) ≠ 0))) (fun _ => ?_)
    refine hs 2 _ rfl _ _ _ _ _ _ _ rfl ?_
    refine hs 3 _ rfl _ _ _ _ _ _ _ _ _ (a1_) a2_.1 rfl ?_
    refine hs 4 _ rfl _ _ _ _ _ ?_
    exact hs 20 _ rfl _ _ _ _ _ (rv _) (Nat.zero_le _) (Nat.zero_le _) hP
  · subst b1_
    rw [show sp_bk (c, P, j, m, k) 1 = (Int32.ofInt m).toInt from rfl, Int32.ofInt_toInt] at hP
    refine hs 0 _ rfl _ _ _ _ _ _ _ rfl ?_
    refine hs 1 _ rfl _ _ _ _ _ _ (fun _ => ?_) (fun zq => absurd (hd_c1t (c := 1) (by omega) (by omega) (by omega : (1 : Int) ≠ 0)) zq)
    refine hs 5 _ rfl _ _ _ _ _ _ _ rfl ?_
    refine hs 6 _ rfl _ _ _ _ _ _ _ rfl ?_
    refine hs 7 _ rfl _ _ _ _ _ _ _ (fun zq => absurd (hd_c2z (c := 1) (by omega) (by omega) (by omega) (by omega) zq) (by omega : ¬ (((1 : Int) - (1 : Int)) ≠ 0))) (fun _ => ?_)
    refine hs 8 _ rfl _ _ _ _ _ _ _ rfl ?_
    refine hs 9 _ rfl _ _ _ _ _ _ _ _ _ (a1_) a2_.1 rfl ?_
    refine hs 10 _ rfl _ _ _ _ _ ?_
    exact hs 20 _ rfl _ _ _ _ _ (rv _) (Nat.zero_le _) (Nat.zero_le _) hP
  · subst b2_
    rw [show sp_bk (c, P, j, m, k) 2 = (Int32.ofInt k).toInt from rfl, Int32.ofInt_toInt] at hP
    refine hs 0 _ rfl _ _ _ _ _ _ _ rfl ?_
    refine hs 1 _ rfl _ _ _ _ _ _ (fun _ => ?_) (fun zq => absurd (hd_c1t (c := 1) (by omega) (by omega) (by omega : (2 : Int) ≠ 0)) zq)
    refine hs 5 _ rfl _ _ _ _ _ _ _ rfl ?_
    refine hs 6 _ rfl _ _ _ _ _ _ _ rfl ?_
    refine hs 7 _ rfl _ _ _ _ _ _ _ (fun _ => ?_) (fun zq => absurd (hd_c2t (c := 1) (by omega) (by omega) (by omega) (by omega) (by omega : ((2 : Int) - (1 : Int)) ≠ 0)) zq)
    refine hs 11 _ rfl _ _ _ _ _ _ _ rfl ?_
    refine hs 12 _ rfl _ _ _ _ _ _ _ rfl ?_
    refine hs 13 _ rfl _ _ _ _ _ _ _ (fun zq => absurd (hd_c2z (c := 1) (by omega) (by omega) (by omega) (by omega) zq) (by omega : ¬ (((2 : Int) - (2 : Int)) ≠ 0))) (fun _ => ?_)
    refine hs 14 _ rfl _ _ _ _ _ _ _ rfl ?_
    refine hs 15 _ rfl _ _ _ _ _ _ _ _ _ (a1_) a2_.1 rfl ?_
    refine hs 16 _ rfl _ _ _ _ _ ?_
    exact hs 20 _ rfl _ _ _ _ _ (rv _) (Nat.zero_le _) (Nat.zero_le _) hP
  · subst b3_
    rw [show sp_bk (c, P, j, m, k) 3 = (P.length : Int) from rfl, ← w1_] at hP
    refine hs 0 _ rfl _ _ _ _ _ _ _ rfl ?_
    refine hs 1 _ rfl _ _ _ _ _ _ (fun _ => ?_) (fun zq => absurd (hd_c1t (c := 1) (by omega) (by omega) (by omega : (3 : Int) ≠ 0)) zq)
    refine hs 5 _ rfl _ _ _ _ _ _ _ rfl ?_
    refine hs 6 _ rfl _ _ _ _ _ _ _ rfl ?_
    refine hs 7 _ rfl _ _ _ _ _ _ _ (fun _ => ?_) (fun zq => absurd (hd_c2t (c := 1) (by omega) (by omega) (by omega) (by omega) (by omega : ((3 : Int) - (1 : Int)) ≠ 0)) zq)
    refine hs 11 _ rfl _ _ _ _ _ _ _ rfl ?_
    refine hs 12 _ rfl _ _ _ _ _ _ _ rfl ?_
    refine hs 13 _ rfl _ _ _ _ _ _ _ (fun _ => ?_) (fun zq => absurd (hd_c2t (c := 1) (by omega) (by omega) (by omega) (by omega) (by omega : ((3 : Int) - (2 : Int)) ≠ 0)) zq)
    refine hs 17 _ rfl _ _ _ _ _ _ _ rfl ?_
    refine hs 18 _ rfl _ _ _ _ _ _ _ _ _ (a1_) a2_.1 rfl ?_
    refine zw_c (hs 19 _ rfl) (a := [.ref qw]) (st := []) rfl rfl (Nat.le_of_ble_eq_true rfl) (zm_l.rc w0_) (by omega) (by omega) (zm_size_M g w0_ ?_)
    show S 42 [some (.ref x), some (.int (Int32.ofInt (3 : Int)))] [.int (Int32.ofInt (ss_.length : Int))] _ _ _
    exact hs 20 _ rfl _ _ _ _ _ (rv _) (Nat.zero_le _) (Nat.zero_le _) hP
set_option maxHeartbeats 4000000 in
theorem zm_qbooks_M {l : Launch} {G : am_G} {X : ck_XT} (g : gM l G X) {o : Nat → Nat} {x tx now qw : Nat} {th j m k : Int} {c : sp_S} {P : List sp_S} {h : List am_C} (hX : zm_x G h o x tx now qw th j m k c P) {e e2 : Int} (he1 : -2147483648 ≤ e) (he2 : e ≤ 2147483647) {mc ms : Nat} {Post : am_O → List am_C → Prop}
    (hP : ∀ (a th : Int) (T' : sp_T) (h' : List am_C), sp_q59 e e2 (c, P, j, m, k) a th T' → zm_fr G h h' → zm_Y G h' x th T' → Post (.inl (some (.int (Int32.ofInt a)))) h') :
    am_M l G yX14_books (.code yX14_books prog_14_method_106_code 2 (some .int)) 3 64 mc ms [.ref x, .int (Int32.ofInt e)] h Post := by
  refine gh_yX14_books_X g (Nat.le_of_ble_eq_true rfl) fun S SX hs hr hw hx => ?_
  have rv : ∀ x : Int32, ck_fv 0 (.int x) := fun x => ⟨_, rfl⟩
  obtain ⟨a1_, a2_, a3_, a4_⟩ := id hX
  by_cases c1_ : 0 ≤ e ∧ e ≤ 3
  rotate_left
  · 
    refine hs 0 _ rfl _ _ _ _ _ _ _ rfl ?_
    refine hs 1 _ rfl _ _ _ _ _ _ _ rfl ?_
    refine hs 2 _ rfl _ _ _ _ _ _ _ rfl ?_
    refine hs 3 _ rfl _ _ _ _ _ _ _ rfl ?_
    refine zw_c (hs 4 _ rfl) (a := [.int (Int32.ofInt e), .int (Int32.ofInt (0 : Int)), .int (Int32.ofInt (3 : Int))]) (st := [.ref x]) rfl rfl (Nat.le_of_ble_eq_true rfl) trivial (by omega) (by omega) (zm_isIn_M g (v := e) (a := 0) (b := 3) (by omega) (by omega) (by omega) (by omega) (by omega) (by omega) (fun y_ => absurd y_ (by omega)) (fun y_ => ?_))
    show S 7 [some (.ref x), some (.int (Int32.ofInt e))] [.int (Int32.ofInt (0 : Int)), .ref x] _ _ _
    refine hs 5 _ rfl _ _ _ _ _ _ (fun zq => absurd (hd_c1z (c := 1) (by omega) (by omega) zq) (by omega : ¬ ((0 : Int) ≠ 0))) (fun _ => ?_)
    refine hs 6 _ rfl _ _ _ _ _ _ _ rfl ?_
    refine hs 7 _ rfl _ _ _ _ _ ?_
    refine hs 9 _ rfl _ _ _ _ _ _ _ rfl ?_
    refine zw_c (hs 10 _ rfl) (a := [.ref x, .int (Int32.ofInt (1 : Int)), .int (Int32.ofInt (1 : Int))]) (st := []) rfl rfl (Nat.le_of_ble_eq_true rfl) ⟨_, _, _, rfl, a1_, a2_.1⟩ (by omega) (by omega) (zm_start_M g hX (i_ := 1) (w_ := 1) (Or.inr rfl) (by decide) (fun y_ h2_ f2_ x2_ => ?_) (fun y_ => absurd y_ (by decide)))
    show S 19 [some (.ref x), some (.int (Int32.ofInt e))] [.int (Int32.ofInt (1 : Int))] _ _ _
    refine hs 11 _ rfl _ _ _ _ _ _ (fun zq => absurd (hd_c1z (c := 0) (by omega) (by omega) zq) (by omega : ¬ ((1 : Int) = 0))) (fun _ => ?_)
    refine hs 12 _ rfl _ _ _ _ _ _ _ rfl ?_
    refine hs 13 _ rfl _ _ _ _ _ ?_
    exact hs 17 _ rfl _ _ _ _ _ (rv _) (by omega) (by omega) (hP 0 _ _ _ ⟨rfl, Or.inr ⟨c1_, rfl⟩⟩ (f2_) ⟨_, _, _, _, x2_⟩)
  · 
    refine hs 0 _ rfl _ _ _ _ _ _ _ rfl ?_
    refine hs 1 _ rfl _ _ _ _ _ _ _ rfl ?_
    refine hs 2 _ rfl _ _ _ _ _ _ _ rfl ?_
    refine hs 3 _ rfl _ _ _ _ _ _ _ rfl ?_
    refine zw_c (hs 4 _ rfl) (a := [.int (Int32.ofInt e), .int (Int32.ofInt (0 : Int)), .int (Int32.ofInt (3 : Int))]) (st := [.ref x]) rfl rfl (Nat.le_of_ble_eq_true rfl) trivial (by omega) (by omega) (zm_isIn_M g (v := e) (a := 0) (b := 3) (by omega) (by omega) (by omega) (by omega) (by omega) (by omega) (fun y_ => ?_) (fun y_ => absurd (by omega) y_))
    show S 7 [some (.ref x), some (.int (Int32.ofInt e))] [.int (Int32.ofInt (1 : Int)), .ref x] _ _ _
    refine hs 5 _ rfl _ _ _ _ _ _ (fun _ => ?_) (fun zq => absurd (hd_c1t (c := 1) (by omega) (by omega) (by omega : (1 : Int) ≠ 0)) zq)
    refine hs 8 _ rfl _ _ _ _ _ _ _ rfl ?_
    refine hs 9 _ rfl _ _ _ _ _ _ _ rfl ?_
    refine zw_c (hs 10 _ rfl) (a := [.ref x, .int (Int32.ofInt (0 : Int)), .int (Int32.ofInt (1 : Int))]) (st := []) rfl rfl (Nat.le_of_ble_eq_true rfl) ⟨_, _, _, rfl, a1_, a2_.1⟩ (by omega) (by omega) (zm_start_M g hX (i_ := 0) (w_ := 1) (Or.inl rfl) (by decide) (fun y_ => absurd y_ (by decide)) (fun y_ h2_ f2_ x2_ => ?_))
    show S 19 [some (.ref x), some (.int (Int32.ofInt e))] [.int (Int32.ofInt (0 : Int))] _ _ _
    refine hs 11 _ rfl _ _ _ _ _ _ (fun _ => ?_) (fun zq => absurd (hd_c1t (c := 0) (by omega) (by omega) (by omega : (0 : Int) = 0)) zq)
    refine hs 14 _ rfl _ _ _ _ _ _ _ rfl ?_
    refine hs 15 _ rfl _ _ _ _ _ _ _ rfl ?_
    refine zw_c (hs 16 _ rfl) (a := [.ref x, .int (Int32.ofInt e)]) (st := []) rfl rfl (Nat.le_of_ble_eq_true rfl) (zm_rc x2_) (by omega) (by omega) (zm_booksTold_M g x2_ c1_ ?_)
    show S 31 [some (.ref x), some (.int (Int32.ofInt e))] [.int (Int32.ofInt (sp_bk (c, P, j, m, k) e))] _ _ _
    exact hs 17 _ rfl _ _ _ _ _ (rv _) (by omega) (by omega) (hP _ _ _ _ ⟨rfl, Or.inl ⟨c1_, rfl, rfl⟩⟩ (f2_) ⟨_, _, _, _, x2_⟩)
