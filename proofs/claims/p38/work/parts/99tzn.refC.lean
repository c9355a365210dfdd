/-! THE CALLS OF THE REFERENCE: rows, bases, undo, knock, size -/
set_option maxHeartbeats 4000000 in
theorem zm_tell_M {l : Launch} {G : am_G} {X : ck_XT} (g : gM l G X) {o : Nat → Nat} {x tx now qw : Nat} {th j m k : Int} {c : sp_S} {P : List sp_S} {h : List am_C} (hX : zm_x G h o x tx now qw th j m k c P) (hok : sp_ok c) (hp12 : P.length ≤ 12) {e e2 : Int} (he1 : -2147483648 ≤ e) (he2 : e ≤ 2147483647) (hf1 : -2147483648 ≤ e2) (hf2 : e2 ≤ 2147483647) {mc ms : Nat} {Post : am_O → List am_C → Prop} (hmc : 16 ≤ mc) (hms : 91 ≤ ms)
    (hP : ∀ (a th : Int) (T' : sp_T) (h' : List am_C), sp_d11 e e2 (c, P, j, m, k) a th T' → zm_fr G h h' → zm_Y G h' x th T' → Post (.inl (some (.int (Int32.ofInt a)))) h') :
    am_M l G yX14_tell (.code yX14_tell prog_14_method_33_code 3 (some .int)) 12 316 mc ms [.ref x, .int (Int32.ofInt e), .int (Int32.ofInt e2)] h Post := by
  refine gh_yX14_tell_X g (Nat.le_of_ble_eq_true rfl) fun S SX hs hr hw hx => ?_
  have rv : ∀ x : Int32, ck_fv 0 (.int x) := fun x => ⟨_, rfl⟩
  obtain ⟨a1_, a2_, a3_, a4_⟩ := id hX
  have okr_ := hok.2.2.1.1
  by_cases c1_ : sp_row e e2
  rotate_left
  · have c1b_ : ¬ (-9999 ≤ e ∧ e ≤ 9999 ∧ 1 ≤ e2 ∧ e2 ≤ 999) := c1_
    refine hs 0 _ rfl _ _ _ _ _ _ _ rfl ?_
    refine hs 1 _ rfl _ _ _ _ _ _ _ rfl ?_
    refine hs 2 _ rfl _ _ _ _ _ _ _ rfl ?_
    refine zw_c (hs 3 _ rfl) (a := [.int (Int32.ofInt e), .int (Int32.ofInt e2)]) (st := [.ref x]) rfl rfl (Nat.le_of_ble_eq_true rfl) trivial (by omega) (by omega) (zm_noRow_M g (e := e) (f := e2) (by omega) (by omega) (by omega) (by omega) (fun y_ => ?_) (fun y_ => absurd y_ (by omega)))
    show S 6 [some (.ref x), some (.int (Int32.ofInt e)), some (.int (Int32.ofInt e2))] [.int (Int32.ofInt (1 : Int)), .ref x] _ _ _
    refine hs 4 _ rfl _ _ _ _ _ _ _ rfl ?_
    refine zw_c (hs 5 _ rfl) (a := [.ref x, .int (Int32.ofInt (1 : Int)), .int (Int32.ofInt (1 : Int))]) (st := []) rfl rfl (Nat.le_of_ble_eq_true rfl) ⟨_, _, _, rfl, a1_, a2_.1⟩ (by omega) (by omega) (zm_start_M g hX (i_ := 1) (w_ := 1) (Or.inr rfl) (by decide) (fun y_ h2_ f2_ x2_ => ?_) (fun y_ => absurd y_ (by decide)))
    show S 10 [some (.ref x), some (.int (Int32.ofInt e)), some (.int (Int32.ofInt e2))] [.int (Int32.ofInt (1 : Int))] _ _ _
    refine hs 6 _ rfl _ _ _ _ _ _ (fun _ => ?_) (fun zq => absurd (hd_c1t (c := 1) (by omega) (by omega) (by omega : (1 : Int) ≠ 0)) zq)
    refine hs 20 _ rfl _ _ _ _ _ _ _ rfl ?_
    exact hs 21 _ rfl _ _ _ _ _ (rv _) (by omega) (by omega) (hP 0 _ _ _ (Or.inr ⟨c1_, rfl, rfl⟩) f2_ ⟨_, _, _, _, x2_⟩)
  · have c1b_ : -9999 ≤ e ∧ e ≤ 9999 ∧ 1 ≤ e2 ∧ e2 ≤ 999 := c1_
    obtain ⟨f, rfl⟩ : ∃ f : Nat, e2 = (f : Int) := ⟨e2.toNat, by omega⟩
    by_cases c2_ : c.2.2.1.length < 6
    rotate_left
    · 
      refine hs 0 _ rfl _ _ _ _ _ _ _ rfl ?_
      refine hs 1 _ rfl _ _ _ _ _ _ _ rfl ?_
      refine hs 2 _ rfl _ _ _ _ _ _ _ rfl ?_
      refine zw_c (hs 3 _ rfl) (a := [.int (Int32.ofInt e), .int (Int32.ofInt (f : Int))]) (st := [.ref x]) rfl rfl (Nat.le_of_ble_eq_true rfl) trivial (by omega) (by omega) (zm_noRow_M g (e := e) (f := (f : Int)) (by omega) (by omega) (by omega) (by omega) (fun y_ => absurd (by omega) y_) (fun y_ => ?_))
      show S 6 [some (.ref x), some (.int (Int32.ofInt e)), some (.int (Int32.ofInt (f : Int)))] [.int (Int32.ofInt (0 : Int)), .ref x] _ _ _
      refine hs 4 _ rfl _ _ _ _ _ _ _ rfl ?_
      refine zw_c (hs 5 _ rfl) (a := [.ref x, .int (Int32.ofInt (0 : Int)), .int (Int32.ofInt (1 : Int))]) (st := []) rfl rfl (Nat.le_of_ble_eq_true rfl) ⟨_, _, _, rfl, a1_, a2_.1⟩ (by omega) (by omega) (zm_start_M g hX (i_ := 0) (w_ := 1) (Or.inl rfl) (by decide) (fun y_ => absurd y_ (by decide)) (fun y_ h2_ f2_ x2_ => ?_))
      obtain ⟨t_, qn_, ql_, qb_, vl_, s1_, l1_, ⟨e1_, e2_⟩, up_⟩ := x2_.rowL
      show S 10 [some (.ref x), some (.int (Int32.ofInt e)), some (.int (Int32.ofInt (f : Int)))] [.int (Int32.ofInt (0 : Int))] _ _ _
      refine hs 6 _ rfl _ _ _ _ _ _ (fun zq => absurd (hd_c1z (c := 1) (by omega) (by omega) zq) (by omega : ¬ ((0 : Int) ≠ 0))) (fun _ => ?_)
      refine hs 7 _ rfl _ _ _ _ _ _ _ rfl ?_
      refine hs 8 _ rfl _ _ _ _ _ _ _ rfl ?_
      refine hs 9 _ rfl _ _ _ _ _ _ _ _ _ (x2_.1) a2_.1 rfl ?_
      refine hs 10 _ rfl _ _ _ _ _ _ _ _ _ (s1_.1) s1_.2 rfl ?_
      refine zw_c (hs 11 _ rfl) (a := [.ref ql_]) (st := [.ref x]) rfl rfl (Nat.le_of_ble_eq_true rfl) (zm_l.rc l1_) (by omega) (by omega) (zm_size_M g l1_ ?_)
      show S 24 [some (.ref x), some (.int (Int32.ofInt e)), some (.int (Int32.ofInt (f : Int)))] [.int (Int32.ofInt (vl_.length : Int)), .ref x] _ _ _
      refine hs 12 _ rfl _ _ _ _ _ _ _ rfl ?_
      refine hs 13 _ rfl _ _ _ _ _ _ _ (fun zq => absurd (hd_c2z (c := 1) (by omega) (by omega) (by omega) (by omega) zq) (by omega : ¬ (((vl_.length : Int) - (6 : Int)) ≠ 0))) (fun _ => ?_)
      refine hs 14 _ rfl _ _ _ _ _ _ _ rfl ?_
      refine hs 15 _ rfl _ _ _ _ _ ?_
      refine hs 17 _ rfl _ _ _ _ _ _ _ rfl ?_
      refine zw_c (hs 18 _ rfl) (a := [.ref x, .int (Int32.ofInt (1 : Int)), .int (Int32.ofInt (2 : Int))]) (st := []) rfl rfl (Nat.le_of_ble_eq_true rfl) ⟨_, _, _, rfl, x2_.1, a2_.1⟩ (by omega) (by omega) (zm_refuse_M g x2_ (i_ := 1) (w_ := 2) (Or.inr rfl) (by decide) (fun y_ h3_ f3_ x3_ => ?_) (fun y_ => absurd y_ (by decide)))
      show S 38 [some (.ref x), some (.int (Int32.ofInt e)), some (.int (Int32.ofInt (f : Int)))] [.int (Int32.ofInt (1 : Int))] _ _ _
      refine hs 19 _ rfl _ _ _ _ _ _ (fun zq => absurd (hd_c1z (c := 0) (by omega) (by omega) zq) (by omega : ¬ ((1 : Int) = 0))) (fun _ => ?_)
      refine hs 20 _ rfl _ _ _ _ _ _ _ rfl ?_
      exact hs 21 _ rfl _ _ _ _ _ (rv _) (by omega) (by omega) (hP 0 _ _ _ (Or.inl ⟨c1_, Or.inr ⟨c2_, rfl, rfl⟩⟩) (f2_.tr f3_) ⟨_, _, _, _, x3_⟩)
    · 
      refine hs 0 _ rfl _ _ _ _ _ _ _ rfl ?_
      refine hs 1 _ rfl _ _ _ _ _ _ _ rfl ?_
      refine hs 2 _ rfl _ _ _ _ _ _ _ rfl ?_
      refine zw_c (hs 3 _ rfl) (a := [.int (Int32.ofInt e), .int (Int32.ofInt (f : Int))]) (st := [.ref x]) rfl rfl (Nat.le_of_ble_eq_true rfl) trivial (by omega) (by omega) (zm_noRow_M g (e := e) (f := (f : Int)) (by omega) (by omega) (by omega) (by omega) (fun y_ => absurd (by omega) y_) (fun y_ => ?_))
      show S 6 [some (.ref x), some (.int (Int32.ofInt e)), some (.int (Int32.ofInt (f : Int)))] [.int (Int32.ofInt (0 : Int)), .ref x] _ _ _
      refine hs 4 _ rfl _ _ _ _ _ _ _ rfl ?_
      refine zw_c (hs 5 _ rfl) (a := [.ref x, .int (Int32.ofInt (0 : Int)), .int (Int32.ofInt (1 : Int))]) (st := []) rfl rfl (Nat.le_of_ble_eq_true rfl) ⟨_, _, _, rfl, a1_, a2_.1⟩ (by omega) (by omega) (zm_start_M g hX (i_ := 0) (w_ := 1) (Or.inl rfl) (by decide) (fun y_ => absurd y_ (by decide)) (fun y_ h2_ f2_ x2_ => ?_))
      obtain ⟨t_, qn_, ql_, qb_, vl_, s1_, l1_, ⟨e1_, e2_⟩, up_⟩ := x2_.rowL
      show S 10 [some (.ref x), some (.int (Int32.ofInt e)), some (.int (Int32.ofInt (f : Int)))] [.int (Int32.ofInt (0 : Int))] _ _ _
      refine hs 6 _ rfl _ _ _ _ _ _ (fun zq => absurd (hd_c1z (c := 1) (by omega) (by omega) zq) (by omega : ¬ ((0 : Int) ≠ 0))) (fun _ => ?_)
      refine hs 7 _ rfl _ _ _ _ _ _ _ rfl ?_
      refine hs 8 _ rfl _ _ _ _ _ _ _ rfl ?_
      refine hs 9 _ rfl _ _ _ _ _ _ _ _ _ (x2_.1) a2_.1 rfl ?_
      refine hs 10 _ rfl _ _ _ _ _ _ _ _ _ (s1_.1) s1_.2 rfl ?_
      refine zw_c (hs 11 _ rfl) (a := [.ref ql_]) (st := [.ref x]) rfl rfl (Nat.le_of_ble_eq_true rfl) (zm_l.rc l1_) (by omega) (by omega) (zm_size_M g l1_ ?_)
      show S 24 [some (.ref x), some (.int (Int32.ofInt e)), some (.int (Int32.ofInt (f : Int)))] [.int (Int32.ofInt (vl_.length : Int)), .ref x] _ _ _
      refine hs 12 _ rfl _ _ _ _ _ _ _ rfl ?_
      refine hs 13 _ rfl _ _ _ _ _ _ _ (fun _ => ?_) (fun zq => absurd (hd_c2t (c := 1) (by omega) (by omega) (by omega) (by omega) (by omega : ((vl_.length : Int) - (6 : Int)) ≠ 0)) zq)
      refine hs 16 _ rfl _ _ _ _ _ _ _ rfl ?_
      refine hs 17 _ rfl _ _ _ _ _ _ _ rfl ?_
      refine zw_c (hs 18 _ rfl) (a := [.ref x, .int (Int32.ofInt (0 : Int)), .int (Int32.ofInt (2 : Int))]) (st := []) rfl rfl (Nat.le_of_ble_eq_true rfl) ⟨_, _, _, rfl, x2_.1, a2_.1⟩ (by omega) (by omega) (zm_refuse_M g x2_ (i_ := 0) (w_ := 2) (Or.inl rfl) (by decide) (fun y_ => absurd y_ (by decide)) (fun y_ => ?_))
      show S 38 [some (.ref x), some (.int (Int32.ofInt e)), some (.int (Int32.ofInt (f : Int)))] [.int (Int32.ofInt (0 : Int))] _ _ _
      refine hs 19 _ rfl _ _ _ _ _ _ (fun _ => ?_) (fun zq => absurd (hd_c1t (c := 0) (by omega) (by omega) (by omega : (0 : Int) = 0)) zq)
      refine hs 22 _ rfl _ _ _ _ _ _ _ rfl ?_
      refine hs 23 _ rfl _ _ _ _ _ _ _ rfl ?_
      refine hs 24 _ rfl _ _ _ _ _ _ _ rfl ?_
      refine zw_cm (hs 25 _ rfl) (a := [.ref x, .int (Int32.ofInt e), .int (Int32.ofInt (f : Int))]) (st := []) 16 91 rfl rfl (Nat.le_of_ble_eq_true rfl) (zm_rc x2_) (by omega) (by omega) (zm_addRow_M g x2_ hok hp12 (by omega) (by omega) (by omega) (by omega) c2_ (by omega) (by omega) fun h3_ f3_ x3_ => ?_)
      show S 49 [some (.ref x), some (.int (Int32.ofInt e)), some (.int (Int32.ofInt (f : Int)))] [.int (Int32.ofInt (c.2.2.1.length : Int))] _ _ _
      exact hs 26 _ rfl _ _ _ _ _ (rv _) (by omega) (by omega) (hP _ _ _ _ (Or.inl ⟨c1_, Or.inl ⟨c2_, rfl, rfl, rfl⟩⟩) (f2_.tr f3_) x3_)
set_option maxHeartbeats 4000000 in
theorem zm_tellIf_M {l : Launch} {G : am_G} {X : ck_XT} (g : gM l G X) {o : Nat → Nat} {x tx now qw : Nat} {th j m k : Int} {c : sp_S} {P : List sp_S} {h : List am_C} (hX : zm_x G h o x tx now qw th j m k c P) (hok : sp_ok c) (hp12 : P.length ≤ 12) {e e2 : Int} (he1 : -2147483648 ≤ e) (he2 : e ≤ 2147483647) (hf1 : -2147483648 ≤ e2) (hf2 : e2 ≤ 2147483647) {mc ms : Nat} {Post : am_O → List am_C → Prop} (hmc : 19 ≤ mc) (hms : 99 ≤ ms)
    (hP : ∀ (a th : Int) (T' : sp_T) (h' : List am_C), sp_d12 e e2 (c, P, j, m, k) a th T' → zm_fr G h h' → zm_Y G h' x th T' → Post (.inl (some (.int (Int32.ofInt a)))) h') :
    am_M l G yX14_tellIf (.code yX14_tellIf prog_14_method_34_code 3 (some .boolean)) 12 316 mc ms [.ref x, .int (Int32.ofInt e), .int (Int32.ofInt e2)] h Post := by
  refine gh_yX14_tellIf_X g (Nat.le_of_ble_eq_true rfl) fun S SX hs hr hw hx => ?_
  have rv : ∀ x : Int32, ck_fv 0 (.int x) := fun x => ⟨_, rfl⟩
  obtain ⟨a1_, a2_, a3_, a4_⟩ := id hX
  have okr_ := hok.2.2.1.1
  by_cases c1_ : sp_row e e2
  rotate_left
  · have c1b_ : ¬ (-9999 ≤ e ∧ e ≤ 9999 ∧ 1 ≤ e2 ∧ e2 ≤ 999) := c1_
    refine hs 0 _ rfl _ _ _ _ _ _ _ rfl ?_
    refine hs 1 _ rfl _ _ _ _ _ _ _ rfl ?_
    refine hs 2 _ rfl _ _ _ _ _ _ _ rfl ?_
    refine zw_c (hs 3 _ rfl) (a := [.int (Int32.ofInt e), .int (Int32.ofInt e2)]) (st := [.ref x]) rfl rfl (Nat.le_of_ble_eq_true rfl) trivial (by omega) (by omega) (zm_noRow_M g (e := e) (f := e2) (by omega) (by omega) (by omega) (by omega) (fun y_ => ?_) (fun y_ => absurd y_ (by omega)))
    show S 6 [some (.ref x), some (.int (Int32.ofInt e)), some (.int (Int32.ofInt e2))] [.int (Int32.ofInt (1 : Int)), .ref x] _ _ _
    refine hs 4 _ rfl _ _ _ _ _ _ _ rfl ?_
    refine zw_c (hs 5 _ rfl) (a := [.ref x, .int (Int32.ofInt (1 : Int)), .int (Int32.ofInt (1 : Int))]) (st := []) rfl rfl (Nat.le_of_ble_eq_true rfl) ⟨_, _, _, rfl, a1_, a2_.1⟩ (by omega) (by omega) (zm_start_M g hX (i_ := 1) (w_ := 1) (Or.inr rfl) (by decide) (fun y_ h2_ f2_ x2_ => ?_) (fun y_ => absurd y_ (by decide)))
    show S 10 [some (.ref x), some (.int (Int32.ofInt e)), some (.int (Int32.ofInt e2))] [.int (Int32.ofInt (1 : Int))] _ _ _
    refine hs 6 _ rfl _ _ _ _ _ _ (fun _ => ?_) (fun zq => absurd (hd_c1t (c := 1) (by omega) (by omega) (by omega : (1 : Int) ≠ 0)) zq)
    refine hs 25 _ rfl _ _ _ _ _ _ _ rfl ?_
    exact hs 26 _ rfl _ _ _ _ _ (⟨_, rfl, by decide, by decide⟩) (by omega) (by omega) (hP 0 _ _ _ (Or.inr ⟨c1_, rfl, rfl⟩) f2_ ⟨_, _, _, _, x2_⟩)
  · have c1b_ : -9999 ≤ e ∧ e ≤ 9999 ∧ 1 ≤ e2 ∧ e2 ≤ 999 := c1_
    obtain ⟨f, rfl⟩ : ∃ f : Nat, e2 = (f : Int) := ⟨e2.toNat, by omega⟩
    by_cases c2_ : c.2.2.1.length < 6
    rotate_left
    · 
      refine hs 0 _ rfl _ _ _ _ _ _ _ rfl ?_
      refine hs 1 _ rfl _ _ _ _ _ _ _ rfl ?_
      refine hs 2 _ rfl _ _ _ _ _ _ _ rfl ?_
      refine zw_c (hs 3 _ rfl) (a := [.int (Int32.ofInt e), .int (Int32.ofInt (f : Int))]) (st := [.ref x]) rfl rfl (Nat.le_of_ble_eq_true rfl) trivial (by omega) (by omega) (zm_noRow_M g (e := e) (f := (f : Int)) (by omega) (by omega) (by omega) (by omega) (fun y_ => absurd (by omega) y_) (fun y_ => ?_))
      show S 6 [some (.ref x), some (.int (Int32.ofInt e)), some (.int (Int32.ofInt (f : Int)))] [.int (Int32.ofInt (0 : Int)), .ref x] _ _ _
      refine hs 4 _ rfl _ _ _ _ _ _ _ rfl ?_
      refine zw_c (hs 5 _ rfl) (a := [.ref x, .int (Int32.ofInt (0 : Int)), .int (Int32.ofInt (1 : Int))]) (st := []) rfl rfl (Nat.le_of_ble_eq_true rfl) ⟨_, _, _, rfl, a1_, a2_.1⟩ (by omega) (by omega) (zm_start_M g hX (i_ := 0) (w_ := 1) (Or.inl rfl) (by decide) (fun y_ => absurd y_ (by decide)) (fun y_ h2_ f2_ x2_ => ?_))
      obtain ⟨t_, qn_, ql_, qb_, vl_, s1_, l1_, ⟨e1_, e2_⟩, up_⟩ := x2_.rowL
      show S 10 [some (.ref x), some (.int (Int32.ofInt e)), some (.int (Int32.ofInt (f : Int)))] [.int (Int32.ofInt (0 : Int))] _ _ _
      refine hs 6 _ rfl _ _ _ _ _ _ (fun zq => absurd (hd_c1z (c := 1) (by omega) (by omega) zq) (by omega : ¬ ((0 : Int) ≠ 0))) (fun _ => ?_)
      refine hs 7 _ rfl _ _ _ _ _ _ _ rfl ?_
      refine hs 8 _ rfl _ _ _ _ _ _ _ rfl ?_
      refine hs 9 _ rfl _ _ _ _ _ _ _ _ _ (x2_.1) a2_.1 rfl ?_
      refine hs 10 _ rfl _ _ _ _ _ _ _ _ _ (s1_.1) s1_.2 rfl ?_
      refine zw_c (hs 11 _ rfl) (a := [.ref ql_]) (st := [.ref x]) rfl rfl (Nat.le_of_ble_eq_true rfl) (zm_l.rc l1_) (by omega) (by omega) (zm_size_M g l1_ ?_)
      show S 24 [some (.ref x), some (.int (Int32.ofInt e)), some (.int (Int32.ofInt (f : Int)))] [.int (Int32.ofInt (vl_.length : Int)), .ref x] _ _ _
      refine hs 12 _ rfl _ _ _ _ _ _ _ rfl ?_
      refine hs 13 _ rfl _ _ _ _ _ _ _ (fun zq => absurd (hd_c2z (c := 1) (by omega) (by omega) (by omega) (by omega) zq) (by omega : ¬ (((vl_.length : Int) - (6 : Int)) ≠ 0))) (fun _ => ?_)
      refine hs 14 _ rfl _ _ _ _ _ _ _ rfl ?_
      refine hs 15 _ rfl _ _ _ _ _ ?_
      refine hs 17 _ rfl _ _ _ _ _ _ _ rfl ?_
      refine zw_c (hs 18 _ rfl) (a := [.ref x, .int (Int32.ofInt (1 : Int)), .int (Int32.ofInt (2 : Int))]) (st := []) rfl rfl (Nat.le_of_ble_eq_true rfl) ⟨_, _, _, rfl, x2_.1, a2_.1⟩ (by omega) (by omega) (zm_refuse_M g x2_ (i_ := 1) (w_ := 2) (Or.inr rfl) (by decide) (fun y_ h3_ f3_ x3_ => ?_) (fun y_ => absurd y_ (by decide)))
      show S 38 [some (.ref x), some (.int (Int32.ofInt e)), some (.int (Int32.ofInt (f : Int)))] [.int (Int32.ofInt (1 : Int))] _ _ _
      refine hs 19 _ rfl _ _ _ _ _ _ (fun _ => ?_) (fun zq => absurd (hd_c1t (c := 1) (by omega) (by omega) (by omega : (1 : Int) ≠ 0)) zq)
      refine hs 25 _ rfl _ _ _ _ _ _ _ rfl ?_
      exact hs 26 _ rfl _ _ _ _ _ (⟨_, rfl, by decide, by decide⟩) (by omega) (by omega) (hP 0 _ _ _ (Or.inl ⟨c1_, Or.inr ⟨c2_, rfl, rfl⟩⟩) (f2_.tr f3_) ⟨_, _, _, _, x3_⟩)
    · 
      refine hs 0 _ rfl _ _ _ _ _ _ _ rfl ?_
      refine hs 1 _ rfl _ _ _ _ _ _ _ rfl ?_
      refine hs 2 _ rfl _ _ _ _ _ _ _ rfl ?_
      refine zw_c (hs 3 _ rfl) (a := [.int (Int32.ofInt e), .int (Int32.ofInt (f : Int))]) (st := [.ref x]) rfl rfl (Nat.le_of_ble_eq_true rfl) trivial (by omega) (by omega) (zm_noRow_M g (e := e) (f := (f : Int)) (by omega) (by omega) (by omega) (by omega) (fun y_ => absurd (by omega) y_) (fun y_ => ?_))
      show S 6 [some (.ref x), some (.int (Int32.ofInt e)), some (.int (Int32.ofInt (f : Int)))] [.int (Int32.ofInt (0 : Int)), .ref x] _ _ _
      refine hs 4 _ rfl _ _ _ _ _ _ _ rfl ?_
      refine zw_c (hs 5 _ rfl) (a := [.ref x, .int (Int32.ofInt (0 : Int)), .int (Int32.ofInt (1 : Int))]) (st := []) rfl rfl (Nat.le_of_ble_eq_true rfl) ⟨_, _, _, rfl, a1_, a2_.1⟩ (by omega) (by omega) (zm_start_M g hX (i_ := 0) (w_ := 1) (Or.inl rfl) (by decide) (fun y_ => absurd y_ (by decide)) (fun y_ h2_ f2_ x2_ => ?_))
      obtain ⟨t_, qn_, ql_, qb_, vl_, s1_, l1_, ⟨e1_, e2_⟩, up_⟩ := x2_.rowL
      show S 10 [some (.ref x), some (.int (Int32.ofInt e)), some (.int (Int32.ofInt (f : Int)))] [.int (Int32.ofInt (0 : Int))] _ _ _
      refine hs 6 _ rfl _ _ _ _ _ _ (fun zq => absurd (hd_c1z (c := 1) (by omega) (by omega) zq) (by omega : ¬ ((0 : Int) ≠ 0))) (fun _ => ?_)
      refine hs 7 _ rfl _ _ _ _ _ _ _ rfl ?_
      refine hs 8 _ rfl _ _ _ _ _ _ _ rfl ?_
      refine hs 9 _ rfl _ _ _ _ _ _ _ _ _ (x2_.1) a2_.1 rfl ?_
      refine hs 10 _ rfl _ _ _ _ _ _ _ _ _ (s1_.1) s1_.2 rfl ?_
      refine zw_c (hs 11 _ rfl) (a := [.ref ql_]) (st := [.ref x]) rfl rfl (Nat.le_of_ble_eq_true rfl) (zm_l.rc l1_) (by omega) (by omega) (zm_size_M g l1_ ?_)
      show S 24 [some (.ref x), some (.int (Int32.ofInt e)), some (.int (Int32.ofInt (f : Int)))] [.int (Int32.ofInt (vl_.length : Int)), .ref x] _ _ _
      refine hs 12 _ rfl _ _ _ _ _ _ _ rfl ?_
      refine hs 13 _ rfl _ _ _ _ _ _ _ (fun _ => ?_) (fun zq => absurd (hd_c2t (c := 1) (by omega) (by omega) (by omega) (by omega) (by omega : ((vl_.length : Int) - (6 : Int)) ≠ 0)) zq)
      refine hs 16 _ rfl _ _ _ _ _ _ _ rfl ?_
      refine hs 17 _ rfl _ _ _ _ _ _ _ rfl ?_
      refine zw_c (hs 18 _ rfl) (a := [.ref x, .int (Int32.ofInt (0 : Int)), .int (Int32.ofInt (2 : Int))]) (st := []) rfl rfl (Nat.le_of_ble_eq_true rfl) ⟨_, _, _, rfl, x2_.1, a2_.1⟩ (by omega) (by omega) (zm_refuse_M g x2_ (i_ := 0) (w_ := 2) (Or.inl rfl) (by decide) (fun y_ => absurd y_ (by decide)) (fun y_ => ?_))
      show S 38 [some (.ref x), some (.int (Int32.ofInt e)), some (.int (Int32.ofInt (f : Int)))] [.int (Int32.ofInt (0 : Int))] _ _ _
      refine hs 19 _ rfl _ _ _ _ _ _ (fun zq => absurd (hd_c1z (c := 1) (by omega) (by omega) zq) (by omega : ¬ ((0 : Int) ≠ 0))) (fun _ => ?_)
      refine hs 20 _ rfl _ _ _ _ _ _ _ rfl ?_
      refine hs 21 _ rfl _ _ _ _ _ _ _ rfl ?_
      refine hs 22 _ rfl _ _ _ _ _ _ _ rfl ?_
      refine zw_cm (hs 23 _ rfl) (a := [.ref x, .int (Int32.ofInt e), .int (Int32.ofInt (f : Int))]) (st := []) 3 8 rfl rfl (Nat.le_of_ble_eq_true rfl) (zm_rc x2_) (by omega) (by omega) (zm_isFit_M g x2_ hok (by omega) (by omega) (by omega) (by omega) (by omega) (by omega) (fun ft_ h3_ g3_ => ?_) (fun ft_ h3_ g3_ => ?_))
      · show S 47 [some (.ref x), some (.int (Int32.ofInt e)), some (.int (Int32.ofInt (f : Int)))] [.int (Int32.ofInt (1 : Int))] _ _ _
        refine hs 24 _ rfl _ _ _ _ _ _ (fun _ => ?_) (fun zq => absurd (hd_c1t (c := 1) (by omega) (by omega) (by omega : (1 : Int) ≠ 0)) zq)
        refine hs 27 _ rfl _ _ _ _ _ _ _ rfl ?_
        refine hs 28 _ rfl _ _ _ _ _ _ _ rfl ?_
        refine hs 29 _ rfl _ _ _ _ _ _ _ rfl ?_
        refine zw_cm (hs 30 _ rfl) (a := [.ref x, .int (Int32.ofInt e), .int (Int32.ofInt (f : Int))]) (st := []) 16 91 rfl rfl (Nat.le_of_ble_eq_true rfl) (zm_rc (x2_.g g3_ fun _ _ => rfl)) (by omega) (by omega) (zm_addRow_M g (x2_.g g3_ fun _ _ => rfl) hok hp12 (by omega) (by omega) (by omega) (by omega) c2_ (by omega) (by omega) fun h4_ f4_ x4_ => ?_)
        show S 58 [some (.ref x), some (.int (Int32.ofInt e)), some (.int (Int32.ofInt (f : Int)))] [.int (Int32.ofInt (c.2.2.1.length : Int))] _ _ _
        refine hs 31 _ rfl _ _ _ _ _ _ _ rfl ?_
        refine hs 32 _ rfl _ _ _ _ _ _ _ rfl ?_
        exact hs 33 _ rfl _ _ _ _ _ ⟨_, rfl, by decide, by decide⟩ (by omega) (by omega) (hP _ _ _ _ (Or.inl ⟨c1_, Or.inl ⟨c2_, rfl, Or.inl ⟨ft_, rfl, rfl⟩⟩⟩) ((f2_.tr (zm_fr.g g3_)).tr f4_) x4_)
      · show S 47 [some (.ref x), some (.int (Int32.ofInt e)), some (.int (Int32.ofInt (f : Int)))] [.int (Int32.ofInt (0 : Int))] _ _ _
        refine hs 24 _ rfl _ _ _ _ _ _ (fun zq => absurd (hd_c1z (c := 1) (by omega) (by omega) zq) (by omega : ¬ ((0 : Int) ≠ 0))) (fun _ => ?_)
        refine hs 25 _ rfl _ _ _ _ _ _ _ rfl ?_
        exact hs 26 _ rfl _ _ _ _ _ ⟨_, rfl, by decide, by decide⟩ (by omega) (by omega) (hP _ _ _ _ (Or.inl ⟨c1_, Or.inl ⟨c2_, rfl, Or.inr ⟨ft_, rfl, rfl⟩⟩⟩) (f2_.tr (zm_fr.g g3_)) ⟨_, _, _, _, x2_.g g3_ fun _ _ => rfl⟩)
theorem zl_ob.R {G : am_G} {h : List am_C} {vl : List Nat} {R : List (Int × Int)} (h1 : vl.length = R.length) (h2 : ∀ (i v : Nat) (r : Int × Int), vl[i]? = some v → R[i]? = some r → zm_r G h v r) : zl_ob G h vl := fun i v hv => by
  obtain ⟨p_, hp_⟩ : ∃ p_, R[i]? = some p_ := ⟨_, List.getElem?_eq_getElem (by have := (List.getElem?_eq_some_iff.mp hv).1; omega)⟩
  obtain ⟨t9_, y1_, y2_⟩ := h2 _ _ _ hv hp_
  exact ⟨t9_, _, y1_, by rw [y2_]; rfl⟩
theorem zl_ob.B {G : am_G} {h : List am_C} {vb : List Nat} {B : List Int} (h1 : vb.length = B.length) (h2 : ∀ (i v : Nat) (b : Int), vb[i]? = some v → B[i]? = some b → zm_i G h v b) : zl_ob G h vb := fun i v hv => by
  obtain ⟨p_, hp_⟩ : ∃ p_, B[i]? = some p_ := ⟨_, List.getElem?_eq_getElem (by have := (List.getElem?_eq_some_iff.mp hv).1; omega)⟩
  obtain ⟨t9_, y1_, y2_⟩ := h2 _ _ _ hv hp_
  exact ⟨t9_, _, y1_, by rw [y2_]; rfl⟩
theorem zt_er {α β : Type} {l : List α} {r : List β} {p : Nat} {Q : α → β → Prop} (h : ∀ (i : Nat) (a : α) (b : β), l[i]? = some a → r[i]? = some b → Q a b) (i : Nat) (a : α) (b : β) (h1 : (l.eraseIdx p)[i]? = some a) (h2 : (r.eraseIdx p)[i]? = some b) : Q a b := by
  rw [List.getElem?_eraseIdx] at h1 h2
  by_cases c_ : i < p
  · rw [if_pos c_] at h1 h2
    exact h _ _ _ h1 h2
  · rw [if_neg c_] at h1 h2
    exact h _ _ _ h1 h2
set_option maxHeartbeats 4000000 in
theorem zm_drop_M {l : Launch} {G : am_G} {X : ck_XT} (g : gM l G X) {o : Nat → Nat} {x tx now qw : Nat} {th j m k : Int} {c : sp_S} {P : List sp_S} {h : List am_C} (hX : zm_x G h o x tx now qw th j m k c P) (hok : sp_ok c) (hp12 : P.length ≤ 12) {e e2 : Int} (he1 : -2147483648 ≤ e) (he2 : e ≤ 2147483647) {mc ms : Nat} {Post : am_O → List am_C → Prop} (hmc : 14 ≤ mc) (hms : 69 ≤ ms)
    (hP : ∀ (a th : Int) (T' : sp_T) (h' : List am_C), sp_d13 e e2 (c, P, j, m, k) a th T' → zm_fr G h h' → zm_Y G h' x th T' → Post (.inl (some (.int (Int32.ofInt a)))) h') :
    am_M l G yX14_drop (.code yX14_drop prog_14_method_36_code 2 (some .int)) 11 294 mc ms [.ref x, .int (Int32.ofInt e)] h Post := by
  refine gh_yX14_drop_X g (Nat.le_of_ble_eq_true rfl) fun S SX hs hr hw hx => ?_
  have rv : ∀ x : Int32, ck_fv 0 (.int x) := fun x => ⟨_, rfl⟩
  obtain ⟨a1_, a2_, a3_, a4_⟩ := id hX
  by_cases c1_ : 0 ≤ e ∧ e < (c.2.2.1.length : Int)
  rotate_left
  · 
    refine hs 0 _ rfl _ _ _ _ _ _ _ rfl ?_
    refine hs 1 _ rfl _ _ _ _ _ _ _ rfl ?_
    refine hs 2 _ rfl _ _ _ _ _ _ _ rfl ?_
    refine zw_c (hs 3 _ rfl) (a := [.ref x, .int (Int32.ofInt e)]) (st := [.ref x]) rfl rfl (Nat.le_of_ble_eq_true rfl) (zm_rc hX) (by omega) (by omega) (zm_noPlace_M g hX (e := e) (by omega) (by omega) hok (fun y_ => ?_) (fun y_ => absurd y_ c1_))
    show S 6 [some (.ref x), some (.int (Int32.ofInt e))] [.int (Int32.ofInt (1 : Int)), .ref x] _ _ _
    refine hs 4 _ rfl _ _ _ _ _ _ _ rfl ?_
    refine zw_c (hs 5 _ rfl) (a := [.ref x, .int (Int32.ofInt (1 : Int)), .int (Int32.ofInt (1 : Int))]) (st := []) rfl rfl (Nat.le_of_ble_eq_true rfl) ⟨_, _, _, rfl, a1_, a2_.1⟩ (by omega) (by omega) (zm_start_M g hX (i_ := 1) (w_ := 1) (Or.inr rfl) (by decide) (fun y_ h2_ f2_ x2_ => ?_) (fun y_ => absurd y_ (by decide)))
    show S 10 [some (.ref x), some (.int (Int32.ofInt e))] [.int (Int32.ofInt (1 : Int))] _ _ _
    refine hs 6 _ rfl _ _ _ _ _ _ (fun zq => absurd (hd_c1z (c := 0) (by omega) (by omega) zq) (by omega : ¬ ((1 : Int) = 0))) (fun _ => ?_)
    refine hs 7 _ rfl _ _ _ _ _ _ _ rfl ?_
    exact hs 8 _ rfl _ _ _ _ _ (rv _) (by omega) (by omega) (hP 0 _ _ _ (Or.inr ⟨c1_, rfl, rfl⟩) f2_ ⟨_, _, _, _, x2_⟩)
  · obtain ⟨i, rfl⟩ : ∃ i : Nat, e = (i : Int) := ⟨e.toNat, by omega⟩
    refine hs 0 _ rfl _ _ _ _ _ _ _ rfl ?_
    refine hs 1 _ rfl _ _ _ _ _ _ _ rfl ?_
    refine hs 2 _ rfl _ _ _ _ _ _ _ rfl ?_
    refine zw_c (hs 3 _ rfl) (a := [.ref x, .int (Int32.ofInt (i : Int))]) (st := [.ref x]) rfl rfl (Nat.le_of_ble_eq_true rfl) (zm_rc hX) (by omega) (by omega) (zm_noPlace_M g hX (e := (i : Int)) (by omega) (by omega) hok (fun y_ => absurd c1_ y_) (fun y_ => ?_))
    show S 6 [some (.ref x), some (.int (Int32.ofInt (i : Int)))] [.int (Int32.ofInt (0 : Int)), .ref x] _ _ _
    refine hs 4 _ rfl _ _ _ _ _ _ _ rfl ?_
    refine zw_c (hs 5 _ rfl) (a := [.ref x, .int (Int32.ofInt (0 : Int)), .int (Int32.ofInt (1 : Int))]) (st := []) rfl rfl (Nat.le_of_ble_eq_true rfl) ⟨_, _, _, rfl, a1_, a2_.1⟩ (by omega) (by omega) (zm_start_M g hX (i_ := 0) (w_ := 1) (Or.inl rfl) (by decide) (fun y_ => absurd y_ (by decide)) (fun y_ h2_ f2_ x2_ => ?_))
    show S 10 [some (.ref x), some (.int (Int32.ofInt (i : Int)))] [.int (Int32.ofInt (0 : Int))] _ _ _
    refine hs 6 _ rfl _ _ _ _ _ _ (fun _ => ?_) (fun zq => absurd (hd_c1t (c := 0) (by omega) (by omega) (by omega : (0 : Int) = 0)) zq)
    refine hs 9 _ rfl _ _ _ _ _ _ _ rfl ?_
    refine zw_cm (hs 10 _ rfl) (a := [.ref x]) (st := []) 14 69 rfl rfl (Nat.le_of_ble_eq_true rfl) ⟨_, _, _, rfl, x2_.1, a2_.1⟩ (by omega) (by omega) (zm_keep_M g x2_ hok hp12 (by omega) (by omega) fun h3_ o3_ f3_ x3_ => ?_)
    obtain ⟨t_, qn_, ql_, qb_, vl_, s1_, l1_, ⟨e1_, e2_⟩, up_⟩ := x3_.rowL
    obtain ⟨v9_, hv9_⟩ : ∃ v_, vl_[i]? = some v_ := ⟨_, List.getElem?_eq_getElem (by omega)⟩
    show S 19 [some (.ref x), some (.int (Int32.ofInt (i : Int)))] [] _ _ _
    refine hs 11 _ rfl _ _ _ _ _ _ _ rfl ?_
    refine hs 12 _ rfl _ _ _ _ _ _ _ _ _ (x3_.1) a2_.1 rfl ?_
    refine hs 13 _ rfl _ _ _ _ _ _ _ _ _ (s1_.1) s1_.2 rfl ?_
    refine hs 14 _ rfl _ _ _ _ _ _ _ rfl ?_
    refine zw_c (hs 15 _ rfl) (a := [.ref ql_, .int (Int32.ofInt (i : Int))]) (st := []) rfl rfl (Nat.le_of_ble_eq_true rfl) (zm_l.rc l1_) (by omega) (by omega) (zm_rem_M g (j := i) (v := v9_) l1_ (zl_ob.R e1_ e2_) rfl hv9_ fun h4_ f4_ l4_ => ?_)
    have up2_ := up_ h4_ o3_ (vl_.eraseIdx i) (c.2.2.1.eraseIdx i) f4_ l4_ (by rw [List.length_eraseIdx, List.length_eraseIdx, e1_]) (fun i2_ a2b_ b2b_ y1_ y2_ => zt_er (Q := fun v_ r_ => zm_r G h4_ v_ r_) (fun i3_ a3b_ b3b_ z1_ z2_ => (e2_ i3_ a3b_ b3b_ z1_ z2_).f f4_ zm_d4.ok) i2_ a2b_ b2b_ y1_ y2_)
    have s9_ := f4_.2.2 _ _ _ s1_.1 (by rw [s1_.2]; exact zm_d4.nk (by decide) (by decide))
    show S 30 [some (.ref x), some (.int (Int32.ofInt (i : Int)))] [.ref v9_] _ _ _
    refine hs 16 _ rfl _ _ _ _ _ _ _ rfl ?_
    refine hs 17 _ rfl _ _ _ _ _ _ _ rfl ?_
    refine hs 18 _ rfl _ _ _ _ _ _ _ _ _ (up2_.1) a2_.1 rfl ?_
    refine hs 19 _ rfl _ _ _ _ _ _ _ _ _ (s9_) s1_.2 rfl ?_
    refine zw_c (hs 20 _ rfl) (a := [.ref ql_]) (st := []) rfl rfl (Nat.le_of_ble_eq_true rfl) (zm_l.rc l4_) (by omega) (by omega) (zm_size_M g l4_ ?_)
    show S 41 [some (.ref x), some (.int (Int32.ofInt (i : Int)))] [.int (Int32.ofInt ((vl_.eraseIdx i).length : Int))] _ _ _
    have sz_ : (vl_.eraseIdx i).length = (c.2.2.1.eraseIdx i).length := by rw [List.length_eraseIdx, List.length_eraseIdx, e1_]
    rw [sz_]
    exact hs 21 _ rfl _ _ _ _ _ (rv _) (by omega) (by omega) (hP _ _ _ _ (Or.inl ⟨c1_, rfl, rfl, rfl⟩) ((f2_.tr f3_).tr (zm_fr.f f4_ zm_d4.ok)) ⟨_, _, _, _, up2_⟩)
theorem zt_or {L : List (Option Value)} {st : List Value} {v x y : Int} (hx : x = 0 ∨ x = 1) (hy : y = 0 ∨ y = 1) : ck_cf 15 6 v L (.int (Int32.ofInt y) :: .int (Int32.ofInt x) :: st) = some (L, .int (Int32.ofInt (max x y)) :: st) := by
  rcases hx with rfl | rfl <;> rcases hy with rfl | rfl <;> rfl
set_option maxHeartbeats 4000000 in
theorem zm_base_M {l : Launch} {G : am_G} {X : ck_XT} (g : gM l G X) {o : Nat → Nat} {x tx now qw : Nat} {th j m k : Int} {c : sp_S} {P : List sp_S} {h : List am_C} (hX : zm_x G h o x tx now qw th j m k c P) (hok : sp_ok c) (hp12 : P.length ≤ 12) {e e2 : Int} (he1 : -2147483648 ≤ e) (he2 : e ≤ 2147483647) {mc ms : Nat} {Post : am_O → List am_C → Prop} (hmc : 17 ≤ mc) (hms : 94 ≤ ms)
    (hP : ∀ (a th : Int) (T' : sp_T) (h' : List am_C), sp_d14 e e2 (c, P, j, m, k) a th T' → zm_fr G h h' → zm_Y G h' x th T' → Post (.inl (some (.int (Int32.ofInt a)))) h') :
    am_M l G yX14_base (.code yX14_base prog_14_method_37_code 5 (some .int)) 11 294 mc ms [.ref x, .int (Int32.ofInt e)] h Post := by
  refine gh_yX14_base_X g (Nat.le_of_ble_eq_true rfl) fun S SX hs hr hw hx => ?_
  have rv : ∀ x : Int32, ck_fv 0 (.int x) := fun x => ⟨_, rfl⟩
  obtain ⟨a1_, a2_, a3_, a4_⟩ := id hX
  obtain ⟨t_, qn_, ql_, qb_, vb_, s1_, l1_, ⟨e1_, e2_⟩, up_⟩ := hX.baseL
  obtain ⟨p9_, N9_, ml_, L1_, r1_, r2_⟩ := l1_.L
  obtain ⟨tl_, trl_, wl_, k1_, k2_, k3_, k4_, -⟩ := id L1_
  have lq_ := zg_lt k1_
  have lp_ := zg_lt k3_
  have ok5_ := hok.2.2.2.1
  refine hs 0 _ rfl _ _ _ _ _ _ _ rfl ?_
  refine hs 1 _ rfl _ _ _ _ _ _ _ rfl ?_
  refine hs 2 _ rfl _ _ _ _ _ _ _ rfl ?_
  refine hs 3 _ rfl _ _ _ _ _ _ _ _ _ (a1_) a2_.1 rfl ?_
  refine hs 4 _ rfl _ _ _ _ _ _ _ _ _ (s1_.1) s1_.2 rfl ?_
  refine zw_cm (hs 5 _ rfl) (a := [.ref qb_]) (st := []) 1 4 rfl rfl (Nat.le_of_ble_eq_true rfl) ⟨_, _, _, rfl, k1_, k2_⟩ (by omega) (by omega) (zl_iter_M g L1_ (by omega) (by omega) fun hj_ e_ gj_ lj_ cj_ => ?_)
  show S 12 [some (.ref x), some (.int (Int32.ofInt e)), some (.int (Int32.ofInt (0 : Int))), none, none] [.ref e_] _ _ _
  refine hs 6 _ rfl _ _ _ _ _ _ _ rfl ?_
  have he_ : 1000 + h.length ≤ e_ := lj_
  have loop : ∀ (m_ i_ : Nat) (h1_ : List am_C) (k_ n_ : Nat) (b_ la_ : Int) (u_ : Option Value), i_ + m_ = vb_.length → zg G h h1_ → (b_ = 0 ∨ b_ = 1) → (2 ≤ e ∧ e ≤ 999 → (b_ = 0 ↔ ∀ (j_ : Nat) (d_ : Int), j_ < i_ → c.2.2.2[j_]? = some d_ → Nat.gcd d_.toNat e.toNat = 1)) → am_g G h1_ e_ = some (5, [.int (Int32.ofInt (i_ : Int)), .int (Int32.ofInt la_), .int (Int32.ofInt ml_), .ref qb_]) → k_ ≤ 1 → n_ ≤ 4 → S 13 [some (.ref x), some (.int (Int32.ofInt e)), some (.int (Int32.ofInt b_)), some (.ref e_), u_] [] h1_ k_ n_ := by
    intro m_
    induction m_ with
    | zero =>
      intro i_ h1_ k_ n_ b_ la_ u_ hi_ gh_ hb01_ hB_ hE_ hk_ hn_
      have x1_ := hX.g gh_ fun _ _ => rfl
      refine hs 7 _ rfl _ _ _ _ _ _ _ rfl ?_
      refine zw_cn (hs 8 _ rfl) (a := [.ref e_]) (st := []) rfl rfl (Nat.le_of_ble_eq_true rfl) ⟨_, _, _, rfl, hE_, rfl⟩ (by omega) (by omega) (⟨zl_hasNext_M g (zl_L.keep L1_ fun x_ c_ _ hg_ => gh_.2 _ _ hg_) hE_ rfl r1_ r2_ (by omega) (fun y_ => absurd y_ (by omega)) (fun y_ => ?_), fun _ _ h9 => h9⟩)
      show S 19 [some (.ref x), some (.int (Int32.ofInt e)), some (.int (Int32.ofInt b_)), some (.ref e_), _] [.int (Int32.ofInt (0 : Int))] _ _ _
      refine hs 9 _ rfl _ _ _ _ _ _ (fun _ => ?_) (fun zq => absurd (hd_c1t (c := 0) (by omega) (by omega) (by omega : (0 : Int) = 0)) zq)
      by_cases c1_ : 2 ≤ e ∧ e ≤ 999
      rotate_left
      · 
        refine hs 32 _ rfl _ _ _ _ _ _ _ rfl ?_
        refine hs 33 _ rfl _ _ _ _ _ _ _ rfl ?_
        refine hs 34 _ rfl _ _ _ _ _ _ _ rfl ?_
        refine hs 35 _ rfl _ _ _ _ _ _ _ rfl ?_
        refine zw_c (hs 36 _ rfl) (a := [.int (Int32.ofInt e), .int (Int32.ofInt (2 : Int)), .int (Int32.ofInt (999 : Int))]) (st := [.ref x]) rfl rfl (Nat.le_of_ble_eq_true rfl) trivial (by omega) (by omega) (zm_isIn_M g (v := e) (a := 2) (b := 999) (by omega) (by omega) (by omega) (by omega) (by omega) (by omega) (fun y_ => absurd y_ (by omega)) (fun y_ => ?_))
        show S 77 [some (.ref x), some (.int (Int32.ofInt e)), some (.int (Int32.ofInt b_)), some (.ref e_), _] [.int (Int32.ofInt (0 : Int)), .ref x] _ _ _
        refine hs 37 _ rfl _ _ _ _ _ _ (fun zq => absurd (hd_c1z (c := 1) (by omega) (by omega) zq) (by omega : ¬ ((0 : Int) ≠ 0))) (fun _ => ?_)
        refine hs 38 _ rfl _ _ _ _ _ _ _ rfl ?_
        refine hs 39 _ rfl _ _ _ _ _ ?_
        refine hs 41 _ rfl _ _ _ _ _ _ _ rfl ?_
        refine zw_c (hs 42 _ rfl) (a := [.ref x, .int (Int32.ofInt (1 : Int)), .int (Int32.ofInt (1 : Int))]) (st := []) rfl rfl (Nat.le_of_ble_eq_true rfl) (zm_rc x1_) (by omega) (by omega) (zm_start_M g x1_ (i_ := 1) (w_ := 1) (Or.inr rfl) (by decide) (fun y_ h2_ f2_ x2_ => ?_) (fun y_ => absurd y_ (by decide)))
        show S 89 [some (.ref x), some (.int (Int32.ofInt e)), some (.int (Int32.ofInt b_)), some (.ref e_), _] [.int (Int32.ofInt (1 : Int))] _ _ _
        refine hs 43 _ rfl _ _ _ _ _ _ (fun _ => ?_) (fun zq => absurd (hd_c1t (c := 1) (by omega) (by omega) (by omega : (1 : Int) ≠ 0)) zq)
        refine hs 59 _ rfl _ _ _ _ _ _ _ rfl ?_
        exact hs 60 _ rfl _ _ _ _ _ (rv _) (by omega) (by omega) (hP 0 _ _ _ (Or.inr ⟨c1_, rfl, rfl⟩) ((zm_fr.g gh_).tr f2_) ⟨_, _, _, _, x2_⟩)
      · have hB_ := hB_ c1_
        have tb_ : sp_tb c e ↔ b_ = 0 ∧ c.2.2.2.length < 5 := by
          unfold sp_tb
          rw [hB_]
          constructor
          · rintro ⟨y1_, y2_⟩
            exact ⟨fun j_ d_ _ hd_ => y1_ d_ (List.mem_of_getElem? hd_), y2_⟩
          · rintro ⟨y1_, y2_⟩
            refine ⟨fun d_ hd_ => ?_, y2_⟩
            obtain ⟨j_, hj_⟩ := List.getElem?_of_mem hd_
            exact y1_ j_ d_ (by have := (List.getElem?_eq_some_iff.mp hj_).1; omega) hj_
        by_cases c5_ : c.2.2.2.length = 5
        · have nt_ : ¬ sp_tb c e := fun y_ => by
            have := (tb_.mp y_).2
            omega
          refine hs 32 _ rfl _ _ _ _ _ _ _ rfl ?_
          refine hs 33 _ rfl _ _ _ _ _ _ _ rfl ?_
          refine hs 34 _ rfl _ _ _ _ _ _ _ rfl ?_
          refine hs 35 _ rfl _ _ _ _ _ _ _ rfl ?_
          refine zw_c (hs 36 _ rfl) (a := [.int (Int32.ofInt e), .int (Int32.ofInt (2 : Int)), .int (Int32.ofInt (999 : Int))]) (st := [.ref x]) rfl rfl (Nat.le_of_ble_eq_true rfl) trivial (by omega) (by omega) (zm_isIn_M g (v := e) (a := 2) (b := 999) (by omega) (by omega) (by omega) (by omega) (by omega) (by omega) (fun y_ => ?_) (fun y_ => absurd (by omega) y_))
          show S 77 [some (.ref x), some (.int (Int32.ofInt e)), some (.int (Int32.ofInt b_)), some (.ref e_), _] [.int (Int32.ofInt (1 : Int)), .ref x] _ _ _
          refine hs 37 _ rfl _ _ _ _ _ _ (fun _ => ?_) (fun zq => absurd (hd_c1t (c := 1) (by omega) (by omega) (by omega : (1 : Int) ≠ 0)) zq)
          refine hs 40 _ rfl _ _ _ _ _ _ _ rfl ?_
          refine hs 41 _ rfl _ _ _ _ _ _ _ rfl ?_
          refine zw_c (hs 42 _ rfl) (a := [.ref x, .int (Int32.ofInt (0 : Int)), .int (Int32.ofInt (1 : Int))]) (st := []) rfl rfl (Nat.le_of_ble_eq_true rfl) (zm_rc x1_) (by omega) (by omega) (zm_start_M g x1_ (i_ := 0) (w_ := 1) (Or.inl rfl) (by decide) (fun y_ => absurd y_ (by decide)) (fun y_ h2_ f2_ x2_ => ?_))
          obtain ⟨t_, qn_, ql_, qb_, vb_, s1_, l1_, ⟨e1_, e2_⟩, up_⟩ := x2_.baseL
          show S 89 [some (.ref x), some (.int (Int32.ofInt e)), some (.int (Int32.ofInt b_)), some (.ref e_), _] [.int (Int32.ofInt (0 : Int))] _ _ _
          refine hs 43 _ rfl _ _ _ _ _ _ (fun zq => absurd (hd_c1z (c := 1) (by omega) (by omega) zq) (by omega : ¬ ((0 : Int) ≠ 0))) (fun _ => ?_)
          refine hs 44 _ rfl _ _ _ _ _ _ _ rfl ?_
          refine hs 45 _ rfl _ _ _ _ _ _ _ rfl ?_
          refine hs 46 _ rfl _ _ _ _ _ _ _ _ _ (x2_.1) a2_.1 rfl ?_
          refine hs 47 _ rfl _ _ _ _ _ _ _ _ _ (s1_.1) s1_.2 rfl ?_
          refine zw_c (hs 48 _ rfl) (a := [.ref qb_]) (st := [.ref x]) rfl rfl (Nat.le_of_ble_eq_true rfl) (zm_l.rc l1_) (by omega) (by omega) (zm_size_M g l1_ ?_)
          show S 103 [some (.ref x), some (.int (Int32.ofInt e)), some (.int (Int32.ofInt b_)), some (.ref e_), _] [.int (Int32.ofInt (vb_.length : Int)), .ref x] _ _ _
          refine hs 49 _ rfl _ _ _ _ _ _ _ rfl ?_
          refine hs 50 _ rfl _ _ _ _ _ _ _ (fun _ => ?_) (fun zq => absurd (hd_c2t (c := 0) (by omega) (by omega) (by omega) (by omega) (by omega : ((vb_.length : Int) - (5 : Int)) = 0)) zq)
          refine hs 53 _ rfl _ _ _ _ _ _ _ rfl ?_
          refine hs 54 _ rfl _ _ _ _ _ ?_
          refine hs 56 _ rfl _ _ _ _ _ _ _ rfl ?_
          refine zw_c (hs 57 _ rfl) (a := [.ref x, .int (Int32.ofInt (1 : Int)), .int (Int32.ofInt (2 : Int))]) (st := []) rfl rfl (Nat.le_of_ble_eq_true rfl) ⟨_, _, _, rfl, x2_.1, a2_.1⟩ (by omega) (by omega) (zm_refuse_M g x2_ (i_ := 1) (w_ := 2) (Or.inr rfl) (by decide) (fun y_ h3_ f3_ x3_ => ?_) (fun y_ => absurd y_ (by decide)))
          show S 120 [some (.ref x), some (.int (Int32.ofInt e)), some (.int (Int32.ofInt b_)), some (.ref e_), _] [.int (Int32.ofInt (1 : Int))] _ _ _
          refine hs 58 _ rfl _ _ _ _ _ _ (fun zq => absurd (hd_c1z (c := 0) (by omega) (by omega) zq) (by omega : ¬ ((1 : Int) = 0))) (fun _ => ?_)
          refine hs 59 _ rfl _ _ _ _ _ _ _ rfl ?_
          exact hs 60 _ rfl _ _ _ _ _ (rv _) (by omega) (by omega) (hP 0 _ _ _ (Or.inl ⟨c1_, Or.inr ⟨nt_, rfl, rfl⟩⟩) ((zm_fr.g gh_).tr (f2_.tr f3_)) ⟨_, _, _, _, x3_⟩)
        · rcases hb01_ with rfl | rfl
          · have nt_ : sp_tb c e := tb_.mpr ⟨rfl, by omega⟩
            refine hs 32 _ rfl _ _ _ _ _ _ _ rfl ?_
            refine hs 33 _ rfl _ _ _ _ _ _ _ rfl ?_
            refine hs 34 _ rfl _ _ _ _ _ _ _ rfl ?_
            refine hs 35 _ rfl _ _ _ _ _ _ _ rfl ?_
            refine zw_c (hs 36 _ rfl) (a := [.int (Int32.ofInt e), .int (Int32.ofInt (2 : Int)), .int (Int32.ofInt (999 : Int))]) (st := [.ref x]) rfl rfl (Nat.le_of_ble_eq_true rfl) trivial (by omega) (by omega) (zm_isIn_M g (v := e) (a := 2) (b := 999) (by omega) (by omega) (by omega) (by omega) (by omega) (by omega) (fun y_ => ?_) (fun y_ => absurd (by omega) y_))
            show S 77 [some (.ref x), some (.int (Int32.ofInt e)), some (.int (Int32.ofInt (0 : Int))), some (.ref e_), _] [.int (Int32.ofInt (1 : Int)), .ref x] _ _ _
            refine hs 37 _ rfl _ _ _ _ _ _ (fun _ => ?_) (fun zq => absurd (hd_c1t (c := 1) (by omega) (by omega) (by omega : (1 : Int) ≠ 0)) zq)
            refine hs 40 _ rfl _ _ _ _ _ _ _ rfl ?_
            refine hs 41 _ rfl _ _ _ _ _ _ _ rfl ?_
            refine zw_c (hs 42 _ rfl) (a := [.ref x, .int (Int32.ofInt (0 : Int)), .int (Int32.ofInt (1 : Int))]) (st := []) rfl rfl (Nat.le_of_ble_eq_true rfl) (zm_rc x1_) (by omega) (by omega) (zm_start_M g x1_ (i_ := 0) (w_ := 1) (Or.inl rfl) (by decide) (fun y_ => absurd y_ (by decide)) (fun y_ h2_ f2_ x2_ => ?_))
            obtain ⟨t_, qn_, ql_, qb_, vb_, s1_, l1_, ⟨e1_, e2_⟩, up_⟩ := x2_.baseL
            show S 89 [some (.ref x), some (.int (Int32.ofInt e)), some (.int (Int32.ofInt (0 : Int))), some (.ref e_), _] [.int (Int32.ofInt (0 : Int))] _ _ _
            refine hs 43 _ rfl _ _ _ _ _ _ (fun zq => absurd (hd_c1z (c := 1) (by omega) (by omega) zq) (by omega : ¬ ((0 : Int) ≠ 0))) (fun _ => ?_)
            refine hs 44 _ rfl _ _ _ _ _ _ _ rfl ?_
            refine hs 45 _ rfl _ _ _ _ _ _ _ rfl ?_
            refine hs 46 _ rfl _ _ _ _ _ _ _ _ _ (x2_.1) a2_.1 rfl ?_
            refine hs 47 _ rfl _ _ _ _ _ _ _ _ _ (s1_.1) s1_.2 rfl ?_
            refine zw_c (hs 48 _ rfl) (a := [.ref qb_]) (st := [.ref x]) rfl rfl (Nat.le_of_ble_eq_true rfl) (zm_l.rc l1_) (by omega) (by omega) (zm_size_M g l1_ ?_)
            show S 103 [some (.ref x), some (.int (Int32.ofInt e)), some (.int (Int32.ofInt (0 : Int))), some (.ref e_), _] [.int (Int32.ofInt (vb_.length : Int)), .ref x] _ _ _
            refine hs 49 _ rfl _ _ _ _ _ _ _ rfl ?_
            refine hs 50 _ rfl _ _ _ _ _ _ _ (fun zq => absurd (hd_c2z (c := 0) (by omega) (by omega) (by omega) (by omega) zq) (by omega : ¬ (((vb_.length : Int) - (5 : Int)) = 0))) (fun _ => ?_)
            refine hs 51 _ rfl _ _ _ _ _ _ _ rfl ?_
            refine hs 52 _ rfl _ _ _ _ _ _ (fun _ => ?_) (fun zq => absurd (hd_c1t (c := 0) (by omega) (by omega) (by omega : (0 : Int) = 0)) zq)
            refine hs 55 _ rfl _ _ _ _ _ _ _ rfl ?_
            refine hs 56 _ rfl _ _ _ _ _ _ _ rfl ?_
            refine zw_c (hs 57 _ rfl) (a := [.ref x, .int (Int32.ofInt (0 : Int)), .int (Int32.ofInt (2 : Int))]) (st := []) rfl rfl (Nat.le_of_ble_eq_true rfl) ⟨_, _, _, rfl, x2_.1, a2_.1⟩ (by omega) (by omega) (zm_refuse_M g x2_ (i_ := 0) (w_ := 2) (Or.inl rfl) (by decide) (fun y_ => absurd y_ (by decide)) (fun y_ => ?_))
            show S 120 [some (.ref x), some (.int (Int32.ofInt e)), some (.int (Int32.ofInt (0 : Int))), some (.ref e_), _] [.int (Int32.ofInt (0 : Int))] _ _ _
            refine hs 58 _ rfl _ _ _ _ _ _ (fun _ => ?_) (fun zq => absurd (hd_c1t (c := 0) (by omega) (by omega) (by omega : (0 : Int) = 0)) zq)
            refine hs 61 _ rfl _ _ _ _ _ _ _ rfl ?_
            refine zw_cm (hs 62 _ rfl) (a := [.ref x]) (st := []) 14 69 rfl rfl (Nat.le_of_ble_eq_true rfl) ⟨_, _, _, rfl, x2_.1, a2_.1⟩ (by omega) (by omega) (zm_keep_M g x2_ hok hp12 (by omega) (by omega) fun h3_ o3_ f3_ x3_ => ?_)
            obtain ⟨t_, qn_, ql_, qb_, vb_, s1_, l1_, ⟨e1_, e2_⟩, up_⟩ := x3_.baseL
            show S 129 [some (.ref x), some (.int (Int32.ofInt e)), some (.int (Int32.ofInt (0 : Int))), some (.ref e_), _] [] _ _ _
            refine hs 63 _ rfl _ _ _ _ _ _ _ rfl ?_
            refine hs 64 _ rfl _ _ _ _ _ _ _ _ _ (x3_.1) a2_.1 rfl ?_
            refine hs 65 _ rfl _ _ _ _ _ _ _ _ _ (s1_.1) s1_.2 rfl ?_
            refine hs 66 _ rfl _ _ _ _ _ _ _ rfl ?_
            refine zw_cm (hs 67 _ rfl) (a := [.int (Int32.ofInt e)]) (st := [.ref qb_]) 1 1 rfl rfl (Nat.le_of_ble_eq_true rfl) trivial (by omega) (by omega) (zi_val_M g (by omega) (by omega) (by omega) (by omega) fun h4_ v9_ t9_ g4_ c4_ d4_ => ?_)
            have f4_ : zm_f G o3_ o3_ h3_ h4_ (fun _ _ => False) := zm_f.g g4_ fun _ _ => rfl
            have l4_ := l1_.f f4_ (fun _ _ y_ => y_.elim) id (fun _ _ y_ => y_)
            have ob_ : zl_ob G h4_ vb_ := (zl_ob.B e1_ e2_).g g4_
            show S 140 [some (.ref x), some (.int (Int32.ofInt e)), some (.int (Int32.ofInt (0 : Int))), some (.ref e_), _] [.ref v9_, .ref qb_] _ _ _
            refine zw_cm (hs 68 _ rfl) (a := [.ref qb_, .ref v9_]) (st := []) 1 20 rfl rfl (Nat.le_of_ble_eq_true rfl) (zm_l.rc l4_) (by omega) (by omega) (zm_add_M g l4_ ob_ (by omega) c4_ (Or.inr (Or.inl d4_)) (by omega) (by omega) fun h5_ o5_ f5_ l5_ => ?_)
            have f6_ : zm_f G o3_ o5_ h3_ h5_ (zm_d4 o3_ qb_) := f4_.tr f5_ (fun _ _ y_ => y_.elim) (fun _ _ _ _ y_ => y_)
            have up2_ := up_ h5_ o5_ (vb_ ++ [v9_]) (c.2.2.2 ++ [e]) f6_ l5_ (by rw [List.length_append, List.length_append, e1_]; rfl) (fun i_ a_ b9_ y1_ y2_ => by
              by_cases c_ : i_ < vb_.length
              · rw [List.getElem?_append_left c_] at y1_
                rw [List.getElem?_append_left (by omega)] at y2_
                exact (e2_ _ _ _ y1_ y2_).f f6_ zm_d4.ok
              · have y3_ := (List.getElem?_eq_some_iff.mp y1_).1
                rw [List.length_append, List.length_singleton] at y3_
                obtain rfl : i_ = vb_.length := by omega
                rw [List.getElem?_append_right (Nat.le_refl _), Nat.sub_self] at y1_
                rw [List.getElem?_append_right (by omega), e1_, Nat.sub_self] at y2_
                cases y1_
                cases y2_
                exact ⟨t9_, f5_.2.2 _ _ _ c4_ (by rw [d4_]; exact zm_d4.nk (by decide) (by decide)), d4_⟩)
            have s9_ := f6_.2.2 _ _ _ s1_.1 (by rw [s1_.2]; exact zm_d4.nk (by decide) (by decide))
            show S 143 [some (.ref x), some (.int (Int32.ofInt e)), some (.int (Int32.ofInt (0 : Int))), some (.ref e_), _] [.int (Int32.ofInt (1 : Int))] _ _ _
            refine hs 69 _ rfl _ _ _ _ _ _ _ rfl ?_
            refine hs 70 _ rfl _ _ _ _ _ _ _ rfl ?_
            refine hs 71 _ rfl _ _ _ _ _ _ _ _ _ (up2_.1) a2_.1 rfl ?_
            refine hs 72 _ rfl _ _ _ _ _ _ _ _ _ (s9_) s1_.2 rfl ?_
            refine zw_c (hs 73 _ rfl) (a := [.ref qb_]) (st := []) rfl rfl (Nat.le_of_ble_eq_true rfl) (zm_l.rc l5_) (by omega) (by omega) (zm_size_M g l5_ ?_)
            show S 154 [some (.ref x), some (.int (Int32.ofInt e)), some (.int (Int32.ofInt (0 : Int))), some (.ref e_), _] [.int (Int32.ofInt ((vb_ ++ [v9_]).length : Int))] _ _ _
            refine hs 74 _ rfl _ _ _ _ _ _ _ rfl ?_
            refine hs 75 _ rfl _ _ _ _ _ _ _ hd_sub ?_
            have sl_ : ((vb_ ++ [v9_]).length : Int) - 1 = (c.2.2.2.length : Int) := by
              rw [List.length_append, List.length_singleton]
              omega
            rw [sl_]
            exact hs 76 _ rfl _ _ _ _ _ (rv _) (by omega) (by omega) (hP _ _ _ _ (Or.inl ⟨c1_, Or.inl ⟨nt_, rfl, rfl, rfl⟩⟩) ((((zm_fr.g gh_).tr f2_).tr f3_).tr ((zm_fr.g g4_).tr (zm_fr.f f5_ zm_d4.ok))) ⟨_, _, _, _, up2_⟩)
          · have nt_ : ¬ sp_tb c e := fun y_ => absurd (tb_.mp y_).1 (by decide)
            refine hs 32 _ rfl _ _ _ _ _ _ _ rfl ?_
            refine hs 33 _ rfl _ _ _ _ _ _ _ rfl ?_
            refine hs 34 _ rfl _ _ _ _ _ _ _ rfl ?_
            refine hs 35 _ rfl _ _ _ _ _ _ _ rfl ?_
            refine zw_c (hs 36 _ rfl) (a := [.int (Int32.ofInt e), .int (Int32.ofInt (2 : Int)), .int (Int32.ofInt (999 : Int))]) (st := [.ref x]) rfl rfl (Nat.le_of_ble_eq_true rfl) trivial (by omega) (by omega) (zm_isIn_M g (v := e) (a := 2) (b := 999) (by omega) (by omega) (by omega) (by omega) (by omega) (by omega) (fun y_ => ?_) (fun y_ => absurd (by omega) y_))
            show S 77 [some (.ref x), some (.int (Int32.ofInt e)), some (.int (Int32.ofInt (1 : Int))), some (.ref e_), _] [.int (Int32.ofInt (1 : Int)), .ref x] _ _ _
            refine hs 37 _ rfl _ _ _ _ _ _ (fun _ => ?_) (fun zq => absurd (hd_c1t (c := 1) (by omega) (by omega) (by omega : (1 : Int) ≠ 0)) zq)
            refine hs 40 _ rfl _ _ _ _ _ _ _ rfl ?_
            refine hs 41 _ rfl _ _ _ _ _ _ _ rfl ?_
            refine zw_c (hs 42 _ rfl) (a := [.ref x, .int (Int32.ofInt (0 : Int)), .int (Int32.ofInt (1 : Int))]) (st := []) rfl rfl (Nat.le_of_ble_eq_true rfl) (zm_rc x1_) (by omega) (by omega) (zm_start_M g x1_ (i_ := 0) (w_ := 1) (Or.inl rfl) (by decide) (fun y_ => absurd y_ (by decide)) (fun y_ h2_ f2_ x2_ => ?_))
            obtain ⟨t_, qn_, ql_, qb_, vb_, s1_, l1_, ⟨e1_, e2_⟩, up_⟩ := x2_.baseL
            show S 89 [some (.ref x), some (.int (Int32.ofInt e)), some (.int (Int32.ofInt (1 : Int))), some (.ref e_), _] [.int (Int32.ofInt (0 : Int))] _ _ _
            refine hs 43 _ rfl _ _ _ _ _ _ (fun zq => absurd (hd_c1z (c := 1) (by omega) (by omega) zq) (by omega : ¬ ((0 : Int) ≠ 0))) (fun _ => ?_)
            refine hs 44 _ rfl _ _ _ _ _ _ _ rfl ?_
            refine hs 45 _ rfl _ _ _ _ _ _ _ rfl ?_
            refine hs 46 _ rfl _ _ _ _ _ _ _ _ _ (x2_.1) a2_.1 rfl ?_
            refine hs 47 _ rfl _ _ _ _ _ _ _ _ _ (s1_.1) s1_.2 rfl ?_
            refine zw_c (hs 48 _ rfl) (a := [.ref qb_]) (st := [.ref x]) rfl rfl (Nat.le_of_ble_eq_true rfl) (zm_l.rc l1_) (by omega) (by omega) (zm_size_M g l1_ ?_)
            show S 103 [some (.ref x), some (.int (Int32.ofInt e)), some (.int (Int32.ofInt (1 : Int))), some (.ref e_), _] [.int (Int32.ofInt (vb_.length : Int)), .ref x] _ _ _
            refine hs 49 _ rfl _ _ _ _ _ _ _ rfl ?_
            refine hs 50 _ rfl _ _ _ _ _ _ _ (fun zq => absurd (hd_c2z (c := 0) (by omega) (by omega) (by omega) (by omega) zq) (by omega : ¬ (((vb_.length : Int) - (5 : Int)) = 0))) (fun _ => ?_)
            refine hs 51 _ rfl _ _ _ _ _ _ _ rfl ?_
            refine hs 52 _ rfl _ _ _ _ _ _ (fun zq => absurd (hd_c1z (c := 0) (by omega) (by omega) zq) (by omega : ¬ ((1 : Int) = 0))) (fun _ => ?_)
            refine hs 53 _ rfl _ _ _ _ _ _ _ rfl ?_
            refine hs 54 _ rfl _ _ _ _ _ ?_
            refine hs 56 _ rfl _ _ _ _ _ _ _ rfl ?_
            refine zw_c (hs 57 _ rfl) (a := [.ref x, .int (Int32.ofInt (1 : Int)), .int (Int32.ofInt (2 : Int))]) (st := []) rfl rfl (Nat.le_of_ble_eq_true rfl) ⟨_, _, _, rfl, x2_.1, a2_.1⟩ (by omega) (by omega) (zm_refuse_M g x2_ (i_ := 1) (w_ := 2) (Or.inr rfl) (by decide) (fun y_ h3_ f3_ x3_ => ?_) (fun y_ => absurd y_ (by decide)))
            show S 120 [some (.ref x), some (.int (Int32.ofInt e)), some (.int (Int32.ofInt (1 : Int))), some (.ref e_), _] [.int (Int32.ofInt (1 : Int))] _ _ _
            refine hs 58 _ rfl _ _ _ _ _ _ (fun zq => absurd (hd_c1z (c := 0) (by omega) (by omega) zq) (by omega : ¬ ((1 : Int) = 0))) (fun _ => ?_)
            refine hs 59 _ rfl _ _ _ _ _ _ _ rfl ?_
            exact hs 60 _ rfl _ _ _ _ _ (rv _) (by omega) (by omega) (hP 0 _ _ _ (Or.inl ⟨c1_, Or.inr ⟨nt_, rfl, rfl⟩⟩) ((zm_fr.g gh_).tr (f2_.tr f3_)) ⟨_, _, _, _, x3_⟩)
    | succ m_ ih =>
      intro i_ h1_ k_ n_ b_ la_ u_ hi_ gh_ hb01_ hB_ hE_ hk_ hn_
      obtain ⟨v_, hv_⟩ : ∃ v_, vb_[i_]? = some v_ := ⟨_, List.getElem?_eq_getElem (by omega)⟩
      obtain ⟨d_, hd_⟩ : ∃ d_, c.2.2.2[i_]? = some d_ := ⟨_, List.getElem?_eq_getElem (by omega)⟩
      obtain ⟨tv_, rv1_, rv2_⟩ := e2_ _ _ _ hv_ hd_
      have db_ := hok.2.2.2.2 d_ (List.mem_of_getElem? hd_)
      have nx_ : ∀ b2_ : Int, (b2_ = 0 ↔ b_ = 0 ∧ Nat.gcd d_.toNat e.toNat = 1) → (2 ≤ e ∧ e ≤ 999 → (b2_ = 0 ↔ ∀ (j_ : Nat) (d_ : Int), j_ < i_ + 1 → c.2.2.2[j_]? = some d_ → Nat.gcd d_.toNat e.toNat = 1)) := fun b2_ hb2_ hr_ => by
        rw [hb2_, hB_ hr_]
        constructor
        · rintro ⟨y1_, y2_⟩ j_ d2b_ hj_ hd2_
          by_cases c_ : j_ = i_
          · rw [c_, hd_] at hd2_
            cases hd2_
            exact y2_
          · exact y1_ j_ d2b_ (by omega) hd2_
        · intro y_
          exact ⟨fun j_ d2b_ hj_ hd2_ => y_ j_ d2b_ (by omega) hd2_, y_ i_ d_ (by omega) hd_⟩
      refine hs 7 _ rfl _ _ _ _ _ _ _ rfl ?_
      refine zw_cn (hs 8 _ rfl) (a := [.ref e_]) (st := []) rfl rfl (Nat.le_of_ble_eq_true rfl) ⟨_, _, _, rfl, hE_, rfl⟩ (by omega) (by omega) (⟨zl_hasNext_M g (zl_L.keep L1_ fun x_ c_ _ hg_ => gh_.2 _ _ hg_) hE_ rfl r1_ r2_ (by omega) (fun y_ => ?_) (fun y_ => absurd y_ (by omega)), fun _ _ h9 => h9⟩)
      show S 19 [some (.ref x), some (.int (Int32.ofInt e)), some (.int (Int32.ofInt b_)), some (.ref e_), _] [.int (Int32.ofInt (1 : Int))] _ _ _
      by_cases c1_ : 2 ≤ e ∧ e ≤ 999
      rotate_left
      · 
        refine hs 9 _ rfl _ _ _ _ _ _ (fun zq => absurd (hd_c1z (c := 0) (by omega) (by omega) zq) (by omega : ¬ ((1 : Int) = 0))) (fun _ => ?_)
        refine hs 10 _ rfl _ _ _ _ _ _ _ rfl ?_
        refine zw_cn (hs 11 _ rfl) (a := [.ref e_]) (st := []) rfl rfl (Nat.le_of_ble_eq_true rfl) ⟨_, _, _, rfl, hE_, rfl⟩ (by omega) (by omega) (⟨zl_next_M g (zl_L.keep L1_ fun x_ c_ _ hg_ => gh_.2 _ _ hg_) hE_ rfl r1_ r2_ (by omega) hv_ (by omega) (by omega) fun hx_ wx_ => ?_, fun _ _ h9 => h9⟩)
        have gx_ : zg G h hx_ := gh_.w wx_ (by omega)
        have rx_ := gx_.2 _ _ rv1_
        show S 28 [some (.ref x), some (.int (Int32.ofInt e)), some (.int (Int32.ofInt b_)), some (.ref e_), _] [.ref v_] _ _ _
        refine hs 12 _ rfl _ _ _ _ _ _ (Or.inr ⟨_, _, _, rfl, (rx_), List.mem_singleton.mpr rv2_⟩) ?_
        refine zw_c (hs 13 _ rfl) (a := [.ref v_]) (st := []) rfl rfl (Nat.le_of_ble_eq_true rfl) ⟨_, _, _, rfl, (rx_), rv2_⟩ (by omega) (by omega) (zi_int_M g rx_ rv2_ ?_)
        show S 34 [some (.ref x), some (.int (Int32.ofInt e)), some (.int (Int32.ofInt b_)), some (.ref e_), _] [.int (Int32.ofInt d_)] _ _ _
        refine hs 14 _ rfl _ _ _ _ _ _ _ rfl ?_
        refine hs 15 _ rfl _ _ _ _ _ _ _ rfl ?_
        refine hs 16 _ rfl _ _ _ _ _ _ _ rfl ?_
        refine hs 17 _ rfl _ _ _ _ _ _ _ rfl ?_
        refine hs 18 _ rfl _ _ _ _ _ _ _ rfl ?_
        refine zw_c (hs 19 _ rfl) (a := [.int (Int32.ofInt e), .int (Int32.ofInt (2 : Int)), .int (Int32.ofInt (999 : Int))]) (st := [.int (Int32.ofInt b_)]) rfl rfl (Nat.le_of_ble_eq_true rfl) trivial (by omega) (by omega) (zm_isIn_M g (v := e) (a := 2) (b := 999) (by omega) (by omega) (by omega) (by omega) (by omega) (by omega) (fun y_ => absurd y_ (by omega)) (fun y_ => ?_))
        show S 45 [some (.ref x), some (.int (Int32.ofInt e)), some (.int (Int32.ofInt b_)), some (.ref e_), some (.int (Int32.ofInt d_))] [.int (Int32.ofInt (0 : Int)), .int (Int32.ofInt b_)] _ _ _
        refine hs 20 _ rfl _ _ _ _ _ _ (fun _ => ?_) (fun zq => absurd (hd_c1t (c := 0) (by omega) (by omega) (by omega : (0 : Int) = 0)) zq)
        refine hs 28 _ rfl _ _ _ _ _ _ _ rfl ?_
        refine hs 29 _ rfl _ _ _ _ _ _ _ (zt_or hb01_ (Or.inl rfl)) ?_
        refine hs 30 _ rfl _ _ _ _ _ _ _ rfl ?_
        refine hs 31 _ rfl _ _ _ _ _ ?_
        show S 13 [some (.ref x), some (.int (Int32.ofInt e)), some (.int (Int32.ofInt (max b_ 0))), some (.ref e_), some (.int (Int32.ofInt d_))] [] _ _ _
        exact ih (i_ + 1) _ _ _ _ (i_ : Int) _ (by omega) gx_ (by omega) (fun y_ => absurd y_ c1_) wx_.at hk_ hn_
      · obtain ⟨E_, rfl⟩ : ∃ E_ : Nat, e = (E_ : Int) := ⟨e.toNat, by omega⟩
        obtain ⟨D_, rfl⟩ : ∃ D_ : Nat, d_ = (D_ : Int) := ⟨d_.toNat, by omega⟩
        have nx_ : ∀ b2_ : Int, (b2_ = 0 ↔ b_ = 0 ∧ Nat.gcd E_ D_ = 1) → _ := fun b2_ hb2_ => nx_ b2_ (by rw [Int.toNat_natCast, Int.toNat_natCast, Nat.gcd_comm]; exact hb2_)
        have gl_ : Nat.gcd E_ D_ ≤ D_ := Nat.le_of_dvd (by omega) (Nat.gcd_dvd_right E_ D_)
        by_cases g1_ : Nat.gcd E_ D_ = 1
        · 
          refine hs 9 _ rfl _ _ _ _ _ _ (fun zq => absurd (hd_c1z (c := 0) (by omega) (by omega) zq) (by omega : ¬ ((1 : Int) = 0))) (fun _ => ?_)
          refine hs 10 _ rfl _ _ _ _ _ _ _ rfl ?_
          refine zw_cn (hs 11 _ rfl) (a := [.ref e_]) (st := []) rfl rfl (Nat.le_of_ble_eq_true rfl) ⟨_, _, _, rfl, hE_, rfl⟩ (by omega) (by omega) (⟨zl_next_M g (zl_L.keep L1_ fun x_ c_ _ hg_ => gh_.2 _ _ hg_) hE_ rfl r1_ r2_ (by omega) hv_ (by omega) (by omega) fun hx_ wx_ => ?_, fun _ _ h9 => h9⟩)
          have gx_ : zg G h hx_ := gh_.w wx_ (by omega)
          have rx_ := gx_.2 _ _ rv1_
          show S 28 [some (.ref x), some (.int (Int32.ofInt (E_ : Int))), some (.int (Int32.ofInt b_)), some (.ref e_), _] [.ref v_] _ _ _
          refine hs 12 _ rfl _ _ _ _ _ _ (Or.inr ⟨_, _, _, rfl, (rx_), List.mem_singleton.mpr rv2_⟩) ?_
          refine zw_c (hs 13 _ rfl) (a := [.ref v_]) (st := []) rfl rfl (Nat.le_of_ble_eq_true rfl) ⟨_, _, _, rfl, (rx_), rv2_⟩ (by omega) (by omega) (zi_int_M g rx_ rv2_ ?_)
          show S 34 [some (.ref x), some (.int (Int32.ofInt (E_ : Int))), some (.int (Int32.ofInt b_)), some (.ref e_), _] [.int (Int32.ofInt (D_ : Int))] _ _ _
          refine hs 14 _ rfl _ _ _ _ _ _ _ rfl ?_
          refine hs 15 _ rfl _ _ _ _ _ _ _ rfl ?_
          refine hs 16 _ rfl _ _ _ _ _ _ _ rfl ?_
          refine hs 17 _ rfl _ _ _ _ _ _ _ rfl ?_
          refine hs 18 _ rfl _ _ _ _ _ _ _ rfl ?_
          refine zw_c (hs 19 _ rfl) (a := [.int (Int32.ofInt (E_ : Int)), .int (Int32.ofInt (2 : Int)), .int (Int32.ofInt (999 : Int))]) (st := [.int (Int32.ofInt b_)]) rfl rfl (Nat.le_of_ble_eq_true rfl) trivial (by omega) (by omega) (zm_isIn_M g (v := (E_ : Int)) (a := 2) (b := 999) (by omega) (by omega) (by omega) (by omega) (by omega) (by omega) (fun y_ => ?_) (fun y_ => absurd (by omega) y_))
          show S 45 [some (.ref x), some (.int (Int32.ofInt (E_ : Int))), some (.int (Int32.ofInt b_)), some (.ref e_), some (.int (Int32.ofInt (D_ : Int)))] [.int (Int32.ofInt (1 : Int)), .int (Int32.ofInt b_)] _ _ _
          refine hs 20 _ rfl _ _ _ _ _ _ (fun zq => absurd (hd_c1z (c := 0) (by omega) (by omega) zq) (by omega : ¬ ((1 : Int) = 0))) (fun _ => ?_)
          refine hs 21 _ rfl _ _ _ _ _ _ _ rfl ?_
          refine hs 22 _ rfl _ _ _ _ _ _ _ rfl ?_
          refine zw_c (hs 23 _ rfl) (a := [.int (Int32.ofInt (E_ : Int)), .int (Int32.ofInt (D_ : Int))]) (st := [.int (Int32.ofInt b_)]) rfl rfl (Nat.le_of_ble_eq_true rfl) trivial (by omega) (by omega) (nu_gcd_M g.1 (a := E_) (b := D_) (by omega) (by omega) ?_)
          show S 54 [some (.ref x), some (.int (Int32.ofInt (E_ : Int))), some (.int (Int32.ofInt b_)), some (.ref e_), some (.int (Int32.ofInt (D_ : Int)))] [.int (Int32.ofInt ((Nat.gcd E_ D_ : Nat) : Int)), .int (Int32.ofInt b_)] _ _ _
          refine hs 24 _ rfl _ _ _ _ _ _ _ rfl ?_
          refine hs 25 _ rfl _ _ _ _ _ _ _ (fun _ => ?_) (fun zq => absurd (hd_c2t (c := 0) (by omega) (by omega) (by omega) (by omega) (by omega : (((Nat.gcd E_ D_ : Nat) : Int) - (1 : Int)) = 0)) zq)
          refine hs 28 _ rfl _ _ _ _ _ _ _ rfl ?_
          refine hs 29 _ rfl _ _ _ _ _ _ _ (zt_or hb01_ (Or.inl rfl)) ?_
          refine hs 30 _ rfl _ _ _ _ _ _ _ rfl ?_
          refine hs 31 _ rfl _ _ _ _ _ ?_
          show S 13 [some (.ref x), some (.int (Int32.ofInt (E_ : Int))), some (.int (Int32.ofInt (max b_ 0))), some (.ref e_), some (.int (Int32.ofInt (D_ : Int)))] [] _ _ _
          exact ih (i_ + 1) _ _ _ _ (i_ : Int) _ (by omega) gx_ (by omega) (nx_ _ (by omega)) wx_.at hk_ hn_
        · 
          refine hs 9 _ rfl _ _ _ _ _ _ (fun zq => absurd (hd_c1z (c := 0) (by omega) (by omega) zq) (by omega : ¬ ((1 : Int) = 0))) (fun _ => ?_)
          refine hs 10 _ rfl _ _ _ _ _ _ _ rfl ?_
          refine zw_cn (hs 11 _ rfl) (a := [.ref e_]) (st := []) rfl rfl (Nat.le_of_ble_eq_true rfl) ⟨_, _, _, rfl, hE_, rfl⟩ (by omega) (by omega) (⟨zl_next_M g (zl_L.keep L1_ fun x_ c_ _ hg_ => gh_.2 _ _ hg_) hE_ rfl r1_ r2_ (by omega) hv_ (by omega) (by omega) fun hx_ wx_ => ?_, fun _ _ h9 => h9⟩)
          have gx_ : zg G h hx_ := gh_.w wx_ (by omega)
          have rx_ := gx_.2 _ _ rv1_
          show S 28 [some (.ref x), some (.int (Int32.ofInt (E_ : Int))), some (.int (Int32.ofInt b_)), some (.ref e_), _] [.ref v_] _ _ _
          refine hs 12 _ rfl _ _ _ _ _ _ (Or.inr ⟨_, _, _, rfl, (rx_), List.mem_singleton.mpr rv2_⟩) ?_
          refine zw_c (hs 13 _ rfl) (a := [.ref v_]) (st := []) rfl rfl (Nat.le_of_ble_eq_true rfl) ⟨_, _, _, rfl, (rx_), rv2_⟩ (by omega) (by omega) (zi_int_M g rx_ rv2_ ?_)
          show S 34 [some (.ref x), some (.int (Int32.ofInt (E_ : Int))), some (.int (Int32.ofInt b_)), some (.ref e_), _] [.int (Int32.ofInt (D_ : Int))] _ _ _
          refine hs 14 _ rfl _ _ _ _ _ _ _ rfl ?_
          refine hs 15 _ rfl _ _ _ _ _ _ _ rfl ?_
          refine hs 16 _ rfl _ _ _ _ _ _ _ rfl ?_
          refine hs 17 _ rfl _ _ _ _ _ _ _ rfl ?_
          refine hs 18 _ rfl _ _ _ _ _ _ _ rfl ?_
          refine zw_c (hs 19 _ rfl) (a := [.int (Int32.ofInt (E_ : Int)), .int (Int32.ofInt (2 : Int)), .int (Int32.ofInt (999 : Int))]) (st := [.int (Int32.ofInt b_)]) rfl rfl (Nat.le_of_ble_eq_true rfl) trivial (by omega) (by omega) (zm_isIn_M g (v := (E_ : Int)) (a := 2) (b := 999) (by omega) (by omega) (by omega) (by omega) (by omega) (by omega) (fun y_ => ?_) (fun y_ => absurd (by omega) y_))
          show S 45 [some (.ref x), some (.int (Int32.ofInt (E_ : Int))), some (.int (Int32.ofInt b_)), some (.ref e_), some (.int (Int32.ofInt (D_ : Int)))] [.int (Int32.ofInt (1 : Int)), .int (Int32.ofInt b_)] _ _ _
          refine hs 20 _ rfl _ _ _ _ _ _ (fun zq => absurd (hd_c1z (c := 0) (by omega) (by omega) zq) (by omega : ¬ ((1 : Int) = 0))) (fun _ => ?_)
          refine hs 21 _ rfl _ _ _ _ _ _ _ rfl ?_
          refine hs 22 _ rfl _ _ _ _ _ _ _ rfl ?_
          refine zw_c (hs 23 _ rfl) (a := [.int (Int32.ofInt (E_ : Int)), .int (Int32.ofInt (D_ : Int))]) (st := [.int (Int32.ofInt b_)]) rfl rfl (Nat.le_of_ble_eq_true rfl) trivial (by omega) (by omega) (nu_gcd_M g.1 (a := E_) (b := D_) (by omega) (by omega) ?_)
          show S 54 [some (.ref x), some (.int (Int32.ofInt (E_ : Int))), some (.int (Int32.ofInt b_)), some (.ref e_), some (.int (Int32.ofInt (D_ : Int)))] [.int (Int32.ofInt ((Nat.gcd E_ D_ : Nat) : Int)), .int (Int32.ofInt b_)] _ _ _
          refine hs 24 _ rfl _ _ _ _ _ _ _ rfl ?_
          refine hs 25 _ rfl _ _ _ _ _ _ _ (fun zq => absurd (hd_c2z (c := 0) (by omega) (by omega) (by omega) (by omega) zq) (by omega : ¬ ((((Nat.gcd E_ D_ : Nat) : Int) - (1 : Int)) = 0))) (fun _ => ?_)
          refine hs 26 _ rfl _ _ _ _ _ _ _ rfl ?_
          refine hs 27 _ rfl _ _ _ _ _ ?_
          refine hs 29 _ rfl _ _ _ _ _ _ _ (zt_or hb01_ (Or.inr rfl)) ?_
          refine hs 30 _ rfl _ _ _ _ _ _ _ rfl ?_
          refine hs 31 _ rfl _ _ _ _ _ ?_
          show S 13 [some (.ref x), some (.int (Int32.ofInt (E_ : Int))), some (.int (Int32.ofInt (max b_ 1))), some (.ref e_), some (.int (Int32.ofInt (D_ : Int)))] [] _ _ _
          exact ih (i_ + 1) _ _ _ _ (i_ : Int) _ (by omega) gx_ (by omega) (nx_ _ (by omega)) wx_.at hk_ hn_
  exact loop vb_.length 0 _ _ _ 0 (-1) _ (by omega) gj_ (Or.inl rfl) (fun _ => ⟨fun _ j_ d_ hj_ => absurd hj_ (by omega), fun _ => rfl⟩) cj_ (by omega) (by omega)
