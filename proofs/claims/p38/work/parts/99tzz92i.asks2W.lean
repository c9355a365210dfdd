/-! THE LAW'S CALLS OF SOLUTIONS, ORDERS, ROOTS -/
set_option maxHeartbeats 4000000 in
theorem zc_wqroots_M {l : Launch} {G : am_G} {X : ck_XT} (g : gM l G X) {x : Nat} {r : Nat → Nat} {jj mm kk : Int} {c : sp_S} {R : Nat → sp_S} {old cnt : Nat} {h : List am_C} (hX : zc_x G h x r jj mm kk c R old cnt){o : Nat} {n0 : Int64} {s0 : Value} (hO : am_g G h o = some (1016, [.long n0, s0])) (ho1 : o < x ∨ x + 228 ≤ o) (ho2 : o ≠ r 4) (ho3 : 1000 ≤ o) {e e2 : Int} (he1 : -2147483648 ≤ e) (he2 : e ≤ 2147483647) {mc ms : Nat} {Post : am_O → List am_C → Prop} (hmc : 1 ≤ mc) (hms : 6 ≤ ms)
    (hP : ∀ (a th : Int) (T' : sp_T) (h' : List am_C), sp_q39 e e2 (c, zc_l R old cnt, jj, mm, kk) a th T' → zc_of G h h' x r o → zc_Y G h' x r T' → (th = 0 → am_g G h' o = some (1016, [.long (Int64.ofInt a), s0])) → Post (.inl (some (.int (Int32.ofInt th)))) h') :
    am_M l G yL_roots (.codeWith yL_roots method_36_code 4 (some .int) [(0, 10, 13, 25)]) 8 133 mc ms [.ref x, .int (Int32.ofInt e), .ref o] h Post := by
  refine gh_yL_roots_X g (Nat.le_of_ble_eq_true rfl) fun S SX hs hr hw hx => ?_
  have rv : ∀ x : Int32, ck_fv 0 (.int x) := fun x => ⟨_, rfl⟩
  have ok_ := hX.2.2.1
  have okd_ := ok_.1
  have okn_ := ok_.2.1.1
  have okr_ := ok_.2.2.1.1
  have okb_ := ok_.2.2.2.1
  have px_ := hX.2.2.2.2.2.2.2
  refine hs 0 _ rfl _ _ _ _ _ _ _ rfl ?_
  refine hs 1 _ rfl _ _ _ _ _ _ _ rfl ?_
  refine hs 2 _ rfl _ _ _ _ _ _ _ rfl ?_
  refine zw_cm (hs 3 _ rfl) (a := [.ref x, .int (Int32.ofInt e)]) (st := [.ref o]) 1 6 rfl rfl (Nat.le_of_ble_eq_true rfl) ⟨_, _, _, rfl, hX.1, rfl⟩ (by omega) (by omega) (zc_qroots_M g hX he1 he2 (e2 := e2) (by omega) (by omega) (fun y_ a_ r_ => ?_) (fun hn_ => ?_))
  · show S 6 [some (.ref x), some (.int (Int32.ofInt e)), some (.ref o), none] [.int (Int32.ofInt a_), .ref o] _ _ _
    have bd_ : -9 ≤ a_ ∧ a_ ≤ 1000 := sp_r39.bd (T := (c, zc_l R old cnt, jj, mm, kk)) ok_ r_
    refine hs 4 _ rfl _ _ _ _ _ _ _ (hd_i2l (by omega) (by omega)) ?_
    refine zw_U (hs 5 _ rfl) (by omega) (hO) rfl ⟨_, rfl⟩ fun hz689 wz690 => ?_
    have wz690 : hd_w G _ hz689 o (1016, [.long (Int64.ofInt a_), s0]) := wz690
    have lwz690 := wz690.1
    refine hs 6 _ rfl _ _ _ _ _ ?_
    refine hs 10 _ rfl _ _ _ _ _ _ _ rfl ?_
    exact hs 11 _ rfl _ _ _ _ _ (rv _) (by omega) (by omega) (hP a_ 0 _ _ ⟨rfl, Or.inl ⟨y_, rfl, r_⟩⟩ (zc_of.w wz690) (zc_X.out ⟨_, _, _, hX, rfl⟩ wz690 ho1 ho2) fun _ => wz690.at)
  · refine hx (_, _) (List.mem_cons.mpr (Or.inl rfl)) _ _ _ _ rfl ?_
    show S 14 _ [] _ _ _
    refine hs 8 _ rfl _ _ _ _ _ _ _ rfl ?_
    exact hs 9 _ rfl _ _ _ _ _ (rv _) (by omega) (by omega) (hP 0 1 _ _ ⟨rfl, Or.inr ⟨hn_, rfl⟩⟩ (zc_of.g zg.app1) ⟨_, _, _, hX.app, rfl⟩ fun z_ => absurd z_ (by decide))
set_option maxHeartbeats 4000000 in
theorem zc_wqorder_M {l : Launch} {G : am_G} {X : ck_XT} (g : gM l G X) {x : Nat} {r : Nat → Nat} {jj mm kk : Int} {c : sp_S} {R : Nat → sp_S} {old cnt : Nat} {h : List am_C} (hX : zc_x G h x r jj mm kk c R old cnt){o : Nat} {n0 : Int64} {s0 : Value} (hO : am_g G h o = some (1016, [.long n0, s0])) (ho1 : o < x ∨ x + 228 ≤ o) (ho2 : o ≠ r 4) (ho3 : 1000 ≤ o) {e e2 : Int} (he1 : -2147483648 ≤ e) (he2 : e ≤ 2147483647) {mc ms : Nat} {Post : am_O → List am_C → Prop} (hmc : 1 ≤ mc) (hms : 6 ≤ ms)
    (hP : ∀ (a th : Int) (T' : sp_T) (h' : List am_C), sp_q34 e e2 (c, zc_l R old cnt, jj, mm, kk) a th T' → zc_of G h h' x r o → zc_Y G h' x r T' → (th = 0 → am_g G h' o = some (1016, [.long (Int64.ofInt a), s0])) → Post (.inl (some (.int (Int32.ofInt th)))) h') :
    am_M l G yL_order (.codeWith yL_order method_31_code 4 (some .int) [(0, 10, 13, 25)]) 8 133 mc ms [.ref x, .int (Int32.ofInt e), .ref o] h Post := by
  refine gh_yL_order_X g (Nat.le_of_ble_eq_true rfl) fun S SX hs hr hw hx => ?_
  have rv : ∀ x : Int32, ck_fv 0 (.int x) := fun x => ⟨_, rfl⟩
  have ok_ := hX.2.2.1
  have okd_ := ok_.1
  have okn_ := ok_.2.1.1
  have okr_ := ok_.2.2.1.1
  have okb_ := ok_.2.2.2.1
  have px_ := hX.2.2.2.2.2.2.2
  refine hs 0 _ rfl _ _ _ _ _ _ _ rfl ?_
  refine hs 1 _ rfl _ _ _ _ _ _ _ rfl ?_
  refine hs 2 _ rfl _ _ _ _ _ _ _ rfl ?_
  refine zw_cm (hs 3 _ rfl) (a := [.ref x, .int (Int32.ofInt e)]) (st := [.ref o]) 1 6 rfl rfl (Nat.le_of_ble_eq_true rfl) ⟨_, _, _, rfl, hX.1, rfl⟩ (by omega) (by omega) (zc_qorder_M g hX he1 he2 (e2 := e2) (by omega) (by omega) (fun y_ a_ r_ => ?_) (fun hn_ => ?_))
  · show S 6 [some (.ref x), some (.int (Int32.ofInt e)), some (.ref o), none] [.int (Int32.ofInt a_), .ref o] _ _ _
    have bd_ : -9 ≤ a_ ∧ a_ ≤ 1000 := sp_r34.bd (T := (c, zc_l R old cnt, jj, mm, kk)) ok_ r_
    refine hs 4 _ rfl _ _ _ _ _ _ _ (hd_i2l (by omega) (by omega)) ?_
    refine zw_U (hs 5 _ rfl) (by omega) (hO) rfl ⟨_, rfl⟩ fun hz691 wz692 => ?_
    have wz692 : hd_w G _ hz691 o (1016, [.long (Int64.ofInt a_), s0]) := wz692
    have lwz692 := wz692.1
    refine hs 6 _ rfl _ _ _ _ _ ?_
    refine hs 10 _ rfl _ _ _ _ _ _ _ rfl ?_
    exact hs 11 _ rfl _ _ _ _ _ (rv _) (by omega) (by omega) (hP a_ 0 _ _ ⟨rfl, Or.inl ⟨y_, rfl, r_⟩⟩ (zc_of.w wz692) (zc_X.out ⟨_, _, _, hX, rfl⟩ wz692 ho1 ho2) fun _ => wz692.at)
  · refine hx (_, _) (List.mem_cons.mpr (Or.inl rfl)) _ _ _ _ rfl ?_
    show S 14 _ [] _ _ _
    refine hs 8 _ rfl _ _ _ _ _ _ _ rfl ?_
    exact hs 9 _ rfl _ _ _ _ _ (rv _) (by omega) (by omega) (hP 0 1 _ _ ⟨rfl, Or.inr ⟨hn_, rfl⟩⟩ (zc_of.g zg.app1) ⟨_, _, _, hX.app, rfl⟩ fun z_ => absurd z_ (by decide))
set_option maxHeartbeats 4000000 in
theorem zc_wqsolutions_M {l : Launch} {G : am_G} {X : ck_XT} (g : gM l G X) {x : Nat} {r : Nat → Nat} {jj mm kk : Int} {c : sp_S} {R : Nat → sp_S} {old cnt : Nat} {h : List am_C} (hX : zc_x G h x r jj mm kk c R old cnt){o : Nat} {n0 : Int64} {s0 : Value} (hO : am_g G h o = some (1016, [.long n0, s0])) (ho1 : o < x ∨ x + 228 ≤ o) (ho2 : o ≠ r 4) (ho3 : 1000 ≤ o) {e e2 : Int} (he1 : -2147483648 ≤ e) (he2 : e ≤ 2147483647) (hf1 : -2147483648 ≤ e2) (hf2 : e2 ≤ 2147483647) {mc ms : Nat} {Post : am_O → List am_C → Prop} (hmc : 1 ≤ mc) (hms : 6 ≤ ms)
    (hP : ∀ (a th : Int) (T' : sp_T) (h' : List am_C), sp_q31 e e2 (c, zc_l R old cnt, jj, mm, kk) a th T' → zc_of G h h' x r o → zc_Y G h' x r T' → (th = 0 → am_g G h' o = some (1016, [.long (Int64.ofInt a), s0])) → Post (.inl (some (.int (Int32.ofInt th)))) h') :
    am_M l G yL_solutions (.codeWith yL_solutions method_29_code 5 (some .int) [(0, 11, 14, 25)]) 8 136 mc ms [.ref x, .int (Int32.ofInt e), .int (Int32.ofInt e2), .ref o] h Post := by
  refine gh_yL_solutions_X g (Nat.le_of_ble_eq_true rfl) fun S SX hs hr hw hx => ?_
  have rv : ∀ x : Int32, ck_fv 0 (.int x) := fun x => ⟨_, rfl⟩
  have ok_ := hX.2.2.1
  have okd_ := ok_.1
  have okn_ := ok_.2.1.1
  have okr_ := ok_.2.2.1.1
  have okb_ := ok_.2.2.2.1
  have px_ := hX.2.2.2.2.2.2.2
  refine hs 0 _ rfl _ _ _ _ _ _ _ rfl ?_
  refine hs 1 _ rfl _ _ _ _ _ _ _ rfl ?_
  refine hs 2 _ rfl _ _ _ _ _ _ _ rfl ?_
  refine hs 3 _ rfl _ _ _ _ _ _ _ rfl ?_
  refine zw_cm (hs 4 _ rfl) (a := [.ref x, .int (Int32.ofInt e), .int (Int32.ofInt e2)]) (st := [.ref o]) 1 6 rfl rfl (Nat.le_of_ble_eq_true rfl) ⟨_, _, _, rfl, hX.1, rfl⟩ (by omega) (by omega) (zc_qsolutions_M g hX he1 he2 hf1 hf2 (by omega) (by omega) (fun y_ a_ r_ => ?_) (fun hn_ => ?_))
  · show S 7 [some (.ref x), some (.int (Int32.ofInt e)), some (.int (Int32.ofInt e2)), some (.ref o), none] [.int (Int32.ofInt a_), .ref o] _ _ _
    have bd_ : -9 ≤ a_ ∧ a_ ≤ 1000 := sp_r31.bd (T := (c, zc_l R old cnt, jj, mm, kk)) ok_ r_
    refine hs 5 _ rfl _ _ _ _ _ _ _ (hd_i2l (by omega) (by omega)) ?_
    refine zw_U (hs 6 _ rfl) (by omega) (hO) rfl ⟨_, rfl⟩ fun hz693 wz694 => ?_
    have wz694 : hd_w G _ hz693 o (1016, [.long (Int64.ofInt a_), s0]) := wz694
    have lwz694 := wz694.1
    refine hs 7 _ rfl _ _ _ _ _ ?_
    refine hs 11 _ rfl _ _ _ _ _ _ _ rfl ?_
    exact hs 12 _ rfl _ _ _ _ _ (rv _) (by omega) (by omega) (hP a_ 0 _ _ ⟨rfl, Or.inl ⟨y_, rfl, r_⟩⟩ (zc_of.w wz694) (zc_X.out ⟨_, _, _, hX, rfl⟩ wz694 ho1 ho2) fun _ => wz694.at)
  · refine hx (_, _) (List.mem_cons.mpr (Or.inl rfl)) _ _ _ _ rfl ?_
    show S 16 _ [] _ _ _
    refine hs 9 _ rfl _ _ _ _ _ _ _ rfl ?_
    exact hs 10 _ rfl _ _ _ _ _ (rv _) (by omega) (by omega) (hP 0 1 _ _ ⟨rfl, Or.inr ⟨hn_, rfl⟩⟩ (zc_of.g zg.app1) ⟨_, _, _, hX.app, rfl⟩ fun z_ => absurd z_ (by decide))
