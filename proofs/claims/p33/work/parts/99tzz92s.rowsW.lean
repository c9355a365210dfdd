/-! THE LAW'S CALLS OF ROWS AND BOOKS -/
set_option maxHeartbeats 4000000 in
theorem zc_wqofRow_M {l : Launch} {G : am_G} {X : ck_XT} (g : gM l G X) {x : Nat} {r : Nat → Nat} {jj mm kk : Int} {c : sp_S} {R : Nat → sp_S} {old cnt : Nat} {h : List am_C} (hX : zc_x G h x r jj mm kk c R old cnt){o : Nat} {n0 : Int64} {s0 : Value} (hO : am_g G h o = some (1016, [.long n0, s0])) (ho1 : o < x ∨ x + 228 ≤ o) (ho2 : o ≠ r 4) (ho3 : 1000 ≤ o) {e e2 : Int} (he1 : -2147483648 ≤ e) (he2 : e ≤ 2147483647) (hf1 : -2147483648 ≤ e2) (hf2 : e2 ≤ 2147483647) {mc ms : Nat} {Post : am_O → List am_C → Prop} (hmc : 1 ≤ mc) (hms : 6 ≤ ms)
    (hP : ∀ (a th : Int) (T' : sp_T) (h' : List am_C), sp_q45 e e2 (c, zc_l R old cnt, jj, mm, kk) a th T' → zc_of G h h' x r o → zc_Y G h' x r T' → (th = 0 → am_g G h' o = some (1016, [.long (Int64.ofInt a), s0])) → Post (.inl (some (.int (Int32.ofInt th)))) h') :
    am_M l G yL_ofRow (.codeWith yL_ofRow method_40_code 5 (some .int) [(0, 11, 14, 25), (0, 11, 18, 19)]) 8 133 mc ms [.ref x, .int (Int32.ofInt e), .int (Int32.ofInt e2), .ref o] h Post := by
  refine gh_yL_ofRow_X g (Nat.le_of_ble_eq_true rfl) fun S SX hs hr hw hx => ?_
  have rv : ∀ x : Int32, ck_fv 0 (.int x) := fun x => ⟨_, rfl⟩
  have ok_ := hX.2.2.1
  have okd_ := ok_.1
  have okn_ := ok_.2.1.1
  have okr_ := ok_.2.2.1.1
  have okb_ := ok_.2.2.2.1
  have px_ := hX.2.2.2.2.2.2.2
  refine hs 0 _ rfl _ _ _ _ _ _ _ rfl ?_
  refine hs 1 _ rfl _ _ _ _ _ _ _ rfl ?_
  refine hs 2 _ rfl _ _ _ _ _ _ _ rfl ?_
  refine hs 3 _ rfl _ _ _ _ _ _ _ rfl ?_
  refine zw_cm (hs 4 _ rfl) (a := [.ref x, .int (Int32.ofInt e), .int (Int32.ofInt e2)]) (st := [.ref o]) 1 6 rfl rfl (Nat.le_of_ble_eq_true rfl) ⟨_, _, _, rfl, hX.1, rfl⟩ (by omega) (by omega) (zc_qofRow_M g hX he1 he2 hf1 hf2 (by omega) (by omega) (fun y_ y2_ => ?_) (fun y_ y2_ => ?_) (fun hn_ => ?_))
  · show S 7 [some (.ref x), some (.int (Int32.ofInt e)), some (.int (Int32.ofInt e2)), some (.ref o), none] [.int (Int32.ofInt (if e2 = 0 then (c.2.2.1.getD e.toNat (0, 1)).1 else (c.2.2.1.getD e.toNat (0, 1)).2)), .ref o] _ _ _
    have ro_ := sp_ro.bd (T := (c, zc_l R old cnt, jj, mm, kk)) (e := e) ok_ y_
    have bd_ : -9 ≤ (if e2 = 0 then (c.2.2.1.getD e.toNat (0, 1)).1 else (c.2.2.1.getD e.toNat (0, 1)).2) ∧ (if e2 = 0 then (c.2.2.1.getD e.toNat (0, 1)).1 else (c.2.2.1.getD e.toNat (0, 1)).2) ≤ 1000 := by
      show -9 ≤ (if e2 = 0 then (sp_ro (c, zc_l R old cnt, jj, mm, kk) e).1 else (sp_ro (c, zc_l R old cnt, jj, mm, kk) e).2) ∧ (if e2 = 0 then (sp_ro (c, zc_l R old cnt, jj, mm, kk) e).1 else (sp_ro (c, zc_l R old cnt, jj, mm, kk) e).2) ≤ 1000
      split <;> omega
    refine hs 5 _ rfl _ _ _ _ _ _ _ (hd_i2l (by omega) (by omega)) ?_
    refine zw_U (hs 6 _ rfl) (by omega) (hO) rfl ⟨_, rfl⟩ fun hz707 wz708 => ?_
    have wz708 : hd_w G _ hz707 o (1016, [.long (Int64.ofInt (if e2 = 0 then (c.2.2.1.getD e.toNat (0, 1)).1 else (c.2.2.1.getD e.toNat (0, 1)).2)), s0]) := wz708
    have lwz708 := wz708.1
    refine hs 7 _ rfl _ _ _ _ _ ?_
    refine hs 14 _ rfl _ _ _ _ _ _ _ rfl ?_
    exact hs 15 _ rfl _ _ _ _ _ (rv _) (by omega) (by omega) (hP (if e2 = 0 then (c.2.2.1.getD e.toNat (0, 1)).1 else (c.2.2.1.getD e.toNat (0, 1)).2) 0 _ _ (⟨rfl, Or.inl ⟨y_, y2_, rfl, rfl⟩⟩) (zc_of.w wz708) (zc_X.out (⟨_, _, _, hX, rfl⟩) wz708 ho1 ho2) fun _ => wz708.at)
  · refine hx (_, _) (List.mem_cons.mpr (Or.inr (List.mem_cons.mpr (Or.inl rfl)))) _ _ _ _ rfl ?_
    show S 20 _ [] _ _ _
    refine hs 12 _ rfl _ _ _ _ _ _ _ rfl ?_
    exact hs 13 _ rfl _ _ _ _ _ (rv _) (by omega) (by omega) (hP 0 2 _ _ (⟨rfl, Or.inr (Or.inl ⟨y_, y2_, rfl⟩)⟩) (zc_of.g zg.app1) ⟨_, _, _, hX.app, rfl⟩ fun z_ => absurd z_ (by decide))
  · refine hx (_, _) (List.mem_cons.mpr (Or.inl rfl)) _ _ _ _ rfl ?_
    show S 16 _ [] _ _ _
    refine hs 9 _ rfl _ _ _ _ _ _ _ rfl ?_
    exact hs 10 _ rfl _ _ _ _ _ (rv _) (by omega) (by omega) (hP 0 1 _ _ (⟨rfl, Or.inr (Or.inr ⟨hn_, rfl⟩)⟩) (zc_of.g zg.app1) ⟨_, _, _, hX.app, rfl⟩ fun z_ => absurd z_ (by decide))
set_option maxHeartbeats 4000000 in
theorem zc_wqagree_M {l : Launch} {G : am_G} {X : ck_XT} (g : gM l G X) {x : Nat} {r : Nat → Nat} {jj mm kk : Int} {c : sp_S} {R : Nat → sp_S} {old cnt : Nat} {h : List am_C} (hX : zc_x G h x r jj mm kk c R old cnt){o : Nat} {n0 : Int64} {s0 : Value} (hO : am_g G h o = some (1016, [.long n0, s0])) (ho1 : o < x ∨ x + 228 ≤ o) (ho2 : o ≠ r 4) (ho3 : 1000 ≤ o) {e e2 : Int} (he1 : -2147483648 ≤ e) (he2 : e ≤ 2147483647) (hf1 : -2147483648 ≤ e2) (hf2 : e2 ≤ 2147483647) {mc ms : Nat} {Post : am_O → List am_C → Prop} (hmc : 1 ≤ mc) (hms : 6 ≤ ms)
    (hP : ∀ (a th : Int) (T' : sp_T) (h' : List am_C), sp_q46 e e2 (c, zc_l R old cnt, jj, mm, kk) a th T' → zc_of G h h' x r o → zc_Y G h' x r T' → (th = 0 → am_g G h' o = some (1016, [.long (Int64.ofInt a), s0])) → Post (.inl (some (.int (Int32.ofInt th)))) h') :
    am_M l G yL_agree (.codeWith yL_agree method_41_code 5 (some .int) [(0, 18, 21, 25)]) 8 133 mc ms [.ref x, .int (Int32.ofInt e), .int (Int32.ofInt e2), .ref o] h Post := by
  refine gh_yL_agree_X g (Nat.le_of_ble_eq_true rfl) fun S SX hs hr hw hx => ?_
  have rv : ∀ x : Int32, ck_fv 0 (.int x) := fun x => ⟨_, rfl⟩
  have ok_ := hX.2.2.1
  have okd_ := ok_.1
  have okn_ := ok_.2.1.1
  have okr_ := ok_.2.2.1.1
  have okb_ := ok_.2.2.2.1
  have px_ := hX.2.2.2.2.2.2.2
  refine hs 0 _ rfl _ _ _ _ _ _ _ rfl ?_
  refine hs 1 _ rfl _ _ _ _ _ _ _ rfl ?_
  refine hs 2 _ rfl _ _ _ _ _ _ _ rfl ?_
  refine hs 3 _ rfl _ _ _ _ _ _ _ rfl ?_
  refine zw_cm (hs 4 _ rfl) (a := [.ref x, .int (Int32.ofInt e), .int (Int32.ofInt e2)]) (st := [.ref o]) 1 6 rfl rfl (Nat.le_of_ble_eq_true rfl) ⟨_, _, _, rfl, hX.1, rfl⟩ (by omega) (by omega) (zc_qagree_M g hX he1 he2 hf1 hf2 (by omega) (by omega) (fun y_ ag_ => ?_) (fun y_ ag_ => ?_) (fun hn_ => ?_))
  · show S 7 [some (.ref x), some (.int (Int32.ofInt e)), some (.int (Int32.ofInt e2)), some (.ref o), none] [.int (Int32.ofInt (1 : Int)), .ref o] _ _ _
    refine hs 5 _ rfl _ _ _ _ _ _ (fun zq => absurd (hd_c1z (c := 0) (by omega) (by omega) zq) (by omega : ¬ ((1 : Int) = 0))) (fun _ => ?_)
    refine hs 6 _ rfl _ _ _ _ _ _ _ rfl ?_
    refine hs 7 _ rfl _ _ _ _ _ ?_
    refine zw_U (hs 9 _ rfl) (by omega) (hO) rfl ⟨_, rfl⟩ fun hz709 wz710 => ?_
    have wz710 : hd_w G _ hz709 o (1016, [.long (Int64.ofInt (1 : Int)), s0]) := wz710
    have lwz710 := wz710.1
    refine hs 10 _ rfl _ _ _ _ _ ?_
    refine hs 14 _ rfl _ _ _ _ _ _ _ rfl ?_
    exact hs 15 _ rfl _ _ _ _ _ (rv _) (by omega) (by omega) (hP (1 : Int) 0 _ _ (⟨rfl, Or.inl ⟨y_, rfl, Or.inl ⟨ag_, rfl⟩⟩⟩) (zc_of.w wz710) (zc_X.out (⟨_, _, _, hX, rfl⟩) wz710 ho1 ho2) fun _ => wz710.at)
  · show S 7 [some (.ref x), some (.int (Int32.ofInt e)), some (.int (Int32.ofInt e2)), some (.ref o), none] [.int (Int32.ofInt (0 : Int)), .ref o] _ _ _
    refine hs 5 _ rfl _ _ _ _ _ _ (fun _ => ?_) (fun zq => absurd (hd_c1t (c := 0) (by omega) (by omega) (by omega : (0 : Int) = 0)) zq)
    refine hs 8 _ rfl _ _ _ _ _ _ _ rfl ?_
    refine zw_U (hs 9 _ rfl) (by omega) (hO) rfl ⟨_, rfl⟩ fun hz711 wz712 => ?_
    have wz712 : hd_w G _ hz711 o (1016, [.long (Int64.ofInt (0 : Int)), s0]) := wz712
    have lwz712 := wz712.1
    refine hs 10 _ rfl _ _ _ _ _ ?_
    refine hs 14 _ rfl _ _ _ _ _ _ _ rfl ?_
    exact hs 15 _ rfl _ _ _ _ _ (rv _) (by omega) (by omega) (hP (0 : Int) 0 _ _ (⟨rfl, Or.inl ⟨y_, rfl, Or.inr ⟨ag_, rfl⟩⟩⟩) (zc_of.w wz712) (zc_X.out (⟨_, _, _, hX, rfl⟩) wz712 ho1 ho2) fun _ => wz712.at)
  · refine hx (_, _) (List.mem_cons.mpr (Or.inl rfl)) _ _ _ _ rfl ?_
    show S 23 _ [] _ _ _
    refine hs 12 _ rfl _ _ _ _ _ _ _ rfl ?_
    exact hs 13 _ rfl _ _ _ _ _ (rv _) (by omega) (by omega) (hP 0 1 _ _ (⟨rfl, Or.inr ⟨hn_, rfl⟩⟩) (zc_of.g zg.app1) ⟨_, _, _, hX.app, rfl⟩ fun z_ => absurd z_ (by decide))
set_option maxHeartbeats 4000000 in
theorem zc_wqbooks_M {l : Launch} {G : am_G} {X : ck_XT} (g : gM l G X) {x : Nat} {r : Nat → Nat} {jj mm kk : Int} {c : sp_S} {R : Nat → sp_S} {old cnt : Nat} {h : List am_C} (hX : zc_x G h x r jj mm kk c R old cnt){o : Nat} {n0 : Int64} {s0 : Value} (hO : am_g G h o = some (1016, [.long n0, s0])) (ho1 : o < x ∨ x + 228 ≤ o) (ho2 : o ≠ r 4) (ho3 : 1000 ≤ o) {e e2 : Int} (he1 : -2147483648 ≤ e) (he2 : e ≤ 2147483647) {mc ms : Nat} {Post : am_O → List am_C → Prop} (hmc : 1 ≤ mc) (hms : 6 ≤ ms)
    (hP : ∀ (a th : Int) (T' : sp_T) (h' : List am_C), sp_q59 e e2 (c, zc_l R old cnt, jj, mm, kk) a th T' → zc_of G h h' x r o → zc_Y G h' x r T' → (th = 0 → am_g G h' o = some (1016, [.long (Int64.ofInt a), s0])) → Post (.inl (some (.int (Int32.ofInt th)))) h') :
    am_M l G yL_books (.codeWith yL_books method_49_code 4 (some .int) [(0, 10, 13, 19)]) 7 111 mc ms [.ref x, .int (Int32.ofInt e), .ref o] h Post := by
  refine gh_yL_books_X g (Nat.le_of_ble_eq_true rfl) fun S SX hs hr hw hx => ?_
  have rv : ∀ x : Int32, ck_fv 0 (.int x) := fun x => ⟨_, rfl⟩
  have ok_ := hX.2.2.1
  have okd_ := ok_.1
  have okn_ := ok_.2.1.1
  have okr_ := ok_.2.2.1.1
  have okb_ := ok_.2.2.2.1
  have px_ := hX.2.2.2.2.2.2.2
  refine hs 0 _ rfl _ _ _ _ _ _ _ rfl ?_
  refine hs 1 _ rfl _ _ _ _ _ _ _ rfl ?_
  refine hs 2 _ rfl _ _ _ _ _ _ _ rfl ?_
  refine zw_cm (hs 3 _ rfl) (a := [.ref x, .int (Int32.ofInt e)]) (st := [.ref o]) 1 6 rfl rfl (Nat.le_of_ble_eq_true rfl) ⟨_, _, _, rfl, hX.1, rfl⟩ (by omega) (by omega) (zc_qbooks_M g hX he1 he2 (e2 := e2) (by omega) (by omega) (fun y_ => ?_) (fun hn_ => ?_))
  · show S 6 [some (.ref x), some (.int (Int32.ofInt e)), some (.ref o), none] [.int (Int32.ofInt (sp_bk (c, zc_l R old cnt, jj, mm, kk) e)), .ref o] _ _ _
    have bk_ := sp_bk.bd (T := (c, zc_l R old cnt, jj, mm, kk)) (e := e) (by show (zc_l R old cnt).length ≤ 12; rw [zc_l_len]; exact hX.2.2.2.1.2.2.2.2)
    refine hs 4 _ rfl _ _ _ _ _ _ _ (hd_i2l (by omega) (by omega)) ?_
    refine zw_U (hs 5 _ rfl) (by omega) (hO) rfl ⟨_, rfl⟩ fun hz713 wz714 => ?_
    have wz714 : hd_w G _ hz713 o (1016, [.long (Int64.ofInt (sp_bk (c, zc_l R old cnt, jj, mm, kk) e)), s0]) := wz714
    have lwz714 := wz714.1
    refine hs 6 _ rfl _ _ _ _ _ ?_
    refine hs 10 _ rfl _ _ _ _ _ _ _ rfl ?_
    exact hs 11 _ rfl _ _ _ _ _ (rv _) (by omega) (by omega) (hP (sp_bk (c, zc_l R old cnt, jj, mm, kk) e) 0 _ _ (⟨rfl, Or.inl ⟨y_, rfl, rfl⟩⟩) (zc_of.w wz714) (zc_X.out (⟨_, _, _, hX, rfl⟩) wz714 ho1 ho2) fun _ => wz714.at)
  · refine hx (_, _) (List.mem_cons.mpr (Or.inl rfl)) _ _ _ _ rfl ?_
    show S 14 _ [] _ _ _
    refine hs 8 _ rfl _ _ _ _ _ _ _ rfl ?_
    exact hs 9 _ rfl _ _ _ _ _ (rv _) (by omega) (by omega) (hP 0 1 _ _ (⟨rfl, Or.inr ⟨hn_, rfl⟩⟩) (zc_of.g zg.app1) ⟨_, _, _, hX.app, rfl⟩ fun z_ => absurd z_ (by decide))
