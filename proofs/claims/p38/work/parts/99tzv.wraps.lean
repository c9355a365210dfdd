/-! THE LAW'S CALLS OF THE CLASS -/
def zc_Y (G : am_G) (h : List am_C) (x : Nat) (r : Nat → Nat) (T : sp_T) : Prop := zc_X G h x r T.2.2.1 T.2.2.2.1 T.2.2.2.2 T.1 T.2.1
theorem zc_x.k {G : am_G} {h h' : List am_C} {x : Nat} {r : Nat → Nat} {j m k : Int} {c : sp_S} {R : Nat → sp_S} {old cnt : Nat} {D : Nat → Prop} (a : zc_x G h x r j m k c R old cnt) (f : zk G h h' D) (hD : ∀ y, x ≤ y → y < x + 228 → ¬ D y) (h4 : ¬ D (r 4)) : zc_x G h' x r j m k c R old cnt := by
  obtain ⟨a1_, a2_, a3_, a4_, ⟨a5_, a6_⟩, ⟨y1_, y2_, y3_, a7_⟩, a8_, a9_⟩ := a
  exact ⟨f.2 _ _ a1_ (hD _ (by omega) (by omega)), a2_.k f (fun y h1 h2 => hD y (by omega) (by omega)), a3_, a4_.k f (fun y h1 h2 => hD y (by omega) (by omega)), ⟨a5_.k f (hD _ (by omega) (by omega)) (hD _ (by omega) (by omega)), a6_.k f (hD _ (by omega) (by omega)) (hD _ (by omega) (by omega))⟩, ⟨y1_, y2_, y3_, f.2 _ _ a7_ h4⟩, a8_, a9_⟩
theorem zc_X.k {G : am_G} {h h' : List am_C} {x : Nat} {r : Nat → Nat} {j m k : Int} {c : sp_S} {P : List sp_S} {D : Nat → Prop} (a : zc_X G h x r j m k c P) (f : zk G h h' D) (hD : ∀ y, x ≤ y → y < x + 228 → ¬ D y) (h4 : ¬ D (r 4)) : zc_X G h' x r j m k c P := by
  obtain ⟨R_, o_, n_, a1_, a2_⟩ := a
  exact ⟨R_, o_, n_, a1_.k f hD h4, a2_⟩
/-- outside the class and what is told nothing has changed -/
def zc_of (G : am_G) (h h' : List am_C) (x : Nat) (r : Nat → Nat) (o : Nat) : Prop := h.length ≤ h'.length ∧ ∀ (p : Nat) (c : am_C), am_g G h p = some c → (p < x ∨ x + 228 ≤ p) → p ≠ r 4 → p ≠ o → am_g G h' p = some c
theorem zc_of.fr {G : am_G} {h h' : List am_C} {x o : Nat} {r : Nat → Nat} (a : zc_fr G h h' x r) : zc_of G h h' x r o := ⟨Nat.le_of_eq a.1.symm, fun p c e h1 h2 _ => (a.2 p h1 h2).trans e⟩
theorem zc_of.tr {G : am_G} {h h' h2 : List am_C} {x o : Nat} {r : Nat → Nat} (a : zc_of G h h' x r o) (b : zc_of G h' h2 x r o) : zc_of G h h2 x r o := ⟨Nat.le_trans a.1 b.1, fun p c e h1 h2 h3 => b.2 p c (a.2 p c e h1 h2 h3) h1 h2 h3⟩
theorem zc_of.w {G : am_G} {h h' : List am_C} {x o : Nat} {r : Nat → Nat} {c : am_C} (w : hd_w G h h' o c) : zc_of G h h' x r o := ⟨Nat.le_of_eq w.1.symm, fun p c e _ _ h3 => (w.ne h3).trans e⟩
theorem zg.app1 {G : am_G} {h : List am_C} {c : am_C} : zg G h (h ++ [c]) := ⟨by rw [List.length_append]; omega, fun p d hg => hd_old hg⟩
theorem zc_of.g {G : am_G} {h h' : List am_C} {x o : Nat} {r : Nat → Nat} (a : zg G h h') : zc_of G h h' x r o := ⟨a.1, fun p c e _ _ _ => a.2 _ _ e⟩
theorem zc_x.app {G : am_G} {h : List am_C} {x : Nat} {r : Nat → Nat} {j m k : Int} {c : sp_S} {R : Nat → sp_S} {old cnt : Nat} {d : am_C} (a : zc_x G h x r j m k c R old cnt) : zc_x G (h ++ [d]) x r j m k c R old cnt := a.k (D := fun _ => False) (zk.g zg.app1) (fun _ _ _ => id) id
theorem zc_X.out {G : am_G} {h h' : List am_C} {x o : Nat} {r : Nat → Nat} {j m k : Int} {c : sp_S} {P : List sp_S} {d : am_C} (a : zc_X G h x r j m k c P) (w : hd_w G h h' o d) (h1 : o < x ∨ x + 228 ≤ o) (h2 : o ≠ r 4) : zc_X G h' x r j m k c P := a.k (D := fun y => y = o) (zk.w w (Or.inl rfl)) (fun y y1 y2 (y3 : y = o) => by omega) (fun y3 => h2 (Eq.symm y3))
set_option maxHeartbeats 4000000 in
theorem zc_wdial_M {l : Launch} {G : am_G} {X : ck_XT} (g : gM l G X) {x : Nat} {r : Nat → Nat} {jj mm kk : Int} {c : sp_S} {R : Nat → sp_S} {old cnt : Nat} {h : List am_C} (hX : zc_x G h x r jj mm kk c R old cnt){o : Nat} {n0 : Int64} {s0 : Value} (hO : am_g G h o = some (1016, [.long n0, s0])) (ho1 : o < x ∨ x + 228 ≤ o) (ho2 : o ≠ r 4) (ho3 : 1000 ≤ o) {e e2 : Int} (he1 : -2147483648 ≤ e) (he2 : e ≤ 2147483647) {mc ms : Nat} {Post : am_O → List am_C → Prop} (hmc : 1 ≤ mc) (hms : 6 ≤ ms)
    (hP : ∀ (a th : Int) (T' : sp_T) (h' : List am_C), sp_d0 e e2 (c, zc_l R old cnt, jj, mm, kk) a th T' → zc_of G h h' x r o → zc_Y G h' x r T' → (th = 0 → am_g G h' o = some (1016, [.long (Int64.ofInt a), s0])) → Post (.inl (some (.int (Int32.ofInt th)))) h') :
    am_M l G yL_dial (.codeWith yL_dial method_2_code 4 (some .int) [(0, 10, 13, 19)]) 7 145 mc ms [.ref x, .int (Int32.ofInt e), .ref o] h Post := by
  refine gh_yL_dial_X g (Nat.le_of_ble_eq_true rfl) fun S SX hs hr hw hx => ?_
  have rv : ∀ x : Int32, ck_fv 0 (.int x) := fun x => ⟨_, rfl⟩
  have ok_ := hX.2.2.1
  have okd_ := ok_.1
  have okn_ := ok_.2.1.1
  have okr_ := ok_.2.2.1.1
  have okb_ := ok_.2.2.2.1
  have px_ := hX.2.2.2.2.2.2.2
  refine hs 0 _ rfl _ _ _ _ _ _ _ rfl ?_
  refine hs 1 _ rfl _ _ _ _ _ _ _ rfl ?_
  refine hs 2 _ rfl _ _ _ _ _ _ _ rfl ?_
  refine zw_cm (hs 3 _ rfl) (a := [.ref x, .int (Int32.ofInt e)]) (st := [.ref o]) 1 6 rfl rfl (Nat.le_of_ble_eq_true rfl) ⟨_, _, _, rfl, hX.1, rfl⟩ (by omega) (by omega) (zc_dial_M g hX he1 he2 (by omega) (by omega) (fun y_ h9_ fr_ xX_ => ?_) (fun hn_ => ?_))
  · show S 6 [some (.ref x), some (.int (Int32.ofInt e)), some (.ref o), none] [.int (Int32.ofInt c.1), .ref o] _ _ _
    refine hs 4 _ rfl _ _ _ _ _ _ _ (hd_i2l (by omega) (by omega)) ?_
    refine zw_U (hs 5 _ rfl) (by omega) (((fr_.2 _ ho1 ho2).trans hO)) rfl ⟨_, rfl⟩ fun hz627 wz628 => ?_
    have wz628 : hd_w G _ hz627 o (1016, [.long (Int64.ofInt c.1), s0]) := wz628
    have lwz628 := wz628.1
    refine hs 6 _ rfl _ _ _ _ _ ?_
    refine hs 10 _ rfl _ _ _ _ _ _ _ rfl ?_
    exact hs 11 _ rfl _ _ _ _ _ (rv _) (by omega) (by omega) (hP c.1 0 _ _ (Or.inl ⟨y_, rfl, rfl, rfl⟩) ((zc_of.fr fr_).tr (zc_of.w wz628)) (zc_X.out (xX_) wz628 ho1 ho2) fun _ => wz628.at)
  · refine hx (_, _) (List.mem_cons.mpr (Or.inl rfl)) _ _ _ _ rfl ?_
    show S 14 _ [] _ _ _
    refine hs 8 _ rfl _ _ _ _ _ _ _ rfl ?_
    exact hs 9 _ rfl _ _ _ _ _ (rv _) (by omega) (by omega) (hP 0 1 _ _ (Or.inr ⟨hn_, rfl, rfl⟩) (zc_of.g zg.app1) (⟨_, _, _, hX.app, rfl⟩) fun z_ => absurd z_ (by decide))
set_option maxHeartbeats 4000000 in
theorem zc_wset_M {l : Launch} {G : am_G} {X : ck_XT} (g : gM l G X) {x : Nat} {r : Nat → Nat} {jj mm kk : Int} {c : sp_S} {R : Nat → sp_S} {old cnt : Nat} {h : List am_C} (hX : zc_x G h x r jj mm kk c R old cnt){o : Nat} {n0 : Int64} {s0 : Value} (hO : am_g G h o = some (1016, [.long n0, s0])) (ho1 : o < x ∨ x + 228 ≤ o) (ho2 : o ≠ r 4) (ho3 : 1000 ≤ o) {e e2 : Int} (he1 : -2147483648 ≤ e) (he2 : e ≤ 2147483647) (hf1 : -2147483648 ≤ e2) (hf2 : e2 ≤ 2147483647) {mc ms : Nat} {Post : am_O → List am_C → Prop} (hmc : 1 ≤ mc) (hms : 6 ≤ ms)
    (hP : ∀ (a th : Int) (T' : sp_T) (h' : List am_C), sp_d1 e e2 (c, zc_l R old cnt, jj, mm, kk) a th T' → zc_of G h h' x r o → zc_Y G h' x r T' → (th = 0 → am_g G h' o = some (1016, [.long (Int64.ofInt a), s0])) → Post (.inl (some (.int (Int32.ofInt th)))) h') :
    am_M l G yL_set (.codeWith yL_set method_3_code 5 (some .int) [(0, 11, 14, 25)]) 8 146 mc ms [.ref x, .int (Int32.ofInt e), .int (Int32.ofInt e2), .ref o] h Post := by
  refine gh_yL_set_X g (Nat.le_of_ble_eq_true rfl) fun S SX hs hr hw hx => ?_
  have rv : ∀ x : Int32, ck_fv 0 (.int x) := fun x => ⟨_, rfl⟩
  have ok_ := hX.2.2.1
  have okd_ := ok_.1
  have okn_ := ok_.2.1.1
  have okr_ := ok_.2.2.1.1
  have okb_ := ok_.2.2.2.1
  have px_ := hX.2.2.2.2.2.2.2
  refine hs 0 _ rfl _ _ _ _ _ _ _ rfl ?_
  refine hs 1 _ rfl _ _ _ _ _ _ _ rfl ?_
  refine hs 2 _ rfl _ _ _ _ _ _ _ rfl ?_
  refine hs 3 _ rfl _ _ _ _ _ _ _ rfl ?_
  refine zw_cm (hs 4 _ rfl) (a := [.ref x, .int (Int32.ofInt e), .int (Int32.ofInt e2)]) (st := [.ref o]) 1 6 rfl rfl (Nat.le_of_ble_eq_true rfl) ⟨_, _, _, rfl, hX.1, rfl⟩ (by omega) (by omega) (zc_set_M g hX he1 he2 hf1 hf2 (by omega) (by omega) (fun y_ h9_ d_ fr_ xX_ dg_ => ?_) (fun hn_ => ?_))
  · show S 7 [some (.ref x), some (.int (Int32.ofInt e)), some (.int (Int32.ofInt e2)), some (.ref o), none] [.int (Int32.ofInt (d_ : Int)), .ref o] _ _ _
    have in_ : sp_in e2 := by unfold sp_in; omega
    have db_ := dg_.le (n := 36) (by decide) (sp_in.abs.mp in_)
    refine hs 5 _ rfl _ _ _ _ _ _ _ (hd_i2l (by omega) (by omega)) ?_
    refine zw_U (hs 6 _ rfl) (by omega) (((fr_.2 _ ho1 ho2).trans hO)) rfl ⟨_, rfl⟩ fun hz629 wz630 => ?_
    have wz630 : hd_w G _ hz629 o (1016, [.long (Int64.ofInt (d_ : Int)), s0]) := wz630
    have lwz630 := wz630.1
    refine hs 7 _ rfl _ _ _ _ _ ?_
    refine hs 11 _ rfl _ _ _ _ _ _ _ rfl ?_
    exact hs 12 _ rfl _ _ _ _ _ (rv _) (by omega) (by omega) (hP (d_ : Int) 0 _ _ (Or.inl ⟨y_, Or.inl ⟨in_, rfl, rfl, d_, rfl, dg_⟩⟩) ((zc_of.fr fr_).tr (zc_of.w wz630)) (zc_X.out (xX_) wz630 ho1 ho2) fun _ => wz630.at)
  · refine hx (_, _) (List.mem_cons.mpr (Or.inl rfl)) _ _ _ _ rfl ?_
    show S 16 _ [] _ _ _
    refine hs 9 _ rfl _ _ _ _ _ _ _ rfl ?_
    exact hs 10 _ rfl _ _ _ _ _ (rv _) (by omega) (by omega) (hP 0 1 _ _ (Or.inr ⟨hn_, rfl, rfl⟩) (zc_of.g zg.app1) (⟨_, _, _, hX.app, rfl⟩) fun z_ => absurd z_ (by decide))
set_option maxHeartbeats 4000000 in
theorem zc_wlengthen_M {l : Launch} {G : am_G} {X : ck_XT} (g : gM l G X) {x : Nat} {r : Nat → Nat} {jj mm kk : Int} {c : sp_S} {R : Nat → sp_S} {old cnt : Nat} {h : List am_C} (hX : zc_x G h x r jj mm kk c R old cnt){o : Nat} {n0 : Int64} {s0 : Value} (hO : am_g G h o = some (1016, [.long n0, s0])) (ho1 : o < x ∨ x + 228 ≤ o) (ho2 : o ≠ r 4) (ho3 : 1000 ≤ o) {e e2 : Int} (he1 : -2147483648 ≤ e) (he2 : e ≤ 2147483647) (hf1 : -2147483648 ≤ e2) (hf2 : e2 ≤ 2147483647) {mc ms : Nat} {Post : am_O → List am_C → Prop} (hmc : 1 ≤ mc) (hms : 6 ≤ ms)
    (hP : ∀ (a th : Int) (T' : sp_T) (h' : List am_C), sp_d2 e e2 (c, zc_l R old cnt, jj, mm, kk) a th T' → zc_of G h h' x r o → zc_Y G h' x r T' → (th = 0 → am_g G h' o = some (1016, [.long (Int64.ofInt a), s0])) → Post (.inl (some (.int (Int32.ofInt th)))) h') :
    am_M l G yL_lengthen (.codeWith yL_lengthen method_4_code 5 (some .int) [(0, 11, 14, 25), (0, 11, 18, 19), (0, 11, 22, 30)]) 8 168 mc ms [.ref x, .int (Int32.ofInt e), .int (Int32.ofInt e2), .ref o] h Post := by
  refine gh_yL_lengthen_X g (Nat.le_of_ble_eq_true rfl) fun S SX hs hr hw hx => ?_
  have rv : ∀ x : Int32, ck_fv 0 (.int x) := fun x => ⟨_, rfl⟩
  have ok_ := hX.2.2.1
  have okd_ := ok_.1
  have okn_ := ok_.2.1.1
  have okr_ := ok_.2.2.1.1
  have okb_ := ok_.2.2.2.1
  have px_ := hX.2.2.2.2.2.2.2
  refine hs 0 _ rfl _ _ _ _ _ _ _ rfl ?_
  refine hs 1 _ rfl _ _ _ _ _ _ _ rfl ?_
  refine hs 2 _ rfl _ _ _ _ _ _ _ rfl ?_
  refine hs 3 _ rfl _ _ _ _ _ _ _ rfl ?_
  refine zw_cm (hs 4 _ rfl) (a := [.ref x, .int (Int32.ofInt e), .int (Int32.ofInt e2)]) (st := [.ref o]) 1 6 rfl rfl (Nat.le_of_ble_eq_true rfl) ⟨_, _, _, rfl, hX.1, rfl⟩ (by omega) (by omega) (zc_lengthen_M g hX he1 he2 hf1 hf2 (by omega) (by omega) (fun y_ y2_ in_ h9_ d_ fr_ xX_ dg_ => ?_) (fun y_ y2_ in_ h9_ fr_ x9_ => ?_) (fun y_ hn_ => ?_) (fun hn_ => ?_))
  · show S 7 [some (.ref x), some (.int (Int32.ofInt e)), some (.int (Int32.ofInt e2)), some (.ref o), none] [.int (Int32.ofInt (d_ : Int)), .ref o] _ _ _
    have db_ := dg_.le (n := 36) (by decide) (sp_in.abs.mp in_)
    refine hs 5 _ rfl _ _ _ _ _ _ _ (hd_i2l (by omega) (by omega)) ?_
    refine zw_U (hs 6 _ rfl) (by omega) (((fr_.2 _ ho1 ho2).trans hO)) rfl ⟨_, rfl⟩ fun hz631 wz632 => ?_
    have wz632 : hd_w G _ hz631 o (1016, [.long (Int64.ofInt (d_ : Int)), s0]) := wz632
    have lwz632 := wz632.1
    refine hs 7 _ rfl _ _ _ _ _ ?_
    refine hs 17 _ rfl _ _ _ _ _ _ _ rfl ?_
    exact hs 18 _ rfl _ _ _ _ _ (rv _) (by omega) (by omega) (hP (d_ : Int) 0 _ _ (Or.inl ⟨y_, Or.inl ⟨y2_, Or.inl ⟨in_, rfl, rfl, d_, rfl, dg_⟩⟩⟩) ((zc_of.fr fr_).tr (zc_of.w wz632)) (zc_X.out (xX_) wz632 ho1 ho2) fun _ => wz632.at)
  · refine hx (_, _) (List.mem_cons.mpr (Or.inr (List.mem_cons.mpr (Or.inr (List.mem_cons.mpr (Or.inl rfl)))))) _ _ _ _ rfl ?_
    show S 24 _ [] _ _ _
    refine hs 15 _ rfl _ _ _ _ _ _ _ rfl ?_
    exact hs 16 _ rfl _ _ _ _ _ (rv _) (by omega) (by omega) (hP 0 3 _ _ (Or.inl ⟨y_, Or.inl ⟨y2_, Or.inr ⟨in_, rfl, rfl⟩⟩⟩) ((zc_of.fr fr_).tr (zc_of.g zg.app1)) (⟨_, _, _, x9_.app, rfl⟩) fun z_ => absurd z_ (by decide))
  · refine hx (_, _) (List.mem_cons.mpr (Or.inr (List.mem_cons.mpr (Or.inl rfl)))) _ _ _ _ rfl ?_
    show S 20 _ [] _ _ _
    refine hs 12 _ rfl _ _ _ _ _ _ _ rfl ?_
    exact hs 13 _ rfl _ _ _ _ _ (rv _) (by omega) (by omega) (hP 0 2 _ _ (Or.inl ⟨y_, Or.inr ⟨hn_, rfl, rfl⟩⟩) (zc_of.g zg.app1) (⟨_, _, _, hX.app, rfl⟩) fun z_ => absurd z_ (by decide))
  · refine hx (_, _) (List.mem_cons.mpr (Or.inl rfl)) _ _ _ _ rfl ?_
    show S 16 _ [] _ _ _
    refine hs 9 _ rfl _ _ _ _ _ _ _ rfl ?_
    exact hs 10 _ rfl _ _ _ _ _ (rv _) (by omega) (by omega) (hP 0 1 _ _ (Or.inr ⟨hn_, rfl, rfl⟩) (zc_of.g zg.app1) (⟨_, _, _, hX.app, rfl⟩) fun z_ => absurd z_ (by decide))
set_option maxHeartbeats 4000000 in
theorem zc_wplus_M {l : Launch} {G : am_G} {X : ck_XT} (g : gM l G X) {x : Nat} {r : Nat → Nat} {jj mm kk : Int} {c : sp_S} {R : Nat → sp_S} {old cnt : Nat} {h : List am_C} (hX : zc_x G h x r jj mm kk c R old cnt){o : Nat} {n0 : Int64} {s0 : Value} (hO : am_g G h o = some (1016, [.long n0, s0])) (ho1 : o < x ∨ x + 228 ≤ o) (ho2 : o ≠ r 4) (ho3 : 1000 ≤ o) {e e2 : Int} (he1 : -2147483648 ≤ e) (he2 : e ≤ 2147483647) (hf1 : -2147483648 ≤ e2) (hf2 : e2 ≤ 2147483647) {mc ms : Nat} {Post : am_O → List am_C → Prop} (hmc : 1 ≤ mc) (hms : 6 ≤ ms)
    (hP : ∀ (a th : Int) (T' : sp_T) (h' : List am_C), sp_d3 e e2 (c, zc_l R old cnt, jj, mm, kk) a th T' → zc_of G h h' x r o → zc_Y G h' x r T' → (th = 0 → am_g G h' o = some (1016, [.long (Int64.ofInt a), s0])) → Post (.inl (some (.int (Int32.ofInt th)))) h') :
    am_M l G yL_plus (.codeWith yL_plus method_5_code 5 (some .int) [(0, 11, 14, 25), (0, 11, 18, 30)]) 8 169 mc ms [.ref x, .int (Int32.ofInt e), .int (Int32.ofInt e2), .ref o] h Post := by
  refine gh_yL_plus_X g (Nat.le_of_ble_eq_true rfl) fun S SX hs hr hw hx => ?_
  have rv : ∀ x : Int32, ck_fv 0 (.int x) := fun x => ⟨_, rfl⟩
  have ok_ := hX.2.2.1
  have okd_ := ok_.1
  have okn_ := ok_.2.1.1
  have okr_ := ok_.2.2.1.1
  have okb_ := ok_.2.2.2.1
  have px_ := hX.2.2.2.2.2.2.2
  refine hs 0 _ rfl _ _ _ _ _ _ _ rfl ?_
  refine hs 1 _ rfl _ _ _ _ _ _ _ rfl ?_
  refine hs 2 _ rfl _ _ _ _ _ _ _ rfl ?_
  refine hs 3 _ rfl _ _ _ _ _ _ _ rfl ?_
  refine zw_cm (hs 4 _ rfl) (a := [.ref x, .int (Int32.ofInt e), .int (Int32.ofInt e2)]) (st := [.ref o]) 1 6 rfl rfl (Nat.le_of_ble_eq_true rfl) ⟨_, _, _, rfl, hX.1, rfl⟩ (by omega) (by omega) (zc_plus_M g hX he1 he2 hf1 hf2 (by omega) (by omega) (fun y_ in_ h9_ d_ fr_ xX_ dg_ => ?_) (fun y_ in_ h9_ fr_ x9_ => ?_) (fun hn_ => ?_))
  · show S 7 [some (.ref x), some (.int (Int32.ofInt e)), some (.int (Int32.ofInt e2)), some (.ref o), none] [.int (Int32.ofInt (d_ : Int)), .ref o] _ _ _
    have db_ := dg_.le (n := 36) (by decide) (sp_in.abs.mp in_)
    refine hs 5 _ rfl _ _ _ _ _ _ _ (hd_i2l (by omega) (by omega)) ?_
    refine zw_U (hs 6 _ rfl) (by omega) (((fr_.2 _ ho1 ho2).trans hO)) rfl ⟨_, rfl⟩ fun hz633 wz634 => ?_
    have wz634 : hd_w G _ hz633 o (1016, [.long (Int64.ofInt (d_ : Int)), s0]) := wz634
    have lwz634 := wz634.1
    refine hs 7 _ rfl _ _ _ _ _ ?_
    refine hs 14 _ rfl _ _ _ _ _ _ _ rfl ?_
    exact hs 15 _ rfl _ _ _ _ _ (rv _) (by omega) (by omega) (hP (d_ : Int) 0 _ _ (Or.inl ⟨⟨⟨y_.1, y_.2.1⟩, y_.2.2.1, y_.2.2.2⟩, Or.inl ⟨in_, rfl, rfl, d_, rfl, dg_⟩⟩) ((zc_of.fr fr_).tr (zc_of.w wz634)) (zc_X.out (xX_) wz634 ho1 ho2) fun _ => wz634.at)
  · refine hx (_, _) (List.mem_cons.mpr (Or.inr (List.mem_cons.mpr (Or.inl rfl)))) _ _ _ _ rfl ?_
    show S 20 _ [] _ _ _
    refine hs 12 _ rfl _ _ _ _ _ _ _ rfl ?_
    exact hs 13 _ rfl _ _ _ _ _ (rv _) (by omega) (by omega) (hP 0 2 _ _ (Or.inl ⟨⟨⟨y_.1, y_.2.1⟩, y_.2.2.1, y_.2.2.2⟩, Or.inr ⟨in_, rfl, rfl⟩⟩) ((zc_of.fr fr_).tr (zc_of.g zg.app1)) (⟨_, _, _, x9_.app, rfl⟩) fun z_ => absurd z_ (by decide))
  · refine hx (_, _) (List.mem_cons.mpr (Or.inl rfl)) _ _ _ _ rfl ?_
    show S 16 _ [] _ _ _
    refine hs 9 _ rfl _ _ _ _ _ _ _ rfl ?_
    exact hs 10 _ rfl _ _ _ _ _ (rv _) (by omega) (by omega) (hP 0 1 _ _ (Or.inr ⟨fun z_ => hn_ ⟨z_.1.1, z_.1.2, z_.2.1, z_.2.2⟩, rfl, rfl⟩) (zc_of.g zg.app1) (⟨_, _, _, hX.app, rfl⟩) fun z_ => absurd z_ (by decide))
set_option maxHeartbeats 4000000 in
theorem zc_wtimes_M {l : Launch} {G : am_G} {X : ck_XT} (g : gM l G X) {x : Nat} {r : Nat → Nat} {jj mm kk : Int} {c : sp_S} {R : Nat → sp_S} {old cnt : Nat} {h : List am_C} (hX : zc_x G h x r jj mm kk c R old cnt){o : Nat} {n0 : Int64} {s0 : Value} (hO : am_g G h o = some (1016, [.long n0, s0])) (ho1 : o < x ∨ x + 228 ≤ o) (ho2 : o ≠ r 4) (ho3 : 1000 ≤ o) {e e2 : Int} (he1 : -2147483648 ≤ e) (he2 : e ≤ 2147483647) (hf1 : -2147483648 ≤ e2) (hf2 : e2 ≤ 2147483647) {mc ms : Nat} {Post : am_O → List am_C → Prop} (hmc : 1 ≤ mc) (hms : 6 ≤ ms)
    (hP : ∀ (a th : Int) (T' : sp_T) (h' : List am_C), sp_d4 e e2 (c, zc_l R old cnt, jj, mm, kk) a th T' → zc_of G h h' x r o → zc_Y G h' x r T' → (th = 0 → am_g G h' o = some (1016, [.long (Int64.ofInt a), s0])) → Post (.inl (some (.int (Int32.ofInt th)))) h') :
    am_M l G yL_times (.codeWith yL_times method_6_code 5 (some .int) [(0, 11, 14, 25), (0, 11, 18, 30)]) 8 169 mc ms [.ref x, .int (Int32.ofInt e), .int (Int32.ofInt e2), .ref o] h Post := by
  refine gh_yL_times_X g (Nat.le_of_ble_eq_true rfl) fun S SX hs hr hw hx => ?_
  have rv : ∀ x : Int32, ck_fv 0 (.int x) := fun x => ⟨_, rfl⟩
  have ok_ := hX.2.2.1
  have okd_ := ok_.1
  have okn_ := ok_.2.1.1
  have okr_ := ok_.2.2.1.1
  have okb_ := ok_.2.2.2.1
  have px_ := hX.2.2.2.2.2.2.2
  refine hs 0 _ rfl _ _ _ _ _ _ _ rfl ?_
  refine hs 1 _ rfl _ _ _ _ _ _ _ rfl ?_
  refine hs 2 _ rfl _ _ _ _ _ _ _ rfl ?_
  refine hs 3 _ rfl _ _ _ _ _ _ _ rfl ?_
  refine zw_cm (hs 4 _ rfl) (a := [.ref x, .int (Int32.ofInt e), .int (Int32.ofInt e2)]) (st := [.ref o]) 1 6 rfl rfl (Nat.le_of_ble_eq_true rfl) ⟨_, _, _, rfl, hX.1, rfl⟩ (by omega) (by omega) (zc_times_M g hX he1 he2 hf1 hf2 (by omega) (by omega) (fun y_ in_ h9_ d_ fr_ xX_ dg_ => ?_) (fun y_ in_ h9_ fr_ x9_ => ?_) (fun hn_ => ?_))
  · show S 7 [some (.ref x), some (.int (Int32.ofInt e)), some (.int (Int32.ofInt e2)), some (.ref o), none] [.int (Int32.ofInt (d_ : Int)), .ref o] _ _ _
    have db_ := dg_.le (n := 36) (by decide) (sp_in.abs.mp in_)
    refine hs 5 _ rfl _ _ _ _ _ _ _ (hd_i2l (by omega) (by omega)) ?_
    refine zw_U (hs 6 _ rfl) (by omega) (((fr_.2 _ ho1 ho2).trans hO)) rfl ⟨_, rfl⟩ fun hz635 wz636 => ?_
    have wz636 : hd_w G _ hz635 o (1016, [.long (Int64.ofInt (d_ : Int)), s0]) := wz636
    have lwz636 := wz636.1
    refine hs 7 _ rfl _ _ _ _ _ ?_
    refine hs 14 _ rfl _ _ _ _ _ _ _ rfl ?_
    exact hs 15 _ rfl _ _ _ _ _ (rv _) (by omega) (by omega) (hP (d_ : Int) 0 _ _ (Or.inl ⟨⟨⟨y_.1, y_.2.1⟩, y_.2.2.1, y_.2.2.2⟩, Or.inl ⟨in_, rfl, rfl, d_, rfl, dg_⟩⟩) ((zc_of.fr fr_).tr (zc_of.w wz636)) (zc_X.out (xX_) wz636 ho1 ho2) fun _ => wz636.at)
  · refine hx (_, _) (List.mem_cons.mpr (Or.inr (List.mem_cons.mpr (Or.inl rfl)))) _ _ _ _ rfl ?_
    show S 20 _ [] _ _ _
    refine hs 12 _ rfl _ _ _ _ _ _ _ rfl ?_
    exact hs 13 _ rfl _ _ _ _ _ (rv _) (by omega) (by omega) (hP 0 2 _ _ (Or.inl ⟨⟨⟨y_.1, y_.2.1⟩, y_.2.2.1, y_.2.2.2⟩, Or.inr ⟨in_, rfl, rfl⟩⟩) ((zc_of.fr fr_).tr (zc_of.g zg.app1)) (⟨_, _, _, x9_.app, rfl⟩) fun z_ => absurd z_ (by decide))
  · refine hx (_, _) (List.mem_cons.mpr (Or.inl rfl)) _ _ _ _ rfl ?_
    show S 16 _ [] _ _ _
    refine hs 9 _ rfl _ _ _ _ _ _ _ rfl ?_
    exact hs 10 _ rfl _ _ _ _ _ (rv _) (by omega) (by omega) (hP 0 1 _ _ (Or.inr ⟨fun z_ => hn_ ⟨z_.1.1, z_.1.2, z_.2.1, z_.2.2⟩, rfl, rfl⟩) (zc_of.g zg.app1) (⟨_, _, _, hX.app, rfl⟩) fun z_ => absurd z_ (by decide))
set_option maxHeartbeats 4000000 in
theorem zc_wnegate_M {l : Launch} {G : am_G} {X : ck_XT} (g : gM l G X) {x : Nat} {r : Nat → Nat} {jj mm kk : Int} {c : sp_S} {R : Nat → sp_S} {old cnt : Nat} {h : List am_C} (hX : zc_x G h x r jj mm kk c R old cnt){o : Nat} {n0 : Int64} {s0 : Value} (hO : am_g G h o = some (1016, [.long n0, s0])) (ho1 : o < x ∨ x + 228 ≤ o) (ho2 : o ≠ r 4) (ho3 : 1000 ≤ o) {e e2 : Int} (he1 : -2147483648 ≤ e) (he2 : e ≤ 2147483647) {mc ms : Nat} {Post : am_O → List am_C → Prop} (hmc : 1 ≤ mc) (hms : 6 ≤ ms)
    (hP : ∀ (a th : Int) (T' : sp_T) (h' : List am_C), sp_d5 e e2 (c, zc_l R old cnt, jj, mm, kk) a th T' → zc_of G h h' x r o → zc_Y G h' x r T' → (th = 0 → am_g G h' o = some (1016, [.long (Int64.ofInt a), s0])) → Post (.inl (some (.int (Int32.ofInt th)))) h') :
    am_M l G yL_negate (.codeWith yL_negate method_7_code 4 (some .int) [(0, 10, 13, 25)]) 8 145 mc ms [.ref x, .int (Int32.ofInt e), .ref o] h Post := by
  refine gh_yL_negate_X g (Nat.le_of_ble_eq_true rfl) fun S SX hs hr hw hx => ?_
  have rv : ∀ x : Int32, ck_fv 0 (.int x) := fun x => ⟨_, rfl⟩
  have ok_ := hX.2.2.1
  have okd_ := ok_.1
  have okn_ := ok_.2.1.1
  have okr_ := ok_.2.2.1.1
  have okb_ := ok_.2.2.2.1
  have px_ := hX.2.2.2.2.2.2.2
  refine hs 0 _ rfl _ _ _ _ _ _ _ rfl ?_
  refine hs 1 _ rfl _ _ _ _ _ _ _ rfl ?_
  refine hs 2 _ rfl _ _ _ _ _ _ _ rfl ?_
  refine zw_cm (hs 3 _ rfl) (a := [.ref x, .int (Int32.ofInt e)]) (st := [.ref o]) 1 6 rfl rfl (Nat.le_of_ble_eq_true rfl) ⟨_, _, _, rfl, hX.1, rfl⟩ (by omega) (by omega) (zc_negate_M g hX he1 he2 (by omega) (by omega) (fun y_ h9_ fr_ xX_ => ?_) (fun hn_ => ?_))
  · show S 6 [some (.ref x), some (.int (Int32.ofInt e)), some (.ref o), none] [.int (Int32.ofInt (-(c.2.1.getD e.toNat 0).sign)), .ref o] _ _ _
    have sg_ : -1 ≤ (c.2.1.getD e.toNat 0).sign ∧ (c.2.1.getD e.toNat 0).sign ≤ 1 := by
      rcases Int.lt_trichotomy (c.2.1.getD e.toNat 0) 0 with z_ | z_ | z_
      · rw [Int.sign_eq_neg_one_of_neg z_]; decide
      · rw [z_]; decide
      · rw [Int.sign_eq_one_of_pos z_]; decide
    refine hs 4 _ rfl _ _ _ _ _ _ _ (hd_i2l (by omega) (by omega)) ?_
    refine zw_U (hs 5 _ rfl) (by omega) (((fr_.2 _ ho1 ho2).trans hO)) rfl ⟨_, rfl⟩ fun hz637 wz638 => ?_
    have wz638 : hd_w G _ hz637 o (1016, [.long (Int64.ofInt (-(c.2.1.getD e.toNat 0).sign)), s0]) := wz638
    have lwz638 := wz638.1
    refine hs 6 _ rfl _ _ _ _ _ ?_
    refine hs 10 _ rfl _ _ _ _ _ _ _ rfl ?_
    exact hs 11 _ rfl _ _ _ _ _ (rv _) (by omega) (by omega) (hP (-(c.2.1.getD e.toNat 0).sign) 0 _ _ (Or.inl ⟨y_, rfl, rfl, rfl⟩) ((zc_of.fr fr_).tr (zc_of.w wz638)) (zc_X.out (xX_) wz638 ho1 ho2) fun _ => wz638.at)
  · refine hx (_, _) (List.mem_cons.mpr (Or.inl rfl)) _ _ _ _ rfl ?_
    show S 14 _ [] _ _ _
    refine hs 8 _ rfl _ _ _ _ _ _ _ rfl ?_
    exact hs 9 _ rfl _ _ _ _ _ (rv _) (by omega) (by omega) (hP 0 1 _ _ (Or.inr ⟨hn_, rfl, rfl⟩) (zc_of.g zg.app1) (⟨_, _, _, hX.app, rfl⟩) fun z_ => absurd z_ (by decide))
set_option maxHeartbeats 4000000 in
theorem zc_wreduce_M {l : Launch} {G : am_G} {X : ck_XT} (g : gM l G X) {x : Nat} {r : Nat → Nat} {jj mm kk : Int} {c : sp_S} {R : Nat → sp_S} {old cnt : Nat} {h : List am_C} (hX : zc_x G h x r jj mm kk c R old cnt){o : Nat} {n0 : Int64} {s0 : Value} (hO : am_g G h o = some (1016, [.long n0, s0])) (ho1 : o < x ∨ x + 228 ≤ o) (ho2 : o ≠ r 4) (ho3 : 1000 ≤ o) {e e2 : Int} (he1 : -2147483648 ≤ e) (he2 : e ≤ 2147483647) {mc ms : Nat} {Post : am_O → List am_C → Prop} (hmc : 1 ≤ mc) (hms : 6 ≤ ms)
    (hP : ∀ (a th : Int) (T' : sp_T) (h' : List am_C), sp_d6 e e2 (c, zc_l R old cnt, jj, mm, kk) a th T' → zc_of G h h' x r o → zc_Y G h' x r T' → (th = 0 → am_g G h' o = some (1016, [.long (Int64.ofInt a), s0])) → Post (.inl (some (.int (Int32.ofInt th)))) h') :
    am_M l G yL_reduce (.codeWith yL_reduce method_8_code 4 (some .int) [(0, 10, 13, 25)]) 9 166 mc ms [.ref x, .int (Int32.ofInt e), .ref o] h Post := by
  refine gh_yL_reduce_X g (Nat.le_of_ble_eq_true rfl) fun S SX hs hr hw hx => ?_
  have rv : ∀ x : Int32, ck_fv 0 (.int x) := fun x => ⟨_, rfl⟩
  have ok_ := hX.2.2.1
  have okd_ := ok_.1
  have okn_ := ok_.2.1.1
  have okr_ := ok_.2.2.1.1
  have okb_ := ok_.2.2.2.1
  have px_ := hX.2.2.2.2.2.2.2
  refine hs 0 _ rfl _ _ _ _ _ _ _ rfl ?_
  refine hs 1 _ rfl _ _ _ _ _ _ _ rfl ?_
  refine hs 2 _ rfl _ _ _ _ _ _ _ rfl ?_
  refine zw_cm (hs 3 _ rfl) (a := [.ref x, .int (Int32.ofInt e)]) (st := [.ref o]) 1 6 rfl rfl (Nat.le_of_ble_eq_true rfl) ⟨_, _, _, rfl, hX.1, rfl⟩ (by omega) (by omega) (zc_reduce_M g hX he1 he2 (by omega) (by omega) (fun y_ cj_ h9_ fr_ x9_ => ?_) (fun y_ cp_ h9_ fr_ xX_ => ?_) (fun hn_ => ?_))
  · show S 6 [some (.ref x), some (.int (Int32.ofInt e)), some (.ref o), none] [.int (Int32.ofInt (-9 : Int)), .ref o] _ _ _
    refine hs 4 _ rfl _ _ _ _ _ _ _ (hd_i2l (by omega) (by omega)) ?_
    refine zw_U (hs 5 _ rfl) (by omega) (((fr_.2 _ ho1 ho2).trans hO)) rfl ⟨_, rfl⟩ fun hz639 wz640 => ?_
    have wz640 : hd_w G _ hz639 o (1016, [.long (Int64.ofInt (-9 : Int)), s0]) := wz640
    have lwz640 := wz640.1
    refine hs 6 _ rfl _ _ _ _ _ ?_
    refine hs 10 _ rfl _ _ _ _ _ _ _ rfl ?_
    exact hs 11 _ rfl _ _ _ _ _ (rv _) (by omega) (by omega) (hP (-9 : Int) 0 _ _ (Or.inl ⟨y_, rfl, Or.inl ⟨cj_, rfl, rfl⟩⟩) ((zc_of.fr fr_).tr (zc_of.w wz640)) (zc_X.out (⟨_, _, _, x9_, rfl⟩) wz640 ho1 ho2) fun _ => wz640.at)
  · show S 6 [some (.ref x), some (.int (Int32.ofInt e)), some (.ref o), none] [.int (Int32.ofInt (c.2.1.getD e.toNat 0 % c.1)), .ref o] _ _ _
    have hm9_ : c.1 ≠ 0 := by omega
    have q1_ := Int.emod_nonneg (c.2.1.getD e.toNat 0) hm9_
    have q2_ := Int.emod_lt_of_pos (c.2.1.getD e.toNat 0) (show 0 < c.1 by omega)
    refine hs 4 _ rfl _ _ _ _ _ _ _ (hd_i2l (by omega) (by omega)) ?_
    refine zw_U (hs 5 _ rfl) (by omega) (((fr_.2 _ ho1 ho2).trans hO)) rfl ⟨_, rfl⟩ fun hz641 wz642 => ?_
    have wz642 : hd_w G _ hz641 o (1016, [.long (Int64.ofInt (c.2.1.getD e.toNat 0 % c.1)), s0]) := wz642
    have lwz642 := wz642.1
    refine hs 6 _ rfl _ _ _ _ _ ?_
    refine hs 10 _ rfl _ _ _ _ _ _ _ rfl ?_
    exact hs 11 _ rfl _ _ _ _ _ (rv _) (by omega) (by omega) (hP (c.2.1.getD e.toNat 0 % c.1) 0 _ _ (Or.inl ⟨y_, rfl, Or.inr ⟨cp_, rfl, Or.inr ⟨q1_, rfl⟩⟩⟩) ((zc_of.fr fr_).tr (zc_of.w wz642)) (zc_X.out (xX_) wz642 ho1 ho2) fun _ => wz642.at)
  · refine hx (_, _) (List.mem_cons.mpr (Or.inl rfl)) _ _ _ _ rfl ?_
    show S 14 _ [] _ _ _
    refine hs 8 _ rfl _ _ _ _ _ _ _ rfl ?_
    exact hs 9 _ rfl _ _ _ _ _ (rv _) (by omega) (by omega) (hP 0 1 _ _ (Or.inr ⟨hn_, rfl, rfl⟩) (zc_of.g zg.app1) (⟨_, _, _, hX.app, rfl⟩) fun z_ => absurd z_ (by decide))
set_option maxHeartbeats 4000000 in
theorem zc_wroundPlus_M {l : Launch} {G : am_G} {X : ck_XT} (g : gM l G X) {x : Nat} {r : Nat → Nat} {jj mm kk : Int} {c : sp_S} {R : Nat → sp_S} {old cnt : Nat} {h : List am_C} (hX : zc_x G h x r jj mm kk c R old cnt){o : Nat} {n0 : Int64} {s0 : Value} (hO : am_g G h o = some (1016, [.long n0, s0])) (ho1 : o < x ∨ x + 228 ≤ o) (ho2 : o ≠ r 4) (ho3 : 1000 ≤ o) {e e2 : Int} (he1 : -2147483648 ≤ e) (he2 : e ≤ 2147483647) (hf1 : -2147483648 ≤ e2) (hf2 : e2 ≤ 2147483647) {mc ms : Nat} {Post : am_O → List am_C → Prop} (hmc : 1 ≤ mc) (hms : 6 ≤ ms)
    (hP : ∀ (a th : Int) (T' : sp_T) (h' : List am_C), sp_d7 e e2 (c, zc_l R old cnt, jj, mm, kk) a th T' → zc_of G h h' x r o → zc_Y G h' x r T' → (th = 0 → am_g G h' o = some (1016, [.long (Int64.ofInt a), s0])) → Post (.inl (some (.int (Int32.ofInt th)))) h') :
    am_M l G yL_roundPlus (.codeWith yL_roundPlus method_9_code 5 (some .int) [(0, 11, 14, 25)]) 8 170 mc ms [.ref x, .int (Int32.ofInt e), .int (Int32.ofInt e2), .ref o] h Post := by
  refine gh_yL_roundPlus_X g (Nat.le_of_ble_eq_true rfl) fun S SX hs hr hw hx => ?_
  have rv : ∀ x : Int32, ck_fv 0 (.int x) := fun x => ⟨_, rfl⟩
  have ok_ := hX.2.2.1
  have okd_ := ok_.1
  have okn_ := ok_.2.1.1
  have okr_ := ok_.2.2.1.1
  have okb_ := ok_.2.2.2.1
  have px_ := hX.2.2.2.2.2.2.2
  refine hs 0 _ rfl _ _ _ _ _ _ _ rfl ?_
  refine hs 1 _ rfl _ _ _ _ _ _ _ rfl ?_
  refine hs 2 _ rfl _ _ _ _ _ _ _ rfl ?_
  refine hs 3 _ rfl _ _ _ _ _ _ _ rfl ?_
  refine zw_cm (hs 4 _ rfl) (a := [.ref x, .int (Int32.ofInt e), .int (Int32.ofInt e2)]) (st := [.ref o]) 1 6 rfl rfl (Nat.le_of_ble_eq_true rfl) ⟨_, _, _, rfl, hX.1, rfl⟩ (by omega) (by omega) (zc_roundPlus_M g hX he1 he2 hf1 hf2 (by omega) (by omega) (fun y_ cj_ h9_ fr_ x9_ => ?_) (fun y_ cp_ h9_ fr_ xX_ => ?_) (fun hn_ => ?_))
  · show S 7 [some (.ref x), some (.int (Int32.ofInt e)), some (.int (Int32.ofInt e2)), some (.ref o), none] [.int (Int32.ofInt (-9 : Int)), .ref o] _ _ _
    refine hs 5 _ rfl _ _ _ _ _ _ _ (hd_i2l (by omega) (by omega)) ?_
    refine zw_U (hs 6 _ rfl) (by omega) (((fr_.2 _ ho1 ho2).trans hO)) rfl ⟨_, rfl⟩ fun hz643 wz644 => ?_
    have wz644 : hd_w G _ hz643 o (1016, [.long (Int64.ofInt (-9 : Int)), s0]) := wz644
    have lwz644 := wz644.1
    refine hs 7 _ rfl _ _ _ _ _ ?_
    refine hs 11 _ rfl _ _ _ _ _ _ _ rfl ?_
    exact hs 12 _ rfl _ _ _ _ _ (rv _) (by omega) (by omega) (hP (-9 : Int) 0 _ _ (Or.inl ⟨⟨⟨y_.1, y_.2.1⟩, y_.2.2.1, y_.2.2.2⟩, rfl, Or.inl ⟨cj_, rfl, rfl⟩⟩) ((zc_of.fr fr_).tr (zc_of.w wz644)) (zc_X.out (⟨_, _, _, x9_, rfl⟩) wz644 ho1 ho2) fun _ => wz644.at)
  · show S 7 [some (.ref x), some (.int (Int32.ofInt e)), some (.int (Int32.ofInt e2)), some (.ref o), none] [.int (Int32.ofInt (((c.2.1.getD e.toNat 0 % c.1) + (c.2.1.getD e2.toNat 0 % c.1)) % c.1)), .ref o] _ _ _
    have hm9_ : c.1 ≠ 0 := by omega
    have q1_ := Int.emod_nonneg ((c.2.1.getD e.toNat 0 % c.1) + (c.2.1.getD e2.toNat 0 % c.1)) hm9_
    have q2_ := Int.emod_lt_of_pos ((c.2.1.getD e.toNat 0 % c.1) + (c.2.1.getD e2.toNat 0 % c.1)) (show 0 < c.1 by omega)
    refine hs 5 _ rfl _ _ _ _ _ _ _ (hd_i2l (by omega) (by omega)) ?_
    refine zw_U (hs 6 _ rfl) (by omega) (((fr_.2 _ ho1 ho2).trans hO)) rfl ⟨_, rfl⟩ fun hz645 wz646 => ?_
    have wz646 : hd_w G _ hz645 o (1016, [.long (Int64.ofInt (((c.2.1.getD e.toNat 0 % c.1) + (c.2.1.getD e2.toNat 0 % c.1)) % c.1)), s0]) := wz646
    have lwz646 := wz646.1
    refine hs 7 _ rfl _ _ _ _ _ ?_
    refine hs 11 _ rfl _ _ _ _ _ _ _ rfl ?_
    exact hs 12 _ rfl _ _ _ _ _ (rv _) (by omega) (by omega) (hP (((c.2.1.getD e.toNat 0 % c.1) + (c.2.1.getD e2.toNat 0 % c.1)) % c.1) 0 _ _ (Or.inl ⟨⟨⟨y_.1, y_.2.1⟩, y_.2.2.1, y_.2.2.2⟩, rfl, Or.inr ⟨cp_, rfl, Or.inr ⟨q1_, rfl⟩⟩⟩) ((zc_of.fr fr_).tr (zc_of.w wz646)) (zc_X.out (xX_) wz646 ho1 ho2) fun _ => wz646.at)
  · refine hx (_, _) (List.mem_cons.mpr (Or.inl rfl)) _ _ _ _ rfl ?_
    show S 16 _ [] _ _ _
    refine hs 9 _ rfl _ _ _ _ _ _ _ rfl ?_
    exact hs 10 _ rfl _ _ _ _ _ (rv _) (by omega) (by omega) (hP 0 1 _ _ (Or.inr ⟨fun z_ => hn_ ⟨z_.1.1, z_.1.2, z_.2.1, z_.2.2⟩, rfl, rfl⟩) (zc_of.g zg.app1) (⟨_, _, _, hX.app, rfl⟩) fun z_ => absurd z_ (by decide))
set_option maxHeartbeats 4000000 in
theorem zc_wroundTimes_M {l : Launch} {G : am_G} {X : ck_XT} (g : gM l G X) {x : Nat} {r : Nat → Nat} {jj mm kk : Int} {c : sp_S} {R : Nat → sp_S} {old cnt : Nat} {h : List am_C} (hX : zc_x G h x r jj mm kk c R old cnt){o : Nat} {n0 : Int64} {s0 : Value} (hO : am_g G h o = some (1016, [.long n0, s0])) (ho1 : o < x ∨ x + 228 ≤ o) (ho2 : o ≠ r 4) (ho3 : 1000 ≤ o) {e e2 : Int} (he1 : -2147483648 ≤ e) (he2 : e ≤ 2147483647) (hf1 : -2147483648 ≤ e2) (hf2 : e2 ≤ 2147483647) {mc ms : Nat} {Post : am_O → List am_C → Prop} (hmc : 1 ≤ mc) (hms : 6 ≤ ms)
    (hP : ∀ (a th : Int) (T' : sp_T) (h' : List am_C), sp_d8 e e2 (c, zc_l R old cnt, jj, mm, kk) a th T' → zc_of G h h' x r o → zc_Y G h' x r T' → (th = 0 → am_g G h' o = some (1016, [.long (Int64.ofInt a), s0])) → Post (.inl (some (.int (Int32.ofInt th)))) h') :
    am_M l G yL_roundTimes (.codeWith yL_roundTimes method_10_code 5 (some .int) [(0, 11, 14, 25)]) 8 170 mc ms [.ref x, .int (Int32.ofInt e), .int (Int32.ofInt e2), .ref o] h Post := by
  refine gh_yL_roundTimes_X g (Nat.le_of_ble_eq_true rfl) fun S SX hs hr hw hx => ?_
  have rv : ∀ x : Int32, ck_fv 0 (.int x) := fun x => ⟨_, rfl⟩
  have ok_ := hX.2.2.1
  have okd_ := ok_.1
  have okn_ := ok_.2.1.1
  have okr_ := ok_.2.2.1.1
  have okb_ := ok_.2.2.2.1
  have px_ := hX.2.2.2.2.2.2.2
  refine hs 0 _ rfl _ _ _ _ _ _ _ rfl ?_
  refine hs 1 _ rfl _ _ _ _ _ _ _ rfl ?_
  refine hs 2 _ rfl _ _ _ _ _ _ _ rfl ?_
  refine hs 3 _ rfl _ _ _ _ _ _ _ rfl ?_
  refine zw_cm (hs 4 _ rfl) (a := [.ref x, .int (Int32.ofInt e), .int (Int32.ofInt e2)]) (st := [.ref o]) 1 6 rfl rfl (Nat.le_of_ble_eq_true rfl) ⟨_, _, _, rfl, hX.1, rfl⟩ (by omega) (by omega) (zc_roundTimes_M g hX he1 he2 hf1 hf2 (by omega) (by omega) (fun y_ cj_ h9_ fr_ x9_ => ?_) (fun y_ cp_ h9_ fr_ xX_ => ?_) (fun hn_ => ?_))
  · show S 7 [some (.ref x), some (.int (Int32.ofInt e)), some (.int (Int32.ofInt e2)), some (.ref o), none] [.int (Int32.ofInt (-9 : Int)), .ref o] _ _ _
    refine hs 5 _ rfl _ _ _ _ _ _ _ (hd_i2l (by omega) (by omega)) ?_
    refine zw_U (hs 6 _ rfl) (by omega) (((fr_.2 _ ho1 ho2).trans hO)) rfl ⟨_, rfl⟩ fun hz647 wz648 => ?_
    have wz648 : hd_w G _ hz647 o (1016, [.long (Int64.ofInt (-9 : Int)), s0]) := wz648
    have lwz648 := wz648.1
    refine hs 7 _ rfl _ _ _ _ _ ?_
    refine hs 11 _ rfl _ _ _ _ _ _ _ rfl ?_
    exact hs 12 _ rfl _ _ _ _ _ (rv _) (by omega) (by omega) (hP (-9 : Int) 0 _ _ (Or.inl ⟨⟨⟨y_.1, y_.2.1⟩, y_.2.2.1, y_.2.2.2⟩, rfl, Or.inl ⟨cj_, rfl, rfl⟩⟩) ((zc_of.fr fr_).tr (zc_of.w wz648)) (zc_X.out (⟨_, _, _, x9_, rfl⟩) wz648 ho1 ho2) fun _ => wz648.at)
  · show S 7 [some (.ref x), some (.int (Int32.ofInt e)), some (.int (Int32.ofInt e2)), some (.ref o), none] [.int (Int32.ofInt (((c.2.1.getD e.toNat 0 % c.1) * (c.2.1.getD e2.toNat 0 % c.1)) % c.1)), .ref o] _ _ _
    have hm9_ : c.1 ≠ 0 := by omega
    have q1_ := Int.emod_nonneg ((c.2.1.getD e.toNat 0 % c.1) * (c.2.1.getD e2.toNat 0 % c.1)) hm9_
    have q2_ := Int.emod_lt_of_pos ((c.2.1.getD e.toNat 0 % c.1) * (c.2.1.getD e2.toNat 0 % c.1)) (show 0 < c.1 by omega)
    refine hs 5 _ rfl _ _ _ _ _ _ _ (hd_i2l (by omega) (by omega)) ?_
    refine zw_U (hs 6 _ rfl) (by omega) (((fr_.2 _ ho1 ho2).trans hO)) rfl ⟨_, rfl⟩ fun hz649 wz650 => ?_
    have wz650 : hd_w G _ hz649 o (1016, [.long (Int64.ofInt (((c.2.1.getD e.toNat 0 % c.1) * (c.2.1.getD e2.toNat 0 % c.1)) % c.1)), s0]) := wz650
    have lwz650 := wz650.1
    refine hs 7 _ rfl _ _ _ _ _ ?_
    refine hs 11 _ rfl _ _ _ _ _ _ _ rfl ?_
    exact hs 12 _ rfl _ _ _ _ _ (rv _) (by omega) (by omega) (hP (((c.2.1.getD e.toNat 0 % c.1) * (c.2.1.getD e2.toNat 0 % c.1)) % c.1) 0 _ _ (Or.inl ⟨⟨⟨y_.1, y_.2.1⟩, y_.2.2.1, y_.2.2.2⟩, rfl, Or.inr ⟨cp_, rfl, Or.inr ⟨q1_, rfl⟩⟩⟩) ((zc_of.fr fr_).tr (zc_of.w wz650)) (zc_X.out (xX_) wz650 ho1 ho2) fun _ => wz650.at)
  · refine hx (_, _) (List.mem_cons.mpr (Or.inl rfl)) _ _ _ _ rfl ?_
    show S 16 _ [] _ _ _
    refine hs 9 _ rfl _ _ _ _ _ _ _ rfl ?_
    exact hs 10 _ rfl _ _ _ _ _ (rv _) (by omega) (by omega) (hP 0 1 _ _ (Or.inr ⟨fun z_ => hn_ ⟨z_.1.1, z_.1.2, z_.2.1, z_.2.2⟩, rfl, rfl⟩) (zc_of.g zg.app1) (⟨_, _, _, hX.app, rfl⟩) fun z_ => absurd z_ (by decide))
set_option maxHeartbeats 4000000 in
theorem zc_wroundPower_M {l : Launch} {G : am_G} {X : ck_XT} (g : gM l G X) {x : Nat} {r : Nat → Nat} {jj mm kk : Int} {c : sp_S} {R : Nat → sp_S} {old cnt : Nat} {h : List am_C} (hX : zc_x G h x r jj mm kk c R old cnt){o : Nat} {n0 : Int64} {s0 : Value} (hO : am_g G h o = some (1016, [.long n0, s0])) (ho1 : o < x ∨ x + 228 ≤ o) (ho2 : o ≠ r 4) (ho3 : 1000 ≤ o) {e e2 : Int} (he1 : -2147483648 ≤ e) (he2 : e ≤ 2147483647) (hf1 : -2147483648 ≤ e2) (hf2 : e2 ≤ 2147483647) {mc ms : Nat} {Post : am_O → List am_C → Prop} (hmc : 1 ≤ mc) (hms : 6 ≤ ms)
    (hP : ∀ (a th : Int) (T' : sp_T) (h' : List am_C), sp_d9 e e2 (c, zc_l R old cnt, jj, mm, kk) a th T' → zc_of G h h' x r o → zc_Y G h' x r T' → (th = 0 → am_g G h' o = some (1016, [.long (Int64.ofInt a), s0])) → Post (.inl (some (.int (Int32.ofInt th)))) h') :
    am_M l G yL_roundPower (.codeWith yL_roundPower method_11_code 5 (some .int) [(0, 11, 14, 25)]) 9 167 mc ms [.ref x, .int (Int32.ofInt e), .int (Int32.ofInt e2), .ref o] h Post := by
  refine gh_yL_roundPower_X g (Nat.le_of_ble_eq_true rfl) fun S SX hs hr hw hx => ?_
  have rv : ∀ x : Int32, ck_fv 0 (.int x) := fun x => ⟨_, rfl⟩
  have ok_ := hX.2.2.1
  have okd_ := ok_.1
  have okn_ := ok_.2.1.1
  have okr_ := ok_.2.2.1.1
  have okb_ := ok_.2.2.2.1
  have px_ := hX.2.2.2.2.2.2.2
  refine hs 0 _ rfl _ _ _ _ _ _ _ rfl ?_
  refine hs 1 _ rfl _ _ _ _ _ _ _ rfl ?_
  refine hs 2 _ rfl _ _ _ _ _ _ _ rfl ?_
  refine hs 3 _ rfl _ _ _ _ _ _ _ rfl ?_
  refine zw_cm (hs 4 _ rfl) (a := [.ref x, .int (Int32.ofInt e), .int (Int32.ofInt e2)]) (st := [.ref o]) 1 6 rfl rfl (Nat.le_of_ble_eq_true rfl) ⟨_, _, _, rfl, hX.1, rfl⟩ (by omega) (by omega) (zc_roundPower_M g hX he1 he2 hf1 hf2 (by omega) (by omega) (fun y_ cj_ h9_ fr_ x9_ => ?_) (fun y_ cp_ v1_ h9_ fr_ x9_ => ?_) (fun y_ cp_ v_ v1_ v2_ v3_ h9_ fr_ xX_ => ?_) (fun hn_ => ?_))
  · show S 7 [some (.ref x), some (.int (Int32.ofInt e)), some (.int (Int32.ofInt e2)), some (.ref o), none] [.int (Int32.ofInt (-9 : Int)), .ref o] _ _ _
    refine hs 5 _ rfl _ _ _ _ _ _ _ (hd_i2l (by omega) (by omega)) ?_
    refine zw_U (hs 6 _ rfl) (by omega) (((fr_.2 _ ho1 ho2).trans hO)) rfl ⟨_, rfl⟩ fun hz651 wz652 => ?_
    have wz652 : hd_w G _ hz651 o (1016, [.long (Int64.ofInt (-9 : Int)), s0]) := wz652
    have lwz652 := wz652.1
    refine hs 7 _ rfl _ _ _ _ _ ?_
    refine hs 11 _ rfl _ _ _ _ _ _ _ rfl ?_
    exact hs 12 _ rfl _ _ _ _ _ (rv _) (by omega) (by omega) (hP (-9 : Int) 0 _ _ (Or.inl ⟨⟨⟨y_.1, y_.2.1⟩, y_.2.2.1, y_.2.2.2⟩, rfl, Or.inl ⟨cj_, rfl, rfl⟩⟩) ((zc_of.fr fr_).tr (zc_of.w wz652)) (zc_X.out (⟨_, _, _, x9_, rfl⟩) wz652 ho1 ho2) fun _ => wz652.at)
  · show S 7 [some (.ref x), some (.int (Int32.ofInt e)), some (.int (Int32.ofInt e2)), some (.ref o), none] [.int (Int32.ofInt (-8 : Int)), .ref o] _ _ _
    refine hs 5 _ rfl _ _ _ _ _ _ _ (hd_i2l (by omega) (by omega)) ?_
    refine zw_U (hs 6 _ rfl) (by omega) (((fr_.2 _ ho1 ho2).trans hO)) rfl ⟨_, rfl⟩ fun hz653 wz654 => ?_
    have wz654 : hd_w G _ hz653 o (1016, [.long (Int64.ofInt (-8 : Int)), s0]) := wz654
    have lwz654 := wz654.1
    refine hs 7 _ rfl _ _ _ _ _ ?_
    refine hs 11 _ rfl _ _ _ _ _ _ _ rfl ?_
    exact hs 12 _ rfl _ _ _ _ _ (rv _) (by omega) (by omega) (hP (-8 : Int) 0 _ _ (Or.inl ⟨⟨⟨y_.1, y_.2.1⟩, y_.2.2.1, y_.2.2.2⟩, rfl, Or.inr ⟨cp_, v1_, Or.inl ⟨rfl, rfl⟩⟩⟩) ((zc_of.fr fr_).tr (zc_of.w wz654)) (zc_X.out (⟨_, _, _, x9_, rfl⟩) wz654 ho1 ho2) fun _ => wz654.at)
  · show S 7 [some (.ref x), some (.int (Int32.ofInt e)), some (.int (Int32.ofInt e2)), some (.ref o), none] [.int (Int32.ofInt v_), .ref o] _ _ _
    refine hs 5 _ rfl _ _ _ _ _ _ _ (hd_i2l (by omega) (by omega)) ?_
    refine zw_U (hs 6 _ rfl) (by omega) (((fr_.2 _ ho1 ho2).trans hO)) rfl ⟨_, rfl⟩ fun hz655 wz656 => ?_
    have wz656 : hd_w G _ hz655 o (1016, [.long (Int64.ofInt v_), s0]) := wz656
    have lwz656 := wz656.1
    refine hs 7 _ rfl _ _ _ _ _ ?_
    refine hs 11 _ rfl _ _ _ _ _ _ _ rfl ?_
    exact hs 12 _ rfl _ _ _ _ _ (rv _) (by omega) (by omega) (hP v_ 0 _ _ (Or.inl ⟨⟨⟨y_.1, y_.2.1⟩, y_.2.2.1, y_.2.2.2⟩, rfl, Or.inr ⟨cp_, v1_, Or.inr ⟨v2_, rfl⟩⟩⟩) ((zc_of.fr fr_).tr (zc_of.w wz656)) (zc_X.out (xX_) wz656 ho1 ho2) fun _ => wz656.at)
  · refine hx (_, _) (List.mem_cons.mpr (Or.inl rfl)) _ _ _ _ rfl ?_
    show S 16 _ [] _ _ _
    refine hs 9 _ rfl _ _ _ _ _ _ _ rfl ?_
    exact hs 10 _ rfl _ _ _ _ _ (rv _) (by omega) (by omega) (hP 0 1 _ _ (Or.inr ⟨fun z_ => hn_ ⟨z_.1.1, z_.1.2, z_.2.1, z_.2.2⟩, rfl, rfl⟩) (zc_of.g zg.app1) (⟨_, _, _, hX.app, rfl⟩) fun z_ => absurd z_ (by decide))
set_option maxHeartbeats 4000000 in
theorem zc_wroundInverse_M {l : Launch} {G : am_G} {X : ck_XT} (g : gM l G X) {x : Nat} {r : Nat → Nat} {jj mm kk : Int} {c : sp_S} {R : Nat → sp_S} {old cnt : Nat} {h : List am_C} (hX : zc_x G h x r jj mm kk c R old cnt){o : Nat} {n0 : Int64} {s0 : Value} (hO : am_g G h o = some (1016, [.long n0, s0])) (ho1 : o < x ∨ x + 228 ≤ o) (ho2 : o ≠ r 4) (ho3 : 1000 ≤ o) {e e2 : Int} (he1 : -2147483648 ≤ e) (he2 : e ≤ 2147483647) {mc ms : Nat} {Post : am_O → List am_C → Prop} (hmc : 1 ≤ mc) (hms : 6 ≤ ms)
    (hP : ∀ (a th : Int) (T' : sp_T) (h' : List am_C), sp_d10 e e2 (c, zc_l R old cnt, jj, mm, kk) a th T' → zc_of G h h' x r o → zc_Y G h' x r T' → (th = 0 → am_g G h' o = some (1016, [.long (Int64.ofInt a), s0])) → Post (.inl (some (.int (Int32.ofInt th)))) h') :
    am_M l G yL_roundInverse (.codeWith yL_roundInverse method_12_code 4 (some .int) [(0, 10, 13, 25)]) 9 166 mc ms [.ref x, .int (Int32.ofInt e), .ref o] h Post := by
  refine gh_yL_roundInverse_X g (Nat.le_of_ble_eq_true rfl) fun S SX hs hr hw hx => ?_
  have rv : ∀ x : Int32, ck_fv 0 (.int x) := fun x => ⟨_, rfl⟩
  have ok_ := hX.2.2.1
  have okd_ := ok_.1
  have okn_ := ok_.2.1.1
  have okr_ := ok_.2.2.1.1
  have okb_ := ok_.2.2.2.1
  have px_ := hX.2.2.2.2.2.2.2
  refine hs 0 _ rfl _ _ _ _ _ _ _ rfl ?_
  refine hs 1 _ rfl _ _ _ _ _ _ _ rfl ?_
  refine hs 2 _ rfl _ _ _ _ _ _ _ rfl ?_
  refine zw_cm (hs 3 _ rfl) (a := [.ref x, .int (Int32.ofInt e)]) (st := [.ref o]) 1 6 rfl rfl (Nat.le_of_ble_eq_true rfl) ⟨_, _, _, rfl, hX.1, rfl⟩ (by omega) (by omega) (zc_roundInverse_M g hX he1 he2 (by omega) (by omega) (fun y_ cj_ h9_ fr_ x9_ => ?_) (fun y_ cp_ v1_ h9_ fr_ x9_ => ?_) (fun y_ cp_ v_ v1_ v2_ v3_ h9_ fr_ xX_ => ?_) (fun hn_ => ?_))
  · show S 6 [some (.ref x), some (.int (Int32.ofInt e)), some (.ref o), none] [.int (Int32.ofInt (-9 : Int)), .ref o] _ _ _
    refine hs 4 _ rfl _ _ _ _ _ _ _ (hd_i2l (by omega) (by omega)) ?_
    refine zw_U (hs 5 _ rfl) (by omega) (((fr_.2 _ ho1 ho2).trans hO)) rfl ⟨_, rfl⟩ fun hz657 wz658 => ?_
    have wz658 : hd_w G _ hz657 o (1016, [.long (Int64.ofInt (-9 : Int)), s0]) := wz658
    have lwz658 := wz658.1
    refine hs 6 _ rfl _ _ _ _ _ ?_
    refine hs 10 _ rfl _ _ _ _ _ _ _ rfl ?_
    exact hs 11 _ rfl _ _ _ _ _ (rv _) (by omega) (by omega) (hP (-9 : Int) 0 _ _ (Or.inl ⟨y_, rfl, Or.inl ⟨cj_, rfl, rfl⟩⟩) ((zc_of.fr fr_).tr (zc_of.w wz658)) (zc_X.out (⟨_, _, _, x9_, rfl⟩) wz658 ho1 ho2) fun _ => wz658.at)
  · show S 6 [some (.ref x), some (.int (Int32.ofInt e)), some (.ref o), none] [.int (Int32.ofInt (-8 : Int)), .ref o] _ _ _
    refine hs 4 _ rfl _ _ _ _ _ _ _ (hd_i2l (by omega) (by omega)) ?_
    refine zw_U (hs 5 _ rfl) (by omega) (((fr_.2 _ ho1 ho2).trans hO)) rfl ⟨_, rfl⟩ fun hz659 wz660 => ?_
    have wz660 : hd_w G _ hz659 o (1016, [.long (Int64.ofInt (-8 : Int)), s0]) := wz660
    have lwz660 := wz660.1
    refine hs 6 _ rfl _ _ _ _ _ ?_
    refine hs 10 _ rfl _ _ _ _ _ _ _ rfl ?_
    exact hs 11 _ rfl _ _ _ _ _ (rv _) (by omega) (by omega) (hP (-8 : Int) 0 _ _ (Or.inl ⟨y_, rfl, Or.inr ⟨cp_, v1_, Or.inl ⟨rfl, rfl⟩⟩⟩) ((zc_of.fr fr_).tr (zc_of.w wz660)) (zc_X.out (⟨_, _, _, x9_, rfl⟩) wz660 ho1 ho2) fun _ => wz660.at)
  · show S 6 [some (.ref x), some (.int (Int32.ofInt e)), some (.ref o), none] [.int (Int32.ofInt v_), .ref o] _ _ _
    refine hs 4 _ rfl _ _ _ _ _ _ _ (hd_i2l (by omega) (by omega)) ?_
    refine zw_U (hs 5 _ rfl) (by omega) (((fr_.2 _ ho1 ho2).trans hO)) rfl ⟨_, rfl⟩ fun hz661 wz662 => ?_
    have wz662 : hd_w G _ hz661 o (1016, [.long (Int64.ofInt v_), s0]) := wz662
    have lwz662 := wz662.1
    refine hs 6 _ rfl _ _ _ _ _ ?_
    refine hs 10 _ rfl _ _ _ _ _ _ _ rfl ?_
    exact hs 11 _ rfl _ _ _ _ _ (rv _) (by omega) (by omega) (hP v_ 0 _ _ (Or.inl ⟨y_, rfl, Or.inr ⟨cp_, v1_, Or.inr ⟨v2_, rfl⟩⟩⟩) ((zc_of.fr fr_).tr (zc_of.w wz662)) (zc_X.out (xX_) wz662 ho1 ho2) fun _ => wz662.at)
  · refine hx (_, _) (List.mem_cons.mpr (Or.inl rfl)) _ _ _ _ rfl ?_
    show S 14 _ [] _ _ _
    refine hs 8 _ rfl _ _ _ _ _ _ _ rfl ?_
    exact hs 9 _ rfl _ _ _ _ _ (rv _) (by omega) (by omega) (hP 0 1 _ _ (Or.inr ⟨hn_, rfl, rfl⟩) (zc_of.g zg.app1) (⟨_, _, _, hX.app, rfl⟩) fun z_ => absurd z_ (by decide))
set_option maxHeartbeats 4000000 in
theorem zc_wtell_M {l : Launch} {G : am_G} {X : ck_XT} (g : gM l G X) {x : Nat} {r : Nat → Nat} {jj mm kk : Int} {c : sp_S} {R : Nat → sp_S} {old cnt : Nat} {h : List am_C} (hX : zc_x G h x r jj mm kk c R old cnt){o : Nat} {n0 : Int64} {s0 : Value} (hO : am_g G h o = some (1016, [.long n0, s0])) (ho1 : o < x ∨ x + 228 ≤ o) (ho2 : o ≠ r 4) (ho3 : 1000 ≤ o) {e e2 : Int} (he1 : -2147483648 ≤ e) (he2 : e ≤ 2147483647) (hf1 : -2147483648 ≤ e2) (hf2 : e2 ≤ 2147483647) {mc ms : Nat} {Post : am_O → List am_C → Prop} (hmc : 1 ≤ mc) (hms : 6 ≤ ms)
    (hP : ∀ (a th : Int) (T' : sp_T) (h' : List am_C), sp_d11 e e2 (c, zc_l R old cnt, jj, mm, kk) a th T' → zc_of G h h' x r o → zc_Y G h' x r T' → (th = 0 → am_g G h' o = some (1016, [.long (Int64.ofInt a), s0])) → Post (.inl (some (.int (Int32.ofInt th)))) h') :
    am_M l G yL_tell (.codeWith yL_tell method_13_code 5 (some .int) [(0, 11, 14, 19), (0, 11, 18, 30)]) 8 167 mc ms [.ref x, .int (Int32.ofInt e), .int (Int32.ofInt e2), .ref o] h Post := by
  refine gh_yL_tell_X g (Nat.le_of_ble_eq_true rfl) fun S SX hs hr hw hx => ?_
  have rv : ∀ x : Int32, ck_fv 0 (.int x) := fun x => ⟨_, rfl⟩
  have ok_ := hX.2.2.1
  have okd_ := ok_.1
  have okn_ := ok_.2.1.1
  have okr_ := ok_.2.2.1.1
  have okb_ := ok_.2.2.2.1
  have px_ := hX.2.2.2.2.2.2.2
  refine hs 0 _ rfl _ _ _ _ _ _ _ rfl ?_
  refine hs 1 _ rfl _ _ _ _ _ _ _ rfl ?_
  refine hs 2 _ rfl _ _ _ _ _ _ _ rfl ?_
  refine hs 3 _ rfl _ _ _ _ _ _ _ rfl ?_
  refine zw_cm (hs 4 _ rfl) (a := [.ref x, .int (Int32.ofInt e), .int (Int32.ofInt e2)]) (st := [.ref o]) 1 6 rfl rfl (Nat.le_of_ble_eq_true rfl) ⟨_, _, _, rfl, hX.1, rfl⟩ (by omega) (by omega) (zc_tell_M g hX he1 he2 hf1 hf2 (by omega) (by omega) (fun y_ y2_ h9_ fr_ xX_ => ?_) (fun hn_ => ?_) (fun y_ hn_ => ?_))
  · show S 7 [some (.ref x), some (.int (Int32.ofInt e)), some (.int (Int32.ofInt e2)), some (.ref o), none] [.int (Int32.ofInt (c.2.2.1.length : Int)), .ref o] _ _ _
    refine hs 5 _ rfl _ _ _ _ _ _ _ (hd_i2l (by omega) (by omega)) ?_
    refine zw_U (hs 6 _ rfl) (by omega) (((fr_.2 _ ho1 ho2).trans hO)) rfl ⟨_, rfl⟩ fun hz663 wz664 => ?_
    have wz664 : hd_w G _ hz663 o (1016, [.long (Int64.ofInt (c.2.2.1.length : Int)), s0]) := wz664
    have lwz664 := wz664.1
    refine hs 7 _ rfl _ _ _ _ _ ?_
    refine hs 14 _ rfl _ _ _ _ _ _ _ rfl ?_
    exact hs 15 _ rfl _ _ _ _ _ (rv _) (by omega) (by omega) (hP (c.2.2.1.length : Int) 0 _ _ (Or.inl ⟨y_, Or.inl ⟨y2_, rfl, rfl, rfl⟩⟩) ((zc_of.fr fr_).tr (zc_of.w wz664)) (zc_X.out (xX_) wz664 ho1 ho2) fun _ => wz664.at)
  · refine hx (_, _) (List.mem_cons.mpr (Or.inl rfl)) _ _ _ _ rfl ?_
    show S 16 _ [] _ _ _
    refine hs 9 _ rfl _ _ _ _ _ _ _ rfl ?_
    exact hs 10 _ rfl _ _ _ _ _ (rv _) (by omega) (by omega) (hP 0 1 _ _ (Or.inr ⟨hn_, rfl, rfl⟩) (zc_of.g zg.app1) (⟨_, _, _, hX.app, rfl⟩) fun z_ => absurd z_ (by decide))
  · refine hx (_, _) (List.mem_cons.mpr (Or.inr (List.mem_cons.mpr (Or.inl rfl)))) _ _ _ _ rfl ?_
    show S 20 _ [] _ _ _
    refine hs 12 _ rfl _ _ _ _ _ _ _ rfl ?_
    exact hs 13 _ rfl _ _ _ _ _ (rv _) (by omega) (by omega) (hP 0 2 _ _ (Or.inl ⟨y_, Or.inr ⟨hn_, rfl, rfl⟩⟩) (zc_of.g zg.app1) (⟨_, _, _, hX.app, rfl⟩) fun z_ => absurd z_ (by decide))
set_option maxHeartbeats 4000000 in
theorem zc_wtellIf_M {l : Launch} {G : am_G} {X : ck_XT} (g : gM l G X) {x : Nat} {r : Nat → Nat} {jj mm kk : Int} {c : sp_S} {R : Nat → sp_S} {old cnt : Nat} {h : List am_C} (hX : zc_x G h x r jj mm kk c R old cnt){o : Nat} {n0 : Int64} {s0 : Value} (hO : am_g G h o = some (1016, [.long n0, s0])) (ho1 : o < x ∨ x + 228 ≤ o) (ho2 : o ≠ r 4) (ho3 : 1000 ≤ o) {e e2 : Int} (he1 : -2147483648 ≤ e) (he2 : e ≤ 2147483647) (hf1 : -2147483648 ≤ e2) (hf2 : e2 ≤ 2147483647) {mc ms : Nat} {Post : am_O → List am_C → Prop} (hmc : 1 ≤ mc) (hms : 6 ≤ ms)
    (hP : ∀ (a th : Int) (T' : sp_T) (h' : List am_C), sp_d12 e e2 (c, zc_l R old cnt, jj, mm, kk) a th T' → zc_of G h h' x r o → zc_Y G h' x r T' → (th = 0 → am_g G h' o = some (1016, [.long (Int64.ofInt a), s0])) → Post (.inl (some (.int (Int32.ofInt th)))) h') :
    am_M l G yL_tellIf (.codeWith yL_tellIf method_14_code 5 (some .int) [(0, 18, 21, 19), (0, 18, 25, 30)]) 8 167 mc ms [.ref x, .int (Int32.ofInt e), .int (Int32.ofInt e2), .ref o] h Post := by
  refine gh_yL_tellIf_X g (Nat.le_of_ble_eq_true rfl) fun S SX hs hr hw hx => ?_
  have rv : ∀ x : Int32, ck_fv 0 (.int x) := fun x => ⟨_, rfl⟩
  have ok_ := hX.2.2.1
  have okd_ := ok_.1
  have okn_ := ok_.2.1.1
  have okr_ := ok_.2.2.1.1
  have okb_ := ok_.2.2.2.1
  have px_ := hX.2.2.2.2.2.2.2
  refine hs 0 _ rfl _ _ _ _ _ _ _ rfl ?_
  refine hs 1 _ rfl _ _ _ _ _ _ _ rfl ?_
  refine hs 2 _ rfl _ _ _ _ _ _ _ rfl ?_
  refine hs 3 _ rfl _ _ _ _ _ _ _ rfl ?_
  refine zw_cm (hs 4 _ rfl) (a := [.ref x, .int (Int32.ofInt e), .int (Int32.ofInt e2)]) (st := [.ref o]) 1 6 rfl rfl (Nat.le_of_ble_eq_true rfl) ⟨_, _, _, rfl, hX.1, rfl⟩ (by omega) (by omega) (zc_tellIf_M g hX he1 he2 hf1 hf2 (by omega) (by omega) (fun y_ y2_ ft_ h9_ fr_ xX_ => ?_) (fun y_ y2_ ft_ h9_ fr_ x9_ => ?_) (fun hn_ => ?_) (fun y_ hn_ => ?_))
  · show S 7 [some (.ref x), some (.int (Int32.ofInt e)), some (.int (Int32.ofInt e2)), some (.ref o), none] [.int (Int32.ofInt (1 : Int)), .ref o] _ _ _
    refine hs 5 _ rfl _ _ _ _ _ _ (fun zq => absurd (hd_c1z (c := 0) (by omega) (by omega) zq) (by omega : ¬ ((1 : Int) = 0))) (fun _ => ?_)
    refine hs 6 _ rfl _ _ _ _ _ _ _ rfl ?_
    refine hs 7 _ rfl _ _ _ _ _ ?_
    refine zw_U (hs 9 _ rfl) (by omega) (((fr_.2 _ ho1 ho2).trans hO)) rfl ⟨_, rfl⟩ fun hz665 wz666 => ?_
    have wz666 : hd_w G _ hz665 o (1016, [.long (Int64.ofInt (1 : Int)), s0]) := wz666
    have lwz666 := wz666.1
    refine hs 10 _ rfl _ _ _ _ _ ?_
    refine hs 17 _ rfl _ _ _ _ _ _ _ rfl ?_
    exact hs 18 _ rfl _ _ _ _ _ (rv _) (by omega) (by omega) (hP (1 : Int) 0 _ _ (Or.inl ⟨y_, Or.inl ⟨y2_, rfl, Or.inl ⟨ft_, rfl, rfl⟩⟩⟩) ((zc_of.fr fr_).tr (zc_of.w wz666)) (zc_X.out (xX_) wz666 ho1 ho2) fun _ => wz666.at)
  · show S 7 [some (.ref x), some (.int (Int32.ofInt e)), some (.int (Int32.ofInt e2)), some (.ref o), none] [.int (Int32.ofInt (0 : Int)), .ref o] _ _ _
    refine hs 5 _ rfl _ _ _ _ _ _ (fun _ => ?_) (fun zq => absurd (hd_c1t (c := 0) (by omega) (by omega) (by omega : (0 : Int) = 0)) zq)
    refine hs 8 _ rfl _ _ _ _ _ _ _ rfl ?_
    refine zw_U (hs 9 _ rfl) (by omega) (((fr_.2 _ ho1 ho2).trans hO)) rfl ⟨_, rfl⟩ fun hz667 wz668 => ?_
    have wz668 : hd_w G _ hz667 o (1016, [.long (Int64.ofInt (0 : Int)), s0]) := wz668
    have lwz668 := wz668.1
    refine hs 10 _ rfl _ _ _ _ _ ?_
    refine hs 17 _ rfl _ _ _ _ _ _ _ rfl ?_
    exact hs 18 _ rfl _ _ _ _ _ (rv _) (by omega) (by omega) (hP (0 : Int) 0 _ _ (Or.inl ⟨y_, Or.inl ⟨y2_, rfl, Or.inr ⟨ft_, rfl, rfl⟩⟩⟩) ((zc_of.fr fr_).tr (zc_of.w wz668)) (zc_X.out (⟨_, _, _, x9_, rfl⟩) wz668 ho1 ho2) fun _ => wz668.at)
  · refine hx (_, _) (List.mem_cons.mpr (Or.inl rfl)) _ _ _ _ rfl ?_
    show S 23 _ [] _ _ _
    refine hs 12 _ rfl _ _ _ _ _ _ _ rfl ?_
    exact hs 13 _ rfl _ _ _ _ _ (rv _) (by omega) (by omega) (hP 0 1 _ _ (Or.inr ⟨hn_, rfl, rfl⟩) (zc_of.g zg.app1) (⟨_, _, _, hX.app, rfl⟩) fun z_ => absurd z_ (by decide))
  · refine hx (_, _) (List.mem_cons.mpr (Or.inr (List.mem_cons.mpr (Or.inl rfl)))) _ _ _ _ rfl ?_
    show S 27 _ [] _ _ _
    refine hs 15 _ rfl _ _ _ _ _ _ _ rfl ?_
    exact hs 16 _ rfl _ _ _ _ _ (rv _) (by omega) (by omega) (hP 0 2 _ _ (Or.inl ⟨y_, Or.inr ⟨hn_, rfl, rfl⟩⟩) (zc_of.g zg.app1) (⟨_, _, _, hX.app, rfl⟩) fun z_ => absurd z_ (by decide))
set_option maxHeartbeats 4000000 in
theorem zc_wdrop_M {l : Launch} {G : am_G} {X : ck_XT} (g : gM l G X) {x : Nat} {r : Nat → Nat} {jj mm kk : Int} {c : sp_S} {R : Nat → sp_S} {old cnt : Nat} {h : List am_C} (hX : zc_x G h x r jj mm kk c R old cnt){o : Nat} {n0 : Int64} {s0 : Value} (hO : am_g G h o = some (1016, [.long n0, s0])) (ho1 : o < x ∨ x + 228 ≤ o) (ho2 : o ≠ r 4) (ho3 : 1000 ≤ o) {e e2 : Int} (he1 : -2147483648 ≤ e) (he2 : e ≤ 2147483647) {mc ms : Nat} {Post : am_O → List am_C → Prop} (hmc : 1 ≤ mc) (hms : 6 ≤ ms)
    (hP : ∀ (a th : Int) (T' : sp_T) (h' : List am_C), sp_d13 e e2 (c, zc_l R old cnt, jj, mm, kk) a th T' → zc_of G h h' x r o → zc_Y G h' x r T' → (th = 0 → am_g G h' o = some (1016, [.long (Int64.ofInt a), s0])) → Post (.inl (some (.int (Int32.ofInt th)))) h') :
    am_M l G yL_drop (.codeWith yL_drop method_15_code 4 (some .int) [(0, 10, 13, 25)]) 8 144 mc ms [.ref x, .int (Int32.ofInt e), .ref o] h Post := by
  refine gh_yL_drop_X g (Nat.le_of_ble_eq_true rfl) fun S SX hs hr hw hx => ?_
  have rv : ∀ x : Int32, ck_fv 0 (.int x) := fun x => ⟨_, rfl⟩
  have ok_ := hX.2.2.1
  have okd_ := ok_.1
  have okn_ := ok_.2.1.1
  have okr_ := ok_.2.2.1.1
  have okb_ := ok_.2.2.2.1
  have px_ := hX.2.2.2.2.2.2.2
  refine hs 0 _ rfl _ _ _ _ _ _ _ rfl ?_
  refine hs 1 _ rfl _ _ _ _ _ _ _ rfl ?_
  refine hs 2 _ rfl _ _ _ _ _ _ _ rfl ?_
  refine zw_cm (hs 3 _ rfl) (a := [.ref x, .int (Int32.ofInt e)]) (st := [.ref o]) 1 6 rfl rfl (Nat.le_of_ble_eq_true rfl) ⟨_, _, _, rfl, hX.1, rfl⟩ (by omega) (by omega) (zc_drop_M g hX he1 he2 (by omega) (by omega) (fun y_ h9_ fr_ xX_ => ?_) (fun hn_ => ?_))
  · show S 6 [some (.ref x), some (.int (Int32.ofInt e)), some (.ref o), none] [.int (Int32.ofInt ((c.2.2.1.eraseIdx e.toNat).length : Int)), .ref o] _ _ _
    have el_ : (c.2.2.1.eraseIdx e.toNat).length ≤ c.2.2.1.length := List.length_eraseIdx_le _ _
    refine hs 4 _ rfl _ _ _ _ _ _ _ (hd_i2l (by omega) (by omega)) ?_
    refine zw_U (hs 5 _ rfl) (by omega) (((fr_.2 _ ho1 ho2).trans hO)) rfl ⟨_, rfl⟩ fun hz669 wz670 => ?_
    have wz670 : hd_w G _ hz669 o (1016, [.long (Int64.ofInt ((c.2.2.1.eraseIdx e.toNat).length : Int)), s0]) := wz670
    have lwz670 := wz670.1
    refine hs 6 _ rfl _ _ _ _ _ ?_
    refine hs 10 _ rfl _ _ _ _ _ _ _ rfl ?_
    exact hs 11 _ rfl _ _ _ _ _ (rv _) (by omega) (by omega) (hP ((c.2.2.1.eraseIdx e.toNat).length : Int) 0 _ _ (Or.inl ⟨y_, rfl, rfl, rfl⟩) ((zc_of.fr fr_).tr (zc_of.w wz670)) (zc_X.out (xX_) wz670 ho1 ho2) fun _ => wz670.at)
  · refine hx (_, _) (List.mem_cons.mpr (Or.inl rfl)) _ _ _ _ rfl ?_
    show S 14 _ [] _ _ _
    refine hs 8 _ rfl _ _ _ _ _ _ _ rfl ?_
    exact hs 9 _ rfl _ _ _ _ _ (rv _) (by omega) (by omega) (hP 0 1 _ _ (Or.inr ⟨hn_, rfl, rfl⟩) (zc_of.g zg.app1) (⟨_, _, _, hX.app, rfl⟩) fun z_ => absurd z_ (by decide))
set_option maxHeartbeats 4000000 in
theorem zc_wbase_M {l : Launch} {G : am_G} {X : ck_XT} (g : gM l G X) {x : Nat} {r : Nat → Nat} {jj mm kk : Int} {c : sp_S} {R : Nat → sp_S} {old cnt : Nat} {h : List am_C} (hX : zc_x G h x r jj mm kk c R old cnt){o : Nat} {n0 : Int64} {s0 : Value} (hO : am_g G h o = some (1016, [.long n0, s0])) (ho1 : o < x ∨ x + 228 ≤ o) (ho2 : o ≠ r 4) (ho3 : 1000 ≤ o) {e e2 : Int} (he1 : -2147483648 ≤ e) (he2 : e ≤ 2147483647) {mc ms : Nat} {Post : am_O → List am_C → Prop} (hmc : 1 ≤ mc) (hms : 6 ≤ ms)
    (hP : ∀ (a th : Int) (T' : sp_T) (h' : List am_C), sp_d14 e e2 (c, zc_l R old cnt, jj, mm, kk) a th T' → zc_of G h h' x r o → zc_Y G h' x r T' → (th = 0 → am_g G h' o = some (1016, [.long (Int64.ofInt a), s0])) → Post (.inl (some (.int (Int32.ofInt th)))) h') :
    am_M l G yL_base (.codeWith yL_base method_16_code 4 (some .int) [(0, 10, 13, 19), (0, 10, 16, 30)]) 7 144 mc ms [.ref x, .int (Int32.ofInt e), .ref o] h Post := by
  refine gh_yL_base_X g (Nat.le_of_ble_eq_true rfl) fun S SX hs hr hw hx => ?_
  have rv : ∀ x : Int32, ck_fv 0 (.int x) := fun x => ⟨_, rfl⟩
  have ok_ := hX.2.2.1
  have okd_ := ok_.1
  have okn_ := ok_.2.1.1
  have okr_ := ok_.2.2.1.1
  have okb_ := ok_.2.2.2.1
  have px_ := hX.2.2.2.2.2.2.2
  refine hs 0 _ rfl _ _ _ _ _ _ _ rfl ?_
  refine hs 1 _ rfl _ _ _ _ _ _ _ rfl ?_
  refine hs 2 _ rfl _ _ _ _ _ _ _ rfl ?_
  refine zw_cm (hs 3 _ rfl) (a := [.ref x, .int (Int32.ofInt e)]) (st := [.ref o]) 1 6 rfl rfl (Nat.le_of_ble_eq_true rfl) ⟨_, _, _, rfl, hX.1, rfl⟩ (by omega) (by omega) (zc_base_M g hX he1 he2 (by omega) (by omega) (fun y_ y2_ h9_ fr_ xX_ => ?_) (fun hn_ => ?_) (fun y_ hn_ => ?_))
  · show S 6 [some (.ref x), some (.int (Int32.ofInt e)), some (.ref o), none] [.int (Int32.ofInt (c.2.2.2.length : Int)), .ref o] _ _ _
    refine hs 4 _ rfl _ _ _ _ _ _ _ (hd_i2l (by omega) (by omega)) ?_
    refine zw_U (hs 5 _ rfl) (by omega) (((fr_.2 _ ho1 ho2).trans hO)) rfl ⟨_, rfl⟩ fun hz671 wz672 => ?_
    have wz672 : hd_w G _ hz671 o (1016, [.long (Int64.ofInt (c.2.2.2.length : Int)), s0]) := wz672
    have lwz672 := wz672.1
    refine hs 6 _ rfl _ _ _ _ _ ?_
    refine hs 13 _ rfl _ _ _ _ _ _ _ rfl ?_
    exact hs 14 _ rfl _ _ _ _ _ (rv _) (by omega) (by omega) (hP (c.2.2.2.length : Int) 0 _ _ (Or.inl ⟨y_, Or.inl ⟨y2_, rfl, rfl, rfl⟩⟩) ((zc_of.fr fr_).tr (zc_of.w wz672)) (zc_X.out (xX_) wz672 ho1 ho2) fun _ => wz672.at)
  · refine hx (_, _) (List.mem_cons.mpr (Or.inl rfl)) _ _ _ _ rfl ?_
    show S 14 _ [] _ _ _
    refine hs 8 _ rfl _ _ _ _ _ _ _ rfl ?_
    exact hs 9 _ rfl _ _ _ _ _ (rv _) (by omega) (by omega) (hP 0 1 _ _ (Or.inr ⟨hn_, rfl, rfl⟩) (zc_of.g zg.app1) (⟨_, _, _, hX.app, rfl⟩) fun z_ => absurd z_ (by decide))
  · refine hx (_, _) (List.mem_cons.mpr (Or.inr (List.mem_cons.mpr (Or.inl rfl)))) _ _ _ _ rfl ?_
    show S 17 _ [] _ _ _
    refine hs 11 _ rfl _ _ _ _ _ _ _ rfl ?_
    exact hs 12 _ rfl _ _ _ _ _ (rv _) (by omega) (by omega) (hP 0 2 _ _ (Or.inl ⟨y_, Or.inr ⟨hn_, rfl, rfl⟩⟩) (zc_of.g zg.app1) (⟨_, _, _, hX.app, rfl⟩) fun z_ => absurd z_ (by decide))
set_option maxHeartbeats 4000000 in
theorem zc_wunbase_M {l : Launch} {G : am_G} {X : ck_XT} (g : gM l G X) {x : Nat} {r : Nat → Nat} {jj mm kk : Int} {c : sp_S} {R : Nat → sp_S} {old cnt : Nat} {h : List am_C} (hX : zc_x G h x r jj mm kk c R old cnt){o : Nat} {n0 : Int64} {s0 : Value} (hO : am_g G h o = some (1016, [.long n0, s0])) (ho1 : o < x ∨ x + 228 ≤ o) (ho2 : o ≠ r 4) (ho3 : 1000 ≤ o) {e e2 : Int}  {mc ms : Nat} {Post : am_O → List am_C → Prop} (hmc : 1 ≤ mc) (hms : 6 ≤ ms)
    (hP : ∀ (a th : Int) (T' : sp_T) (h' : List am_C), sp_d15 e e2 (c, zc_l R old cnt, jj, mm, kk) a th T' → zc_of G h h' x r o → zc_Y G h' x r T' → (th = 0 → am_g G h' o = some (1016, [.long (Int64.ofInt a), s0])) → Post (.inl (some (.int (Int32.ofInt th)))) h') :
    am_M l G yL_unbase (.codeWith yL_unbase method_17_code 3 (some .int) [(0, 9, 12, 30)]) 7 143 mc ms [.ref x, .ref o] h Post := by
  refine gh_yL_unbase_X g (Nat.le_of_ble_eq_true rfl) fun S SX hs hr hw hx => ?_
  have rv : ∀ x : Int32, ck_fv 0 (.int x) := fun x => ⟨_, rfl⟩
  have ok_ := hX.2.2.1
  have okd_ := ok_.1
  have okn_ := ok_.2.1.1
  have okr_ := ok_.2.2.1.1
  have okb_ := ok_.2.2.2.1
  have px_ := hX.2.2.2.2.2.2.2
  refine hs 0 _ rfl _ _ _ _ _ _ _ rfl ?_
  refine hs 1 _ rfl _ _ _ _ _ _ _ rfl ?_
  refine zw_cm (hs 2 _ rfl) (a := [.ref x]) (st := [.ref o]) 1 6 rfl rfl (Nat.le_of_ble_eq_true rfl) ⟨_, _, _, rfl, hX.1, rfl⟩ (by omega) (by omega) (zc_unbase_M g hX  (by omega) (by omega) (fun B_ b_ y_ h9_ fr_ xX_ => ?_) (fun hn_ => ?_))
  · show S 5 [some (.ref x), some (.ref o), none] [.int (Int32.ofInt b_), .ref o] _ _ _
    have bb_ := ok_.2.2.2.2 b_ (by rw [y_]; exact List.mem_append_right _ (List.mem_singleton.mpr rfl))
    refine hs 3 _ rfl _ _ _ _ _ _ _ (hd_i2l (by omega) (by omega)) ?_
    refine zw_U (hs 4 _ rfl) (by omega) (((fr_.2 _ ho1 ho2).trans hO)) rfl ⟨_, rfl⟩ fun hz673 wz674 => ?_
    have wz674 : hd_w G _ hz673 o (1016, [.long (Int64.ofInt b_), s0]) := wz674
    have lwz674 := wz674.1
    refine hs 5 _ rfl _ _ _ _ _ ?_
    refine hs 9 _ rfl _ _ _ _ _ _ _ rfl ?_
    exact hs 10 _ rfl _ _ _ _ _ (rv _) (by omega) (by omega) (hP b_ 0 _ _ (Or.inl ⟨B_, b_, y_, rfl, rfl, rfl⟩) ((zc_of.fr fr_).tr (zc_of.w wz674)) (zc_X.out (xX_) wz674 ho1 ho2) fun _ => wz674.at)
  · refine hx (_, _) (List.mem_cons.mpr (Or.inl rfl)) _ _ _ _ rfl ?_
    show S 13 _ [] _ _ _
    refine hs 7 _ rfl _ _ _ _ _ _ _ rfl ?_
    exact hs 8 _ rfl _ _ _ _ _ (rv _) (by omega) (by omega) (hP 0 1 _ _ (Or.inr ⟨hn_, rfl, rfl⟩) (zc_of.g zg.app1) (⟨_, _, _, hX.app, rfl⟩) fun z_ => absurd z_ (by decide))
set_option maxHeartbeats 4000000 in
theorem zc_wundo_M {l : Launch} {G : am_G} {X : ck_XT} (g : gM l G X) {x : Nat} {r : Nat → Nat} {jj mm kk : Int} {c : sp_S} {R : Nat → sp_S} {old cnt : Nat} {h : List am_C} (hX : zc_x G h x r jj mm kk c R old cnt){o : Nat} {n0 : Int64} {s0 : Value} (hO : am_g G h o = some (1016, [.long n0, s0])) (ho1 : o < x ∨ x + 228 ≤ o) (ho2 : o ≠ r 4) (ho3 : 1000 ≤ o) {e e2 : Int}  {mc ms : Nat} {Post : am_O → List am_C → Prop} (hmc : 1 ≤ mc) (hms : 6 ≤ ms)
    (hP : ∀ (a th : Int) (T' : sp_T) (h' : List am_C), sp_d16 e e2 (c, zc_l R old cnt, jj, mm, kk) a th T' → zc_of G h h' x r o → zc_Y G h' x r T' → (th = 0 → am_g G h' o = some (1016, [.long (Int64.ofInt a), s0])) → Post (.inl (some (.int (Int32.ofInt th)))) h') :
    am_M l G yL_undo (.codeWith yL_undo method_18_code 3 (some .int) [(0, 9, 12, 30)]) 7 143 mc ms [.ref x, .ref o] h Post := by
  refine gh_yL_undo_X g (Nat.le_of_ble_eq_true rfl) fun S SX hs hr hw hx => ?_
  have rv : ∀ x : Int32, ck_fv 0 (.int x) := fun x => ⟨_, rfl⟩
  have ok_ := hX.2.2.1
  have okd_ := ok_.1
  have okn_ := ok_.2.1.1
  have okr_ := ok_.2.2.1.1
  have okb_ := ok_.2.2.2.1
  have px_ := hX.2.2.2.2.2.2.2
  refine hs 0 _ rfl _ _ _ _ _ _ _ rfl ?_
  refine hs 1 _ rfl _ _ _ _ _ _ _ rfl ?_
  refine zw_cm (hs 2 _ rfl) (a := [.ref x]) (st := [.ref o]) 1 6 rfl rfl (Nat.le_of_ble_eq_true rfl) ⟨_, _, _, rfl, hX.1, rfl⟩ (by omega) (by omega) (zc_undo_M g hX  (by omega) (by omega) (fun P_ s_ y_ h9_ fr_ xX_ => ?_) (fun hn_ => ?_))
  · show S 5 [some (.ref x), some (.ref o), none] [.int (Int32.ofInt (P_.length : Int)), .ref o] _ _ _
    have pl_ : P_.length + 1 ≤ 12 := by
      have z_ := congrArg List.length y_
      rw [zc_l_len, List.length_append, List.length_singleton] at z_
      have := hX.2.2.2.1.2.2.2.2
      omega
    refine hs 3 _ rfl _ _ _ _ _ _ _ (hd_i2l (by omega) (by omega)) ?_
    refine zw_U (hs 4 _ rfl) (by omega) (((fr_.2 _ ho1 ho2).trans hO)) rfl ⟨_, rfl⟩ fun hz675 wz676 => ?_
    have wz676 : hd_w G _ hz675 o (1016, [.long (Int64.ofInt (P_.length : Int)), s0]) := wz676
    have lwz676 := wz676.1
    refine hs 5 _ rfl _ _ _ _ _ ?_
    refine hs 9 _ rfl _ _ _ _ _ _ _ rfl ?_
    exact hs 10 _ rfl _ _ _ _ _ (rv _) (by omega) (by omega) (hP (P_.length : Int) 0 _ _ (Or.inl ⟨P_, s_, y_, rfl, rfl, rfl⟩) ((zc_of.fr fr_).tr (zc_of.w wz676)) (zc_X.out (xX_) wz676 ho1 ho2) fun _ => wz676.at)
  · refine hx (_, _) (List.mem_cons.mpr (Or.inl rfl)) _ _ _ _ rfl ?_
    show S 13 _ [] _ _ _
    refine hs 7 _ rfl _ _ _ _ _ _ _ rfl ?_
    exact hs 8 _ rfl _ _ _ _ _ (rv _) (by omega) (by omega) (hP 0 1 _ _ (Or.inr ⟨hn_, rfl, rfl⟩) (zc_of.g zg.app1) (⟨_, _, _, hX.app, rfl⟩) fun z_ => absurd z_ (by decide))
set_option maxHeartbeats 4000000 in
theorem zc_knock_M {l : Launch} {G : am_G} {X : ck_XT} (g : gM l G X) {x : Nat} {r : Nat → Nat} {jj mm kk : Int} {c : sp_S} {R : Nat → sp_S} {old cnt : Nat} {h : List am_C} (hX : zc_x G h x r jj mm kk c R old cnt){e e2 : Int} {mc ms : Nat} {Post : am_O → List am_C → Prop}
    (hP : ∀ (a th : Int) (T' : sp_T) (h' : List am_C), sp_d17 e e2 (c, zc_l R old cnt, jj, mm, kk) a th T' → zc_fr G h h' x r → zc_Y G h' x r T' → Post (.inl (some (.int (Int32.ofInt a)))) h') :
    am_M l G yX10_knock (.code yX10_knock prog_1_method_19_code 1 (some .int)) 1 20 mc ms [.ref x] h Post := by
  refine gh_yX10_knock_X g (Nat.le_of_ble_eq_true rfl) fun S SX hs hr hw hx => ?_
  have rv : ∀ x : Int32, ck_fv 0 (.int x) := fun x => ⟨_, rfl⟩
  have px_ := hX.2.2.2.2.2.2.2
  refine hs 0 _ rfl _ _ _ _ _ _ _ rfl ?_
  refine hs 1 _ rfl _ _ _ _ _ _ _ rfl ?_
  refine hs 2 _ rfl _ _ _ _ _ _ _ _ _ (hX.1) rfl rfl ?_
  refine hs 3 _ rfl _ _ _ _ _ _ _ rfl ?_
  refine hs 4 _ rfl _ _ _ _ _ _ _ hd_add ?_
  refine zw_U (hs 5 _ rfl) (by omega) (hX.1) rfl ⟨_, rfl⟩ fun hz677 wz678 => ?_
  have wz678 : hd_w G h hz677 x (1015, [.ref (x + 1), .ref (x + 18), .int (Int32.ofInt jj), .int (Int32.ofInt mm), .int (Int32.ofInt (kk + (1 : Int))), .ref (x + 224), .ref (x + 226), .ref (r 0), .ref (r 1), .ref (r 2), .ref (r 3), .ref (r 4), .ref (r 5)]) := wz678
  have lwz678 := wz678.1
  refine hs 6 _ rfl _ _ _ _ _ _ _ rfl ?_
  refine hs 7 _ rfl _ _ _ _ _ _ _ _ _ (wz678.at) rfl rfl ?_
  exact hs 8 _ rfl _ _ _ _ _ (rv _) (Nat.zero_le _) (Nat.zero_le _) (hP _ _ _ _ ⟨rfl, rfl, rfl⟩ (zc_fr.of (zw_f.w (lo := x) (n := 228) wz678 (by omega) (by omega)) (by omega) (by omega)) ⟨_, _, _, hX.own wz678, rfl⟩)
set_option maxHeartbeats 4000000 in
theorem zc_size9_M {l : Launch} {G : am_G} {X : ck_XT} (g : gM l G X) {x : Nat} {r : Nat → Nat} {jj mm kk : Int} {c : sp_S} {R : Nat → sp_S} {old cnt : Nat} {h : List am_C} (hX : zc_x G h x r jj mm kk c R old cnt){mc ms : Nat} {Post : am_O → List am_C → Prop}
    (hP : Post (.inl (some (.int (Int32.ofInt c.1)))) h) :
    am_M l G yX10_size (.code yX10_size prog_1_method_26_code 1 (some .int)) 1 20 mc ms [.ref x] h Post := by
  refine gh_yX10_size_X g (Nat.le_of_ble_eq_true rfl) fun S SX hs hr hw hx => ?_
  have rv : ∀ x : Int32, ck_fv 0 (.int x) := fun x => ⟨_, rfl⟩
  refine hs 0 _ rfl _ _ _ _ _ _ _ rfl ?_
  refine hs 1 _ rfl _ _ _ _ _ _ _ _ _ (hX.1) rfl rfl ?_
  refine hs 2 _ rfl _ _ _ _ _ _ _ _ _ (hX.2.1.d) rfl rfl ?_
  exact hs 3 _ rfl _ _ _ _ _ (rv _) (Nat.zero_le _) (Nat.zero_le _) hP
