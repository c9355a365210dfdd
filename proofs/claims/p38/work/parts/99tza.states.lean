/-! STATES OF THE REFERENCE -/
/-- two cells of different kinds are two -/
theorem zg_ne {G : am_G} {h : List am_C} {a b ta tb : Nat} {va vb : List Value} (h1 : am_g G h a = some (ta, va)) (h2 : am_g G h b = some (tb, vb)) (hk : ta % 100 ≠ tb % 100) : a ≠ b := fun e => by
  rw [e, h2] at h1
  have e2_ := congrArg Prod.fst (Option.some.inj h1)
  dsimp only at e2_
  exact hk (by rw [e2_])
/-- a list of references, its row, and whose they are -/
def zm_l (G : am_G) (h : List am_C) (o : Nat → Nat) (q lab : Nat) (vs : List Nat) : Prop := ∃ (p N t tr : Nat) (mo : Int), am_g G h q = some (t, [.int (Int32.ofInt mo), .ref p, .int (Int32.ofInt (vs.length : Int))]) ∧ t % 100 = 6 ∧ am_g G h p = some (tr, zl_ws N vs) ∧ tr % 100 = 56 ∧ (vs.length ≤ N ∧ 1000 ≤ q) ∧ ((N = 0 ∧ p = 4) ∨ (N = 10 ∧ 1000 ≤ p) ∨ (N = 15 ∧ 1000 ≤ p)) ∧ o q = lab ∧ (1000 ≤ p → o p = 8 * q + 4)
theorem zm_norm (mo : Int) : ∃ m_ : Int, Int32.ofInt mo = Int32.ofInt m_ ∧ -2147483648 ≤ m_ ∧ m_ ≤ 2147483647 := ⟨(Int32.ofInt mo).toInt, by rw [Int32.ofInt_toInt], (li_i32 _).1, (li_i32 _).2⟩
/-- the same, to be read -/
theorem zm_l.L {G : am_G} {h : List am_C} {o : Nat → Nat} {q lab : Nat} {vs : List Nat} (a : zm_l G h o q lab vs) : ∃ (p N : Nat) (mo : Int), zl_L G h q p N mo vs ∧ -2147483648 ≤ mo ∧ mo ≤ 2147483647 := by
  obtain ⟨p_, N_, t_, tr_, mo_, a1_, a2_, a3_, a4_, ⟨a5_, a6_⟩, a7_, -⟩ := a
  obtain ⟨m_, b1_, b2_, b3_⟩ := zm_norm mo_
  rw [b1_] at a1_
  exact ⟨p_, N_, m_, ⟨t_, tr_, _, a1_, a2_, a3_, a4_, zl_ws_len, a5_, by omega, fun i v hv => zl_ws_get hv a5_⟩, b2_, b3_⟩
/-- a row: rest and size -/
def zm_r (G : am_G) (h : List am_C) (v : Nat) (r : Int × Int) : Prop := ∃ t : Nat, am_g G h v = some (t, hd_r [r.1, r.2]) ∧ t % 100 = 50
def zm_i (G : am_G) (h : List am_C) (v : Nat) (b : Int) : Prop := ∃ t : Nat, am_g G h v = some (t, [.int (Int32.ofInt b)]) ∧ t % 100 = 2
theorem zm_r.g {G : am_G} {h h' : List am_C} {v : Nat} {r : Int × Int} (a : zm_r G h v r) (f : zg G h h') : zm_r G h' v r := by
  obtain ⟨t_, a1_, a2_⟩ := a
  exact ⟨t_, f.2 _ _ a1_, a2_⟩
theorem zm_i.g {G : am_G} {h h' : List am_C} {v : Nat} {b : Int} (a : zm_i G h v b) (f : zg G h h') : zm_i G h' v b := by
  obtain ⟨t_, a1_, a2_⟩ := a
  exact ⟨t_, f.2 _ _ a1_, a2_⟩
/-- the state at s -/
def zm_s (G : am_G) (h : List am_C) (o : Nat → Nat) (s : Nat) (c : sp_S) : Prop := ∃ (t qn tn ql qb : Nat) (vn vl vb : List Nat), am_g G h s = some (t, [.int (Int32.ofInt c.1), .ref qn, .ref ql, .ref qb]) ∧ (t % 100 = 18 ∧ 1000 ≤ s) ∧
  (am_g G h qn = some (tn, vn.map fun v => Value.ref v) ∧ tn % 100 = 55 ∧ 1000 ≤ qn ∧ o qn = 8 * s + 1) ∧ (zm_l G h o ql (8 * s + 2) vl ∧ zm_l G h o qb (8 * s + 3) vb) ∧
  (vn.length = c.2.1.length ∧ ∀ (i v : Nat) (z : Int), vn[i]? = some v → c.2.1[i]? = some z → zn_N G h v z) ∧ (vl.length = c.2.2.1.length ∧ ∀ (i v : Nat) (r : Int × Int), vl[i]? = some v → c.2.2.1[i]? = some r → zm_r G h v r) ∧ (vb.length = c.2.2.2.length ∧ ∀ (i v : Nat) (b : Int), vb[i]? = some v → c.2.2.2[i]? = some b → zm_i G h v b)
/-- what has changed lies where D says, by the address and the kind of the cell -/
def zm_f (G : am_G) (o o' : Nat → Nat) (h h' : List am_C) (D : Nat → Nat → Prop) : Prop := h.length ≤ h'.length ∧ (∀ x, x < 1000 + h.length → o' x = o x) ∧ ∀ (x t : Nat) (vs : List Value), am_g G h x = some (t, vs) → ¬ D x (t % 100) → am_g G h' x = some (t, vs)
theorem zm_f.tr {G : am_G} {o o1 o2 : Nat → Nat} {h h1 h2 : List am_C} {D D1 D2 : Nat → Nat → Prop} (a : zm_f G o o1 h h1 D1) (b : zm_f G o1 o2 h1 h2 D2) (hD1 : ∀ x k, D1 x k → D x k) (hD2 : ∀ x k, x < 1000 + h.length → o1 x = o x → D2 x k → D x k) : zm_f G o o2 h h2 D := ⟨Nat.le_trans a.1 b.1, fun x hx => (b.2.1 x (by have := a.1; omega)).trans (a.2.1 x hx), fun x t vs e hn => b.2.2 x t vs (a.2.2 x t vs e fun y_ => hn (hD1 _ _ y_)) fun y_ => hn (hD2 _ _ (zg_lt e) (a.2.1 x (zg_lt e)) y_)⟩
theorem zm_f.g {G : am_G} {o o' : Nat → Nat} {h h' : List am_C} {D : Nat → Nat → Prop} (a : zg G h h') (ho : ∀ x, x < 1000 + h.length → o' x = o x) : zm_f G o o' h h' D := ⟨a.1, ho, fun x t vs e _ => a.2 _ _ e⟩
theorem zm_f.w {G : am_G} {o : Nat → Nat} {h h' : List am_C} {q t : Nat} {vs : List Value} {c : am_C} {D : Nat → Nat → Prop} (hg : am_g G h q = some (t, vs)) (w : hd_w G h h' q c) (hD : D q (t % 100)) : zm_f G o o h h' D := ⟨Nat.le_of_eq w.1.symm, fun _ _ => rfl, fun x t2 v2 e hn => (w.ne fun y_ => hn (by
  rw [y_, hg] at e
  have e2_ := congrArg Prod.fst (Option.some.inj e)
  dsimp only at e2_
  rw [y_, ← e2_]
  exact hD)).trans e⟩
/-- D leaves constants, numbers, rows, boxes alone -/
def zm_ok (D : Nat → Nat → Prop) : Prop := ∀ x k, D x k → 1000 ≤ x ∧ (k = 19 ∨ k = 18 ∨ k = 55 ∨ k = 6 ∨ k = 56)
theorem zm_l.f {G : am_G} {o o' : Nat → Nat} {h h' : List am_C} {D : Nat → Nat → Prop} {q lab : Nat} {vs : List Nat} (a : zm_l G h o q lab vs) (f : zm_f G o o' h h' D) (hk : zm_ok D) (h1 : ¬ D q 6) (h2 : ∀ p, o p = 8 * q + 4 → ¬ D p 56) : zm_l G h' o' q lab vs := by
  obtain ⟨p_, N_, t_, tr_, mo_, a1_, a2_, a3_, a4_, a5_, a6_, a7_, a8_⟩ := a
  refine ⟨p_, N_, t_, tr_, mo_, f.2.2 _ _ _ a1_ (by rw [a2_]; exact h1), a2_, f.2.2 _ _ _ a3_ ?_, a4_, a5_, a6_, (f.2.1 _ (zg_lt a1_)).trans a7_, fun hp => (f.2.1 _ (zg_lt a3_)).trans (a8_ hp)⟩
  rw [a4_]
  intro hD
  exact h2 p_ (a8_ (hk _ _ hD).1) hD
theorem zm_r.f {G : am_G} {o o' : Nat → Nat} {h h' : List am_C} {D : Nat → Nat → Prop} {v : Nat} {r : Int × Int} (a : zm_r G h v r) (f : zm_f G o o' h h' D) (hk : zm_ok D) : zm_r G h' v r := by
  obtain ⟨t_, a1_, a2_⟩ := a
  exact ⟨t_, f.2.2 _ _ _ a1_ fun hD => by have := (hk _ _ hD).2; omega, a2_⟩
theorem zm_i.f {G : am_G} {o o' : Nat → Nat} {h h' : List am_C} {D : Nat → Nat → Prop} {v : Nat} {b : Int} (a : zm_i G h v b) (f : zm_f G o o' h h' D) (hk : zm_ok D) : zm_i G h' v b := by
  obtain ⟨t_, a1_, a2_⟩ := a
  exact ⟨t_, f.2.2 _ _ _ a1_ fun hD => by have := (hk _ _ hD).2; omega, a2_⟩
theorem zn_N.f {G : am_G} {o o' : Nat → Nat} {h h' : List am_C} {D : Nat → Nat → Prop} {q : Nat} {z : Int} (a : zn_N G h q z) (f : zm_f G o o' h h' D) (hk : zm_ok D) : zn_N G h' q z := by
  obtain ⟨t_, d_, td_, b_, ds_, a1_, a2_, a3_, a4_, a5_⟩ := a
  exact ⟨t_, d_, td_, b_, ds_, f.2.2 _ _ _ a1_ (fun hD => by have := (hk _ _ hD).2; omega), a2_, f.2.2 _ _ _ a3_ (fun hD => by have := (hk _ _ hD).2; omega), a4_, a5_⟩
/-- D leaves the state s alone -/
def zm_no (o : Nat → Nat) (s : Nat) (D : Nat → Nat → Prop) : Prop := zm_ok D ∧ ¬ D s 18 ∧ (∀ x, o x = 8 * s + 1 → ¬ D x 55) ∧ (∀ x, o x = 8 * s + 2 ∨ o x = 8 * s + 3 → ¬ D x 6 ∧ ∀ p, o p = 8 * x + 4 → ¬ D p 56)
theorem zm_s.f {G : am_G} {o o' : Nat → Nat} {h h' : List am_C} {D : Nat → Nat → Prop} {s : Nat} {c : sp_S} (a : zm_s G h o s c) (f : zm_f G o o' h h' D) (hk : zm_no o s D) : zm_s G h' o' s c := by
  obtain ⟨t_, qn_, tn_, ql_, qb_, vn_, vl_, vb_, a1_, a2_, ⟨b1_, b2_, b3_, b4_⟩, ⟨c1_, c2_⟩, ⟨d1_, d2_⟩, ⟨e1_, e2_⟩, ⟨f1_, f2_⟩⟩ := a
  obtain ⟨k0_, k1_, k2_, k3_⟩ := hk
  have l1_ : o ql_ = 8 * s + 2 := by obtain ⟨_, _, _, _, _, -, -, -, -, -, -, z_, -⟩ := c1_; exact z_
  have l2_ : o qb_ = 8 * s + 3 := by obtain ⟨_, _, _, _, _, -, -, -, -, -, -, z_, -⟩ := c2_; exact z_
  refine ⟨t_, qn_, tn_, ql_, qb_, vn_, vl_, vb_, f.2.2 _ _ _ a1_ (by rw [a2_.1]; exact k1_), a2_, ⟨f.2.2 _ _ _ b1_ (by rw [b2_]; exact k2_ _ b4_), b2_, b3_, (f.2.1 _ (zg_lt b1_)).trans b4_⟩, ⟨c1_.f f k0_ (k3_ _ (Or.inl l1_)).1 (k3_ _ (Or.inl l1_)).2, c2_.f f k0_ (k3_ _ (Or.inr l2_)).1 (k3_ _ (Or.inr l2_)).2⟩, ⟨d1_, fun i v z h1 h2 => (d2_ i v z h1 h2).f f k0_⟩, ⟨e1_, fun i v z h1 h2 => (e2_ i v z h1 h2).f f k0_⟩, ⟨f1_, fun i v z h1 h2 => (f2_ i v z h1 h2).f f k0_⟩⟩
theorem zm_no.no {o : Nat → Nat} {s : Nat} : zm_no o s (fun _ _ => False) := ⟨fun _ _ h => h.elim, id, fun _ _ h => h, fun _ _ => ⟨id, fun _ _ h => h⟩⟩
/-- clone of a row of NUMBERS -/
theorem zw_cl {G : am_G} {src t : Nat} {vs : List Nat} {h : List am_C} (h0 : 1000 ≤ src) (hg : am_g G h src = some (t, vs.map fun v => Value.ref v)) (ht : t % 100 = 55) {mc ms : Nat} (hmc : 1 ≤ mc) (hms : vs.length ≤ ms) {P : am_O → List am_C → Prop} (hP : ∀ (h' : List am_C) (a : Nat), a = 1000 + h.length → h'.length = h.length + 1 → zg G h h' → am_g G h' a = some (55, vs.map fun v => Value.ref v) → P (.inl (some (.ref a))) h') : ck_clM G 55 [.ref src] h mc ms P := by
  refine ⟨src, t, 55, _, rfl, h0, hg, ⟨ht, rfl⟩, fun j v hv => ?_, hmc, by rw [List.length_map]; exact hms, ?_⟩
  · rw [List.getElem?_map] at hv
    cases e_ : vs[j]? with
    | none => rw [e_] at hv; cases hv
    | some w_ => rw [e_] at hv; cases hv; rfl
  · exact hP _ _ rfl (by rw [List.length_append]; rfl) ⟨by rw [List.length_append]; omega, fun p c hg => hd_old hg⟩ hd_new
set_option maxHeartbeats 4000000 in
theorem zs_init_M {l : Launch} {G : am_G} {X : ck_XT} (g : gM l G X) {s t qn : Nat} {x0 x1 x2 x3 : Value} {h : List am_C} (hg : am_g G h s = some (t, [x0, x1, x2, x3])) (ht : t % 100 = 18) (hs_ : 1000 ≤ s) {mc ms : Nat} {Post : am_O → List am_C → Prop} (hmc : 2 ≤ mc) (hms : 6 ≤ ms)
    (hP : ∀ (h' : List am_C) (a b : Nat), zk G h h' (fun x => x = s) → 1000 + h.length ≤ a → 1000 + h.length ≤ b → a ≠ b → am_g G h' s = some (t, [.int (Int32.ofInt 12), .ref qn, .ref a, .ref b]) → am_g G h' a = some (6, [.int (Int32.ofInt 0), .ref 4, .int 0]) → am_g G h' b = some (6, [.int (Int32.ofInt 0), .ref 4, .int 0]) → Post (.inl none) h') :
    am_M l G yX13_init (.code yX13_init prog_16_method_1_code 2 none) 4 80 mc ms [.ref s, .ref qn] h Post := by
  refine gh_yX13_init_X g (Nat.le_of_ble_eq_true rfl) fun S SX hs hr hw hx => ?_
  have rv : ∀ x : Int32, ck_fv 0 (.int x) := fun x => ⟨_, rfl⟩
  have ls_ := zg_lt hg
  refine hs 0 _ rfl _ _ _ _ _ _ _ rfl ?_
  refine hs 1 _ rfl _ _ _ _ _ _ rfl (Nat.le_of_ble_eq_true rfl) ?_
  refine hs 2 _ rfl _ _ _ _ _ _ _ rfl ?_
  refine hs 3 _ rfl _ _ _ _ _ _ _ rfl ?_
  refine zw_U (hs 4 _ rfl) (by omega) (hg) ht ⟨_, rfl⟩ fun hz253 wz254 => ?_
  have wz254 : hd_w G h hz253 s (t, [.int (Int32.ofInt (12 : Int)), x1, x2, x3]) := wz254
  have lwz254 := wz254.1
  refine hs 5 _ rfl _ _ _ _ _ _ _ rfl ?_
  refine zw_W (G := G) (hs 6 _ rfl) (t := 6) (vs := [.int 0, .null, .int 0]) (m := 3) rfl rfl rfl (by omega) (by omega) fun hz255 az256 ez257 lz258 gz259 cz260 => ?_
  refine hs 7 _ rfl _ _ _ _ _ _ _ rfl ?_
  refine zw_cn (hs 8 _ rfl) (a := [.ref az256]) (st := [.ref az256, .ref s]) rfl rfl (Nat.le_of_ble_eq_true rfl) ⟨_, _, _, rfl, (cz260), rfl⟩ (by omega) (by omega) (⟨zl_init_M g (cz260) rfl (by omega) fun hl1_ wl1_ => ?_, fun _ _ h9 => h9⟩)
  have lwl1_ := wl1_.1
  show S 18 [some (.ref s), some (.ref qn)] [.ref az256, .ref s] _ _ _
  refine zw_U (hs 9 _ rfl) (by omega) ((wl1_.ne (by omega)).trans ((gz259.2 _ _ wz254.at))) ht (Or.inl ⟨_, rfl⟩) fun hz261 wz262 => ?_
  have wz262 : hd_w G hl1_ hz261 s (t, [.int (Int32.ofInt (12 : Int)), x1, .ref az256, x3]) := wz262
  have lwz262 := wz262.1
  refine hs 10 _ rfl _ _ _ _ _ _ _ rfl ?_
  refine zw_W (G := G) (hs 11 _ rfl) (t := 6) (vs := [.int 0, .null, .int 0]) (m := 3) rfl rfl rfl (by omega) (by omega) fun hz263 az264 ez265 lz266 gz267 cz268 => ?_
  refine hs 12 _ rfl _ _ _ _ _ _ _ rfl ?_
  refine zw_cn (hs 13 _ rfl) (a := [.ref az264]) (st := [.ref az264, .ref s]) rfl rfl (Nat.le_of_ble_eq_true rfl) ⟨_, _, _, rfl, (cz268), rfl⟩ (by omega) (by omega) (⟨zl_init_M g (cz268) rfl (by omega) fun hl2_ wl2_ => ?_, fun _ _ h9 => h9⟩)
  have lwl2_ := wl2_.1
  show S 29 [some (.ref s), some (.ref qn)] [.ref az264, .ref s] _ _ _
  refine zw_U (hs 14 _ rfl) (by omega) ((wl2_.ne (by omega)).trans ((gz267.2 _ _ wz262.at))) ht (Or.inl ⟨_, rfl⟩) fun hz269 wz270 => ?_
  have wz270 : hd_w G hl2_ hz269 s (t, [.int (Int32.ofInt (12 : Int)), x1, .ref az256, .ref az264]) := wz270
  have lwz270 := wz270.1
  refine hs 15 _ rfl _ _ _ _ _ _ _ rfl ?_
  refine hs 16 _ rfl _ _ _ _ _ _ _ rfl ?_
  refine zw_U (hs 17 _ rfl) (by omega) (wz270.at) ht (Or.inl ⟨_, rfl⟩) fun hz271 wz272 => ?_
  have wz272 : hd_w G hz269 hz271 s (t, [.int (Int32.ofInt (12 : Int)), .ref qn, .ref az256, .ref az264]) := wz272
  have lwz272 := wz272.1
  exact hs 18 _ rfl _ _ _ _ (by omega) (by omega) (hP _ az256 az264 ((((((((zk.w (D := fun x => x = s) wz254 (Or.inl rfl)).tr (zk.g gz259)).tr2 (zk.w wl1_ (Or.inl rfl) : zk _ _ _ (fun x => x = az256)) (fun p_ h1_ (h2_ : p_ = az256) => absurd h1_ (by omega))).tr (zk.w (D := fun x => x = s) wz262 (Or.inl rfl))).tr (zk.g gz267)).tr2 (zk.w wl2_ (Or.inl rfl) : zk _ _ _ (fun x => x = az264)) (fun p_ h1_ (h2_ : p_ = az264) => absurd h1_ (by omega))).tr (zk.w (D := fun x => x = s) wz270 (Or.inl rfl))).tr (zk.w (D := fun x => x = s) wz272 (Or.inl rfl))) (by omega) (by omega) (by omega) (wz272.at) ((wz272.ne (by omega)).trans ((wz270.ne (by omega)).trans ((wl2_.ne (by omega)).trans ((gz267.2 _ _ ((wz262.ne (by omega)).trans wl1_.at)))))) ((wz272.ne (by omega)).trans ((wz270.ne (by omega)).trans wl2_.at)))
