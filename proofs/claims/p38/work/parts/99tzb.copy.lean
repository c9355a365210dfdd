/-! A COPY OF A STATE -/
theorem am_gc {G : am_G} {h h' : List am_C} {p : Nat} (hp : p < 1000) : am_g G h' p = am_g G h p := by unfold am_g; rw [if_pos hp, if_pos hp]
/-- what changes is new -/
theorem zk.zg {G : am_G} {h0 h h' : List am_C} {D : Nat → Prop} (a : zk G h h' D) (b : zg G h0 h) (hD : ∀ p, D p → p < 1000 ∨ 1000 + h0.length ≤ p) : zg G h0 h' := ⟨Nat.le_trans b.1 a.1, fun p c e => by
  by_cases c_ : p < 1000
  · exact (am_gc c_).trans e
  · exact a.2 p c (b.2 p c e) fun y_ => by
      have := zg_lt e
      have := hD p y_
      omega⟩
theorem zl_take {vs : List Nat} {i v : Nat} (h : vs[i]? = some v) : vs.take (i + 1) = vs.take i ++ [v] := by
  rw [List.take_add_one, h]
  rfl
/-- a new list that grows; all that was there when the copy began is h -/
def zm_n (G : am_G) (h h1 : List am_C) (q p : Nat) (vs : List Nat) : Prop := ∃ (N tr : Nat) (mo : Int), am_g G h1 q = some (6, [.int (Int32.ofInt mo), .ref p, .int (Int32.ofInt (vs.length : Int))]) ∧ am_g G h1 p = some (tr, zl_ws N vs) ∧ tr % 100 = 56 ∧ vs.length ≤ N ∧ 1000 + h.length ≤ q ∧ ((vs.length = 0 ∧ N = 0 ∧ p = 4) ∨ ((N = 10 ∨ N = 15) ∧ 1000 + h.length ≤ p))
theorem zm_n.k {G : am_G} {h h1 h2 : List am_C} {q p : Nat} {vs : List Nat} {D : Nat → Prop} (a : zm_n G h h1 q p vs) (f : zk G h1 h2 D) (h6 : ∀ (x t : Nat) (v : List Value), D x → am_g G h1 x = some (t, v) → t % 100 ≠ 6 ∧ t % 100 ≠ 56) : zm_n G h h2 q p vs := by
  obtain ⟨N_, tr_, mo_, a1_, a2_, a3_, a4_⟩ := a
  exact ⟨N_, tr_, mo_, f.2 _ _ a1_ (fun y_ => (h6 _ _ _ y_ a1_).1 rfl), f.2 _ _ a2_ (fun y_ => (h6 _ _ _ y_ a2_).2 a3_), a3_, a4_⟩
/-- the other list grows -/
theorem zm_n.o {G : am_G} {h h1 h2 : List am_C} {q p q2 p2 : Nat} {vs : List Nat} (a : zm_n G h h1 q p vs) (f : zk G h1 h2 (fun x => x = q2 ∨ x = p2)) (hq : q2 ≠ q) (hq6 : ∃ v : List Value, am_g G h1 q2 = some (6, v)) (hp : p2 = 4 ∨ p2 ≠ p) (hp6 : ∃ (t : Nat) (v : List Value), am_g G h1 p2 = some (t, v) ∧ t % 100 = 56) : zm_n G h h2 q p vs := by
  obtain ⟨N_, tr_, mo_, a1_, a2_, a3_, a4_⟩ := a
  obtain ⟨v_, v1_⟩ := hq6
  obtain ⟨t_, w_, w1_, w2_⟩ := hp6
  refine ⟨N_, tr_, mo_, f.2 _ _ a1_ ?_, ?_, a3_, a4_⟩
  · have n1_ := zg_ne w1_ a1_ (by rw [w2_]; decide)
    rintro (y_ | y_)
    · exact hq y_.symm
    · exact n1_ y_.symm
  · by_cases c_ : p < 1000
    · exact (am_gc c_).trans a2_
    · have n1_ := zg_ne a2_ v1_ (by rw [a3_]; decide)
      refine f.2 _ _ a2_ ?_
      rintro (y_ | y_)
      · exact n1_ y_
      · omega
/-- the copy at work -/
def zs_I (G : am_G) (h h1 : List am_C) (s2 ac ai bi p1 p2 : Nat) (d : Int) (vn vs ws : List Nat) : Prop := zg G h h1 ∧ (am_g G h1 s2 = some (18, [.int (Int32.ofInt d), .ref ac, .ref ai, .ref bi]) ∧ am_g G h1 ac = some (55, vn.map fun v => Value.ref v)) ∧ (zm_n G h h1 ai p1 vs ∧ zm_n G h h1 bi p2 ws) ∧ ai ≠ bi ∧ (p2 = 4 ∨ p2 ≠ p1)
theorem zs_I.k {G : am_G} {h h1 h2 : List am_C} {s2 ac ai bi p1 p2 : Nat} {d : Int} {vn vs ws : List Nat} {D : Nat → Prop} (a : zs_I G h h1 s2 ac ai bi p1 p2 d vn vs ws) (f : zk G h1 h2 D) (hD : ∀ p, D p → p < 1000 ∨ 1000 + h.length ≤ p) (h6 : ∀ (x t : Nat) (v : List Value), D x → am_g G h1 x = some (t, v) → t % 100 = 5) : zs_I G h h2 s2 ac ai bi p1 p2 d vn vs ws := by
  obtain ⟨a1_, ⟨a2_, a3_⟩, ⟨a4_, a5_⟩, a6_, a7_⟩ := a
  exact ⟨f.zg a1_ hD, ⟨f.2 _ _ a2_ (fun y_ => absurd (h6 _ _ _ y_ a2_) (by decide)), f.2 _ _ a3_ (fun y_ => absurd (h6 _ _ _ y_ a3_) (by decide))⟩, ⟨a4_.k f fun x t v y_ e => by
    have := h6 _ _ _ y_ e
    omega, a5_.k f fun x t v y_ e => by
    have := h6 _ _ _ y_ e
    omega⟩, a6_, a7_⟩
theorem zs_I.g {G : am_G} {h h1 h2 : List am_C} {s2 ac ai bi p1 p2 : Nat} {d : Int} {vn vs ws : List Nat} (a : zs_I G h h1 s2 ac ai bi p1 p2 d vn vs ws) (f : zg G h1 h2) : zs_I G h h2 s2 ac ai bi p1 p2 d vn vs ws := a.k (D := fun _ => False) (zk.g f) (fun _ y_ => y_.elim) fun _ _ _ y_ _ => y_.elim
/-- what one has at hand of a copy that is done -/
theorem zs_I.fin {G : am_G} {h h1 : List am_C} {o : Nat → Nat} {s2 ac ai bi p1 p2 : Nat} {c : sp_S} {vn vs ws : List Nat} (a : zs_I G h h1 s2 ac ai bi p1 p2 c.1 vn vs ws) (hs2 : 1000 + h.length ≤ s2) (hac : 1000 + h.length ≤ ac) (hn : vn.length = c.2.1.length ∧ ∀ (i v : Nat) (z : Int), vn[i]? = some v → c.2.1[i]? = some z → zn_N G h1 v z) (hl : vs.length = c.2.2.1.length ∧ ∀ (i v : Nat) (r : Int × Int), vs[i]? = some v → c.2.2.1[i]? = some r → zm_r G h1 v r) (hb : ws.length = c.2.2.2.length ∧ ∀ (i v : Nat) (b : Int), ws[i]? = some v → c.2.2.2[i]? = some b → zm_i G h1 v b) : ∃ o' : Nat → Nat, (∀ x, x < 1000 + h.length → o' x = o x) ∧ zm_s G h1 o' s2 c := by
  obtain ⟨a1_, ⟨a2_, a3_⟩, ⟨⟨N_, tr_, mo_, b1_, b2_, b3_, b4_, b5_, b6_⟩, ⟨M_, ts_, ml_, c1_, c2_, c3_, c4_, c5_, c6_⟩⟩, a6_, a7_⟩ := a
  have n1_ := zg_ne a3_ b1_ (by decide)
  have n2_ := zg_ne a3_ c1_ (by decide)
  have n3_ := zg_ne a3_ b2_ (by rw [b3_]; decide)
  have n4_ := zg_ne a3_ c2_ (by rw [c3_]; decide)
  have n5_ := zg_ne b1_ b2_ (by rw [b3_]; decide)
  have n6_ := zg_ne b1_ c2_ (by rw [c3_]; decide)
  have n7_ := zg_ne c1_ b2_ (by rw [b3_]; decide)
  have n8_ := zg_ne c1_ c2_ (by rw [c3_]; decide)
  have z1_ : ∀ x y : Nat, x = y → (if x = y then (1 : Nat) else 0) = 1 := fun x y e => if_pos e
  refine ⟨fun x => if 1000 + h.length ≤ x then (if x = ac then 8 * s2 + 1 else if x = ai then 8 * s2 + 2 else if x = bi then 8 * s2 + 3 else if x = p1 then 8 * ai + 4 else 8 * bi + 4) else o x, fun x hx => if_neg (by omega), ?_⟩
  refine ⟨18, ac, 55, ai, bi, vn, vs, ws, a2_, ⟨rfl, by omega⟩, ⟨a3_, rfl, by omega, ?_⟩, ⟨⟨p1, N_, 6, tr_, mo_, b1_, rfl, b2_, b3_, ⟨b4_, by omega⟩, ?_, ?_, ?_⟩, ⟨p2, M_, 6, ts_, ml_, c1_, rfl, c2_, c3_, ⟨c4_, by omega⟩, ?_, ?_, ?_⟩⟩, hn, hl, hb⟩
  · show (if 1000 + h.length ≤ ac then _ else _) = _
    rw [if_pos hac, if_pos rfl]
  · rcases b6_ with ⟨-, y2_, y3_⟩ | ⟨y1_ | y1_, y2_⟩
    · exact Or.inl ⟨y2_, y3_⟩
    · exact Or.inr (Or.inl ⟨y1_, by omega⟩)
    · exact Or.inr (Or.inr ⟨y1_, by omega⟩)
  · show (if 1000 + h.length ≤ ai then _ else _) = _
    rw [if_pos b5_, if_neg (fun y_ => n1_ y_.symm), if_pos rfl]
  · intro hp_
    show (if 1000 + h.length ≤ p1 then _ else _) = _
    rw [if_pos (by omega), if_neg (fun y_ => n3_ y_.symm), if_neg (fun y_ => n5_ y_.symm), if_neg (fun y_ => n7_ y_.symm), if_pos rfl]
  · rcases c6_ with ⟨-, y2_, y3_⟩ | ⟨y1_ | y1_, y2_⟩
    · exact Or.inl ⟨y2_, y3_⟩
    · exact Or.inr (Or.inl ⟨y1_, by omega⟩)
    · exact Or.inr (Or.inr ⟨y1_, by omega⟩)
  · show (if 1000 + h.length ≤ bi then _ else _) = _
    rw [if_pos c5_, if_neg (fun y_ => n2_ y_.symm), if_neg (fun y_ => a6_ y_.symm), if_pos rfl]
  · intro hp_
    show (if 1000 + h.length ≤ p2 then _ else _) = _
    rw [if_pos (by omega), if_neg (fun y_ => n4_ y_.symm), if_neg (fun y_ => n6_ y_.symm), if_neg (fun y_ => n8_ y_.symm), if_neg (by omega)]
theorem zl_k4 {l : Launch} {G : am_G} {X : ck_XT} (g : gM l G X) {h : List am_C} : am_g G h 4 = some (43056, zl_ws 0 []) := by
  obtain ⟨-, vs_, e1_, e2_⟩ := g.1.2.2.2 4 (43056, 0, 0, []) rfl
  have e3_ : vs_ = [] := List.eq_nil_of_length_eq_zero (by have e4_ : (vs_.length : Int) = 0 := e2_; omega)
  unfold am_g
  rw [if_pos (by decide), e1_, e3_]
  rfl
set_option maxHeartbeats 4000000 in
theorem zs_copy_M {l : Launch} {G : am_G} {X : ck_XT} (g : gM l G X) {o : Nat → Nat} {s : Nat} {c : sp_S} {h : List am_C} (hs_ : zm_s G h o s c) (hok : sp_ok c) {mc ms : Nat} {Post : am_O → List am_C → Prop} (hmc : 13 ≤ mc) (hms : 49 ≤ ms)
    (hP : ∀ (h' : List am_C) (o' : Nat → Nat) (s2 : Nat), zg G h h' → 1000 + h.length ≤ s2 → (∀ x, x < 1000 + h.length → o' x = o x) → zm_s G h' o' s2 c → Post (.inl (some (.ref s2))) h') :
    am_M l G yX13_copy (.code yX13_copy prog_16_method_2_code 4 (some (.object "ClockhouseModel$State"))) 9 251 mc ms [.ref s] h Post := by
  refine gh_yX13_copy_X g (Nat.le_of_ble_eq_true rfl) fun S SX hs hr hw hx => ?_
  have rv : ∀ x : Int32, ck_fv 0 (.int x) := fun x => ⟨_, rfl⟩
  obtain ⟨t_, qn_, tn_, ql_, qb_, vn_, vl_, vb_, a1_, a2_, ⟨b1_, b2_, b3_, b4_⟩, ⟨c1_, c2_⟩, ⟨d1_, d2_⟩, ⟨e1_, e2_⟩, ⟨f1_, f2_⟩⟩ := hs_
  obtain ⟨pl_, Nl_, ml_, L1_, r1_, r2_⟩ := c1_.L
  obtain ⟨pb_, Nb_, mb_, L2_, r3_, r4_⟩ := c2_.L
  obtain ⟨tl_, trl_, wl_, l1_, l2_, l3_, l4_, -⟩ := id L1_
  obtain ⟨tb_, trb_, wb_, k1_, k2_, k3_, k4_, -⟩ := id L2_
  have ls_ := zg_lt a1_
  have lql_ := zg_lt l1_
  have lpl_ := zg_lt l3_
  have lqb_ := zg_lt k1_
  have lpb_ := zg_lt k3_
  have ok1_ := hok.2.1.1
  have ok2_ := hok.2.2.1.1
  have ok3_ := hok.2.2.2.1
  refine zw_W (G := G) (hs 0 _ rfl) (t := 18) (vs := [.int 0, .null, .null, .null]) (m := 4) rfl rfl rfl (by omega) (by omega) fun hz273 S2_ ez275 lz276 gz277 cz278 => ?_
  refine hs 1 _ rfl _ _ _ _ _ _ _ rfl ?_
  refine hs 2 _ rfl _ _ _ _ _ _ _ rfl ?_
  refine hs 3 _ rfl _ _ _ _ _ _ _ _ _ ((gz277.2 _ _ a1_)) a2_.1 rfl ?_
  refine zw_cm (hs 4 _ rfl) (a := [.ref qn_]) (st := [.ref S2_, .ref S2_]) 1 6 rfl rfl (Nat.le_of_ble_eq_true rfl) ⟨_, _, _, rfl, ((gz277.2 _ _ b1_)), b2_⟩ (by omega) (by omega) (zw_cl b3_ ((gz277.2 _ _ b1_)) b2_ (by omega) (by omega) fun hc_ ac_ ec_ lc_ gc_ cc_ => ?_)
  show S 11 [some (.ref s), none, none, none] [.ref ac_, .ref S2_, .ref S2_] _ _ _
  refine hs 5 _ rfl _ _ _ _ _ _ (Or.inr ⟨_, _, _, rfl, (cc_), List.mem_singleton.mpr rfl⟩) ?_
  refine zw_cmn (hs 6 _ rfl) (a := [.ref S2_, .ref ac_]) (st := [.ref S2_]) 2 6 rfl rfl (Nat.le_of_ble_eq_true rfl) ⟨_, _, _, rfl, ((gc_.2 _ _ cz278)), rfl⟩ (by omega) (by omega) (⟨zs_init_M g ((gc_.2 _ _ cz278)) rfl (by omega) (by omega) (by omega) fun hi_ ai_ bi_ ki_ li_ mi_ ni_ ci_ di_ ei_ => ?_, fun _ _ h9 => h9⟩)
  have g1_ : zg G h hi_ := ki_.zg (gz277.tr gc_) (fun p_ (y_ : p_ = S2_) => Or.inr (by omega))
  show S 17 [some (.ref s), none, none, none] [.ref S2_] _ _ _
  refine hs 7 _ rfl _ _ _ _ _ _ _ rfl ?_
  refine hs 8 _ rfl _ _ _ _ _ _ _ rfl ?_
  refine hs 9 _ rfl _ _ _ _ _ _ _ rfl ?_
  refine hs 10 _ rfl _ _ _ _ _ _ _ _ _ ((g1_.2 _ _ a1_)) a2_.1 rfl ?_
  refine zw_U (hs 11 _ rfl) (by omega) (ci_) rfl ⟨_, rfl⟩ fun hz279 wz280 => ?_
  have wz280 : hd_w G hi_ hz279 S2_ (18, [.int (Int32.ofInt c.1), .ref ac_, .ref ai_, .ref bi_]) := wz280
  have lwz280 := wz280.1
  refine hs 12 _ rfl _ _ _ _ _ _ _ rfl ?_
  refine hs 13 _ rfl _ _ _ _ _ _ _ _ _ ((wz280.ne (by omega)).trans ((g1_.2 _ _ a1_))) a2_.1 rfl ?_
  have g2_ : zg G h hz279 := g1_.w wz280 (by omega)
  refine zw_cm (hs 14 _ rfl) (a := [.ref ql_]) (st := []) 1 4 rfl rfl (Nat.le_of_ble_eq_true rfl) ⟨_, _, _, rfl, g2_.2 _ _ l1_, l2_⟩ (by omega) (by omega) (zl_iter_M g (zl_L.keep L1_ fun x_ c_ _ hg_ => g2_.2 _ _ hg_) (by omega) (by omega) fun hj_ ej_ gj_ lj_ cj_ => ?_)
  show S 33 [some (.ref s), some (.ref S2_), none, none] [.ref ej_] _ _ _
  refine hs 15 _ rfl _ _ _ _ _ _ _ rfl ?_
  have hs2_ : 1000 + h.length ≤ S2_ := by omega
  have hac_ : 1000 + h.length ≤ ac_ := by omega
  have loop2 : ∀ (m_ i_ : Nat) (h1_ : List am_C) (k_ n_ p1_ p2_ ej_ : Nat) (la_ : Int) (ws_ : List Nat) (w_ : Option Value), i_ + m_ = vb_.length → zs_I G h h1_ S2_ ac_ ai_ bi_ p1_ p2_ c.1 vn_ vl_ ws_ → ws_.length = i_ → (∀ (j v : Nat) (b : Int), ws_[j]? = some v → c.2.2.2[j]? = some b → zm_i G h1_ v b) → 1000 + h.length ≤ ej_ → am_g G h1_ ej_ = some (5, [.int (Int32.ofInt (i_ : Int)), .int (Int32.ofInt la_), .int (Int32.ofInt mb_), .ref qb_]) → k_ + (vb_.length - i_) + (1 - i_) ≤ 13 → n_ + (vb_.length - i_) + (10 - 10 * i_) ≤ 49 → S 73 [some (.ref s), some (.ref S2_), some (.ref ej_), w_] [] h1_ k_ n_ := by
    intro m_
    induction m_ with
    | zero =>
      intro i_ h1_ k_ n_ p1_ p2_ ej_ la_ ws_ w_ hi_ hI_ hw_ hb_ he_ hE_ hk_ hn_
      refine hs 33 _ rfl _ _ _ _ _ _ _ rfl ?_
      refine zw_cn (hs 34 _ rfl) (a := [.ref ej_]) (st := []) rfl rfl (Nat.le_of_ble_eq_true rfl) ⟨_, _, _, rfl, hE_, rfl⟩ (by omega) (by omega) (⟨zl_hasNext_M g (zl_L.keep L2_ fun x_ c_ _ hg_ => hI_.1.2 _ _ hg_) hE_ rfl r3_ r4_ (by omega) (fun y_ => absurd y_ (by omega)) (fun y_ => ?_), fun _ _ h9 => h9⟩)
      show S 79 [some (.ref s), some (.ref S2_), some (.ref ej_), _] [.int (Int32.ofInt (0 : Int))] _ _ _
      refine hs 35 _ rfl _ _ _ _ _ _ (fun _ => ?_) (fun zq => absurd (hd_c1t (c := 0) (by omega) (by omega) (by omega : (0 : Int) = 0)) zq)
      refine hs 48 _ rfl _ _ _ _ _ _ _ rfl ?_
      obtain ⟨o2_, x1_, x2_⟩ := hI_.fin (o := o) hs2_ hac_ ⟨d1_, fun i v z y1_ y2_ => (d2_ i v z y1_ y2_).g hI_.1⟩ ⟨e1_, fun i v z y1_ y2_ => (e2_ i v z y1_ y2_).g hI_.1⟩ ⟨by omega, hb_⟩
      exact hs 49 _ rfl _ _ _ _ _ (Or.inl ⟨_, rfl⟩) (by omega) (by omega) (hP _ o2_ _ hI_.1 hs2_ x1_ x2_)
    | succ m_ ih =>
      intro i_ h1_ k_ n_ p1_ p2_ ej_ la_ ws_ w_ hi_ hI_ hw_ hb_ he_ hE_ hk_ hn_
      obtain ⟨v_, hv_⟩ : ∃ v_, vb_[i_]? = some v_ := ⟨_, List.getElem?_eq_getElem (by omega)⟩
      obtain ⟨b_, hbb_⟩ : ∃ b_, c.2.2.2[i_]? = some b_ := ⟨_, List.getElem?_eq_getElem (by omega)⟩
      obtain ⟨tv_, hr1_, hr2_⟩ := f2_ _ _ _ hv_ hbb_
      have hbk_ := hok.2.2.2.2 b_ (List.mem_of_getElem? hbb_)
      refine hs 33 _ rfl _ _ _ _ _ _ _ rfl ?_
      refine zw_cn (hs 34 _ rfl) (a := [.ref ej_]) (st := []) rfl rfl (Nat.le_of_ble_eq_true rfl) ⟨_, _, _, rfl, hE_, rfl⟩ (by omega) (by omega) (⟨zl_hasNext_M g (zl_L.keep L2_ fun x_ c_ _ hg_ => hI_.1.2 _ _ hg_) hE_ rfl r3_ r4_ (by omega) (fun y_ => ?_) (fun y_ => absurd y_ (by omega)), fun _ _ h9 => h9⟩)
      show S 79 [some (.ref s), some (.ref S2_), some (.ref ej_), _] [.int (Int32.ofInt (1 : Int))] _ _ _
      refine hs 35 _ rfl _ _ _ _ _ _ (fun zq => absurd (hd_c1z (c := 0) (by omega) (by omega) zq) (by omega : ¬ ((1 : Int) = 0))) (fun _ => ?_)
      refine hs 36 _ rfl _ _ _ _ _ _ _ rfl ?_
      refine zw_cn (hs 37 _ rfl) (a := [.ref ej_]) (st := []) rfl rfl (Nat.le_of_ble_eq_true rfl) ⟨_, _, _, rfl, hE_, rfl⟩ (by omega) (by omega) (⟨zl_next_M g (zl_L.keep L2_ fun x_ c_ _ hg_ => hI_.1.2 _ _ hg_) hE_ rfl r3_ r4_ (by omega) hv_ (by omega) (by omega) fun hx_ wx_ => ?_, fun _ _ h9 => h9⟩)
      have hI2_ := hI_.k (D := fun x => x = ej_) (zk.w wx_ (Or.inl rfl)) (fun p_ (y_ : p_ = ej_) => Or.inr (by omega)) (fun x_ t_ v_ (y_ : x_ = ej_) e_ => by rw [y_, hE_] at e_; have e2_ := congrArg Prod.fst (Option.some.inj e_); dsimp only at e2_; rw [← e2_])
      show S 88 [some (.ref s), some (.ref S2_), some (.ref ej_), _] [.ref v_] _ _ _
      refine hs 38 _ rfl _ _ _ _ _ _ (Or.inr ⟨_, _, _, rfl, ((hI2_.1.2 _ _ hr1_)), List.mem_singleton.mpr hr2_⟩) ?_
      refine zw_c (hs 39 _ rfl) (a := [.ref v_]) (st := []) rfl rfl (Nat.le_of_ble_eq_true rfl) ⟨_, _, _, rfl, ((hI2_.1.2 _ _ hr1_)), hr2_⟩ (by omega) (by omega) (zi_int_M g (hI2_.1.2 _ _ hr1_) hr2_ ?_)
      show S 94 [some (.ref s), some (.ref S2_), some (.ref ej_), _] [.int (Int32.ofInt b_)] _ _ _
      refine hs 40 _ rfl _ _ _ _ _ _ _ rfl ?_
      refine hs 41 _ rfl _ _ _ _ _ _ _ rfl ?_
      refine hs 42 _ rfl _ _ _ _ _ _ _ _ _ (hI2_.2.1.1) (rfl : 18 % 100 = 18) rfl ?_
      refine hs 43 _ rfl _ _ _ _ _ _ _ rfl ?_
      refine zw_cm (hs 44 _ rfl) (a := [.int (Int32.ofInt b_)]) (st := [.ref bi_]) 1 1 rfl rfl (Nat.le_of_ble_eq_true rfl) trivial (by omega) (by omega) (zi_val_M g (by omega) (by omega) (by omega) (by omega) fun hw_ vw_ tw_ gw_ cw_ dw_ => ?_)
      show S 103 [some (.ref s), some (.ref S2_), some (.ref ej_), some (.int (Int32.ofInt b_))] [.ref vw_, .ref bi_] _ _ _
      have hI3_ := hI2_.g gw_
      obtain ⟨Nq_, tq_, mq_, nq1_, nq2_, nq3_, nq4_, nq5_, nq6_⟩ := hI3_.2.2.1.2
      have bx_ : ∀ (u_ : Nat) (b9_ : Int), zm_i G h1_ u_ b9_ → zm_i G hw_ u_ b9_ := fun u_ b9_ ⟨t9_, x1_, x2_⟩ => ⟨t9_, gw_.2 _ _ ((wx_.ne (zg_ne x1_ hE_ (by rw [x2_]; decide))).trans x1_), x2_⟩
      have ob9_ : zl_ob G hw_ ws_ := fun j_ u_ hu_ => by
        obtain ⟨b9_, hb9_⟩ : ∃ b9_, c.2.2.2[j_]? = some b9_ := ⟨_, List.getElem?_eq_getElem (by have := (List.getElem?_eq_some_iff.mp hu_).1; omega)⟩
        obtain ⟨t9_, x1_, x2_⟩ := bx_ _ _ (hb_ _ _ _ hu_ hb9_)
        exact ⟨t9_, _, x1_, by rw [x2_]; rfl⟩
      refine zw_cm (hs 45 _ rfl) (a := [.ref bi_, .ref vw_]) (st := []) (1 - i_) (10 - 10 * i_) rfl rfl (Nat.le_of_ble_eq_true rfl) ⟨_, _, _, rfl, nq1_, rfl⟩ (by omega) (by omega) (zl_add1_M g nq1_ rfl nq2_ nq3_ ob9_ (by omega) nq4_ (by omega) cw_ (by omega) (fun _ => by omega) (fun _ => by omega) fun hy_ ay_ ty_ ny_ ky_ ly_ my_ oy_ sy_ cy_ dy_ ey_ => ?_)
      show S 106 [some (.ref s), some (.ref S2_), some (.ref ej_), some (.int (Int32.ofInt b_))] [.int (Int32.ofInt (1 : Int))] _ _ _
      refine hs 46 _ rfl _ _ _ _ _ _ _ rfl ?_
      refine hs 47 _ rfl _ _ _ _ _ ?_
      have m1_ := zg_ne hI3_.2.1.1 nq1_ (by decide)
      have m2_ := zg_ne hI3_.2.1.1 nq2_ (by rw [nq3_]; decide)
      have m3_ := zg_ne hI3_.2.1.2 nq1_ (by decide)
      have m4_ := zg_ne hI3_.2.1.2 nq2_ (by rw [nq3_]; decide)
      have m5_ := zg_ne (gw_.2 _ _ wx_.at) nq1_ (by decide)
      have m6_ := zg_ne (gw_.2 _ _ wx_.at) nq2_ (by rw [nq3_]; decide)
      have box_ : ∀ (u_ : Nat) (b9_ : Int), zm_i G hw_ u_ b9_ → zm_i G hy_ u_ b9_ := fun u_ b9_ ⟨t9_, x1_, x2_⟩ => ⟨t9_, ky_.2 _ _ x1_ (by
        have n1_ := zg_ne x1_ nq1_ (by rw [x2_]; decide)
        have n2_ := zg_ne x1_ nq2_ (by rw [x2_, nq3_]; decide)
        omega), x2_⟩
      have lp1_ : p1_ < 1000 + hw_.length := by
        obtain ⟨_, _, _, -, x1_, -⟩ := hI3_.2.2.1.1
        exact zg_lt x1_
      have hne_ := hI3_.2.2.2.1
      have hg3_ := hI3_.1.1
      have hse_ := hI3_.2.2.2.2
      refine ih (i_ + 1) hy_ _ _ p1_ ay_ ej_ (i_ : Int) (ws_ ++ [vw_]) _ (by omega) ⟨ky_.zg hI3_.1 (fun p_ (y_ : p_ = bi_ ∨ p_ = p2_) => by omega), ⟨ky_.2 _ _ hI3_.2.1.1 (by omega), ky_.2 _ _ hI3_.2.1.2 (by omega)⟩, ⟨hI3_.2.2.1.1.o ky_ (fun y_ => hne_ y_.symm) ⟨_, nq1_⟩ hse_ ⟨tq_, _, nq2_, nq3_⟩, ⟨ny_, ty_, _, cy_, dy_, ey_, by rw [List.length_append, List.length_singleton]; omega, nq5_, Or.inr ⟨oy_, by omega⟩⟩⟩, hne_, by omega⟩ (by rw [List.length_append, List.length_singleton]; omega) ?_ he_ (ky_.2 _ _ (gw_.2 _ _ wx_.at) (by omega)) (by omega) (by omega)
      intro j_ u_ b9_ x1_ x2_
      by_cases c9_ : j_ < ws_.length
      · rw [List.getElem?_append_left c9_] at x1_
        exact box_ _ _ (bx_ _ _ (hb_ _ _ _ x1_ x2_))
      · have lj_ := (List.getElem?_eq_some_iff.mp x1_).1
        rw [List.length_append, List.length_singleton] at lj_
        obtain rfl : j_ = i_ := by omega
        rw [List.getElem?_append_right (by omega), hw_, Nat.sub_self] at x1_
        cases x1_
        rw [hbb_] at x2_
        cases x2_
        exact box_ _ _ ⟨tw_, cw_, dw_⟩
  have loop1 : ∀ (m_ i_ : Nat) (h1_ : List am_C) (k_ n_ p1_ : Nat) (la_ : Int) (w_ : Option Value), i_ + m_ = vl_.length → zs_I G h h1_ S2_ ac_ ai_ bi_ p1_ 4 c.1 vn_ (vl_.take i_) [] → am_g G h1_ ej_ = some (5, [.int (Int32.ofInt (i_ : Int)), .int (Int32.ofInt la_), .int (Int32.ofInt ml_), .ref ql_]) → k_ + (1 - i_) ≤ 6 → n_ + (10 - 10 * i_) ≤ 30 → S 34 [some (.ref s), some (.ref S2_), some (.ref ej_), w_] [] h1_ k_ n_ := by
    have he_ : 1000 + h.length ≤ ej_ := by
      have := g2_.1
      omega
    intro m_
    induction m_ with
    | zero =>
      intro i_ h1_ k_ n_ p1_ la_ w_ hi_ hI_ hE_ hk_ hn_
      refine hs 16 _ rfl _ _ _ _ _ _ _ rfl ?_
      refine zw_cn (hs 17 _ rfl) (a := [.ref ej_]) (st := []) rfl rfl (Nat.le_of_ble_eq_true rfl) ⟨_, _, _, rfl, hE_, rfl⟩ (by omega) (by omega) (⟨zl_hasNext_M g (zl_L.keep L1_ fun x_ c_ _ hg_ => hI_.1.2 _ _ hg_) hE_ rfl r1_ r2_ (by omega) (fun y_ => absurd y_ (by omega)) (fun y_ => ?_), fun _ _ h9 => h9⟩)
      show S 40 [some (.ref s), some (.ref S2_), some (.ref ej_), _] [.int (Int32.ofInt (0 : Int))] _ _ _
      have hh_ := hI_.1.1
      rw [List.take_of_length_le (by omega)] at hI_
      refine hs 18 _ rfl _ _ _ _ _ _ (fun _ => ?_) (fun zq => absurd (hd_c1t (c := 0) (by omega) (by omega) (by omega : (0 : Int) = 0)) zq)
      refine hs 29 _ rfl _ _ _ _ _ _ _ rfl ?_
      refine hs 30 _ rfl _ _ _ _ _ _ _ _ _ ((hI_.1.2 _ _ a1_)) a2_.1 rfl ?_
      refine zw_cm (hs 31 _ rfl) (a := [.ref qb_]) (st := []) 1 4 rfl rfl (Nat.le_of_ble_eq_true rfl) ⟨_, _, _, rfl, hI_.1.2 _ _ k1_, k2_⟩ (by omega) (by omega) (zl_iter_M g (zl_L.keep L2_ fun x_ c_ _ hg_ => hI_.1.2 _ _ hg_) (by omega) (by omega) fun hj2_ ej2_ gj2_ lj2_ cj2_ => ?_)
      show S 72 [some (.ref s), some (.ref S2_), some (.ref ej_), _] [.ref ej2_] _ _ _
      refine hs 32 _ rfl _ _ _ _ _ _ _ rfl ?_
      exact loop2 vb_.length 0 _ _ _ p1_ 4 ej2_ (-1) [] _ (by omega) (hI_.g gj2_) rfl (fun j v b y_ => by rw [List.getElem?_nil] at y_; cases y_) (by omega) cj2_ (by omega) (by omega)
    | succ m_ ih =>
      intro i_ h1_ k_ n_ p1_ la_ w_ hi_ hI_ hE_ hk_ hn_
      obtain ⟨v_, hv_⟩ : ∃ v_, vl_[i_]? = some v_ := ⟨_, List.getElem?_eq_getElem (by omega)⟩
      obtain ⟨r_, hrr_⟩ : ∃ r_, c.2.2.1[i_]? = some r_ := ⟨_, List.getElem?_eq_getElem (by omega)⟩
      obtain ⟨tv_, hr1_, hr2_⟩ := e2_ _ _ _ hv_ hrr_
      refine hs 16 _ rfl _ _ _ _ _ _ _ rfl ?_
      refine zw_cn (hs 17 _ rfl) (a := [.ref ej_]) (st := []) rfl rfl (Nat.le_of_ble_eq_true rfl) ⟨_, _, _, rfl, hE_, rfl⟩ (by omega) (by omega) (⟨zl_hasNext_M g (zl_L.keep L1_ fun x_ c_ _ hg_ => hI_.1.2 _ _ hg_) hE_ rfl r1_ r2_ (by omega) (fun y_ => ?_) (fun y_ => absurd y_ (by omega)), fun _ _ h9 => h9⟩)
      show S 40 [some (.ref s), some (.ref S2_), some (.ref ej_), _] [.int (Int32.ofInt (1 : Int))] _ _ _
      refine hs 18 _ rfl _ _ _ _ _ _ (fun zq => absurd (hd_c1z (c := 0) (by omega) (by omega) zq) (by omega : ¬ ((1 : Int) = 0))) (fun _ => ?_)
      refine hs 19 _ rfl _ _ _ _ _ _ _ rfl ?_
      refine zw_cn (hs 20 _ rfl) (a := [.ref ej_]) (st := []) rfl rfl (Nat.le_of_ble_eq_true rfl) ⟨_, _, _, rfl, hE_, rfl⟩ (by omega) (by omega) (⟨zl_next_M g (zl_L.keep L1_ fun x_ c_ _ hg_ => hI_.1.2 _ _ hg_) hE_ rfl r1_ r2_ (by omega) hv_ (by omega) (by omega) fun hx_ wx_ => ?_, fun _ _ h9 => h9⟩)
      have hI2_ := hI_.k (D := fun x => x = ej_) (zk.w wx_ (Or.inl rfl)) (fun p_ (y_ : p_ = ej_) => Or.inr (by omega)) (fun x_ t_ v_ (y_ : x_ = ej_) e_ => by rw [y_, hE_] at e_; have e2_ := congrArg Prod.fst (Option.some.inj e_); dsimp only at e2_; rw [← e2_])
      show S 49 [some (.ref s), some (.ref S2_), some (.ref ej_), _] [.ref v_] _ _ _
      obtain ⟨Nq_, tq_, mq_, nq1_, nq2_, nq3_, nq4_, nq5_, nq6_⟩ := hI2_.2.2.1.1
      have tl9_ : (vl_.take i_).length = i_ := by rw [List.length_take]; omega
      have ob_ : zl_ob G hx_ (vl_.take i_) := fun j_ u_ hu_ => by
        rw [List.getElem?_take] at hu_
        split at hu_
        · obtain ⟨r9_, hr9_⟩ : ∃ r9_, c.2.2.1[j_]? = some r9_ := ⟨_, List.getElem?_eq_getElem (by have := (List.getElem?_eq_some_iff.mp hu_).1; omega)⟩
          obtain ⟨t9_, x1_, x2_⟩ := e2_ _ _ _ hu_ hr9_
          exact ⟨t9_, _, hI2_.1.2 _ _ x1_, by rw [x2_]; rfl⟩
        · cases hu_
      refine hs 21 _ rfl _ _ _ _ _ _ (Or.inr ⟨_, _, _, rfl, ((hI2_.1.2 _ _ hr1_)), List.mem_singleton.mpr hr2_⟩) ?_
      refine hs 22 _ rfl _ _ _ _ _ _ _ rfl ?_
      refine hs 23 _ rfl _ _ _ _ _ _ _ rfl ?_
      refine hs 24 _ rfl _ _ _ _ _ _ _ _ _ (hI2_.2.1.1) (rfl : 18 % 100 = 18) rfl ?_
      refine hs 25 _ rfl _ _ _ _ _ _ _ rfl ?_
      refine zw_cm (hs 26 _ rfl) (a := [.ref ai_, .ref v_]) (st := []) (1 - i_) (10 - 10 * i_) rfl rfl (Nat.le_of_ble_eq_true rfl) ⟨_, _, _, rfl, nq1_, rfl⟩ (by omega) (by omega) (zl_add1_M g nq1_ rfl nq2_ nq3_ ob_ (by omega) nq4_ (by omega) (hI2_.1.2 _ _ hr1_) (by omega) (fun _ => by omega) (fun _ => by omega) fun hy_ ay_ ty_ ny_ ky_ ly_ my_ oy_ sy_ cy_ dy_ ey_ => ?_)
      show S 61 [some (.ref s), some (.ref S2_), some (.ref ej_), some (.ref v_)] [.int (Int32.ofInt (1 : Int))] _ _ _
      refine hs 27 _ rfl _ _ _ _ _ _ _ rfl ?_
      refine hs 28 _ rfl _ _ _ _ _ ?_
      have m1_ := zg_ne hI2_.2.1.1 nq1_ (by decide)
      have m2_ := zg_ne hI2_.2.1.1 nq2_ (by rw [nq3_]; decide)
      have m3_ := zg_ne hI2_.2.1.2 nq1_ (by decide)
      have m4_ := zg_ne hI2_.2.1.2 nq2_ (by rw [nq3_]; decide)
      have m5_ := zg_ne wx_.at nq1_ (by decide)
      have m6_ := zg_ne wx_.at nq2_ (by rw [nq3_]; decide)
      have hne_ := hI2_.2.2.2.1
      have hg3_ := hI2_.1.1
      have tk_ := zl_take hv_
      refine ih (i_ + 1) hy_ _ _ ay_ (i_ : Int) _ (by omega) ?_ (ky_.2 _ _ wx_.at (by omega)) (by omega) (by omega)
      rw [tk_]
      exact ⟨ky_.zg hI2_.1 (fun p_ (y_ : p_ = ai_ ∨ p_ = p1_) => by omega), ⟨ky_.2 _ _ hI2_.2.1.1 (by omega), ky_.2 _ _ hI2_.2.1.2 (by omega)⟩, ⟨⟨ny_, ty_, _, cy_, dy_, ey_, by rw [List.length_append, List.length_singleton]; omega, nq5_, Or.inr ⟨oy_, by omega⟩⟩, hI2_.2.2.1.2.o ky_ hne_ ⟨_, nq1_⟩ (by omega) ⟨tq_, _, nq2_, nq3_⟩⟩, hne_, Or.inl rfl⟩
  have z0_ : Value.int 0 = Value.int (Int32.ofInt (([] : List Nat).length : Int)) := rfl
  have k4_ : am_g G hz279 4 = some (43056, zl_ws 0 []) := zl_k4 g
  have hI0_ : zs_I G h hz279 S2_ ac_ ai_ bi_ 4 4 c.1 vn_ [] [] := by
    have ln_ := ki_.1
    refine ⟨g2_, ⟨wz280.at, (wz280.ne (by omega)).trans (ki_.2 _ _ cc_ (by omega))⟩, ⟨⟨0, 43056, 0, ?_, k4_, rfl, Nat.le_refl _, by omega, Or.inl ⟨rfl, rfl, rfl⟩⟩, ⟨0, 43056, 0, ?_, k4_, rfl, Nat.le_refl _, by omega, Or.inl ⟨rfl, rfl, rfl⟩⟩⟩, ni_, Or.inl rfl⟩
    · rw [← z0_]
      exact (wz280.ne (by omega)).trans di_
    · rw [← z0_]
      exact (wz280.ne (by omega)).trans ei_
  exact loop1 vl_.length 0 _ _ _ 4 (-1) _ (by omega) (hI0_.g gj_) cj_ (by omega) (by omega)
