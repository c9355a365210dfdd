/-! THE REFERENCE KEEPS, PUTS, ADDS -/
theorem zl_ob.W {G : am_G} {h : List am_C} {o : Nat → Nat} {ss : List Nat} {P : List sp_S} (hl : ss.length = P.length) (hs : ∀ (i s : Nat) (p : sp_S), ss[i]? = some s → P[i]? = some p → zm_s G h o s p) : zl_ob G h ss := fun i v hv => by
  obtain ⟨p_, hp_⟩ : ∃ p_, P[i]? = some p_ := ⟨_, List.getElem?_eq_getElem (by have := (List.getElem?_eq_some_iff.mp hv).1; omega)⟩
  obtain ⟨t_, _, _, _, _, _, _, _, x1_, ⟨x2_, -⟩, -⟩ := hs _ _ _ hv hp_
  exact ⟨t_, _, x1_, by rw [x2_]; rfl⟩
theorem zm_s.k {G : am_G} {h : List am_C} {o : Nat → Nat} {s : Nat} {c : sp_S} (a : zm_s G h o s c) : ∃ (t : Nat) (v : List Value), am_g G h s = some (t, v) ∧ t % 100 = 18 := by
  obtain ⟨t_, _, _, _, _, _, _, _, x1_, ⟨x2_, -⟩, -⟩ := a
  exact ⟨t_, _, x1_, x2_⟩
theorem zm_d4w {o : Nat → Nat} {q s : Nat} (hq : o q = 5) (h1 : 1000 ≤ s) : zm_no o s (zm_d4 o q) := ⟨zm_d4.ok, fun h => by
  obtain ⟨-, h2_⟩ := h
  omega, fun y e h => by
  obtain ⟨-, h2_⟩ := h
  omega, fun y e => ⟨fun h => by
  obtain ⟨-, h2_⟩ := h
  have z_ : y = q := by omega
  rw [z_] at e
  omega, fun p e2 h => by
  obtain ⟨-, h2_⟩ := h
  have z_ : y = q := by omega
  rw [z_] at e
  omega⟩⟩
theorem zm_s.lo {G : am_G} {h : List am_C} {o : Nat → Nat} {s : Nat} {c : sp_S} (a : zm_s G h o s c) : 1000 ≤ s := by
  obtain ⟨t_, _, _, _, _, _, _, _, x1_, ⟨_, x2_⟩, -⟩ := a
  exact x2_
/-- what may come back, one more of them -/
theorem zm_x.push {G : am_G} {h h1 h2 : List am_C} {o o1 o2 : Nat → Nat} {x tx now qw s2 : Nat} {th j m k : Int} {c : sp_S} {P : List sp_S} {ss : List Nat} (a : zm_x G h1 o1 x tx now qw th j m k c P) (hs : zm_s G h1 o1 s2 c) (hn : ∀ i : Nat, ss[i]? ≠ some s2) (hnow : now ≠ s2) (w1 : ss.length = P.length) (w2 : ∀ (i s : Nat) (p : sp_S), ss[i]? = some s → P[i]? = some p → zm_s G h1 o1 s p) (w3 : ∀ (i j s : Nat), ss[i]? = some s → ss[j]? = some s → i = j) (w4 : ∀ i : Nat, ss[i]? ≠ some now) (f : zm_f G o1 o2 h1 h2 (zm_d4 o1 qw)) (hl : zm_l G h2 o2 qw 5 (ss ++ [s2])) : zm_x G h2 o2 x tx now qw th j m k c (P ++ [c]) := by
  obtain ⟨a1_, a2_, a3_, a4_⟩ := a
  have l_ := a4_.lab
  refine ⟨f.2.2 _ _ _ a1_ (by rw [a2_.1]; exact zm_d4.nk (by decide) (by decide)), a2_, a3_.f f (zm_d4w l_ a3_.lo), ⟨ss ++ [s2], hl, by rw [List.length_append, List.length_append, w1]; rfl, fun i s p e1 e2 => ?_, fun i j s e1 e2 => ?_, fun i e1 => ?_⟩⟩
  · by_cases c_ : i < ss.length
    · rw [List.getElem?_append_left c_] at e1
      rw [List.getElem?_append_left (by omega)] at e2
      have z_ := w2 _ _ _ e1 e2
      exact z_.f f (zm_d4w l_ z_.lo)
    · have y1_ := (List.getElem?_eq_some_iff.mp e1).1
      rw [List.length_append, List.length_singleton] at y1_
      obtain rfl : i = ss.length := by omega
      rw [List.getElem?_append_right (Nat.le_refl _), Nat.sub_self] at e1
      rw [List.getElem?_append_right (by omega), w1, Nat.sub_self] at e2
      cases e1
      cases e2
      exact hs.f f (zm_d4w l_ hs.lo)
  · have y1_ := (List.getElem?_eq_some_iff.mp e1).1
    have y2_ := (List.getElem?_eq_some_iff.mp e2).1
    rw [List.length_append, List.length_singleton] at y1_ y2_
    by_cases c_ : i < ss.length
    · rw [List.getElem?_append_left c_] at e1
      by_cases d_ : j < ss.length
      · rw [List.getElem?_append_left d_] at e2
        exact w3 _ _ _ e1 e2
      · obtain rfl : j = ss.length := by omega
        rw [List.getElem?_append_right (Nat.le_refl _), Nat.sub_self] at e2
        cases e2
        exact absurd e1 (hn i)
    · obtain rfl : i = ss.length := by omega
      rw [List.getElem?_append_right (Nat.le_refl _), Nat.sub_self] at e1
      cases e1
      by_cases d_ : j < ss.length
      · rw [List.getElem?_append_left d_] at e2
        exact absurd e2 (hn j)
      · omega
  · have y1_ := (List.getElem?_eq_some_iff.mp e1).1
    rw [List.length_append, List.length_singleton] at y1_
    by_cases c_ : i < ss.length
    · rw [List.getElem?_append_left c_] at e1
      exact w4 i e1
    · obtain rfl : i = ss.length := by omega
      rw [List.getElem?_append_right (Nat.le_refl _), Nat.sub_self] at e1
      cases e1
      exact hnow rfl
/-- the first one falls out -/
theorem zm_x.shift {G : am_G} {h h2 : List am_C} {o : Nat → Nat} {x tx now qw : Nat} {th j m k : Int} {c : sp_S} {P : List sp_S} {ss : List Nat} (a : zm_x G h o x tx now qw th j m k c P) (w1 : ss.length = P.length) (w2 : ∀ (i s : Nat) (p : sp_S), ss[i]? = some s → P[i]? = some p → zm_s G h o s p) (w3 : ∀ (i j s : Nat), ss[i]? = some s → ss[j]? = some s → i = j) (w4 : ∀ i : Nat, ss[i]? ≠ some now) (f : zm_f G o o h h2 (zm_d4 o qw)) (hl : zm_l G h2 o qw 5 (ss.eraseIdx 0)) : zm_x G h2 o x tx now qw th j m k c P.tail := by
  obtain ⟨a1_, a2_, a3_, a4_⟩ := a
  have l_ := a4_.lab
  have er_ : ∀ i : Nat, (ss.eraseIdx 0)[i]? = ss[i + 1]? := fun i => by
    rw [List.getElem?_eraseIdx, if_neg (by omega)]
  refine ⟨f.2.2 _ _ _ a1_ (by rw [a2_.1]; exact zm_d4.nk (by decide) (by decide)), a2_, a3_.f f (zm_d4w l_ a3_.lo), ⟨ss.eraseIdx 0, hl, ?_, fun i s p e1 e2 => ?_, fun i j s e1 e2 => ?_, fun i e1 => ?_⟩⟩
  · rw [List.length_tail, List.length_eraseIdx, w1]
    split <;> omega
  · rw [er_] at e1
    rw [List.getElem?_tail] at e2
    have z_ := w2 _ _ _ e1 e2
    exact z_.f f (zm_d4w l_ z_.lo)
  · rw [er_] at e1 e2
    have := w3 _ _ _ e1 e2
    omega
  · rw [er_] at e1
    exact w4 _ e1
theorem sp_keep_lt {P : List sp_S} {c : sp_S} (h : P.length < 12) : sp_keep P c = P ++ [c] := by unfold sp_keep; rw [if_pos h]
theorem sp_keep_ge {P : List sp_S} {c : sp_S} (h : P.length = 12) : sp_keep P c = (P ++ [c]).tail := by
  unfold sp_keep
  rw [if_neg (by omega)]
  cases P with
  | nil => cases h
  | cons a u => rfl
theorem sp_keep_len {P : List sp_S} {c : sp_S} (h : P.length ≤ 12) : (sp_keep P c).length ≤ 12 := by
  unfold sp_keep
  split
  · rw [List.length_append, List.length_singleton]
    omega
  · rw [List.length_append, List.length_tail, List.length_singleton]
    omega
theorem zm_s.rc {G : am_G} {h : List am_C} {o : Nat → Nat} {s : Nat} {c : sp_S} {u : List Value} (a : zm_s G h o s c) : ck_rcv G (some 18) (.ref s :: u) h := by
  obtain ⟨t_, v_, x1_, x2_⟩ := a.k
  exact ⟨s, t_, v_, rfl, x1_, x2_⟩
set_option maxHeartbeats 4000000 in
theorem zm_keep_M {l : Launch} {G : am_G} {X : ck_XT} (g : gM l G X) {o : Nat → Nat} {x tx now qw : Nat} {th j m k : Int} {c : sp_S} {P : List sp_S} {h : List am_C} (hX : zm_x G h o x tx now qw th j m k c P) (hok : sp_ok c) (hp12 : P.length ≤ 12) {mc ms : Nat} {Post : am_O → List am_C → Prop} (hmc : 14 ≤ mc) (hms : 69 ≤ ms)
    (hP : ∀ (h' : List am_C) (o' : Nat → Nat), zm_fr G h h' → zm_x G h' o' x tx now qw th j m k c (sp_keep P c) → Post (.inl none) h') :
    am_M l G yX14_keep (.code yX14_keep prog_14_method_9_code 1 none) 10 274 mc ms [.ref x] h Post := by
  refine gh_yX14_keep_X g (Nat.le_of_ble_eq_true rfl) fun S SX hs hr hw hx => ?_
  have rv : ∀ x : Int32, ck_fv 0 (.int x) := fun x => ⟨_, rfl⟩
  obtain ⟨a1_, a2_, a3_, a4_⟩ := id hX
  obtain ⟨ss_, w0_, w1_, w2_, w3_, w4_⟩ := id a4_
  refine hs 0 _ rfl _ _ _ _ _ _ _ rfl ?_
  refine hs 1 _ rfl _ _ _ _ _ _ _ _ _ (a1_) a2_.1 rfl ?_
  refine hs 2 _ rfl _ _ _ _ _ _ _ rfl ?_
  refine hs 3 _ rfl _ _ _ _ _ _ _ _ _ (a1_) a2_.1 rfl ?_
  refine zw_cm (hs 4 _ rfl) (a := [.ref now]) (st := [.ref qw]) 13 49 rfl rfl (Nat.le_of_ble_eq_true rfl) (zm_s.rc a3_) (by omega) (by omega) (zs_copy_M g a3_ hok (by omega) (by omega) fun hy_ o1_ s2_ gy_ ly_ oy_ sy_ => ?_)
  show S 11 [some (.ref x)] [.ref s2_, .ref qw] _ _ _
  have fo_ : zm_f G o o1_ h hy_ (fun _ _ => False) := zm_f.g gy_ oy_
  have w2g_ : ∀ (i s : Nat) (p : sp_S), ss_[i]? = some s → P[i]? = some p → zm_s G hy_ o1_ s p := fun i s p e1 e2 => (w2_ i s p e1 e2).f fo_ zm_no.no
  obtain ⟨sk0_, sk1_, sk_, sk2_⟩ := sy_.k
  refine zw_cm (hs 5 _ rfl) (a := [.ref qw, .ref s2_]) (st := []) 1 20 rfl rfl (Nat.le_of_ble_eq_true rfl) (zm_l.rc (w0_.f (zm_f.g gy_ oy_ : zm_f G o o1_ h hy_ (fun _ _ => False)) (fun _ _ y_ => y_.elim) id (fun _ _ y_ => y_))) (by omega) (by omega) (zm_add_M g (w0_.f (zm_f.g gy_ oy_ : zm_f G o o1_ h hy_ (fun _ _ => False)) (fun _ _ y_ => y_.elim) id (fun _ _ y_ => y_)) (zl_ob.W w1_ w2g_) (by omega) sk_ (Or.inr (Or.inr sk2_)) (by omega) (by omega) fun hz_ o2_ fz_ lz_ => ?_)
  show S 14 [some (.ref x)] [.int (Int32.ofInt (1 : Int))] _ _ _
  refine hs 6 _ rfl _ _ _ _ _ _ _ rfl ?_
  have xy_ := hX.g gy_ oy_
  have nn_ : ∀ i : Nat, ss_[i]? ≠ some s2_ := fun i e => by
    obtain ⟨p_, hp_⟩ : ∃ p_, P[i]? = some p_ := ⟨_, List.getElem?_eq_getElem (by have := (List.getElem?_eq_some_iff.mp e).1; omega)⟩
    obtain ⟨t_, v_, x1_, -⟩ := (w2_ _ _ _ e hp_).k
    have := zg_lt x1_
    omega
  have nw_ : now ≠ s2_ := by
    obtain ⟨t_, v_, x1_, -⟩ := a3_.k
    have := zg_lt x1_
    omega
  have xz_ := xy_.push (h := h) (o := o) sy_ nn_ nw_ w1_ w2g_ w3_ w4_ fz_ lz_
  have fr_ : zm_fr G h hz_ := (zm_fr.g gy_).tr (zm_fr.f fz_ zm_d4.ok)
  have sl_ : (ss_ ++ [s2_]).length = P.length + 1 := by rw [List.length_append, List.length_singleton, w1_]
  refine hs 7 _ rfl _ _ _ _ _ _ _ rfl ?_
  refine hs 8 _ rfl _ _ _ _ _ _ _ _ _ (xz_.1) a2_.1 rfl ?_
  refine zw_c (hs 9 _ rfl) (a := [.ref qw]) (st := []) rfl rfl (Nat.le_of_ble_eq_true rfl) (zm_l.rc lz_) (by omega) (by omega) (zm_size_M g lz_ ?_)
  show S 22 [some (.ref x)] [.int (Int32.ofInt ((ss_ ++ [s2_]).length : Int))] _ _ _
  refine hs 10 _ rfl _ _ _ _ _ _ _ rfl ?_
  by_cases c_ : P.length < 12
  · 
    refine hs 11 _ rfl _ _ _ _ _ _ _ (fun _ => ?_) (fun zq => absurd (hd_c2t (c := 5) (by omega) (by omega) (by omega) (by omega) (by omega : (((ss_ ++ [s2_]).length : Int) - (12 : Int)) ≤ 0)) zq)
    exact hs 17 _ rfl _ _ _ _ (by omega) (by omega) (hP _ _ fr_ (by rw [sp_keep_lt c_]; exact xz_))
  · obtain ⟨sz_, v0_, v1_, w2z_, v3_, v4_⟩ := xz_.2.2.2
    have v5_ : sz_.length = P.length + 1 := by rw [v1_, List.length_append, List.length_singleton]
    obtain ⟨s0_, hs0_⟩ : ∃ s0_, sz_[0]? = some s0_ := ⟨_, List.getElem?_eq_getElem (by omega)⟩
    refine hs 11 _ rfl _ _ _ _ _ _ _ (fun zq => absurd (hd_c2z (c := 5) (by omega) (by omega) (by omega) (by omega) zq) (by omega : ¬ ((((ss_ ++ [s2_]).length : Int) - (12 : Int)) ≤ 0))) (fun _ => ?_)
    refine hs 12 _ rfl _ _ _ _ _ _ _ rfl ?_
    refine hs 13 _ rfl _ _ _ _ _ _ _ _ _ (xz_.1) a2_.1 rfl ?_
    refine hs 14 _ rfl _ _ _ _ _ _ _ rfl ?_
    refine zw_c (hs 15 _ rfl) (a := [.ref qw, .int (Int32.ofInt (0 : Int))]) (st := []) rfl rfl (Nat.le_of_ble_eq_true rfl) (zm_l.rc v0_) (by omega) (by omega) (zm_rem_M g (j := 0) (v := s0_) v0_ (zl_ob.W v1_ w2z_) rfl hs0_ fun hv_ fv_ lv_ => ?_)
    show S 35 [some (.ref x)] [.ref s0_] _ _ _
    refine hs 16 _ rfl _ _ _ _ _ _ _ rfl ?_
    exact hs 17 _ rfl _ _ _ _ (by omega) (by omega) (hP _ _ (fr_.tr (zm_fr.f fv_ zm_d4.ok)) (by rw [sp_keep_ge (by omega)]; exact xz_.shift v1_ w2z_ v3_ v4_ fv_ lv_))
set_option maxHeartbeats 4000000 in
theorem zm_put_M {l : Launch} {G : am_G} {X : ck_XT} (g : gM l G X) {o : Nat → Nat} {x tx now qw : Nat} {th j m k : Int} {c : sp_S} {P : List sp_S} {h : List am_C} (hX : zm_x G h o x tx now qw th j m k c P) (hok : sp_ok c) (hp12 : P.length ≤ 12) {i : Nat} {e : Int} (he : e = (i : Int)) (hi : i < 6) {q : Nat} {z : Int} (hz : zn_N G h q z) (hz2 : sp_in z) {mc ms : Nat} {Post : am_O → List am_C → Prop} (hmc : 14 ≤ mc) (hms : 69 ≤ ms)
    (hP : ∀ (h' : List am_C) (d : Nat), zm_fr G h h' → zm_X G h' x th j m k (c.1, c.2.1.set i z, c.2.2) (sp_keep P c) → zc_dg (z.natAbs : Int) d → Post (.inl (some (.int (Int32.ofInt (d : Int))))) h') :
    am_M l G yX14_put (.code yX14_put prog_14_method_11_code 3 (some .int)) 11 294 mc ms [.ref x, .int (Int32.ofInt e), .ref q] h Post := by
  refine gh_yX14_put_X g (Nat.le_of_ble_eq_true rfl) fun S SX hs hr hw hx => ?_
  have rv : ∀ x : Int32, ck_fv 0 (.int x) := fun x => ⟨_, rfl⟩
  obtain ⟨a1_, a2_, a3_, a4_⟩ := id hX
  have ok1_ := hok.2.1.1
  rw [he]
  show S 0 [some (.ref x), some (.int (Int32.ofInt (i : Int))), some (.ref q)] [] _ _ _
  refine hs 0 _ rfl _ _ _ _ _ _ _ rfl ?_
  refine zw_cm (hs 1 _ rfl) (a := [.ref x]) (st := []) 14 69 rfl rfl (Nat.le_of_ble_eq_true rfl) ⟨_, _, _, rfl, a1_, a2_.1⟩ (by omega) (by omega) (zm_keep_M g hX hok hp12 (by omega) (by omega) fun hy_ o1_ fy_ xy_ => ?_)
  show S 4 [some (.ref x), some (.int (Int32.ofInt (i : Int))), some (.ref q)] [] _ _ _
  obtain ⟨t_, qn_, tn_, ql_, qb_, vn_, s1_, ⟨b1_, b2_, b3_⟩, ⟨d1_, d2_⟩, up_⟩ := xy_.numL
  have hq_ := fy_.num hz
  obtain ⟨nt_, nd_, ntd_, nb_, nds_, n1_, n2_, n3_, n4_, n5_⟩ := id hq_
  have nl_ : nds_.length ≤ 36 := zm_len n5_ hz2
  have m1_ := zg_ne n1_ b1_ (by rw [n2_, b2_]; decide)
  have m2_ := zg_ne n3_ b1_ (by rw [n4_, b2_]; decide)
  refine hs 2 _ rfl _ _ _ _ _ _ _ rfl ?_
  refine hs 3 _ rfl _ _ _ _ _ _ _ _ _ (xy_.1) a2_.1 rfl ?_
  refine hs 4 _ rfl _ _ _ _ _ _ _ _ _ (s1_.1) s1_.2 rfl ?_
  refine hs 5 _ rfl _ _ _ _ _ _ _ rfl ?_
  refine hs 6 _ rfl _ _ _ _ _ _ _ rfl ?_
  refine zw_Br (hs 7 _ rfl) (by omega) (b1_) (by first | decide | (rw [b2_]; decide)) (by first | decide | (rw [b2_]; decide)) (j := i) (by omega) (by omega) (by rw [List.length_map, d1_]; omega) (Or.inr (Or.inr (Or.inr (Or.inr ⟨_, _, _, rfl, n1_, by rw [b2_, n2_]; decide⟩)))) fun hz285 wz286 => ?_
  refine hs 8 _ rfl _ _ _ _ _ _ _ rfl ?_
  refine zw_c (hs 9 _ rfl) (a := [.ref q]) (st := []) rfl rfl (Nat.le_of_ble_eq_true rfl) ⟨_, _, _, rfl, ((wz286.ne (by omega)).trans n1_), n2_⟩ (by omega) (by omega) (zn_many_M g ((wz286.ne (by omega)).trans n1_) n2_ ((wz286.ne (by omega)).trans n3_) n4_ n5_ (by omega) ?_)
  show S 18 [some (.ref x), some (.int (Int32.ofInt (i : Int))), some (.ref q)] [.int (Int32.ofInt ((if nds_.length = 0 then 1 else nds_.length : Nat) : Int))] _ _ _
  exact hs 10 _ rfl _ _ _ _ _ (rv _) (by omega) (by omega) (hP _ _ (fy_.tr (zm_fr.w wz286 b1_ (Or.inr (Or.inr b2_)))) ⟨_, _, _, _, up_ _ _ _ _ wz286 hq_⟩ (zm_dg n5_))
set_option maxHeartbeats 4000000 in
theorem zm_round_M {l : Launch} {G : am_G} {X : ck_XT} (g : gM l G X) {o : Nat → Nat} {x tx now qw : Nat} {th j m k : Int} {c : sp_S} {P : List sp_S} {h : List am_C} (hX : zm_x G h o x tx now qw th j m k c P) (hok : sp_ok c) (hp12 : P.length ≤ 12) {i : Nat} {e : Int} (he : e = (i : Int)) (hi : i < 6) {v : Int} (hv : v = -9 ∨ v = -8 ∨ 0 ≤ v) (hv2 : v ≤ 1000) {mc ms : Nat} {Post : am_O → List am_C → Prop} (hmc : 17 ≤ mc) (hms : 111 ≤ ms)
    (hJ : v = -9 → ∀ h', zm_fr G h h' → zm_x G h' o x tx now qw th (j + 1) m k c P → Post (.inl (some (.int (Int32.ofInt (-9))))) h')
    (hM : v = -8 → ∀ h', zm_fr G h h' → zm_x G h' o x tx now qw th j (m + 1) k c P → Post (.inl (some (.int (Int32.ofInt (-8))))) h')
    (hP : 0 ≤ v → ∀ h', zm_fr G h h' → zm_X G h' x th j m k (c.1, c.2.1.set i v, c.2.2) (sp_keep P c) → Post (.inl (some (.int (Int32.ofInt v)))) h') :
    am_M l G yX14_round (.code yX14_round prog_14_method_18_code 3 (some .int)) 12 316 mc ms [.ref x, .int (Int32.ofInt e), .int (Int32.ofInt v)] h Post := by
  refine gh_yX14_round_X g (Nat.le_of_ble_eq_true rfl) fun S SX hs hr hw hx => ?_
  have rv : ∀ x : Int32, ck_fv 0 (.int x) := fun x => ⟨_, rfl⟩
  obtain ⟨a1_, a2_, a3_, a4_⟩ := id hX
  rw [he]
  show S 0 [some (.ref x), some (.int (Int32.ofInt (i : Int))), some (.int (Int32.ofInt v))] [] _ _ _
  by_cases c1_ : v = -9
  · 
    refine hs 0 _ rfl _ _ _ _ _ _ _ rfl ?_
    refine hs 1 _ rfl _ _ _ _ _ _ _ rfl ?_
    refine hs 2 _ rfl _ _ _ _ _ _ _ (fun zq => absurd (hd_c2z (c := 1) (by omega) (by omega) (by omega) (by omega) zq) (by omega : ¬ ((v - (-9 : Int)) ≠ 0))) (fun _ => ?_)
    refine hs 3 _ rfl _ _ _ _ _ _ _ rfl ?_
    refine hs 4 _ rfl _ _ _ _ _ _ _ rfl ?_
    refine hs 5 _ rfl _ _ _ _ _ _ _ _ _ (a1_) a2_.1 rfl ?_
    refine hs 6 _ rfl _ _ _ _ _ _ _ rfl ?_
    refine hs 7 _ rfl _ _ _ _ _ _ _ hd_add ?_
    refine zw_U (hs 8 _ rfl) (by omega) (a1_) a2_.1 ⟨_, rfl⟩ fun hz289 wz290 => ?_
    have wz290 : hd_w G h hz289 x (tx, [.int (Int32.ofInt th), .ref now, .ref qw, .int (Int32.ofInt (j + (1 : Int))), .int (Int32.ofInt m), .int (Int32.ofInt k)]) := wz290
    have lwz290 := wz290.1
    refine hs 9 _ rfl _ _ _ _ _ ?_
    refine hs 27 _ rfl _ _ _ _ _ _ _ rfl ?_
    rw [c1_]
    exact hs 28 _ rfl _ _ _ _ _ (rv _) (by omega) (by omega) (hJ c1_ _ (zm_fr.w wz290 a1_ (Or.inl a2_.1)) (hX.own wz290))
  · by_cases c2_ : v = -8
    · 
      refine hs 0 _ rfl _ _ _ _ _ _ _ rfl ?_
      refine hs 1 _ rfl _ _ _ _ _ _ _ rfl ?_
      refine hs 2 _ rfl _ _ _ _ _ _ _ (fun _ => ?_) (fun zq => absurd (hd_c2t (c := 1) (by omega) (by omega) (by omega) (by omega) (by omega : (v - (-9 : Int)) ≠ 0)) zq)
      refine hs 10 _ rfl _ _ _ _ _ _ _ rfl ?_
      refine hs 11 _ rfl _ _ _ _ _ _ _ rfl ?_
      refine hs 12 _ rfl _ _ _ _ _ _ _ (fun zq => absurd (hd_c2z (c := 1) (by omega) (by omega) (by omega) (by omega) zq) (by omega : ¬ ((v - (-8 : Int)) ≠ 0))) (fun _ => ?_)
      refine hs 13 _ rfl _ _ _ _ _ _ _ rfl ?_
      refine hs 14 _ rfl _ _ _ _ _ _ _ rfl ?_
      refine hs 15 _ rfl _ _ _ _ _ _ _ _ _ (a1_) a2_.1 rfl ?_
      refine hs 16 _ rfl _ _ _ _ _ _ _ rfl ?_
      refine hs 17 _ rfl _ _ _ _ _ _ _ hd_add ?_
      refine zw_U (hs 18 _ rfl) (by omega) (a1_) a2_.1 ⟨_, rfl⟩ fun hz291 wz292 => ?_
      have wz292 : hd_w G h hz291 x (tx, [.int (Int32.ofInt th), .ref now, .ref qw, .int (Int32.ofInt j), .int (Int32.ofInt (m + (1 : Int))), .int (Int32.ofInt k)]) := wz292
      have lwz292 := wz292.1
      refine hs 19 _ rfl _ _ _ _ _ ?_
      refine hs 27 _ rfl _ _ _ _ _ _ _ rfl ?_
      rw [c2_]
      exact hs 28 _ rfl _ _ _ _ _ (rv _) (by omega) (by omega) (hM c2_ _ (zm_fr.w wz292 a1_ (Or.inl a2_.1)) (hX.own wz292))
    · 
      refine hs 0 _ rfl _ _ _ _ _ _ _ rfl ?_
      refine hs 1 _ rfl _ _ _ _ _ _ _ rfl ?_
      refine hs 2 _ rfl _ _ _ _ _ _ _ (fun _ => ?_) (fun zq => absurd (hd_c2t (c := 1) (by omega) (by omega) (by omega) (by omega) (by omega : (v - (-9 : Int)) ≠ 0)) zq)
      refine hs 10 _ rfl _ _ _ _ _ _ _ rfl ?_
      refine hs 11 _ rfl _ _ _ _ _ _ _ rfl ?_
      refine hs 12 _ rfl _ _ _ _ _ _ _ (fun _ => ?_) (fun zq => absurd (hd_c2t (c := 1) (by omega) (by omega) (by omega) (by omega) (by omega : (v - (-8 : Int)) ≠ 0)) zq)
      refine hs 20 _ rfl _ _ _ _ _ _ _ rfl ?_
      refine hs 21 _ rfl _ _ _ _ _ _ _ rfl ?_
      refine hs 22 _ rfl _ _ _ _ _ _ _ rfl ?_
      refine hs 23 _ rfl _ _ _ _ _ _ _ (hd_i2l (by omega) (by omega)) ?_
      refine zw_cm (hs 24 _ rfl) (a := [.long (Int64.ofInt v)]) (st := [.int (Int32.ofInt (i : Int)), .ref x]) 3 42 rfl rfl (Nat.le_of_ble_eq_true rfl) trivial (by omega) (by omega) (zn_of_M g (by omega) (by omega) (by omega) (by omega) fun hn_ q_ gn_ zn_ => ?_)
      show S 45 [some (.ref x), some (.int (Int32.ofInt (i : Int))), some (.int (Int32.ofInt v))] [.ref q_, .int (Int32.ofInt (i : Int)), .ref x] _ _ _
      refine zw_cm (hs 25 _ rfl) (a := [.ref x, .int (Int32.ofInt (i : Int)), .ref q_]) (st := []) 14 69 rfl rfl (Nat.le_of_ble_eq_true rfl) ⟨_, _, _, rfl, gn_.2 _ _ a1_, a2_.1⟩ (by omega) (by omega) (zm_put_M g (hX.g gn_ fun _ _ => rfl) hok hp12 rfl hi zn_ (by unfold sp_in; omega) (by omega) (by omega) fun hy_ d_ fy_ xy_ dg_ => ?_)
      show S 48 [some (.ref x), some (.int (Int32.ofInt (i : Int))), some (.int (Int32.ofInt v))] [.int (Int32.ofInt (d_ : Int))] _ _ _
      refine hs 26 _ rfl _ _ _ _ _ _ _ rfl ?_
      refine hs 27 _ rfl _ _ _ _ _ _ _ rfl ?_
      exact hs 28 _ rfl _ _ _ _ _ (rv _) (by omega) (by omega) (hP (by omega) _ ((zm_fr.g gn_).tr fy_) xy_)
set_option maxHeartbeats 4000000 in
theorem zm_addRow_M {l : Launch} {G : am_G} {X : ck_XT} (g : gM l G X) {o : Nat → Nat} {x tx now qw : Nat} {th j m k : Int} {c : sp_S} {P : List sp_S} {h : List am_C} (hX : zm_x G h o x tx now qw th j m k c P) (hok : sp_ok c) (hp12 : P.length ≤ 12) {r_ : Int} {m_ : Nat} (hr1 : -2147483648 ≤ r_) (hr2 : r_ ≤ 2147483647) (hm1 : 1 ≤ m_) (hm2 : m_ ≤ 999) (hl6 : c.2.2.1.length < 6) {mc ms : Nat} {Post : am_O → List am_C → Prop} (hmc : 16 ≤ mc) (hms : 91 ≤ ms)
    (hP : ∀ h', zm_fr G h h' → zm_X G h' x th j m k (c.1, c.2.1, c.2.2.1 ++ [(r_ % (m_ : Int), (m_ : Int))], c.2.2.2) (sp_keep P c) → Post (.inl (some (.int (Int32.ofInt (c.2.2.1.length : Int))))) h') :
    am_M l G yX14_add (.code yX14_add prog_14_method_32_code 3 (some .int)) 11 294 mc ms [.ref x, .int (Int32.ofInt r_), .int (Int32.ofInt (m_ : Int))] h Post := by
  refine gh_yX14_add_X g (Nat.le_of_ble_eq_true rfl) fun S SX hs hr hw hx => ?_
  have rv : ∀ x : Int32, ck_fv 0 (.int x) := fun x => ⟨_, rfl⟩
  obtain ⟨a1_, a2_, a3_, a4_⟩ := id hX
  refine hs 0 _ rfl _ _ _ _ _ _ _ rfl ?_
  refine zw_cm (hs 1 _ rfl) (a := [.ref x]) (st := []) 14 69 rfl rfl (Nat.le_of_ble_eq_true rfl) ⟨_, _, _, rfl, a1_, a2_.1⟩ (by omega) (by omega) (zm_keep_M g hX hok hp12 (by omega) (by omega) fun hy_ o1_ fy_ xy_ => ?_)
  show S 4 [some (.ref x), some (.int (Int32.ofInt r_)), some (.int (Int32.ofInt (m_ : Int)))] [] _ _ _
  obtain ⟨t_, qn_, ql_, qb_, vl_, s1_, l1_, ⟨e1_, e2_⟩, up_⟩ := xy_.rowL
  refine hs 2 _ rfl _ _ _ _ _ _ _ rfl ?_
  refine hs 3 _ rfl _ _ _ _ _ _ _ _ _ (xy_.1) a2_.1 rfl ?_
  refine hs 4 _ rfl _ _ _ _ _ _ _ _ _ (s1_.1) s1_.2 rfl ?_
  refine hs 5 _ rfl _ _ _ _ _ _ _ rfl ?_
  refine zw_E (G := G) (hs 6 _ rfl) (t := 50) (N := 2) rfl (by omega) (by omega) (by omega) (by omega) fun hz293 az294 ez295 lz296 gz297 cz298 => ?_
  refine hs 7 _ rfl _ _ _ _ _ _ _ rfl ?_
  refine hs 8 _ rfl _ _ _ _ _ _ _ rfl ?_
  refine hs 9 _ rfl _ _ _ _ _ _ _ rfl ?_
  refine hs 10 _ rfl _ _ _ _ _ _ _ rfl ?_
  refine zw_c (hs 11 _ rfl) (a := [.int (Int32.ofInt r_), .int (Int32.ofInt (m_ : Int))]) (st := [.int (Int32.ofInt (0 : Int)), .ref az294, .ref az294, .ref ql_]) rfl rfl (Nat.le_of_ble_eq_true rfl) trivial (by omega) (by omega) (zy_modOf_M g hr1 hr2 hm1 hm2 ?_)
  show S 21 [some (.ref x), some (.int (Int32.ofInt r_)), some (.int (Int32.ofInt (m_ : Int)))] [.int (Int32.ofInt (r_ % (m_ : Int))), .int (Int32.ofInt (0 : Int)), .ref az294, .ref az294, .ref ql_] _ _ _
  refine zw_B (hs 12 _ rfl) (by decide) (by decide) (by omega) (cz298) rfl (j := 0) (by omega) (by omega) (by simp only [List.length_replicate]; decide) fun hz299 wz300 => ?_
  refine hs 13 _ rfl _ _ _ _ _ _ _ rfl ?_
  refine hs 14 _ rfl _ _ _ _ _ _ _ rfl ?_
  refine hs 15 _ rfl _ _ _ _ _ _ _ rfl ?_
  refine zw_B (hs 16 _ rfl) (by decide) (by decide) (by omega) (wz300.at) rfl (j := 1) (by omega) (by omega) (by simp only [List.length_set, List.length_replicate]; decide) fun hz301 wz302 => ?_
  have g3_ : zg G hy_ hz301 := (gz297.w wz300 (by omega)).w wz302 (by omega)
  have f3_ : zm_f G o1_ o1_ hy_ hz301 (fun _ _ => False) := zm_f.g g3_ fun _ _ => rfl
  have l3_ := l1_.f f3_ (fun _ _ y_ => y_.elim) id (fun _ _ y_ => y_)
  have rz_ : am_g G hz301 az294 = some (50, hd_r [r_ % (m_ : Int), (m_ : Int)]) := wz302.at
  have ob_ : zl_ob G hz301 vl_ := fun i_ v_ hv_ => by
    obtain ⟨p_, hp_⟩ : ∃ p_, c.2.2.1[i_]? = some p_ := ⟨_, List.getElem?_eq_getElem (by have := (List.getElem?_eq_some_iff.mp hv_).1; omega)⟩
    obtain ⟨t9_, y1_, y2_⟩ := e2_ _ _ _ hv_ hp_
    exact ⟨t9_, _, g3_.2 _ _ y1_, by rw [y2_]; rfl⟩
  refine zw_cm (hs 17 _ rfl) (a := [.ref ql_, .ref az294]) (st := []) 1 20 rfl rfl (Nat.le_of_ble_eq_true rfl) (zm_l.rc l3_) (by omega) (by omega) (zm_add_M g l3_ ob_ (by omega) rz_ (Or.inl rfl) (by omega) (by omega) fun hz_ o2_ fz_ lz_ => ?_)
  show S 29 [some (.ref x), some (.int (Int32.ofInt r_)), some (.int (Int32.ofInt (m_ : Int)))] [.int (Int32.ofInt (1 : Int))] _ _ _
  refine hs 18 _ rfl _ _ _ _ _ _ _ rfl ?_
  have f4_ : zm_f G o1_ o2_ hy_ hz_ (zm_d4 o1_ ql_) := f3_.tr fz_ (fun _ _ y_ => y_.elim) (fun _ _ _ _ y_ => y_)
  have up2_ := up_ hz_ o2_ (vl_ ++ [az294]) (c.2.2.1 ++ [(r_ % (m_ : Int), (m_ : Int))]) f4_ lz_ (by rw [List.length_append, List.length_append, e1_]; rfl) (fun i_ v_ p_ y1_ y2_ => by
    by_cases c_ : i_ < vl_.length
    · rw [List.getElem?_append_left c_] at y1_
      rw [List.getElem?_append_left (by omega)] at y2_
      exact (e2_ _ _ _ y1_ y2_).f f4_ zm_d4.ok
    · have y3_ := (List.getElem?_eq_some_iff.mp y1_).1
      rw [List.length_append, List.length_singleton] at y3_
      obtain rfl : i_ = vl_.length := by omega
      rw [List.getElem?_append_right (Nat.le_refl _), Nat.sub_self] at y1_
      rw [List.getElem?_append_right (by omega), e1_, Nat.sub_self] at y2_
      cases y1_
      cases y2_
      exact ⟨50, fz_.2.2 _ _ _ rz_ (zm_d4.nk (by decide) (by decide)), rfl⟩)
  have s2_ := f4_.2.2 _ _ _ s1_.1 (by rw [s1_.2]; exact zm_d4.nk (by decide) (by decide))
  refine hs 19 _ rfl _ _ _ _ _ _ _ rfl ?_
  refine hs 20 _ rfl _ _ _ _ _ _ _ _ _ (up2_.1) a2_.1 rfl ?_
  refine hs 21 _ rfl _ _ _ _ _ _ _ _ _ (s2_) s1_.2 rfl ?_
  refine zw_c (hs 22 _ rfl) (a := [.ref ql_]) (st := []) rfl rfl (Nat.le_of_ble_eq_true rfl) (zm_l.rc lz_) (by omega) (by omega) (zm_size_M g lz_ ?_)
  show S 40 [some (.ref x), some (.int (Int32.ofInt r_)), some (.int (Int32.ofInt (m_ : Int)))] [.int (Int32.ofInt ((vl_ ++ [az294]).length : Int))] _ _ _
  refine hs 23 _ rfl _ _ _ _ _ _ _ rfl ?_
  refine hs 24 _ rfl _ _ _ _ _ _ _ hd_sub ?_
  have sl_ : ((vl_ ++ [az294]).length : Int) - 1 = (c.2.2.1.length : Int) := by
    rw [List.length_append, List.length_singleton]
    omega
  rw [sl_]
  exact hs 25 _ rfl _ _ _ _ _ (rv _) (by omega) (by omega) (hP _ ((fy_.tr (zm_fr.g g3_)).tr (zm_fr.f fz_ zm_d4.ok)) ⟨_, _, _, _, up2_⟩)
