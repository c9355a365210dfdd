/-! THE STATE'S METHODS -/
set_option maxHeartbeats 4000000 in
theorem zc_become_M {l : Launch} {G : am_G} {X : ck_XT} (g : gM l G X) {s o : Nat} {c c0 : sp_S} {h : List am_C} (hs1 : 1000 ≤ s) (hd : s + 17 ≤ o ∨ o + 17 ≤ s) (hs2 : zc_s G h s c0) (ho : zc_s G h o c) {mc ms : Nat} {Post : am_O → List am_C → Prop}
    (hP : ∀ h', zw_f G h h' s 17 → zc_s G h' s c → Post (.inl none) h') :
    am_M l G yX9_become (.code yX9_become prog_11_method_2_code 3 none) 3 80 mc ms [.ref s, .ref o] h Post := by
  refine gh_yX9_become_X g (Nat.le_of_ble_eq_true rfl) fun S SX hs hr hw hx => ?_
  have rv : ∀ x : Int32, ck_fv 0 (.int x) := fun x => ⟨_, rfl⟩
  obtain ⟨rs0, zs0, bs0, d1_, d2_, d3_, d4_, d5_, d6_, d7_⟩ := hs2
  obtain ⟨rs1, zs1, bs1, o1_, o2_, o3_, o4_, o5_, o6_, o7_⟩ := ho
  obtain ⟨⟨p4_, p5_, p6_⟩, -⟩ := d6_
  obtain ⟨⟨p1_, p2_, p3_⟩, p7_⟩ := id o6_
  have loop_ : ∀ (m_ i_ : Nat) (h1_ : List am_C), i_ + m_ = 6 → zw_f G h h1_ s 17 → am_g G h1_ s = some (zc_sc s c.1 (c0.2.2.1.length : Int) (c0.2.2.2.length : Int)) → am_g G h1_ (s + 1) = some (1053, zc_rl 6 fun i => s + 5 + 2 * i) → am_g G h1_ (s + 2) = some (1150, hd_r rs0) → am_g G h1_ (s + 3) = some (1250, hd_r zs0) → am_g G h1_ (s + 4) = some (1350, hd_r bs0) → (∀ j_, j_ < 6 → zc_n G h1_ (s + 5 + 2 * j_) (if j_ < i_ then c.2.1.getD j_ 0 else c0.2.1.getD j_ 0)) → S 10 [some (.ref s), some (.ref o), some (.int (Int32.ofInt (i_ : Int)))] [] h1_ 0 0 := by
    intro m_
    induction m_ with
    | zero =>
      intro i_ h1_ him_ f1_ e1_ e2_ e3_ e4_ e5_ e6_
      obtain rfl : i_ = 6 := by omega
      refine hs 6 _ rfl _ _ _ _ _ _ _ rfl ?_
      refine hs 7 _ rfl _ _ _ _ _ _ _ rfl ?_
      refine hs 8 _ rfl _ _ _ _ _ _ _ (fun _ => ?_) (fun zq => absurd (hd_c2t (c := 3) (by omega) (by omega) (by omega) (by omega) (by omega : 0 ≤ (((6 : Nat) : Int) - (6 : Int)))) zq)
      refine hs 20 _ rfl _ _ _ _ _ _ _ rfl ?_
      refine hs 21 _ rfl _ _ _ _ _ _ _ rfl ?_
      refine hs 22 _ rfl _ _ _ _ _ _ _ _ _ (((f1_.2 _ (by omega)).trans o1_)) rfl rfl ?_
      refine zw_U (hs 23 _ rfl) (by omega) (e1_) rfl ⟨_, rfl⟩ fun hz43 wz44 => ?_
      have wz44 : hd_w G h1_ hz43 s (1014, [.int (Int32.ofInt c.1), .ref (s + 1), .int (Int32.ofInt (c.2.2.1.length : Int)), .ref (s + 2), .ref (s + 3), .int (Int32.ofInt (c0.2.2.2.length : Int)), .ref (s + 4)]) := wz44
      refine hs 24 _ rfl _ _ _ _ _ _ _ rfl ?_
      refine hs 25 _ rfl _ _ _ _ _ _ _ _ _ ((wz44.ne (by omega)).trans (((f1_.2 _ (by omega)).trans o1_))) rfl rfl ?_
      refine hs 26 _ rfl _ _ _ _ _ _ _ rfl ?_
      refine hs 27 _ rfl _ _ _ _ _ _ _ rfl ?_
      refine hs 28 _ rfl _ _ _ _ _ _ _ _ _ (wz44.at) rfl rfl ?_
      refine hs 29 _ rfl _ _ _ _ _ _ _ rfl ?_
      refine hs 30 _ rfl _ _ _ _ _ _ _ rfl ?_
      refine zw_c (hs 31 _ rfl) (a := [.ref (o + 2), .int (Int32.ofInt (0 : Int)), .ref (s + 2), .int (Int32.ofInt (0 : Int)), .int (Int32.ofInt (6 : Int))]) (st := []) rfl rfl (Nat.le_of_ble_eq_true rfl) trivial (Nat.zero_le _) (Nat.zero_le _) (zw_acM (mc := 0) (ms := 0) (n := 6) (by omega) ((wz44.ne (by omega)).trans (((f1_.2 _ (by omega)).trans o3_))) ((wz44.ne (by omega)).trans e3_) rfl rfl p1_ p4_ (by decide) fun hz37 wz38 => ?_)
      show S 60 [some (.ref s), some (.ref o), some (.int (Int32.ofInt ((6 : Nat) : Int)))] [] _ _ _
      refine hs 32 _ rfl _ _ _ _ _ _ _ rfl ?_
      refine hs 33 _ rfl _ _ _ _ _ _ _ _ _ ((wz38.ne (by omega)).trans ((wz44.ne (by omega)).trans (((f1_.2 _ (by omega)).trans o1_)))) rfl rfl ?_
      refine hs 34 _ rfl _ _ _ _ _ _ _ rfl ?_
      refine hs 35 _ rfl _ _ _ _ _ _ _ rfl ?_
      refine hs 36 _ rfl _ _ _ _ _ _ _ _ _ ((wz38.ne (by omega)).trans wz44.at) rfl rfl ?_
      refine hs 37 _ rfl _ _ _ _ _ _ _ rfl ?_
      refine hs 38 _ rfl _ _ _ _ _ _ _ rfl ?_
      refine zw_c (hs 39 _ rfl) (a := [.ref (o + 3), .int (Int32.ofInt (0 : Int)), .ref (s + 3), .int (Int32.ofInt (0 : Int)), .int (Int32.ofInt (6 : Int))]) (st := []) rfl rfl (Nat.le_of_ble_eq_true rfl) trivial (Nat.zero_le _) (Nat.zero_le _) (zw_acM (mc := 0) (ms := 0) (n := 6) (by omega) ((wz38.ne (by omega)).trans ((wz44.ne (by omega)).trans (((f1_.2 _ (by omega)).trans o4_)))) ((wz38.ne (by omega)).trans ((wz44.ne (by omega)).trans e4_)) rfl rfl p2_ p5_ (by decide) fun hz39 wz40 => ?_)
      show S 75 [some (.ref s), some (.ref o), some (.int (Int32.ofInt ((6 : Nat) : Int)))] [] _ _ _
      refine hs 40 _ rfl _ _ _ _ _ _ _ rfl ?_
      refine hs 41 _ rfl _ _ _ _ _ _ _ rfl ?_
      refine hs 42 _ rfl _ _ _ _ _ _ _ _ _ ((wz40.ne (by omega)).trans ((wz38.ne (by omega)).trans ((wz44.ne (by omega)).trans (((f1_.2 _ (by omega)).trans o1_))))) rfl rfl ?_
      refine zw_U (hs 43 _ rfl) (by omega) ((wz40.ne (by omega)).trans ((wz38.ne (by omega)).trans wz44.at)) rfl ⟨_, rfl⟩ fun hz45 wz46 => ?_
      have wz46 : hd_w G hz39 hz45 s (1014, [.int (Int32.ofInt c.1), .ref (s + 1), .int (Int32.ofInt (c.2.2.1.length : Int)), .ref (s + 2), .ref (s + 3), .int (Int32.ofInt (c.2.2.2.length : Int)), .ref (s + 4)]) := wz46
      refine hs 44 _ rfl _ _ _ _ _ _ _ rfl ?_
      refine hs 45 _ rfl _ _ _ _ _ _ _ _ _ ((wz46.ne (by omega)).trans ((wz40.ne (by omega)).trans ((wz38.ne (by omega)).trans ((wz44.ne (by omega)).trans (((f1_.2 _ (by omega)).trans o1_)))))) rfl rfl ?_
      refine hs 46 _ rfl _ _ _ _ _ _ _ rfl ?_
      refine hs 47 _ rfl _ _ _ _ _ _ _ rfl ?_
      refine hs 48 _ rfl _ _ _ _ _ _ _ _ _ (wz46.at) rfl rfl ?_
      refine hs 49 _ rfl _ _ _ _ _ _ _ rfl ?_
      refine hs 50 _ rfl _ _ _ _ _ _ _ rfl ?_
      refine zw_c (hs 51 _ rfl) (a := [.ref (o + 4), .int (Int32.ofInt (0 : Int)), .ref (s + 4), .int (Int32.ofInt (0 : Int)), .int (Int32.ofInt (5 : Int))]) (st := []) rfl rfl (Nat.le_of_ble_eq_true rfl) trivial (Nat.zero_le _) (Nat.zero_le _) (zw_acM (mc := 0) (ms := 0) (n := 5) (by omega) ((wz46.ne (by omega)).trans ((wz40.ne (by omega)).trans ((wz38.ne (by omega)).trans ((wz44.ne (by omega)).trans (((f1_.2 _ (by omega)).trans o5_)))))) ((wz46.ne (by omega)).trans ((wz40.ne (by omega)).trans ((wz38.ne (by omega)).trans ((wz44.ne (by omega)).trans e5_)))) rfl rfl p3_ p6_ (by decide) fun hz41 wz42 => ?_)
      show S 97 [some (.ref s), some (.ref o), some (.int (Int32.ofInt ((6 : Nat) : Int)))] [] _ _ _
      refine hs 52 _ rfl _ _ _ _ (Nat.zero_le _) (Nat.zero_le _) (hP _ ((((((f1_).tr (zw_f.w wz44 (by omega) (by omega))).tr (zw_f.w wz38 (by omega) (by omega))).tr (zw_f.w wz40 (by omega) (by omega))).tr (zw_f.w wz46 (by omega) (by omega))).tr (zw_f.w wz42 (by omega) (by omega))) ⟨rs1, zs1, bs1, ((wz42.ne (by omega)).trans wz46.at), ((wz42.ne (by omega)).trans ((wz46.ne (by omega)).trans ((wz40.ne (by omega)).trans ((wz38.ne (by omega)).trans ((wz44.ne (by omega)).trans e2_))))), ((wz42.ne (by omega)).trans ((wz46.ne (by omega)).trans ((wz40.ne (by omega)).trans wz38.at))), ((wz42.ne (by omega)).trans ((wz46.ne (by omega)).trans wz40.at)), (wz42.at), o6_, fun j_ hj_ => ?_⟩)
      have e7_ := e6_ j_ hj_
      rw [if_pos hj_] at e7_
      exact e7_.keep ((((((wz42.ne (by omega)).trans (wz46.ne (by omega))).trans (wz40.ne (by omega))).trans (wz38.ne (by omega))).trans (wz44.ne (by omega)))) ((((((wz42.ne (by omega)).trans (wz46.ne (by omega))).trans (wz40.ne (by omega))).trans (wz38.ne (by omega))).trans (wz44.ne (by omega))))
    | succ m_ ih_ =>
      intro i_ h1_ him_ f1_ e1_ e2_ e3_ e4_ e5_ e6_
      obtain ⟨nx_, sx_, lx_, x1_, x2_, x3_⟩ := e6_ i_ (by omega)
      obtain ⟨ny_, sy_, ly_, y1_, y2_, y3_⟩ := (o7_ i_ (by omega)).fr f1_ (by omega)
      refine hs 6 _ rfl _ _ _ _ _ _ _ rfl ?_
      refine hs 7 _ rfl _ _ _ _ _ _ _ rfl ?_
      refine hs 8 _ rfl _ _ _ _ _ _ _ (fun zq => absurd (hd_c2z (c := 3) (by omega) (by omega) (by omega) (by omega) zq) (by omega : ¬ (0 ≤ ((i_ : Int) - (6 : Int))))) (fun _ => ?_)
      refine hs 9 _ rfl _ _ _ _ _ _ _ rfl ?_
      refine hs 10 _ rfl _ _ _ _ _ _ _ _ _ (e1_) rfl rfl ?_
      refine hs 11 _ rfl _ _ _ _ _ _ _ rfl ?_
      refine zw_Ar (hs 12 _ rfl) (e2_) rfl (j := i_) (by omega) (by omega) (zc_rl_get (by omega)) ?_
      refine hs 13 _ rfl _ _ _ _ _ _ _ rfl ?_
      refine hs 14 _ rfl _ _ _ _ _ _ _ _ _ (((f1_.2 _ (by omega)).trans o1_)) rfl rfl ?_
      refine hs 15 _ rfl _ _ _ _ _ _ _ rfl ?_
      refine zw_Ar (hs 16 _ rfl) (((f1_.2 _ (by omega)).trans o2_)) rfl (j := i_) (by omega) (by omega) (zc_rl_get (by omega)) ?_
      refine zw_c (hs 17 _ rfl) (a := [.ref (s + 5 + 2 * i_), .ref (o + 5 + 2 * i_)]) (st := []) rfl rfl (Nat.le_of_ble_eq_true rfl) ⟨_, _, _, rfl, x1_, rfl⟩ (Nat.zero_le _) (Nat.zero_le _) (sb_become_M g (by omega) (by omega) (by omega) x1_ rfl x2_ rfl x3_.1.1 y1_ rfl y2_ rfl y3_.1.1 (by omega) (by omega) fun h2_ w2_ => ?_)
      show S 31 [some (.ref s), some (.ref o), some (.int (Int32.ofInt (i_ : Int)))] [] _ _ _
      refine hs 18 _ rfl _ _ _ _ _ _ _ (hd_inc rfl) ?_
      refine hs 19 _ rfl _ _ _ _ _ ?_
      rw [show ((i_ : Int) + (1 : Int)) = ((i_ + 1 : Nat) : Int) by omega]
      refine ih_ (i_ + 1) h2_ (by omega) (f1_.tr (zw_f.w2 w2_ (by omega) (by omega) (by omega) (by omega))) ((w2_.ne (by omega) (by omega)).trans e1_) ((w2_.ne (by omega) (by omega)).trans e2_) ((w2_.ne (by omega) (by omega)).trans e3_) ((w2_.ne (by omega) (by omega)).trans e4_) ((w2_.ne (by omega) (by omega)).trans e5_) fun j_ hj_ => ?_
      by_cases ej_ : j_ = i_
      · subst ej_
        rw [if_pos (by omega)]
        exact ⟨ny_, sy_, ly_, w2_.q, w2_.p (by omega), y3_⟩
      · have e7_ := (e6_ j_ hj_).keep (w2_.ne (x := s + 5 + 2 * j_) (by omega) (by omega)) (w2_.ne (x := s + 5 + 2 * j_ + 1) (by omega) (by omega))
        by_cases el_ : j_ < i_
        · rw [if_pos el_] at e7_
          rw [if_pos (by omega)]
          exact e7_
        · rw [if_neg el_] at e7_
          rw [if_neg (by omega)]
          exact e7_
  refine hs 0 _ rfl _ _ _ _ _ _ _ rfl ?_
  refine hs 1 _ rfl _ _ _ _ _ _ _ rfl ?_
  refine hs 2 _ rfl _ _ _ _ _ _ _ _ _ (o1_) rfl rfl ?_
  refine zw_U (hs 3 _ rfl) (by omega) (d1_) rfl ⟨_, rfl⟩ fun hz35 wz36 => ?_
  have wz36 : hd_w G h hz35 s (1014, [.int (Int32.ofInt c.1), .ref (s + 1), .int (Int32.ofInt (c0.2.2.1.length : Int)), .ref (s + 2), .ref (s + 3), .int (Int32.ofInt (c0.2.2.2.length : Int)), .ref (s + 4)]) := wz36
  refine hs 4 _ rfl _ _ _ _ _ _ _ rfl ?_
  refine hs 5 _ rfl _ _ _ _ _ _ _ rfl ?_
  refine loop_ 6 0 _ (by omega) ((zw_f.rf).tr (zw_f.w wz36 (by omega) (by omega))) (wz36.at) ((wz36.ne (by omega)).trans d2_) ((wz36.ne (by omega)).trans d3_) ((wz36.ne (by omega)).trans d4_) ((wz36.ne (by omega)).trans d5_) fun j_ hj_ => ?_
  rw [if_neg (by omega)]
  exact (d7_ j_ hj_).keep ((wz36.ne (by omega))) ((wz36.ne (by omega)))
theorem zc_r.add {c : sp_S} {rs zs bs : List Int} (h : zc_r c rs zs bs) (hl : c.2.2.1.length < 6) {r z : Int} (hz : 1 ≤ z ∧ z ≤ 999) : zc_r (c.1, c.2.1, c.2.2.1 ++ [(r, z)], c.2.2.2) (rs.set c.2.2.1.length r) (zs.set c.2.2.1.length z) bs := by
  obtain ⟨⟨h1_, h2_, h3_⟩, ⟨h4_, h5_⟩, h6_, h7_⟩ := h
  refine ⟨⟨by rw [List.length_set]; exact h1_, by rw [List.length_set]; exact h2_, h3_⟩, ⟨fun x hx => ?_, h5_⟩, fun i p hp => ?_, h7_⟩
  · rcases List.mem_or_eq_of_mem_set hx with e_ | e_
    · exact h4_ x e_
    · rw [e_]; omega
  · have hp_ : (c.2.2.1 ++ [(r, z)])[i]? = some p := hp
    by_cases c_ : i < c.2.2.1.length
    · rw [List.getElem?_append_left c_] at hp_
      rw [List.getElem?_set_ne (by omega), List.getElem?_set_ne (by omega)]
      exact h6_ i p hp_
    · rw [List.getElem?_append_right (by omega)] at hp_
      have e_ : i = c.2.2.1.length := by
        have := (List.getElem?_eq_some_iff.mp hp_).1
        simp at this
        omega
      rw [e_, Nat.sub_self] at hp_
      cases hp_
      rw [e_, List.getElem?_set_self (by omega), List.getElem?_set_self (by omega)]
      exact ⟨rfl, rfl⟩
theorem zc_r.addb {c : sp_S} {rs zs bs : List Int} (h : zc_r c rs zs bs) (hl : c.2.2.2.length < 5) {z : Int} (hz : 1 ≤ z ∧ z ≤ 999) : zc_r (c.1, c.2.1, c.2.2.1, c.2.2.2 ++ [z]) rs zs (bs.set c.2.2.2.length z) := by
  obtain ⟨⟨h1_, h2_, h3_⟩, ⟨h4_, h5_⟩, h6_, h7_⟩ := h
  refine ⟨⟨h1_, h2_, by rw [List.length_set]; exact h3_⟩, ⟨h4_, fun x hx => ?_⟩, h6_, fun i p hp => ?_⟩
  · rcases List.mem_or_eq_of_mem_set hx with e_ | e_
    · exact h5_ x e_
    · rw [e_]; omega
  · have hp_ : (c.2.2.2 ++ [z])[i]? = some p := hp
    by_cases c_ : i < c.2.2.2.length
    · rw [List.getElem?_append_left c_] at hp_
      rw [List.getElem?_set_ne (by omega)]
      exact h7_ i p hp_
    · rw [List.getElem?_append_right (by omega)] at hp_
      have e_ : i = c.2.2.2.length := by
        have := (List.getElem?_eq_some_iff.mp hp_).1
        simp at this
        omega
      rw [e_, Nat.sub_self] at hp_
      cases hp_
      rw [e_, List.getElem?_set_self (by omega)]
theorem zc_r.subb {c : sp_S} {rs zs bs : List Int} (h : zc_r c rs zs bs) : zc_r (c.1, c.2.1, c.2.2.1, c.2.2.2.dropLast) rs zs bs := by
  obtain ⟨h1_, h2_, h6_, h7_⟩ := h
  refine ⟨h1_, h2_, h6_, fun i b hb => h7_ i b ?_⟩
  have hb_ : c.2.2.2.dropLast[i]? = some b := hb
  rw [List.getElem?_dropLast] at hb_
  split at hb_
  · exact hb_
  · cases hb_
/-- a row goes, those behind it move up -/
def zc_sh (A B : List Int) (p i : Nat) : Prop := B.length = A.length ∧ ∀ j, B.getD j 0 = if p ≤ j ∧ j < i then A.getD (j + 1) 0 else A.getD j 0
theorem zc_sh.step {A B : List Int} {p i : Nat} (h : zc_sh A B p i) (hp : p ≤ i) (hi : i + 1 < A.length) : zc_sh A (B.set i (B.getD (i + 1) 0)) p (i + 1) := by
  refine ⟨by rw [List.length_set]; exact h.1, fun j => ?_⟩
  by_cases c_ : j = i
  · subst c_
    rw [List.getD_eq_getElem?_getD, List.getElem?_set_self (by rw [h.1]; omega), Option.getD_some, if_pos ⟨hp, by omega⟩, h.2, if_neg (by omega)]
  · rw [sb_sets c_, h.2]
    by_cases c2_ : p ≤ j ∧ j < i
    · rw [if_pos c2_, if_pos ⟨c2_.1, by omega⟩]
    · rw [if_neg c2_, if_neg (by omega)]
theorem zc_r.rem {c : sp_S} {rs zs bs rs2 zs2 : List Int} (h : zc_r c rs zs bs) {p n : Nat} (hn : c.2.2.1.length = n + 1) (hp : p ≤ n) (hn6 : n + 1 ≤ 6) (h1 : zc_sh rs rs2 p n) (h2 : zc_sh zs zs2 p n) : zc_r (c.1, c.2.1, c.2.2.1.eraseIdx p, c.2.2.2) rs2 zs2 bs := by
  obtain ⟨⟨h1_, h2_, h3_⟩, ⟨h4_, h5_⟩, h6_, h7_⟩ := h
  have hgd_ : ∀ (l : List Int) (j : Nat), j < l.length → l[j]? = some (l.getD j 0) := fun l j hj => sb_ge hj
  refine ⟨⟨h1.1.trans h1_, h2.1.trans h2_, h3_⟩, ⟨fun x hx => ?_, h5_⟩, fun i q hq => ?_, h7_⟩
  · obtain ⟨j_, hj_, e_⟩ := List.mem_iff_getElem.mp hx
    have e2_ : x = zs2.getD j_ 0 := by rw [List.getD_eq_getElem?_getD, List.getElem?_eq_getElem hj_, Option.getD_some, e_]
    rw [e2_, h2.2]
    have key_ : ∀ k, 0 ≤ zs.getD k 0 ∧ zs.getD k 0 ≤ 999 := fun k => by
      by_cases c_ : k < zs.length
      · exact h4_ _ (List.mem_of_getElem? (hgd_ zs k c_))
      · rw [List.getD_eq_getElem?_getD, List.getElem?_eq_none (by omega)]
        decide
    split
    · exact key_ _
    · exact key_ _
  · have hq_ : (c.2.2.1.eraseIdx p)[i]? = some q := hq
    have hlen_ := (List.getElem?_eq_some_iff.mp hq_).1
    rw [List.length_eraseIdx_of_lt (by omega), hn] at hlen_
    rw [hgd_ rs2 i (by rw [h1.1]; omega), hgd_ zs2 i (by rw [h2.1]; omega), h1.2, h2.2]
    by_cases c_ : i < p
    · rw [List.getElem?_eraseIdx_of_lt c_] at hq_
      obtain ⟨e1_, e2_⟩ := h6_ i q hq_
      rw [if_neg (by omega), if_neg (by omega), ← hgd_ rs i (by omega), ← hgd_ zs i (by omega)]
      exact ⟨e1_, e2_⟩
    · rw [List.getElem?_eraseIdx_of_ge (by omega)] at hq_
      obtain ⟨e1_, e2_⟩ := h6_ (i + 1) q hq_
      rw [if_pos (by omega), if_pos (by omega), ← hgd_ rs (i + 1) (by omega), ← hgd_ zs (i + 1) (by omega)]
      exact ⟨e1_, e2_⟩
set_option maxHeartbeats 4000000 in
theorem zc_addRow_M {l : Launch} {G : am_G} {X : ck_XT} (g : gM l G X) {s : Nat} {c : sp_S} {h : List am_C} (hs1 : 1000 ≤ s) (hs2 : zc_s G h s c) {rest size : Int} (hr1 : -2147483648 ≤ rest) (hr2 : rest ≤ 2147483647) (hz : 1 ≤ size ∧ size ≤ 999) (hl : c.2.2.1.length < 6) {mc ms : Nat} {Post : am_O → List am_C → Prop}
    (hP : ∀ h', zw_f G h h' s 17 → zc_s G h' s (c.1, c.2.1, c.2.2.1 ++ [(rest % size, size)], c.2.2.2) → Post (.inl none) h') :
    am_M l G yX9_addRow (.code yX9_addRow prog_11_method_3_code 3 none) 2 42 mc ms [.ref s, .int (Int32.ofInt rest), .int (Int32.ofInt size)] h Post := by
  refine gh_yX9_addRow_X g (Nat.le_of_ble_eq_true rfl) fun S SX hs hr hw hx => ?_
  have rv : ∀ x : Int32, ck_fv 0 (.int x) := fun x => ⟨_, rfl⟩
  obtain ⟨rs0, zs0, bs0, d1_, d2_, d3_, d4_, d5_, d6_, d7_⟩ := hs2
  obtain ⟨⟨p4_, p5_, p6_⟩, -⟩ := id d6_
  refine hs 0 _ rfl _ _ _ _ _ _ _ rfl ?_
  refine hs 1 _ rfl _ _ _ _ _ _ _ _ _ (d1_) rfl rfl ?_
  refine hs 2 _ rfl _ _ _ _ _ _ _ rfl ?_
  refine hs 3 _ rfl _ _ _ _ _ _ _ (fun zq => absurd (hd_c2z (c := 3) (by omega) (by omega) (by omega) (by omega) zq) (by omega : ¬ (0 ≤ ((c.2.2.1.length : Int) - (6 : Int))))) (fun _ => ?_)
  refine hs 4 _ rfl _ _ _ _ _ _ _ rfl ?_
  refine hs 5 _ rfl _ _ _ _ _ _ (fun zq => absurd (hd_c1z (c := 5) (by omega) (by omega) zq) (by omega : ¬ (size ≤ 0))) (fun _ => ?_)
  refine hs 6 _ rfl _ _ _ _ _ _ _ rfl ?_
  refine hs 7 _ rfl _ _ _ _ _ _ _ _ _ (d1_) rfl rfl ?_
  refine hs 8 _ rfl _ _ _ _ _ _ _ rfl ?_
  refine hs 9 _ rfl _ _ _ _ _ _ _ _ _ (d1_) rfl rfl ?_
  refine hs 10 _ rfl _ _ _ _ _ _ _ rfl ?_
  refine hs 11 _ rfl _ _ _ _ _ _ _ rfl ?_
  refine zw_c (hs 12 _ rfl) (a := [.int (Int32.ofInt rest), .int (Int32.ofInt size)]) (st := [.int (Int32.ofInt (c.2.2.1.length : Int)), .ref (s + 2)]) rfl rfl (Nat.le_of_ble_eq_true rfl) trivial (Nat.zero_le _) (Nat.zero_le _) (sm_fmod_M g (by omega) (by omega) (by omega) (by omega) ?_)
  show S 26 [some (.ref s), some (.int (Int32.ofInt rest)), some (.int (Int32.ofInt size))] [.int (Int32.ofInt (rest % size)), .int (Int32.ofInt (c.2.2.1.length : Int)), .ref (s + 2)] _ _ _
  refine zw_B (hs 13 _ rfl) (by decide) (by decide) (by omega) (d3_) rfl (j := c.2.2.1.length) (by omega) (by omega) (by omega) fun hz47 wz48 => ?_
  refine hs 14 _ rfl _ _ _ _ _ _ _ rfl ?_
  refine hs 15 _ rfl _ _ _ _ _ _ _ _ _ ((wz48.ne (by omega)).trans d1_) rfl rfl ?_
  refine hs 16 _ rfl _ _ _ _ _ _ _ rfl ?_
  refine hs 17 _ rfl _ _ _ _ _ _ _ _ _ ((wz48.ne (by omega)).trans d1_) rfl rfl ?_
  refine hs 18 _ rfl _ _ _ _ _ _ _ rfl ?_
  refine zw_B (hs 19 _ rfl) (by decide) (by decide) (by omega) ((wz48.ne (by omega)).trans d4_) rfl (j := c.2.2.1.length) (by omega) (by omega) (by omega) fun hz49 wz50 => ?_
  refine hs 20 _ rfl _ _ _ _ _ _ _ rfl ?_
  refine hs 21 _ rfl _ _ _ _ _ _ _ rfl ?_
  refine hs 22 _ rfl _ _ _ _ _ _ _ _ _ ((wz50.ne (by omega)).trans ((wz48.ne (by omega)).trans d1_)) rfl rfl ?_
  refine hs 23 _ rfl _ _ _ _ _ _ _ rfl ?_
  refine hs 24 _ rfl _ _ _ _ _ _ _ hd_add ?_
  refine zw_U (hs 25 _ rfl) (by omega) ((wz50.ne (by omega)).trans ((wz48.ne (by omega)).trans d1_)) rfl ⟨_, rfl⟩ fun hz51 wz52 => ?_
  have wz52 : hd_w G hz49 hz51 s (1014, [.int (Int32.ofInt c.1), .ref (s + 1), .int (Int32.ofInt ((c.2.2.1.length : Int) + (1 : Int))), .ref (s + 2), .ref (s + 3), .int (Int32.ofInt (c.2.2.2.length : Int)), .ref (s + 4)]) := wz52
  have hlen_ : ((c.2.2.1 ++ [(rest % size, size)]).length : Int) = (c.2.2.1.length : Int) + (1 : Int) := by rw [List.length_append]; rfl
  refine hs 26 _ rfl _ _ _ _ (Nat.zero_le _) (Nat.zero_le _) ?_
  have hfin_ := fun (z_ : _) => hP hz51 ((((zw_f.rf).tr (zw_f.w wz48 (by omega) (by omega))).tr (zw_f.w wz50 (by omega) (by omega))).tr (zw_f.w wz52 (by omega) (by omega))) z_
  refine hfin_ ⟨_, _, _, ?_, ((wz52.ne (by omega)).trans ((wz50.ne (by omega)).trans ((wz48.ne (by omega)).trans d2_))), ((wz52.ne (by omega)).trans ((wz50.ne (by omega)).trans wz48.at)), ((wz52.ne (by omega)).trans wz50.at), ((wz52.ne (by omega)).trans ((wz50.ne (by omega)).trans ((wz48.ne (by omega)).trans d5_))), d6_.add hl hz, fun j_ hj_ => (d7_ j_ hj_).keep (((wz52.ne (by omega)).trans (wz50.ne (by omega))).trans (wz48.ne (by omega))) (((wz52.ne (by omega)).trans (wz50.ne (by omega))).trans (wz48.ne (by omega)))⟩
  show am_g G _ s = some (zc_sc s c.1 ((c.2.2.1 ++ [(rest % size, size)]).length : Int) (c.2.2.2.length : Int))
  rw [hlen_]
  exact (wz52.at)
set_option maxHeartbeats 4000000 in
theorem zc_addBase_M {l : Launch} {G : am_G} {X : ck_XT} (g : gM l G X) {s : Nat} {c : sp_S} {h : List am_C} (hs1 : 1000 ≤ s) (hs2 : zc_s G h s c) {size : Int} (hz : 1 ≤ size ∧ size ≤ 999) (hl : c.2.2.2.length < 5) {mc ms : Nat} {Post : am_O → List am_C → Prop}
    (hP : ∀ h', zw_f G h h' s 17 → zc_s G h' s (c.1, c.2.1, c.2.2.1, c.2.2.2 ++ [size]) → Post (.inl none) h') :
    am_M l G yX9_addBase (.code yX9_addBase prog_11_method_7_code 2 none) 1 20 mc ms [.ref s, .int (Int32.ofInt size)] h Post := by
  refine gh_yX9_addBase_X g (Nat.le_of_ble_eq_true rfl) fun S SX hs hr hw hx => ?_
  have rv : ∀ x : Int32, ck_fv 0 (.int x) := fun x => ⟨_, rfl⟩
  obtain ⟨rs0, zs0, bs0, d1_, d2_, d3_, d4_, d5_, d6_, d7_⟩ := hs2
  obtain ⟨⟨p4_, p5_, p6_⟩, -⟩ := id d6_
  refine hs 0 _ rfl _ _ _ _ _ _ _ rfl ?_
  refine hs 1 _ rfl _ _ _ _ _ _ _ _ _ (d1_) rfl rfl ?_
  refine hs 2 _ rfl _ _ _ _ _ _ _ rfl ?_
  refine hs 3 _ rfl _ _ _ _ _ _ _ (fun zq => absurd (hd_c2z (c := 3) (by omega) (by omega) (by omega) (by omega) zq) (by omega : ¬ (0 ≤ ((c.2.2.2.length : Int) - (5 : Int))))) (fun _ => ?_)
  refine hs 4 _ rfl _ _ _ _ _ _ _ rfl ?_
  refine hs 5 _ rfl _ _ _ _ _ _ _ _ _ (d1_) rfl rfl ?_
  refine hs 6 _ rfl _ _ _ _ _ _ _ rfl ?_
  refine hs 7 _ rfl _ _ _ _ _ _ _ _ _ (d1_) rfl rfl ?_
  refine hs 8 _ rfl _ _ _ _ _ _ _ rfl ?_
  refine zw_B (hs 9 _ rfl) (by decide) (by decide) (by omega) (d5_) rfl (j := c.2.2.2.length) (by omega) (by omega) (by omega) fun hz53 wz54 => ?_
  refine hs 10 _ rfl _ _ _ _ _ _ _ rfl ?_
  refine hs 11 _ rfl _ _ _ _ _ _ _ rfl ?_
  refine hs 12 _ rfl _ _ _ _ _ _ _ _ _ ((wz54.ne (by omega)).trans d1_) rfl rfl ?_
  refine hs 13 _ rfl _ _ _ _ _ _ _ rfl ?_
  refine hs 14 _ rfl _ _ _ _ _ _ _ hd_add ?_
  refine zw_U (hs 15 _ rfl) (by omega) ((wz54.ne (by omega)).trans d1_) rfl ⟨_, rfl⟩ fun hz55 wz56 => ?_
  have wz56 : hd_w G hz53 hz55 s (1014, [.int (Int32.ofInt c.1), .ref (s + 1), .int (Int32.ofInt (c.2.2.1.length : Int)), .ref (s + 2), .ref (s + 3), .int (Int32.ofInt ((c.2.2.2.length : Int) + (1 : Int))), .ref (s + 4)]) := wz56
  have hlen_ : ((c.2.2.2 ++ [size]).length : Int) = (c.2.2.2.length : Int) + (1 : Int) := by rw [List.length_append]; rfl
  refine hs 16 _ rfl _ _ _ _ (Nat.zero_le _) (Nat.zero_le _) ?_
  have hfin_ := fun (z_ : _) => hP hz55 (((zw_f.rf).tr (zw_f.w wz54 (by omega) (by omega))).tr (zw_f.w wz56 (by omega) (by omega))) z_
  refine hfin_ ⟨_, _, _, ?_, ((wz56.ne (by omega)).trans ((wz54.ne (by omega)).trans d2_)), ((wz56.ne (by omega)).trans ((wz54.ne (by omega)).trans d3_)), ((wz56.ne (by omega)).trans ((wz54.ne (by omega)).trans d4_)), ((wz56.ne (by omega)).trans wz54.at), d6_.addb hl hz, fun j_ hj_ => (d7_ j_ hj_).keep ((wz56.ne (by omega)).trans (wz54.ne (by omega))) ((wz56.ne (by omega)).trans (wz54.ne (by omega)))⟩
  show am_g G _ s = some (zc_sc s c.1 (c.2.2.1.length : Int) ((c.2.2.2 ++ [size]).length : Int))
  rw [hlen_]
  exact (wz56.at)
set_option maxHeartbeats 4000000 in
theorem zc_removeBase_M {l : Launch} {G : am_G} {X : ck_XT} (g : gM l G X) {s n : Nat} {c : sp_S} {b : Int} {h : List am_C} (hs1 : 1000 ≤ s) (hs2 : zc_s G h s c) (hn : c.2.2.2.length = n + 1) (hn5 : n + 1 ≤ 5) (hb : c.2.2.2[n]? = some b) {mc ms : Nat} {Post : am_O → List am_C → Prop}
    (hP : ∀ h', zw_f G h h' s 17 → zc_s G h' s (c.1, c.2.1, c.2.2.1, c.2.2.2.dropLast) → Post (.inl (some (.int (Int32.ofInt b)))) h') :
    am_M l G yX9_removeBase (.code yX9_removeBase prog_11_method_8_code 1 (some .int)) 1 20 mc ms [.ref s] h Post := by
  refine gh_yX9_removeBase_X g (Nat.le_of_ble_eq_true rfl) fun S SX hs hr hw hx => ?_
  have rv : ∀ x : Int32, ck_fv 0 (.int x) := fun x => ⟨_, rfl⟩
  obtain ⟨rs0, zs0, bs0, d1_, d2_, d3_, d4_, d5_, d6_, d7_⟩ := hs2
  obtain ⟨⟨p4_, p5_, p6_⟩, -⟩ := id d6_
  have eb_ := d6_.2.2.2 n b hb
  refine hs 0 _ rfl _ _ _ _ _ _ _ rfl ?_
  refine hs 1 _ rfl _ _ _ _ _ _ _ _ _ (d1_) rfl rfl ?_
  refine hs 2 _ rfl _ _ _ _ _ _ (fun _ => ?_) (fun zq => absurd (hd_c1t (c := 4) (by omega) (by omega) (by omega : 0 < (c.2.2.2.length : Int))) zq)
  refine hs 5 _ rfl _ _ _ _ _ _ _ rfl ?_
  refine hs 6 _ rfl _ _ _ _ _ _ _ rfl ?_
  refine hs 7 _ rfl _ _ _ _ _ _ _ _ _ (d1_) rfl rfl ?_
  refine hs 8 _ rfl _ _ _ _ _ _ _ rfl ?_
  refine hs 9 _ rfl _ _ _ _ _ _ _ hd_sub ?_
  refine zw_U (hs 10 _ rfl) (by omega) (d1_) rfl ⟨_, rfl⟩ fun hz57 wz58 => ?_
  have wz58 : hd_w G h hz57 s (1014, [.int (Int32.ofInt c.1), .ref (s + 1), .int (Int32.ofInt (c.2.2.1.length : Int)), .ref (s + 2), .ref (s + 3), .int (Int32.ofInt ((c.2.2.2.length : Int) - (1 : Int))), .ref (s + 4)]) := wz58
  refine hs 11 _ rfl _ _ _ _ _ _ _ rfl ?_
  refine hs 12 _ rfl _ _ _ _ _ _ _ _ _ (wz58.at) rfl rfl ?_
  refine hs 13 _ rfl _ _ _ _ _ _ _ rfl ?_
  refine hs 14 _ rfl _ _ _ _ _ _ _ _ _ (wz58.at) rfl rfl ?_
  refine hd_A (hs 15 _ rfl) (by decide) (by decide) ((wz58.ne (by omega)).trans d5_) rfl (j := n) (by omega) (by omega) eb_ ?_
  have hlen_ : ((c.2.2.2.dropLast).length : Int) = (c.2.2.2.length : Int) - (1 : Int) := by rw [List.length_dropLast]; omega
  refine hs 16 _ rfl _ _ _ _ _ (rv _) (Nat.zero_le _) (Nat.zero_le _) ?_
  have hfin_ := fun (z_ : _) => hP hz57 ((zw_f.rf).tr (zw_f.w wz58 (by omega) (by omega))) z_
  refine hfin_ ⟨_, _, _, ?_, ((wz58.ne (by omega)).trans d2_), ((wz58.ne (by omega)).trans d3_), ((wz58.ne (by omega)).trans d4_), ((wz58.ne (by omega)).trans d5_), d6_.subb, fun j_ hj_ => (d7_ j_ hj_).keep (wz58.ne (by omega)) (wz58.ne (by omega))⟩
  show am_g G _ s = some (zc_sc s c.1 (c.2.2.1.length : Int) ((c.2.2.2.dropLast).length : Int))
  rw [hlen_]
  exact (wz58.at)
/-- a base may be told -/
def sp_tb (c : sp_S) (size : Int) : Prop := (∀ b ∈ c.2.2.2, Nat.gcd b.toNat size.toNat = 1) ∧ c.2.2.2.length < 5
set_option maxHeartbeats 4000000 in
theorem zc_takesBase_M {l : Launch} {G : am_G} {X : ck_XT} (g : gM l G X) {s : Nat} {c : sp_S} {h : List am_C} (hs2 : zc_s G h s c) (hok : sp_ok c) {size : Int} (hz : 2 ≤ size ∧ size ≤ 999) {mc ms : Nat} {Post : am_O → List am_C → Prop}
    (hP1 : sp_tb c size → Post (.inl (some (.int (Int32.ofInt 1)))) h) (hP0 : ¬ sp_tb c size → Post (.inl (some (.int (Int32.ofInt 0)))) h) :
    am_M l G yX9_takesBase (.code yX9_takesBase prog_11_method_6_code 3 (some .boolean)) 2 45 mc ms [.ref s, .int (Int32.ofInt size)] h Post := by
  refine gh_yX9_takesBase_X g (Nat.le_of_ble_eq_true rfl) fun S SX hs hr hw hx => ?_
  have rv : ∀ x : Int32, ck_fv 0 (.int x) := fun x => ⟨_, rfl⟩
  obtain ⟨rs0, zs0, bs0, d1_, d2_, d3_, d4_, d5_, d6_, d7_⟩ := hs2
  obtain ⟨⟨p4_, p5_, p6_⟩, -⟩ := id d6_
  obtain ⟨-, -, -, hb5_, hbb_⟩ := hok
  obtain ⟨z_, rfl⟩ : ∃ z_ : Nat, size = (z_ : Int) := ⟨size.toNat, by omega⟩
  have loop_ : ∀ (m_ i_ : Nat), i_ + m_ = c.2.2.2.length → (∀ (j_ : Nat) (b : Int), j_ < i_ → c.2.2.2[j_]? = some b → Nat.gcd b.toNat z_ = 1) → S 2 [some (.ref s), some (.int (Int32.ofInt (z_ : Int))), some (.int (Int32.ofInt (i_ : Int)))] [] h 0 0 := by
    intro m_
    induction m_ with
    | zero =>
      intro i_ him_ hg_
      have hall_ : ∀ b ∈ c.2.2.2, Nat.gcd b.toNat z_ = 1 := fun b hb => by
        obtain ⟨j_, hj_, e_⟩ := List.mem_iff_getElem.mp hb
        exact hg_ j_ b (by omega) (by rw [List.getElem?_eq_getElem hj_, e_])
      by_cases hl5_ : c.2.2.2.length < 5
      · 
        refine hs 2 _ rfl _ _ _ _ _ _ _ rfl ?_
        refine hs 3 _ rfl _ _ _ _ _ _ _ rfl ?_
        refine hs 4 _ rfl _ _ _ _ _ _ _ _ _ (d1_) rfl rfl ?_
        refine hs 5 _ rfl _ _ _ _ _ _ _ (fun _ => ?_) (fun zq => absurd (hd_c2t (c := 3) (by omega) (by omega) (by omega) (by omega) (by omega : 0 ≤ ((i_ : Int) - (c.2.2.2.length : Int)))) zq)
        refine hs 18 _ rfl _ _ _ _ _ _ _ rfl ?_
        refine hs 19 _ rfl _ _ _ _ _ _ _ _ _ (d1_) rfl rfl ?_
        refine hs 20 _ rfl _ _ _ _ _ _ _ rfl ?_
        refine hs 21 _ rfl _ _ _ _ _ _ _ (fun zq => absurd (hd_c2z (c := 3) (by omega) (by omega) (by omega) (by omega) zq) (by omega : ¬ (0 ≤ ((c.2.2.2.length : Int) - (5 : Int))))) (fun _ => ?_)
        refine hs 22 _ rfl _ _ _ _ _ _ _ rfl ?_
        refine hs 23 _ rfl _ _ _ _ _ ?_
        exact hs 25 _ rfl _ _ _ _ _ ⟨_, rfl, by decide, by decide⟩ (Nat.zero_le _) (Nat.zero_le _) (hP1 ⟨fun b hb => hall_ b hb, hl5_⟩)
      · 
        refine hs 2 _ rfl _ _ _ _ _ _ _ rfl ?_
        refine hs 3 _ rfl _ _ _ _ _ _ _ rfl ?_
        refine hs 4 _ rfl _ _ _ _ _ _ _ _ _ (d1_) rfl rfl ?_
        refine hs 5 _ rfl _ _ _ _ _ _ _ (fun _ => ?_) (fun zq => absurd (hd_c2t (c := 3) (by omega) (by omega) (by omega) (by omega) (by omega : 0 ≤ ((i_ : Int) - (c.2.2.2.length : Int)))) zq)
        refine hs 18 _ rfl _ _ _ _ _ _ _ rfl ?_
        refine hs 19 _ rfl _ _ _ _ _ _ _ _ _ (d1_) rfl rfl ?_
        refine hs 20 _ rfl _ _ _ _ _ _ _ rfl ?_
        refine hs 21 _ rfl _ _ _ _ _ _ _ (fun _ => ?_) (fun zq => absurd (hd_c2t (c := 3) (by omega) (by omega) (by omega) (by omega) (by omega : 0 ≤ ((c.2.2.2.length : Int) - (5 : Int)))) zq)
        refine hs 24 _ rfl _ _ _ _ _ _ _ rfl ?_
        exact hs 25 _ rfl _ _ _ _ _ ⟨_, rfl, by decide, by decide⟩ (Nat.zero_le _) (Nat.zero_le _) (hP0 fun y_ => hl5_ y_.2)
    | succ m_ ih_ =>
      intro i_ him_ hg0_
      have hi_ : i_ < c.2.2.2.length := by omega
      have eb_ := List.getElem?_eq_getElem hi_
      have ha0_ := hbb_ _ (List.mem_of_getElem? eb_)
      obtain ⟨a_, hae_⟩ : ∃ a_ : Nat, c.2.2.2[i_] = (a_ : Int) := ⟨(c.2.2.2[i_]).toNat, by omega⟩
      have ha_ := List.mem_of_getElem? eb_
      rw [hae_] at eb_ ha0_ ha_
      have ea_ := d6_.2.2.2 i_ _ eb_
      have hle_ : Nat.gcd a_ z_ ≤ a_ := Nat.gcd_le_left _ (by omega)
      by_cases hg_ : Nat.gcd a_ z_ = 1
      · 
        refine hs 2 _ rfl _ _ _ _ _ _ _ rfl ?_
        refine hs 3 _ rfl _ _ _ _ _ _ _ rfl ?_
        refine hs 4 _ rfl _ _ _ _ _ _ _ _ _ (d1_) rfl rfl ?_
        refine hs 5 _ rfl _ _ _ _ _ _ _ (fun zq => absurd (hd_c2z (c := 3) (by omega) (by omega) (by omega) (by omega) zq) (by omega : ¬ (0 ≤ ((i_ : Int) - (c.2.2.2.length : Int))))) (fun _ => ?_)
        refine hs 6 _ rfl _ _ _ _ _ _ _ rfl ?_
        refine hs 7 _ rfl _ _ _ _ _ _ _ _ _ (d1_) rfl rfl ?_
        refine hs 8 _ rfl _ _ _ _ _ _ _ rfl ?_
        refine hd_A (hs 9 _ rfl) (by decide) (by decide) (d5_) rfl (j := i_) (by omega) (by omega) ea_ ?_
        refine hs 10 _ rfl _ _ _ _ _ _ _ rfl ?_
        refine zw_c (hs 11 _ rfl) (a := [.int (Int32.ofInt (a_ : Int)), .int (Int32.ofInt (z_ : Int))]) (st := []) rfl rfl (Nat.le_of_ble_eq_true rfl) trivial (Nat.zero_le _) (Nat.zero_le _) (sm_common_M g (a := a_) (b := z_) (by omega) (by omega) ?_)
        show S 20 [some (.ref s), some (.int (Int32.ofInt (z_ : Int))), some (.int (Int32.ofInt (i_ : Int)))] [.int (Int32.ofInt ((Nat.gcd a_ z_ : Nat) : Int))] _ _ _
        refine hs 12 _ rfl _ _ _ _ _ _ _ rfl ?_
        refine hs 13 _ rfl _ _ _ _ _ _ _ (fun _ => ?_) (fun zq => absurd (hd_c2t (c := 0) (by omega) (by omega) (by omega) (by omega) ((by omega) : (((Nat.gcd a_ z_ : Nat) : Int) - (1 : Int)) = 0)) zq)
        refine hs 16 _ rfl _ _ _ _ _ _ _ (hd_inc rfl) ?_
        refine hs 17 _ rfl _ _ _ _ _ ?_
        rw [show ((i_ : Int) + (1 : Int)) = ((i_ + 1 : Nat) : Int) by omega]
        refine ih_ (i_ + 1) (by omega) fun j_ b hj_ hb_ => ?_
        by_cases c_ : j_ = i_
        · subst c_
          rw [eb_] at hb_
          cases hb_
          exact hg_
        · exact hg0_ j_ b (by omega) hb_
      · 
        refine hs 2 _ rfl _ _ _ _ _ _ _ rfl ?_
        refine hs 3 _ rfl _ _ _ _ _ _ _ rfl ?_
        refine hs 4 _ rfl _ _ _ _ _ _ _ _ _ (d1_) rfl rfl ?_
        refine hs 5 _ rfl _ _ _ _ _ _ _ (fun zq => absurd (hd_c2z (c := 3) (by omega) (by omega) (by omega) (by omega) zq) (by omega : ¬ (0 ≤ ((i_ : Int) - (c.2.2.2.length : Int))))) (fun _ => ?_)
        refine hs 6 _ rfl _ _ _ _ _ _ _ rfl ?_
        refine hs 7 _ rfl _ _ _ _ _ _ _ _ _ (d1_) rfl rfl ?_
        refine hs 8 _ rfl _ _ _ _ _ _ _ rfl ?_
        refine hd_A (hs 9 _ rfl) (by decide) (by decide) (d5_) rfl (j := i_) (by omega) (by omega) ea_ ?_
        refine hs 10 _ rfl _ _ _ _ _ _ _ rfl ?_
        refine zw_c (hs 11 _ rfl) (a := [.int (Int32.ofInt (a_ : Int)), .int (Int32.ofInt (z_ : Int))]) (st := []) rfl rfl (Nat.le_of_ble_eq_true rfl) trivial (Nat.zero_le _) (Nat.zero_le _) (sm_common_M g (a := a_) (b := z_) (by omega) (by omega) ?_)
        show S 20 [some (.ref s), some (.int (Int32.ofInt (z_ : Int))), some (.int (Int32.ofInt (i_ : Int)))] [.int (Int32.ofInt ((Nat.gcd a_ z_ : Nat) : Int))] _ _ _
        refine hs 12 _ rfl _ _ _ _ _ _ _ rfl ?_
        refine hs 13 _ rfl _ _ _ _ _ _ _ (fun zq => absurd (hd_c2z (c := 0) (by omega) (by omega) (by omega) (by omega) zq) ((by omega) : ¬ ((((Nat.gcd a_ z_ : Nat) : Int) - (1 : Int)) = 0))) (fun _ => ?_)
        refine hs 14 _ rfl _ _ _ _ _ _ _ rfl ?_
        exact hs 15 _ rfl _ _ _ _ _ ⟨_, rfl, by decide, by decide⟩ (Nat.zero_le _) (Nat.zero_le _) (hP0 fun y_ => hg_ (y_.1 _ ha_))
  refine hs 0 _ rfl _ _ _ _ _ _ _ rfl ?_
  refine hs 1 _ rfl _ _ _ _ _ _ _ rfl ?_
  exact loop_ c.2.2.2.length 0 (by omega) (fun j_ b hj_ _ => absurd hj_ (Nat.not_lt_zero _))
set_option maxHeartbeats 4000000 in
theorem zc_removeRow_M {l : Launch} {G : am_G} {X : ck_XT} (g : gM l G X) {s p n : Nat} {c : sp_S} {h : List am_C} (hs1 : 1000 ≤ s) (hs2 : zc_s G h s c) (hn : c.2.2.1.length = n + 1) (hn6 : n + 1 ≤ 6) (hp : p ≤ n) {mc ms : Nat} {Post : am_O → List am_C → Prop}
    (hP : ∀ h', zw_f G h h' s 17 → zc_s G h' s (c.1, c.2.1, c.2.2.1.eraseIdx p, c.2.2.2) → Post (.inl none) h') :
    am_M l G yX9_removeRow (.code yX9_removeRow prog_11_method_4_code 3 none) 1 20 mc ms [.ref s, .int (Int32.ofInt (p : Int))] h Post := by
  refine gh_yX9_removeRow_X g (Nat.le_of_ble_eq_true rfl) fun S SX hs hr hw hx => ?_
  have rv : ∀ x : Int32, ck_fv 0 (.int x) := fun x => ⟨_, rfl⟩
  obtain ⟨rs0, zs0, bs0, d1_, d2_, d3_, d4_, d5_, d6_, d7_⟩ := hs2
  obtain ⟨⟨p4_, p5_, p6_⟩, -⟩ := id d6_
  have loop_ : ∀ (m_ i_ : Nat) (rs_ zs_ : List Int) (h1_ : List am_C), i_ + m_ = n → p ≤ i_ → zc_sh rs0 rs_ p i_ → zc_sh zs0 zs_ p i_ → zw_f G h h1_ s 17 → am_g G h1_ s = some (zc_sc s c.1 (c.2.2.1.length : Int) (c.2.2.2.length : Int)) → am_g G h1_ (s + 1) = some (1053, zc_rl 6 fun i => s + 5 + 2 * i) → am_g G h1_ (s + 2) = some (1150, hd_r rs_) → am_g G h1_ (s + 3) = some (1250, hd_r zs_) → am_g G h1_ (s + 4) = some (1350, hd_r bs0) → (∀ j_, j_ < 6 → zc_n G h1_ (s + 5 + 2 * j_) (c.2.1.getD j_ 0)) → S 15 [some (.ref s), some (.int (Int32.ofInt (p : Int))), some (.int (Int32.ofInt (i_ : Int)))] [] h1_ 0 0 := by
    intro m_
    induction m_ with
    | zero =>
      intro i_ rs_ zs_ h1_ him_ hpi_ r1_ r2_ f1_ e1_ e2_ e3_ e4_ e5_ e6_
      obtain rfl : i_ = n := by omega
      refine hs 9 _ rfl _ _ _ _ _ _ _ rfl ?_
      refine hs 10 _ rfl _ _ _ _ _ _ _ rfl ?_
      refine hs 11 _ rfl _ _ _ _ _ _ _ hd_add ?_
      refine hs 12 _ rfl _ _ _ _ _ _ _ rfl ?_
      refine hs 13 _ rfl _ _ _ _ _ _ _ _ _ (e1_) rfl rfl ?_
      refine hs 14 _ rfl _ _ _ _ _ _ _ (fun _ => ?_) (fun zq => absurd (hd_c2t (c := 3) (by omega) (by omega) (by omega) (by omega) (by omega : 0 ≤ (((i_ : Int) + (1 : Int)) - (c.2.2.1.length : Int)))) zq)
      refine hs 37 _ rfl _ _ _ _ _ _ _ rfl ?_
      refine hs 38 _ rfl _ _ _ _ _ _ _ rfl ?_
      refine hs 39 _ rfl _ _ _ _ _ _ _ _ _ (e1_) rfl rfl ?_
      refine hs 40 _ rfl _ _ _ _ _ _ _ rfl ?_
      refine hs 41 _ rfl _ _ _ _ _ _ _ hd_sub ?_
      refine zw_U (hs 42 _ rfl) (by omega) (e1_) rfl ⟨_, rfl⟩ fun hz59 wz60 => ?_
      have wz60 : hd_w G h1_ hz59 s (1014, [.int (Int32.ofInt c.1), .ref (s + 1), .int (Int32.ofInt ((c.2.2.1.length : Int) - (1 : Int))), .ref (s + 2), .ref (s + 3), .int (Int32.ofInt (c.2.2.2.length : Int)), .ref (s + 4)]) := wz60
      have hlen_ : ((c.2.2.1.eraseIdx p).length : Int) = (c.2.2.1.length : Int) - (1 : Int) := by rw [List.length_eraseIdx_of_lt (by omega)]; omega
      refine hs 43 _ rfl _ _ _ _ (Nat.zero_le _) (Nat.zero_le _) ?_
      have hfin_ := fun (z_ : _) => hP hz59 ((f1_).tr (zw_f.w wz60 (by omega) (by omega))) z_
      refine hfin_ ⟨rs_, zs_, bs0, ?_, ((wz60.ne (by omega)).trans e2_), ((wz60.ne (by omega)).trans e3_), ((wz60.ne (by omega)).trans e4_), ((wz60.ne (by omega)).trans e5_), d6_.rem hn hp hn6 r1_ r2_, fun j_ hj_ => (e6_ j_ hj_).keep (wz60.ne (by omega)) (wz60.ne (by omega))⟩
      show am_g G _ s = some (zc_sc s c.1 ((c.2.2.1.eraseIdx p).length : Int) (c.2.2.2.length : Int))
      rw [hlen_]
      exact (wz60.at)
    | succ m_ ih_ =>
      intro i_ rs_ zs_ h1_ him_ hpi_ r1_ r2_ f1_ e1_ e2_ e3_ e4_ e5_ e6_
      have l1_ := r1_.1
      have l2_ := r2_.1
      refine hs 9 _ rfl _ _ _ _ _ _ _ rfl ?_
      refine hs 10 _ rfl _ _ _ _ _ _ _ rfl ?_
      refine hs 11 _ rfl _ _ _ _ _ _ _ hd_add ?_
      refine hs 12 _ rfl _ _ _ _ _ _ _ rfl ?_
      refine hs 13 _ rfl _ _ _ _ _ _ _ _ _ (e1_) rfl rfl ?_
      refine hs 14 _ rfl _ _ _ _ _ _ _ (fun zq => absurd (hd_c2z (c := 3) (by omega) (by omega) (by omega) (by omega) zq) (by omega : ¬ (0 ≤ (((i_ : Int) + (1 : Int)) - (c.2.2.1.length : Int))))) (fun _ => ?_)
      refine hs 15 _ rfl _ _ _ _ _ _ _ rfl ?_
      refine hs 16 _ rfl _ _ _ _ _ _ _ _ _ (e1_) rfl rfl ?_
      refine hs 17 _ rfl _ _ _ _ _ _ _ rfl ?_
      refine hs 18 _ rfl _ _ _ _ _ _ _ rfl ?_
      refine hs 19 _ rfl _ _ _ _ _ _ _ _ _ (e1_) rfl rfl ?_
      refine hs 20 _ rfl _ _ _ _ _ _ _ rfl ?_
      refine hs 21 _ rfl _ _ _ _ _ _ _ rfl ?_
      refine hs 22 _ rfl _ _ _ _ _ _ _ hd_add ?_
      refine hd_A (hs 23 _ rfl) (by decide) (by decide) (e3_) rfl (j := (i_ + 1)) (by omega) (by omega) (sb_ge (by omega)) ?_
      refine zw_B (hs 24 _ rfl) (by decide) (by decide) (by omega) (e3_) rfl (j := i_) (by omega) (by omega) (by omega) fun hz61 wz62 => ?_
      refine hs 25 _ rfl _ _ _ _ _ _ _ rfl ?_
      refine hs 26 _ rfl _ _ _ _ _ _ _ _ _ ((wz62.ne (by omega)).trans e1_) rfl rfl ?_
      refine hs 27 _ rfl _ _ _ _ _ _ _ rfl ?_
      refine hs 28 _ rfl _ _ _ _ _ _ _ rfl ?_
      refine hs 29 _ rfl _ _ _ _ _ _ _ _ _ ((wz62.ne (by omega)).trans e1_) rfl rfl ?_
      refine hs 30 _ rfl _ _ _ _ _ _ _ rfl ?_
      refine hs 31 _ rfl _ _ _ _ _ _ _ rfl ?_
      refine hs 32 _ rfl _ _ _ _ _ _ _ hd_add ?_
      refine hd_A (hs 33 _ rfl) (by decide) (by decide) ((wz62.ne (by omega)).trans e4_) rfl (j := (i_ + 1)) (by omega) (by omega) (sb_ge (by omega)) ?_
      refine zw_B (hs 34 _ rfl) (by decide) (by decide) (by omega) ((wz62.ne (by omega)).trans e4_) rfl (j := i_) (by omega) (by omega) (by omega) fun hz63 wz64 => ?_
      refine hs 35 _ rfl _ _ _ _ _ _ _ (hd_inc rfl) ?_
      refine hs 36 _ rfl _ _ _ _ _ ?_
      rw [show ((i_ : Int) + (1 : Int)) = ((i_ + 1 : Nat) : Int) by omega]
      exact ih_ (i_ + 1) _ _ _ (by omega) (by omega) (r1_.step hpi_ (by omega)) (r2_.step hpi_ (by omega)) (((f1_).tr (zw_f.w wz62 (by omega) (by omega))).tr (zw_f.w wz64 (by omega) (by omega))) ((wz64.ne (by omega)).trans ((wz62.ne (by omega)).trans e1_)) ((wz64.ne (by omega)).trans ((wz62.ne (by omega)).trans e2_)) ((wz64.ne (by omega)).trans wz62.at) (wz64.at) ((wz64.ne (by omega)).trans ((wz62.ne (by omega)).trans e5_)) fun j_ hj_ => (e6_ j_ hj_).keep ((wz64.ne (by omega)).trans (wz62.ne (by omega))) ((wz64.ne (by omega)).trans (wz62.ne (by omega)))
  refine hs 0 _ rfl _ _ _ _ _ _ _ rfl ?_
  refine hs 1 _ rfl _ _ _ _ _ _ (fun zq => absurd (hd_c1z (c := 2) (by omega) (by omega) zq) (by omega : ¬ ((p : Int) < 0))) (fun _ => ?_)
  refine hs 2 _ rfl _ _ _ _ _ _ _ rfl ?_
  refine hs 3 _ rfl _ _ _ _ _ _ _ rfl ?_
  refine hs 4 _ rfl _ _ _ _ _ _ _ _ _ (d1_) rfl rfl ?_
  refine hs 5 _ rfl _ _ _ _ _ _ _ (fun _ => ?_) (fun zq => absurd (hd_c2t (c := 2) (by omega) (by omega) (by omega) (by omega) (by omega : ((p : Int) - (c.2.2.1.length : Int)) < 0)) zq)
  refine hs 7 _ rfl _ _ _ _ _ _ _ rfl ?_
  refine hs 8 _ rfl _ _ _ _ _ _ _ rfl ?_
  exact loop_ (n - p) p rs0 zs0 h (by omega) (Nat.le_refl _) ⟨rfl, fun j_ => by rw [if_neg (by omega)]⟩ ⟨rfl, fun j_ => by rw [if_neg (by omega)]⟩ zw_f.rf d1_ d2_ d3_ d4_ d5_ d7_
