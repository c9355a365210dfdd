/-! THE CALLS OF THE REFERENCE: unbase, undo, knock, size -/
theorem zt_erl {α : Type} {l : List α} {n i : Nat} (hn : l.length = n + 1) : (l.eraseIdx n)[i]? = if i < n then l[i]? else none := by
  rw [List.getElem?_eraseIdx]
  by_cases c_ : i < n
  · rw [if_pos c_, if_pos c_]
  · rw [if_neg c_, if_neg c_, List.getElem?_eq_none (by omega)]
theorem zt_apl {α : Type} {B : List α} {b : α} {n i : Nat} (hn : B.length = n) (hi : i < n) : (B ++ [b])[i]? = B[i]? := List.getElem?_append_left (by omega)
set_option maxHeartbeats 4000000 in
theorem zm_unbase_M {l : Launch} {G : am_G} {X : ck_XT} (g : gM l G X) {o : Nat → Nat} {x tx now qw : Nat} {th j m k : Int} {c : sp_S} {P : List sp_S} {h : List am_C} (hX : zm_x G h o x tx now qw th j m k c P) (hok : sp_ok c) (hp12 : P.length ≤ 12) {e e2 : Int} {mc ms : Nat} {Post : am_O → List am_C → Prop} (hmc : 14 ≤ mc) (hms : 69 ≤ ms)
    (hP : ∀ (a th : Int) (T' : sp_T) (h' : List am_C), sp_d15 e e2 (c, P, j, m, k) a th T' → zm_fr G h h' → zm_Y G h' x th T' → Post (.inl (some (.int (Int32.ofInt a)))) h') :
    am_M l G yX14_unbase (.code yX14_unbase prog_14_method_38_code 1 (some .int)) 11 294 mc ms [.ref x] h Post := by
  refine gh_yX14_unbase_X g (Nat.le_of_ble_eq_true rfl) fun S SX hs hr hw hx => ?_
  have rv : ∀ x : Int32, ck_fv 0 (.int x) := fun x => ⟨_, rfl⟩
  obtain ⟨a1_, a2_, a3_, a4_⟩ := id hX
  obtain ⟨t_, qn_, ql_, qb_, vb_, s1_, l1_, ⟨e1_, e2_⟩, up_⟩ := hX.baseL
  have ok5_ := hok.2.2.2.1
  by_cases c1_ : c.2.2.2 = []
  · have c1l_ : vb_.length = 0 := by rw [e1_, c1_]; rfl
    refine hs 0 _ rfl _ _ _ _ _ _ _ rfl ?_
    refine hs 1 _ rfl _ _ _ _ _ _ _ rfl ?_
    refine hs 2 _ rfl _ _ _ _ _ _ _ _ _ (a1_) a2_.1 rfl ?_
    refine hs 3 _ rfl _ _ _ _ _ _ _ _ _ (s1_.1) s1_.2 rfl ?_
    refine zw_c (hs 4 _ rfl) (a := [.ref qb_]) (st := [.ref x]) rfl rfl (Nat.le_of_ble_eq_true rfl) (zm_l.rc l1_) (by omega) (by omega) (zm_emp_M g l1_ (fun y_ => ?_) (fun y_ => absurd y_ (by omega)))
    show S 11 [some (.ref x)] [.int (Int32.ofInt (1 : Int)), .ref x] _ _ _
    refine hs 5 _ rfl _ _ _ _ _ _ _ rfl ?_
    refine zw_c (hs 6 _ rfl) (a := [.ref x, .int (Int32.ofInt (1 : Int)), .int (Int32.ofInt (1 : Int))]) (st := []) rfl rfl (Nat.le_of_ble_eq_true rfl) ⟨_, _, _, rfl, a1_, a2_.1⟩ (by omega) (by omega) (zm_start_M g hX (i_ := 1) (w_ := 1) (Or.inr rfl) (by decide) (fun y_ h2_ f2_ x2_ => ?_) (fun y_ => absurd y_ (by decide)))
    show S 15 [some (.ref x)] [.int (Int32.ofInt (1 : Int))] _ _ _
    refine hs 7 _ rfl _ _ _ _ _ _ (fun zq => absurd (hd_c1z (c := 0) (by omega) (by omega) zq) (by omega : ¬ ((1 : Int) = 0))) (fun _ => ?_)
    refine hs 8 _ rfl _ _ _ _ _ _ _ rfl ?_
    exact hs 9 _ rfl _ _ _ _ _ (rv _) (by omega) (by omega) (hP 0 _ _ _ (Or.inr ⟨c1_, rfl, rfl⟩) f2_ ⟨_, _, _, _, x2_⟩)
  · have c2_ : c.2.2.2.length ≠ 0 := fun y_ => c1_ (List.eq_nil_of_length_eq_zero y_)
    obtain ⟨n9_, hn9_⟩ : ∃ n9_, c.2.2.2.length = n9_ + 1 := ⟨c.2.2.2.length - 1, by omega⟩
    obtain ⟨B_, b9_, hB_, hb9_, -, hl_⟩ := sp_last c.2.2.2 n9_ hn9_
    refine hs 0 _ rfl _ _ _ _ _ _ _ rfl ?_
    refine hs 1 _ rfl _ _ _ _ _ _ _ rfl ?_
    refine hs 2 _ rfl _ _ _ _ _ _ _ _ _ (a1_) a2_.1 rfl ?_
    refine hs 3 _ rfl _ _ _ _ _ _ _ _ _ (s1_.1) s1_.2 rfl ?_
    refine zw_c (hs 4 _ rfl) (a := [.ref qb_]) (st := [.ref x]) rfl rfl (Nat.le_of_ble_eq_true rfl) (zm_l.rc l1_) (by omega) (by omega) (zm_emp_M g l1_ (fun y_ => absurd y_ (by omega)) (fun y_ => ?_))
    show S 11 [some (.ref x)] [.int (Int32.ofInt (0 : Int)), .ref x] _ _ _
    refine hs 5 _ rfl _ _ _ _ _ _ _ rfl ?_
    refine zw_c (hs 6 _ rfl) (a := [.ref x, .int (Int32.ofInt (0 : Int)), .int (Int32.ofInt (1 : Int))]) (st := []) rfl rfl (Nat.le_of_ble_eq_true rfl) ⟨_, _, _, rfl, a1_, a2_.1⟩ (by omega) (by omega) (zm_start_M g hX (i_ := 0) (w_ := 1) (Or.inl rfl) (by decide) (fun y_ => absurd y_ (by decide)) (fun y_ h2_ f2_ x2_ => ?_))
    show S 15 [some (.ref x)] [.int (Int32.ofInt (0 : Int))] _ _ _
    refine hs 7 _ rfl _ _ _ _ _ _ (fun _ => ?_) (fun zq => absurd (hd_c1t (c := 0) (by omega) (by omega) (by omega : (0 : Int) = 0)) zq)
    refine hs 10 _ rfl _ _ _ _ _ _ _ rfl ?_
    refine zw_cm (hs 11 _ rfl) (a := [.ref x]) (st := []) 14 69 rfl rfl (Nat.le_of_ble_eq_true rfl) ⟨_, _, _, rfl, x2_.1, a2_.1⟩ (by omega) (by omega) (zm_keep_M g x2_ hok hp12 (by omega) (by omega) fun h3_ o3_ f3_ x3_ => ?_)
    obtain ⟨t_, qn_, ql_, qb_, vb_, s1_, l1_, ⟨e1_, e2_⟩, up_⟩ := x3_.baseL
    have ll_ : vb_.length = n9_ + 1 := e1_.trans hn9_
    obtain ⟨v9_, hv9_⟩ : ∃ v_, vb_[n9_]? = some v_ := ⟨_, List.getElem?_eq_getElem (by omega)⟩
    show S 24 [some (.ref x)] [] _ _ _
    refine hs 12 _ rfl _ _ _ _ _ _ _ rfl ?_
    refine hs 13 _ rfl _ _ _ _ _ _ _ _ _ (x3_.1) a2_.1 rfl ?_
    refine hs 14 _ rfl _ _ _ _ _ _ _ _ _ (s1_.1) s1_.2 rfl ?_
    refine hs 15 _ rfl _ _ _ _ _ _ _ rfl ?_
    refine hs 16 _ rfl _ _ _ _ _ _ _ _ _ (x3_.1) a2_.1 rfl ?_
    refine hs 17 _ rfl _ _ _ _ _ _ _ _ _ (s1_.1) s1_.2 rfl ?_
    refine zw_c (hs 18 _ rfl) (a := [.ref qb_]) (st := [.ref qb_]) rfl rfl (Nat.le_of_ble_eq_true rfl) (zm_l.rc l1_) (by omega) (by omega) (zm_size_M g l1_ ?_)
    show S 41 [some (.ref x)] [.int (Int32.ofInt (vb_.length : Int)), .ref qb_] _ _ _
    refine hs 19 _ rfl _ _ _ _ _ _ _ rfl ?_
    refine hs 20 _ rfl _ _ _ _ _ _ _ hd_sub ?_
    refine zw_c (hs 21 _ rfl) (a := [.ref qb_, .int (Int32.ofInt ((vb_.length : Int) - (1 : Int)))]) (st := []) rfl rfl (Nat.le_of_ble_eq_true rfl) (zm_l.rc l1_) (by omega) (by omega) (zm_rem_M g (j := n9_) (v := v9_) l1_ (zl_ob.B e1_ e2_) (by omega) hv9_ fun h4_ f4_ l4_ => ?_)
    obtain ⟨t9_, c4_, d4_⟩ := (e2_ n9_ v9_ b9_ hv9_ hb9_).f f4_ zm_d4.ok
    show S 46 [some (.ref x)] [.ref v9_] _ _ _
    refine hs 22 _ rfl _ _ _ _ _ _ (Or.inr ⟨_, _, _, rfl, (c4_), List.mem_singleton.mpr d4_⟩) ?_
    refine zw_c (hs 23 _ rfl) (a := [.ref v9_]) (st := []) rfl rfl (Nat.le_of_ble_eq_true rfl) ⟨_, _, _, rfl, (c4_), d4_⟩ (by omega) (by omega) (zi_int_M g c4_ d4_ ?_)
    show S 52 [some (.ref x)] [.int (Int32.ofInt b9_)] _ _ _
    have up2_ := up_ h4_ o3_ (vb_.eraseIdx n9_) B_ f4_ l4_ (by rw [List.length_eraseIdx, if_pos (by omega)]; omega) (fun i_ a_ b_ y1_ y2_ => by
      rw [zt_erl ll_] at y1_
      have li_ := (List.getElem?_eq_some_iff.mp y2_).1
      rw [if_pos (by omega)] at y1_
      exact (e2_ i_ a_ b_ y1_ (by rw [hB_, zt_apl hl_ (by omega)]; exact y2_)).f f4_ zm_d4.ok)
    exact hs 24 _ rfl _ _ _ _ _ (rv _) (by omega) (by omega) (hP _ _ _ _ (Or.inl ⟨B_, b9_, hB_, rfl, rfl, rfl⟩) ((f2_.tr f3_).tr (zm_fr.f f4_ zm_d4.ok)) ⟨_, _, _, _, up2_⟩)
/-- the last one of those that may come back comes back -/
theorem zm_x.pop {G : am_G} {h h2 h3 : List am_C} {o : Nat → Nat} {x tx now qw s n : Nat} {th th2 j m k : Int} {c c2 : sp_S} {P P2 : List sp_S} {ss : List Nat} (a : zm_x G h o x tx now qw th j m k c P) (w1 : ss.length = n + 1) (hP : P = P2 ++ [c2]) (hl2 : P2.length = n) (w2 : ∀ (i s : Nat) (p : sp_S), ss[i]? = some s → P[i]? = some p → zm_s G h o s p) (w3 : ∀ (i j s : Nat), ss[i]? = some s → ss[j]? = some s → i = j) (hs : ss[n]? = some s) (f : zm_f G o o h h2 (zm_d4 o qw)) (hl : zm_l G h2 o qw 5 (ss.eraseIdx n)) (w : hd_w G h2 h3 x (tx, zm_c th2 s qw j m k)) : zm_x G h3 o x tx s qw th2 j m k c2 P2 := by
  obtain ⟨a1_, a2_, a3_, a4_⟩ := a
  have l_ := a4_.lab
  have g1_ := f.2.2 _ _ _ a1_ (by rw [a2_.1]; exact zm_d4.nk (by decide) (by decide))
  have f_ : zm_f G o o h2 h3 (zm_d1 x 19) := zm_f.w g1_ w ⟨rfl, a2_.1⟩
  have ok_ : zm_ok (zm_d1 x 19) := zm_d1.ok a2_.2 (by decide)
  have no_ : ∀ s, zm_no o s (zm_d1 x 19) := fun s => ⟨ok_, zm_d1.no (by decide), fun _ _ => zm_d1.no (by decide), fun _ _ => ⟨zm_d1.no (by decide), fun _ _ => zm_d1.no (by decide)⟩⟩
  have pn_ : P[n]? = some c2 := by rw [hP, List.getElem?_append_right (by omega), hl2, Nat.sub_self]; rfl
  have z_ := w2 _ _ _ hs pn_
  refine ⟨w.at, a2_, (z_.f f (zm_d4w l_ z_.lo)).f f_ (no_ _), ⟨ss.eraseIdx n, hl.f f_ ok_ (zm_d1.no (by decide)) (fun _ _ => zm_d1.no (by decide)), ?_, fun i s2 p e1 e2 => ?_, fun i j s2 e1 e2 => ?_, fun i e1 => ?_⟩⟩
  · rw [List.length_eraseIdx, if_pos (by omega)]
    omega
  · rw [zt_erl w1] at e1
    have li_ := (List.getElem?_eq_some_iff.mp e2).1
    rw [if_pos (by omega)] at e1
    have y_ := w2 i s2 p e1 (by rw [hP, zt_apl hl2 (by omega)]; exact e2)
    exact (y_.f f (zm_d4w l_ y_.lo)).f f_ (no_ _)
  · rw [zt_erl w1] at e1 e2
    split at e1
    · split at e2
      · exact w3 _ _ _ e1 e2
      · cases e2
    · cases e1
  · rw [zt_erl w1] at e1
    split at e1
    · have := w3 _ _ _ e1 hs
      omega
    · cases e1
set_option maxHeartbeats 4000000 in
theorem zm_undo_M {l : Launch} {G : am_G} {X : ck_XT} (g : gM l G X) {o : Nat → Nat} {x tx now qw : Nat} {th j m k : Int} {c : sp_S} {P : List sp_S} {h : List am_C} (hX : zm_x G h o x tx now qw th j m k c P) (hok : sp_ok c) (hp12 : P.length ≤ 12) {e e2 : Int} {mc ms : Nat} {Post : am_O → List am_C → Prop}
    (hP : ∀ (a th : Int) (T' : sp_T) (h' : List am_C), sp_d16 e e2 (c, P, j, m, k) a th T' → zm_fr G h h' → zm_Y G h' x th T' → Post (.inl (some (.int (Int32.ofInt a)))) h') :
    am_M l G yX14_undo (.code yX14_undo prog_14_method_39_code 1 (some .int)) 4 105 mc ms [.ref x] h Post := by
  refine gh_yX14_undo_X g (Nat.le_of_ble_eq_true rfl) fun S SX hs hr hw hx => ?_
  have rv : ∀ x : Int32, ck_fv 0 (.int x) := fun x => ⟨_, rfl⟩
  obtain ⟨a1_, a2_, a3_, a4_⟩ := id hX
  obtain ⟨ss_, w0_, w1_, w2_, w3_, w4_⟩ := id a4_
  by_cases c1_ : P = []
  · have c1l_ : ss_.length = 0 := by rw [w1_, c1_]; rfl
    refine hs 0 _ rfl _ _ _ _ _ _ _ rfl ?_
    refine hs 1 _ rfl _ _ _ _ _ _ _ rfl ?_
    refine hs 2 _ rfl _ _ _ _ _ _ _ _ _ (a1_) a2_.1 rfl ?_
    refine zw_c (hs 3 _ rfl) (a := [.ref qw]) (st := [.ref x]) rfl rfl (Nat.le_of_ble_eq_true rfl) (zm_l.rc w0_) (by omega) (by omega) (zm_emp_M g w0_ (fun y_ => ?_) (fun y_ => absurd y_ (by omega)))
    show S 8 [some (.ref x)] [.int (Int32.ofInt (1 : Int)), .ref x] _ _ _
    refine hs 4 _ rfl _ _ _ _ _ _ _ rfl ?_
    refine zw_c (hs 5 _ rfl) (a := [.ref x, .int (Int32.ofInt (1 : Int)), .int (Int32.ofInt (1 : Int))]) (st := []) rfl rfl (Nat.le_of_ble_eq_true rfl) ⟨_, _, _, rfl, a1_, a2_.1⟩ (by omega) (by omega) (zm_start_M g hX (i_ := 1) (w_ := 1) (Or.inr rfl) (by decide) (fun y_ h2_ f2_ x2_ => ?_) (fun y_ => absurd y_ (by decide)))
    show S 12 [some (.ref x)] [.int (Int32.ofInt (1 : Int))] _ _ _
    refine hs 6 _ rfl _ _ _ _ _ _ (fun zq => absurd (hd_c1z (c := 0) (by omega) (by omega) zq) (by omega : ¬ ((1 : Int) = 0))) (fun _ => ?_)
    refine hs 7 _ rfl _ _ _ _ _ _ _ rfl ?_
    exact hs 8 _ rfl _ _ _ _ _ (rv _) (by omega) (by omega) (hP 0 _ _ _ (Or.inr ⟨c1_, rfl, rfl⟩) f2_ ⟨_, _, _, _, x2_⟩)
  · have c2_ : P.length ≠ 0 := fun y_ => c1_ (List.eq_nil_of_length_eq_zero y_)
    obtain ⟨n9_, hn9_⟩ : ∃ n9_, P.length = n9_ + 1 := ⟨P.length - 1, by omega⟩
    obtain ⟨P2_, c9b_, hP_, hpn_, -, hl_⟩ := sp_last P n9_ hn9_
    refine hs 0 _ rfl _ _ _ _ _ _ _ rfl ?_
    refine hs 1 _ rfl _ _ _ _ _ _ _ rfl ?_
    refine hs 2 _ rfl _ _ _ _ _ _ _ _ _ (a1_) a2_.1 rfl ?_
    refine zw_c (hs 3 _ rfl) (a := [.ref qw]) (st := [.ref x]) rfl rfl (Nat.le_of_ble_eq_true rfl) (zm_l.rc w0_) (by omega) (by omega) (zm_emp_M g w0_ (fun y_ => absurd y_ (by omega)) (fun y_ => ?_))
    show S 8 [some (.ref x)] [.int (Int32.ofInt (0 : Int)), .ref x] _ _ _
    refine hs 4 _ rfl _ _ _ _ _ _ _ rfl ?_
    refine zw_c (hs 5 _ rfl) (a := [.ref x, .int (Int32.ofInt (0 : Int)), .int (Int32.ofInt (1 : Int))]) (st := []) rfl rfl (Nat.le_of_ble_eq_true rfl) ⟨_, _, _, rfl, a1_, a2_.1⟩ (by omega) (by omega) (zm_start_M g hX (i_ := 0) (w_ := 1) (Or.inl rfl) (by decide) (fun y_ => absurd y_ (by decide)) (fun y_ h2_ f2_ x2_ => ?_))
    obtain ⟨sz_, v0_, v1_, v2_, v3_, v4_⟩ := x2_.2.2.2
    have v5_ : sz_.length = n9_ + 1 := v1_.trans hn9_
    obtain ⟨s9_, hs9_⟩ : ∃ v_, sz_[n9_]? = some v_ := ⟨_, List.getElem?_eq_getElem (by omega)⟩
    show S 12 [some (.ref x)] [.int (Int32.ofInt (0 : Int))] _ _ _
    refine hs 6 _ rfl _ _ _ _ _ _ (fun _ => ?_) (fun zq => absurd (hd_c1t (c := 0) (by omega) (by omega) (by omega : (0 : Int) = 0)) zq)
    refine hs 9 _ rfl _ _ _ _ _ _ _ rfl ?_
    refine hs 10 _ rfl _ _ _ _ _ _ _ rfl ?_
    refine hs 11 _ rfl _ _ _ _ _ _ _ _ _ (x2_.1) a2_.1 rfl ?_
    refine hs 12 _ rfl _ _ _ _ _ _ _ rfl ?_
    refine hs 13 _ rfl _ _ _ _ _ _ _ _ _ (x2_.1) a2_.1 rfl ?_
    refine zw_c (hs 14 _ rfl) (a := [.ref qw]) (st := [.ref qw, .ref x]) rfl rfl (Nat.le_of_ble_eq_true rfl) (zm_l.rc v0_) (by omega) (by omega) (zm_size_M g v0_ ?_)
    show S 29 [some (.ref x)] [.int (Int32.ofInt (sz_.length : Int)), .ref qw, .ref x] _ _ _
    refine hs 15 _ rfl _ _ _ _ _ _ _ rfl ?_
    refine hs 16 _ rfl _ _ _ _ _ _ _ hd_sub ?_
    refine zw_c (hs 17 _ rfl) (a := [.ref qw, .int (Int32.ofInt ((sz_.length : Int) - (1 : Int)))]) (st := [.ref x]) rfl rfl (Nat.le_of_ble_eq_true rfl) (zm_l.rc v0_) (by omega) (by omega) (zm_rem_M g (j := n9_) (v := s9_) v0_ (zl_ob.W v1_ v2_) (by omega) hs9_ fun h3_ f3_ l3_ => ?_)
    have x3_ := f3_.2.2 _ _ _ x2_.1 (by rw [a2_.1]; exact zm_d4.nk (by decide) (by decide))
    obtain ⟨t9_, u9_, c9_, d9_⟩ := ((v2_ n9_ s9_ c9b_ hs9_ hpn_).f f3_ (zm_d4w x2_.2.2.2.lab (v2_ n9_ s9_ c9b_ hs9_ hpn_).lo)).k
    show S 34 [some (.ref x)] [.ref s9_, .ref x] _ _ _
    refine hs 18 _ rfl _ _ _ _ _ _ (Or.inr ⟨_, _, _, rfl, (c9_), List.mem_singleton.mpr d9_⟩) ?_
    refine zw_U (hs 19 _ rfl) (by omega) (x3_) a2_.1 (Or.inl ⟨_, rfl⟩) fun hz325 wz326 => ?_
    have wz326 : hd_w G h3_ hz325 x (tx, [.int (Int32.ofInt (0 : Int)), .ref s9_, .ref qw, .int (Int32.ofInt j), .int (Int32.ofInt m), .int (Int32.ofInt k)]) := wz326
    have lwz326 := wz326.1
    have x4_ := x2_.pop (th2 := 0) v5_ hP_ hl_ v2_ v3_ hs9_ f3_ l3_ wz326
    have l4_ := l3_.f (zm_f.w x3_ wz326 ⟨rfl, a2_.1⟩ : zm_f G o o h3_ _ (zm_d1 x 19)) (zm_d1.ok a2_.2 (by decide)) (zm_d1.no (by decide)) (fun _ _ => zm_d1.no (by decide))
    refine hs 20 _ rfl _ _ _ _ _ _ _ rfl ?_
    refine hs 21 _ rfl _ _ _ _ _ _ _ _ _ (x4_.1) a2_.1 rfl ?_
    refine zw_c (hs 22 _ rfl) (a := [.ref qw]) (st := []) rfl rfl (Nat.le_of_ble_eq_true rfl) (zm_l.rc l4_) (by omega) (by omega) (zm_size_M g l4_ ?_)
    show S 47 [some (.ref x)] [.int (Int32.ofInt ((sz_.eraseIdx n9_).length : Int))] _ _ _
    have sl_ : (sz_.eraseIdx n9_).length = P2_.length := by
      rw [List.length_eraseIdx, if_pos (by omega)]
      omega
    rw [sl_]
    exact hs 23 _ rfl _ _ _ _ _ (rv _) (by omega) (by omega) (hP _ _ _ _ (Or.inl ⟨P2_, c9b_, hP_, rfl, rfl, rfl⟩) ((f2_.tr (zm_fr.f f3_ zm_d4.ok)).tr (zm_fr.w wz326 x3_ (Or.inl a2_.1))) ⟨_, _, _, _, x4_⟩)
set_option maxHeartbeats 4000000 in
theorem zm_knock_M {l : Launch} {G : am_G} {X : ck_XT} (g : gM l G X) {o : Nat → Nat} {x tx now qw : Nat} {th j m k : Int} {c : sp_S} {P : List sp_S} {h : List am_C} (hX : zm_x G h o x tx now qw th j m k c P) {e e2 : Int} {mc ms : Nat} {Post : am_O → List am_C → Prop}
    (hP : ∀ (a th : Int) (T' : sp_T) (h' : List am_C), sp_d17 e e2 (c, P, j, m, k) a th T' → zm_fr G h h' → zm_Y G h' x th T' → Post (.inl (some (.int (Int32.ofInt a)))) h') :
    am_M l G yX14_knock (.code yX14_knock prog_14_method_40_code 1 (some .int)) 1 20 mc ms [.ref x] h Post := by
  refine gh_yX14_knock_X g (Nat.le_of_ble_eq_true rfl) fun S SX hs hr hw hx => ?_
  have rv : ∀ x : Int32, ck_fv 0 (.int x) := fun x => ⟨_, rfl⟩
  obtain ⟨a1_, a2_, a3_, a4_⟩ := id hX
  refine hs 0 _ rfl _ _ _ _ _ _ _ rfl ?_
  refine hs 1 _ rfl _ _ _ _ _ _ _ rfl ?_
  refine zw_U (hs 2 _ rfl) (by omega) (a1_) a2_.1 ⟨_, rfl⟩ fun hz327 wz328 => ?_
  have wz328 : hd_w G h hz327 x (tx, [.int (Int32.ofInt (0 : Int)), .ref now, .ref qw, .int (Int32.ofInt j), .int (Int32.ofInt m), .int (Int32.ofInt k)]) := wz328
  have lwz328 := wz328.1
  refine hs 3 _ rfl _ _ _ _ _ _ _ rfl ?_
  refine hs 4 _ rfl _ _ _ _ _ _ _ rfl ?_
  refine hs 5 _ rfl _ _ _ _ _ _ _ _ _ (wz328.at) a2_.1 rfl ?_
  refine hs 6 _ rfl _ _ _ _ _ _ _ rfl ?_
  refine hs 7 _ rfl _ _ _ _ _ _ _ hd_add ?_
  refine hs 8 _ rfl _ _ _ _ _ _ _ rfl ?_
  refine zw_U (hs 9 _ rfl) (by omega) (wz328.at) a2_.1 ⟨_, rfl⟩ fun hz329 wz330 => ?_
  have wz330 : hd_w G hz327 hz329 x (tx, [.int (Int32.ofInt (0 : Int)), .ref now, .ref qw, .int (Int32.ofInt j), .int (Int32.ofInt m), .int (Int32.ofInt (k + (1 : Int)))]) := wz330
  have lwz330 := wz330.1
  exact hs 10 _ rfl _ _ _ _ _ (rv _) (Nat.zero_le _) (Nat.zero_le _) (hP _ _ _ _ ⟨rfl, rfl, rfl⟩ (zm_fr.w (hd_w.tr wz328 wz330) a1_ (Or.inl a2_.1)) ⟨_, _, _, _, hX.own (hd_w.tr wz328 wz330)⟩)
set_option maxHeartbeats 4000000 in
theorem zm_size9_M {l : Launch} {G : am_G} {X : ck_XT} (g : gM l G X) {o : Nat → Nat} {x tx now qw : Nat} {th j m k : Int} {c : sp_S} {P : List sp_S} {h : List am_C} (hX : zm_x G h o x tx now qw th j m k c P) {mc ms : Nat} {Post : am_O → List am_C → Prop}
    (hP : ∀ h', zm_fr G h h' → zm_Y G h' x 0 (c, P, j, m, k) → Post (.inl (some (.int (Int32.ofInt c.1)))) h') :
    am_M l G yX14_size (.code yX14_size prog_14_method_48_code 1 (some .int)) 1 20 mc ms [.ref x] h Post := by
  refine gh_yX14_size_X g (Nat.le_of_ble_eq_true rfl) fun S SX hs hr hw hx => ?_
  have rv : ∀ x : Int32, ck_fv 0 (.int x) := fun x => ⟨_, rfl⟩
  obtain ⟨a1_, a2_, a3_, a4_⟩ := id hX
  obtain ⟨t_, qn_, ql_, qb_, s1_, up_⟩ := hX.dialL
  have nx_ := zg_ne s1_.1 a1_ (by rw [s1_.2, a2_.1]; decide)
  refine hs 0 _ rfl _ _ _ _ _ _ _ rfl ?_
  refine hs 1 _ rfl _ _ _ _ _ _ _ rfl ?_
  refine zw_U (hs 2 _ rfl) (by omega) (a1_) a2_.1 ⟨_, rfl⟩ fun hz331 wz332 => ?_
  have wz332 : hd_w G h hz331 x (tx, [.int (Int32.ofInt (0 : Int)), .ref now, .ref qw, .int (Int32.ofInt j), .int (Int32.ofInt m), .int (Int32.ofInt k)]) := wz332
  have lwz332 := wz332.1
  refine hs 3 _ rfl _ _ _ _ _ _ _ rfl ?_
  refine hs 4 _ rfl _ _ _ _ _ _ _ _ _ (wz332.at) a2_.1 rfl ?_
  refine hs 5 _ rfl _ _ _ _ _ _ _ _ _ (((wz332.ne nx_).trans s1_.1)) s1_.2 rfl ?_
  exact hs 6 _ rfl _ _ _ _ _ (rv _) (Nat.zero_le _) (Nat.zero_le _) (hP _ (zm_fr.w wz332 a1_ (Or.inl a2_.1)) ⟨_, _, _, _, hX.own wz332⟩)
