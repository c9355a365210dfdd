/-! LISTS, EXACTLY: what reads them -/
theorem zw_Ln {G : am_G} {S : ck_SS} {pc nx q t k n N : Nat} {vs : List Value} {h : List am_C} {L : List (Option Value)} {st : List Value} (H : ck_sL G S pc nx) (hg : am_g G h q = some (t, vs)) (ht : t % 100 = 56) (hN : vs.length = N) (kk : S nx L (.int (Int32.ofInt (N : Int)) :: st) h k n) : S pc L (.ref q :: st) h k n := by
  refine H L st h k n q t _ hg (by omega) (by omega) ?_
  rw [hN, ← Int32.ofInt_eq_ofNat]
  exact kk
/-- a list at q with the row p behind it: it holds the references vs -/
def zl_L (G : am_G) (h : List am_C) (q p N : Nat) (mo : Int) (vs : List Nat) : Prop := ∃ (t tr : Nat) (ws : List Value), am_g G h q = some (t, [.int (Int32.ofInt mo), .ref p, .int (Int32.ofInt (vs.length : Int))]) ∧ t % 100 = 6 ∧ am_g G h p = some (tr, ws) ∧ tr % 100 = 56 ∧ ws.length = N ∧ vs.length ≤ N ∧ N ≤ 100 ∧ ∀ (i v : Nat), vs[i]? = some v → ws[i]? = some (.ref v)
theorem zl_L.keep {G : am_G} {h h' : List am_C} {q p N : Nat} {mo : Int} {vs : List Nat} (a : zl_L G h q p N mo vs) (f : ∀ (x : Nat) (c : am_C), (x = q ∨ x = p) → am_g G h x = some c → am_g G h' x = some c) : zl_L G h' q p N mo vs := by
  obtain ⟨t_, tr_, ws_, a1_, a2_, a3_, a4_⟩ := a
  exact ⟨t_, tr_, ws_, f _ _ (Or.inl rfl) a1_, a2_, f _ _ (Or.inr rfl) a3_, a4_⟩
set_option maxHeartbeats 4000000 in
theorem zl_size_M {l : Launch} {G : am_G} {X : ck_XT} (g : gM l G X) {q p N : Nat} {mo : Int} {vs : List Nat} {h : List am_C} (hl : zl_L G h q p N mo vs) {mc ms : Nat} {Post : am_O → List am_C → Prop} (hP : Post (.inl (some (.int (Int32.ofInt (vs.length : Int))))) h) :
    am_M l G yJx4a65c_size_8abf5 (.code yJx4a65c_size_8abf5 prog_46_method_8_code 1 (some .int)) 1 20 mc ms [.ref q] h Post := by
  refine gh_yJx4a65c_size_8abf5_X g (Nat.le_of_ble_eq_true rfl) fun S SX hs hr hw hx => ?_
  have rv : ∀ x : Int32, ck_fv 0 (.int x) := fun x => ⟨_, rfl⟩
  obtain ⟨t_, tr_, ws_, a1_, a2_, a3_, a4_, a5_, a6_, a7_, a8_⟩ := hl
  have al_ : ck_al 53 58 (tr_ % 100) = true := by rw [a4_]; rfl
  refine hs 0 _ rfl _ _ _ _ _ _ _ rfl ?_
  refine hs 1 _ rfl _ _ _ _ _ _ _ _ _ (a1_) a2_ rfl ?_
  exact hs 2 _ rfl _ _ _ _ _ (rv _) (Nat.zero_le _) (Nat.zero_le _) hP
set_option maxHeartbeats 4000000 in
theorem zl_isEmpty_M {l : Launch} {G : am_G} {X : ck_XT} (g : gM l G X) {q p N : Nat} {mo : Int} {vs : List Nat} {h : List am_C} (hl : zl_L G h q p N mo vs) {mc ms : Nat} {Post : am_O → List am_C → Prop} (hP1 : vs = [] → Post (.inl (some (.int (Int32.ofInt 1)))) h) (hP0 : vs ≠ [] → Post (.inl (some (.int (Int32.ofInt 0)))) h) :
    am_M l G yJx4a65c_isEmpty_aae02 (.code yJx4a65c_isEmpty_aae02 prog_46_method_9_code 1 (some .boolean)) 1 20 mc ms [.ref q] h Post := by
  refine gh_yJx4a65c_isEmpty_aae02_X g (Nat.le_of_ble_eq_true rfl) fun S SX hs hr hw hx => ?_
  have rv : ∀ x : Int32, ck_fv 0 (.int x) := fun x => ⟨_, rfl⟩
  obtain ⟨t_, tr_, ws_, a1_, a2_, a3_, a4_, a5_, a6_, a7_, a8_⟩ := hl
  have al_ : ck_al 53 58 (tr_ % 100) = true := by rw [a4_]; rfl
  by_cases c_ : vs.length = 0
  · 
    refine hs 0 _ rfl _ _ _ _ _ _ _ rfl ?_
    refine hs 1 _ rfl _ _ _ _ _ _ _ _ _ (a1_) a2_ rfl ?_
    refine hs 2 _ rfl _ _ _ _ _ _ (fun zq => absurd (hd_c1z (c := 1) (by omega) (by omega) zq) (by omega : ¬ ((vs.length : Int) ≠ 0))) (fun _ => ?_)
    refine hs 3 _ rfl _ _ _ _ _ _ _ rfl ?_
    refine hs 4 _ rfl _ _ _ _ _ ?_
    exact hs 6 _ rfl _ _ _ _ _ ⟨_, rfl, by decide, by decide⟩ (Nat.zero_le _) (Nat.zero_le _) (hP1 (List.length_eq_zero_iff.mp c_))
  · 
    refine hs 0 _ rfl _ _ _ _ _ _ _ rfl ?_
    refine hs 1 _ rfl _ _ _ _ _ _ _ _ _ (a1_) a2_ rfl ?_
    refine hs 2 _ rfl _ _ _ _ _ _ (fun _ => ?_) (fun zq => absurd (hd_c1t (c := 1) (by omega) (by omega) (by omega : (vs.length : Int) ≠ 0)) zq)
    refine hs 5 _ rfl _ _ _ _ _ _ _ rfl ?_
    exact hs 6 _ rfl _ _ _ _ _ ⟨_, rfl, by decide, by decide⟩ (Nat.zero_le _) (Nat.zero_le _) (hP0 fun y_ => c_ (by rw [y_]; rfl))
set_option maxHeartbeats 4000000 in
theorem zl_hasNext_M {l : Launch} {G : am_G} {X : ck_XT} (g : gM l G X) {q p N : Nat} {mo : Int} {vs : List Nat} {h : List am_C} (hl : zl_L G h q p N mo vs) {e te : Nat} {cu la : Int} (hie : am_g G h e = some (te, [.int (Int32.ofInt cu), .int (Int32.ofInt la), .int (Int32.ofInt mo), .ref q])) (hte : te % 100 = 5) (hmo1 : -2147483648 ≤ mo) (hmo2 : mo ≤ 2147483647) (hcu : 0 ≤ cu ∧ cu ≤ (vs.length : Int)) {mc ms : Nat} {Post : am_O → List am_C → Prop} (hP1 : cu < (vs.length : Int) → Post (.inl (some (.int (Int32.ofInt 1)))) h) (hP0 : cu = (vs.length : Int) → Post (.inl (some (.int (Int32.ofInt 0)))) h) :
    am_M l G yJx35411_hasNext_aae02 (.code yJx35411_hasNext_aae02 prog_47_method_2_code 1 (some .boolean)) 1 20 mc ms [.ref e] h Post := by
  refine gh_yJx35411_hasNext_aae02_X g (Nat.le_of_ble_eq_true rfl) fun S SX hs hr hw hx => ?_
  have rv : ∀ x : Int32, ck_fv 0 (.int x) := fun x => ⟨_, rfl⟩
  obtain ⟨t_, tr_, ws_, a1_, a2_, a3_, a4_, a5_, a6_, a7_, a8_⟩ := hl
  have al_ : ck_al 53 58 (tr_ % 100) = true := by rw [a4_]; rfl
  by_cases c_ : cu < (vs.length : Int)
  · 
    refine hs 0 _ rfl _ _ _ _ _ _ _ rfl ?_
    refine hs 1 _ rfl _ _ _ _ _ _ _ _ _ (hie) hte rfl ?_
    refine hs 2 _ rfl _ _ _ _ _ _ _ rfl ?_
    refine hs 3 _ rfl _ _ _ _ _ _ _ _ _ (hie) hte rfl ?_
    refine hs 4 _ rfl _ _ _ _ _ _ _ _ _ (a1_) a2_ rfl ?_
    refine hs 5 _ rfl _ _ _ _ _ _ _ (fun zq => absurd (hd_c2z (c := 0) (by omega) (by omega) (by omega) (by omega) zq) (by omega : ¬ ((cu - (vs.length : Int)) = 0))) (fun _ => ?_)
    refine hs 6 _ rfl _ _ _ _ _ _ _ rfl ?_
    refine hs 7 _ rfl _ _ _ _ _ ?_
    exact hs 9 _ rfl _ _ _ _ _ ⟨_, rfl, by decide, by decide⟩ (Nat.zero_le _) (Nat.zero_le _) (hP1 c_)
  · 
    refine hs 0 _ rfl _ _ _ _ _ _ _ rfl ?_
    refine hs 1 _ rfl _ _ _ _ _ _ _ _ _ (hie) hte rfl ?_
    refine hs 2 _ rfl _ _ _ _ _ _ _ rfl ?_
    refine hs 3 _ rfl _ _ _ _ _ _ _ _ _ (hie) hte rfl ?_
    refine hs 4 _ rfl _ _ _ _ _ _ _ _ _ (a1_) a2_ rfl ?_
    refine hs 5 _ rfl _ _ _ _ _ _ _ (fun _ => ?_) (fun zq => absurd (hd_c2t (c := 0) (by omega) (by omega) (by omega) (by omega) (by omega : (cu - (vs.length : Int)) = 0)) zq)
    refine hs 8 _ rfl _ _ _ _ _ _ _ rfl ?_
    exact hs 9 _ rfl _ _ _ _ _ ⟨_, rfl, by decide, by decide⟩ (Nat.zero_le _) (Nat.zero_le _) (hP0 (by omega))
set_option maxHeartbeats 4000000 in
theorem zl_check_M {l : Launch} {G : am_G} {X : ck_XT} (g : gM l G X) {q p N : Nat} {mo : Int} {vs : List Nat} {h : List am_C} (hl : zl_L G h q p N mo vs) {e te : Nat} {cu la : Int} (hie : am_g G h e = some (te, [.int (Int32.ofInt cu), .int (Int32.ofInt la), .int (Int32.ofInt mo), .ref q])) (hte : te % 100 = 5) (hmo1 : -2147483648 ≤ mo) (hmo2 : mo ≤ 2147483647) {mc ms : Nat} {Post : am_O → List am_C → Prop} (hP : Post (.inl none) h) :
    am_M l G yJx35411_checkForComodification_da8c8 (.code yJx35411_checkForComodification_da8c8 prog_47_method_6_code 1 none) 1 20 mc ms [.ref e] h Post := by
  refine gh_yJx35411_checkForComodification_da8c8_X g (Nat.le_of_ble_eq_true rfl) fun S SX hs hr hw hx => ?_
  have rv : ∀ x : Int32, ck_fv 0 (.int x) := fun x => ⟨_, rfl⟩
  obtain ⟨t_, tr_, ws_, a1_, a2_, a3_, a4_, a5_, a6_, a7_, a8_⟩ := hl
  have al_ : ck_al 53 58 (tr_ % 100) = true := by rw [a4_]; rfl
  refine hs 0 _ rfl _ _ _ _ _ _ _ rfl ?_
  refine hs 1 _ rfl _ _ _ _ _ _ _ _ _ (hie) hte rfl ?_
  refine hs 2 _ rfl _ _ _ _ _ _ _ _ _ (a1_) a2_ rfl ?_
  refine hs 3 _ rfl _ _ _ _ _ _ _ rfl ?_
  refine hs 4 _ rfl _ _ _ _ _ _ _ _ _ (hie) hte rfl ?_
  refine hs 5 _ rfl _ _ _ _ _ _ _ (fun _ => ?_) (fun zq => absurd (hd_c2t (c := 0) (by omega) (by omega) (by omega) (by omega) (by omega : (mo - mo) = 0)) zq)
  exact hs 6 _ rfl _ _ _ _ (Nat.zero_le _) (Nat.zero_le _) hP
set_option maxHeartbeats 4000000 in
theorem zl_next_M {l : Launch} {G : am_G} {X : ck_XT} (g : gM l G X) {q p N : Nat} {mo : Int} {vs : List Nat} {h : List am_C} (hl : zl_L G h q p N mo vs) {e te : Nat} {la : Int} {i_ v_ : Nat} (hie : am_g G h e = some (te, [.int (Int32.ofInt (i_ : Int)), .int (Int32.ofInt la), .int (Int32.ofInt mo), .ref q])) (hte : te % 100 = 5) (hmo1 : -2147483648 ≤ mo) (hmo2 : mo ≤ 2147483647) (he : 1000 ≤ e) (hv : vs[i_]? = some v_) (hq : q ≠ e) (hp : p ≠ e) {mc ms : Nat} {Post : am_O → List am_C → Prop}
    (hP : ∀ h', hd_w G h h' e (te, [.int (Int32.ofInt ((i_ + 1 : Nat) : Int)), .int (Int32.ofInt (i_ : Int)), .int (Int32.ofInt mo), .ref q]) → Post (.inl (some (.ref v_))) h') :
    am_M l G yJx35411_next_0502b (.code yJx35411_next_0502b prog_47_method_3_code 3 (some (.object "java/lang/Object"))) 2 40 mc ms [.ref e] h Post := by
  refine gh_yJx35411_next_0502b_X g (Nat.le_of_ble_eq_true rfl) fun S SX hs hr hw hx => ?_
  have rv : ∀ x : Int32, ck_fv 0 (.int x) := fun x => ⟨_, rfl⟩
  have hl0_ := hl
  obtain ⟨t_, tr_, ws_, a1_, a2_, a3_, a4_, a5_, a6_, a7_, a8_⟩ := hl0_
  have al_ : ck_al 53 58 (tr_ % 100) = true := by rw [a4_]; rfl
  have iv_ := (List.getElem?_eq_some_iff.mp hv).1
  refine hs 0 _ rfl _ _ _ _ _ _ _ rfl ?_
  refine zw_c (hs 1 _ rfl) (a := [.ref e]) (st := []) rfl rfl (Nat.le_of_ble_eq_true rfl) ⟨_, _, _, rfl, hie, hte⟩ (Nat.zero_le _) (Nat.zero_le _) (zl_check_M g hl hie hte hmo1 hmo2 ?_)
  show S 4 [some (.ref e), none, none] [] _ _ _
  refine hs 2 _ rfl _ _ _ _ _ _ _ rfl ?_
  refine hs 3 _ rfl _ _ _ _ _ _ _ _ _ (hie) hte rfl ?_
  refine hs 4 _ rfl _ _ _ _ _ _ _ rfl ?_
  refine hs 5 _ rfl _ _ _ _ _ _ _ rfl ?_
  refine hs 6 _ rfl _ _ _ _ _ _ _ rfl ?_
  refine hs 7 _ rfl _ _ _ _ _ _ _ _ _ (hie) hte rfl ?_
  refine hs 8 _ rfl _ _ _ _ _ _ _ _ _ (a1_) a2_ rfl ?_
  refine hs 9 _ rfl _ _ _ _ _ _ _ (fun _ => ?_) (fun zq => absurd (hd_c2t (c := 2) (by omega) (by omega) (by omega) (by omega) (by omega : ((i_ : Int) - (vs.length : Int)) < 0)) zq)
  refine hs 10 _ rfl _ _ _ _ _ _ _ rfl ?_
  refine hs 11 _ rfl _ _ _ _ _ _ _ _ _ (hie) hte rfl ?_
  refine hs 12 _ rfl _ _ _ _ _ _ _ _ _ (a1_) a2_ rfl ?_
  refine hs 13 _ rfl _ _ _ _ _ _ _ rfl ?_
  refine hs 14 _ rfl _ _ _ _ _ _ _ rfl ?_
  refine hs 15 _ rfl _ _ _ _ _ _ _ rfl ?_
  refine zw_Ln (hs 16 _ rfl) (a3_) a4_ a5_ ?_
  refine hs 17 _ rfl _ _ _ _ _ _ _ (fun _ => ?_) (fun zq => absurd (hd_c2t (c := 2) (by omega) (by omega) (by omega) (by omega) (by omega : ((i_ : Int) - (N : Int)) < 0)) zq)
  refine hs 18 _ rfl _ _ _ _ _ _ _ rfl ?_
  refine hs 19 _ rfl _ _ _ _ _ _ _ rfl ?_
  refine hs 20 _ rfl _ _ _ _ _ _ _ rfl ?_
  refine hs 21 _ rfl _ _ _ _ _ _ _ hd_add ?_
  refine zw_U (hs 22 _ rfl) (by omega) (hie) hte ⟨_, rfl⟩ fun hz187 wz188 => ?_
  have wz188 : hd_w G h hz187 e (te, [.int (Int32.ofInt ((i_ : Int) + (1 : Int))), .int (Int32.ofInt la), .int (Int32.ofInt mo), .ref q]) := wz188
  refine hs 23 _ rfl _ _ _ _ _ _ _ rfl ?_
  refine hs 24 _ rfl _ _ _ _ _ _ _ rfl ?_
  refine hs 25 _ rfl _ _ _ _ _ _ _ rfl ?_
  refine hs 26 _ rfl _ _ _ _ _ _ _ rfl ?_
  refine zw_U (hs 27 _ rfl) (by omega) (wz188.at) hte ⟨_, rfl⟩ fun hz189 wz190 => ?_
  have wz190 : hd_w G hz187 hz189 e (te, [.int (Int32.ofInt ((i_ : Int) + (1 : Int))), .int (Int32.ofInt (i_ : Int)), .int (Int32.ofInt mo), .ref q]) := wz190
  refine zw_Ar (hs 28 _ rfl) ((wz190.ne (by omega)).trans ((wz188.ne (by omega)).trans a3_)) al_ (j := i_) (by omega) (by omega) (a8_ i_ v_ hv) ?_
  have ww_ := hd_w.tr wz188 wz190
  exact hs 29 _ rfl _ _ _ _ _ (Or.inl ⟨_, rfl⟩) (Nat.zero_le _) (Nat.zero_le _) (hP _ ww_)
