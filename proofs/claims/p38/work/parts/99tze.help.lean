/-! HELPS OF THE REFERENCE -/
set_option maxHeartbeats 4000000 in
theorem zm_isIn_M {l : Launch} {G : am_G} {X : ck_XT} (g : gM l G X) {v a b : Int} {h : List am_C} (hv1 : -2147483648 ≤ v) (hv2 : v ≤ 2147483647) (ha1 : -2147483648 ≤ a) (ha2 : a ≤ 2147483647) (hb1 : -2147483648 ≤ b) (hb2 : b ≤ 2147483647) {mc ms : Nat} {Post : am_O → List am_C → Prop} (hP1 : a ≤ v ∧ v ≤ b → Post (.inl (some (.int (Int32.ofInt 1)))) h) (hP0 : ¬ (a ≤ v ∧ v ≤ b) → Post (.inl (some (.int (Int32.ofInt 0)))) h) :
    am_M l G yX14_isIn (.code yX14_isIn prog_14_method_5_code 3 (some .boolean)) 1 20 mc ms [.int (Int32.ofInt v), .int (Int32.ofInt a), .int (Int32.ofInt b)] h Post := by
  refine gh_yX14_isIn_X g (Nat.le_of_ble_eq_true rfl) fun S SX hs hr hw hx => ?_
  have rv : ∀ x : Int32, ck_fv 0 (.int x) := fun x => ⟨_, rfl⟩
  by_cases c1_ : v < a
  · 
    refine hs 0 _ rfl _ _ _ _ _ _ _ rfl ?_
    refine hs 1 _ rfl _ _ _ _ _ _ _ rfl ?_
    refine hs 2 _ rfl _ _ _ _ _ _ _ (fun _ => ?_) (fun zq => absurd (hd_c2t (c := 2) (by omega) (by omega) (by omega) (by omega) (by omega : (v - a) < 0)) zq)
    refine hs 8 _ rfl _ _ _ _ _ _ _ rfl ?_
    exact hs 9 _ rfl _ _ _ _ _ ⟨_, rfl, by decide, by decide⟩ (Nat.zero_le _) (Nat.zero_le _) (hP0 (by omega))
  · by_cases c2_ : b < v
    · 
      refine hs 0 _ rfl _ _ _ _ _ _ _ rfl ?_
      refine hs 1 _ rfl _ _ _ _ _ _ _ rfl ?_
      refine hs 2 _ rfl _ _ _ _ _ _ _ (fun zq => absurd (hd_c2z (c := 2) (by omega) (by omega) (by omega) (by omega) zq) (by omega : ¬ ((v - a) < 0))) (fun _ => ?_)
      refine hs 3 _ rfl _ _ _ _ _ _ _ rfl ?_
      refine hs 4 _ rfl _ _ _ _ _ _ _ rfl ?_
      refine hs 5 _ rfl _ _ _ _ _ _ _ (fun _ => ?_) (fun zq => absurd (hd_c2t (c := 4) (by omega) (by omega) (by omega) (by omega) (by omega : 0 < (v - b))) zq)
      refine hs 8 _ rfl _ _ _ _ _ _ _ rfl ?_
      exact hs 9 _ rfl _ _ _ _ _ ⟨_, rfl, by decide, by decide⟩ (Nat.zero_le _) (Nat.zero_le _) (hP0 (by omega))
    · 
      refine hs 0 _ rfl _ _ _ _ _ _ _ rfl ?_
      refine hs 1 _ rfl _ _ _ _ _ _ _ rfl ?_
      refine hs 2 _ rfl _ _ _ _ _ _ _ (fun zq => absurd (hd_c2z (c := 2) (by omega) (by omega) (by omega) (by omega) zq) (by omega : ¬ ((v - a) < 0))) (fun _ => ?_)
      refine hs 3 _ rfl _ _ _ _ _ _ _ rfl ?_
      refine hs 4 _ rfl _ _ _ _ _ _ _ rfl ?_
      refine hs 5 _ rfl _ _ _ _ _ _ _ (fun zq => absurd (hd_c2z (c := 4) (by omega) (by omega) (by omega) (by omega) zq) (by omega : ¬ (0 < (v - b)))) (fun _ => ?_)
      refine hs 6 _ rfl _ _ _ _ _ _ _ rfl ?_
      refine hs 7 _ rfl _ _ _ _ _ ?_
      exact hs 9 _ rfl _ _ _ _ _ ⟨_, rfl, by decide, by decide⟩ (Nat.zero_le _) (Nat.zero_le _) (hP1 (by omega))
set_option maxHeartbeats 4000000 in
theorem zm_noSlot_M {l : Launch} {G : am_G} {X : ck_XT} (g : gM l G X) {e : Int} {h : List am_C} (he1 : -2147483648 ≤ e) (he2 : e ≤ 2147483647) {mc ms : Nat} {Post : am_O → List am_C → Prop} (hP1 : ¬ (0 ≤ e ∧ e < 6) → Post (.inl (some (.int (Int32.ofInt 1)))) h) (hP0 : 0 ≤ e ∧ e < 6 → Post (.inl (some (.int (Int32.ofInt 0)))) h) :
    am_M l G yX14_isNoSlot (.code yX14_isNoSlot prog_14_method_6_code 1 (some .boolean)) 2 42 mc ms [.int (Int32.ofInt e)] h Post := by
  refine gh_yX14_isNoSlot_X g (Nat.le_of_ble_eq_true rfl) fun S SX hs hr hw hx => ?_
  have rv : ∀ x : Int32, ck_fv 0 (.int x) := fun x => ⟨_, rfl⟩
  by_cases c1_ : 0 ≤ e ∧ e < 6
  · 
    refine hs 0 _ rfl _ _ _ _ _ _ _ rfl ?_
    refine hs 1 _ rfl _ _ _ _ _ _ _ rfl ?_
    refine hs 2 _ rfl _ _ _ _ _ _ _ rfl ?_
    refine zw_c (hs 3 _ rfl) (a := [.int (Int32.ofInt e), .int (Int32.ofInt (0 : Int)), .int (Int32.ofInt (5 : Int))]) (st := []) rfl rfl (Nat.le_of_ble_eq_true rfl) trivial (by omega) (by omega) (zm_isIn_M g (v := e) (a := 0) (b := 5) (by omega) (by omega) (by omega) (by omega) (by omega) (by omega) (fun y_ => ?_) (fun y_ => absurd (by omega) y_))
    show S 6 [some (.int (Int32.ofInt e))] [.int (Int32.ofInt (1 : Int))] _ _ _
    refine hs 4 _ rfl _ _ _ _ _ _ (fun _ => ?_) (fun zq => absurd (hd_c1t (c := 1) (by omega) (by omega) (by omega : (1 : Int) ≠ 0)) zq)
    refine hs 7 _ rfl _ _ _ _ _ _ _ rfl ?_
    exact hs 8 _ rfl _ _ _ _ _ ⟨_, rfl, by decide, by decide⟩ (Nat.zero_le _) (Nat.zero_le _) (hP0 (by omega))
  · 
    refine hs 0 _ rfl _ _ _ _ _ _ _ rfl ?_
    refine hs 1 _ rfl _ _ _ _ _ _ _ rfl ?_
    refine hs 2 _ rfl _ _ _ _ _ _ _ rfl ?_
    refine zw_c (hs 3 _ rfl) (a := [.int (Int32.ofInt e), .int (Int32.ofInt (0 : Int)), .int (Int32.ofInt (5 : Int))]) (st := []) rfl rfl (Nat.le_of_ble_eq_true rfl) trivial (by omega) (by omega) (zm_isIn_M g (v := e) (a := 0) (b := 5) (by omega) (by omega) (by omega) (by omega) (by omega) (by omega) (fun y_ => absurd y_ (by omega)) (fun y_ => ?_))
    show S 6 [some (.int (Int32.ofInt e))] [.int (Int32.ofInt (0 : Int))] _ _ _
    refine hs 4 _ rfl _ _ _ _ _ _ (fun zq => absurd (hd_c1z (c := 1) (by omega) (by omega) zq) (by omega : ¬ ((0 : Int) ≠ 0))) (fun _ => ?_)
    refine hs 5 _ rfl _ _ _ _ _ _ _ rfl ?_
    refine hs 6 _ rfl _ _ _ _ _ ?_
    exact hs 8 _ rfl _ _ _ _ _ ⟨_, rfl, by decide, by decide⟩ (Nat.zero_le _) (Nat.zero_le _) (hP1 (by omega))
set_option maxHeartbeats 4000000 in
theorem zm_noRow_M {l : Launch} {G : am_G} {X : ck_XT} (g : gM l G X) {e f : Int} {h : List am_C} (he1 : -2147483648 ≤ e) (he2 : e ≤ 2147483647) (hf1 : -2147483648 ≤ f) (hf2 : f ≤ 2147483647) {mc ms : Nat} {Post : am_O → List am_C → Prop} (hP1 : ¬ (-9999 ≤ e ∧ e ≤ 9999 ∧ 1 ≤ f ∧ f ≤ 999) → Post (.inl (some (.int (Int32.ofInt 1)))) h) (hP0 : -9999 ≤ e ∧ e ≤ 9999 ∧ 1 ≤ f ∧ f ≤ 999 → Post (.inl (some (.int (Int32.ofInt 0)))) h) :
    am_M l G yX14_isNoRow (.code yX14_isNoRow prog_14_method_27_code 2 (some .boolean)) 2 42 mc ms [.int (Int32.ofInt e), .int (Int32.ofInt f)] h Post := by
  refine gh_yX14_isNoRow_X g (Nat.le_of_ble_eq_true rfl) fun S SX hs hr hw hx => ?_
  have rv : ∀ x : Int32, ck_fv 0 (.int x) := fun x => ⟨_, rfl⟩
  by_cases c1_ : -9999 ≤ e ∧ e ≤ 9999
  · by_cases c2_ : 1 ≤ f ∧ f ≤ 999
    · 
      refine hs 0 _ rfl _ _ _ _ _ _ _ rfl ?_
      refine hs 1 _ rfl _ _ _ _ _ _ _ rfl ?_
      refine hs 2 _ rfl _ _ _ _ _ _ _ rfl ?_
      refine zw_c (hs 3 _ rfl) (a := [.int (Int32.ofInt e), .int (Int32.ofInt (-9999 : Int)), .int (Int32.ofInt (9999 : Int))]) (st := []) rfl rfl (Nat.le_of_ble_eq_true rfl) trivial (by omega) (by omega) (zm_isIn_M g (v := e) (a := (-9999)) (b := 9999) (by omega) (by omega) (by omega) (by omega) (by omega) (by omega) (fun y_ => ?_) (fun y_ => absurd (by omega) y_))
      show S 10 [some (.int (Int32.ofInt e)), some (.int (Int32.ofInt f))] [.int (Int32.ofInt (1 : Int))] _ _ _
      refine hs 4 _ rfl _ _ _ _ _ _ (fun zq => absurd (hd_c1z (c := 0) (by omega) (by omega) zq) (by omega : ¬ ((1 : Int) = 0))) (fun _ => ?_)
      refine hs 5 _ rfl _ _ _ _ _ _ _ rfl ?_
      refine hs 6 _ rfl _ _ _ _ _ _ _ rfl ?_
      refine hs 7 _ rfl _ _ _ _ _ _ _ rfl ?_
      refine zw_c (hs 8 _ rfl) (a := [.int (Int32.ofInt f), .int (Int32.ofInt (1 : Int)), .int (Int32.ofInt (999 : Int))]) (st := []) rfl rfl (Nat.le_of_ble_eq_true rfl) trivial (by omega) (by omega) (zm_isIn_M g (v := f) (a := 1) (b := 999) (by omega) (by omega) (by omega) (by omega) (by omega) (by omega) (fun y_ => ?_) (fun y_ => absurd (by omega) y_))
      show S 21 [some (.int (Int32.ofInt e)), some (.int (Int32.ofInt f))] [.int (Int32.ofInt (1 : Int))] _ _ _
      refine hs 9 _ rfl _ _ _ _ _ _ (fun _ => ?_) (fun zq => absurd (hd_c1t (c := 1) (by omega) (by omega) (by omega : (1 : Int) ≠ 0)) zq)
      refine hs 12 _ rfl _ _ _ _ _ _ _ rfl ?_
      exact hs 13 _ rfl _ _ _ _ _ ⟨_, rfl, by decide, by decide⟩ (Nat.zero_le _) (Nat.zero_le _) (hP0 (by omega))
    · 
      refine hs 0 _ rfl _ _ _ _ _ _ _ rfl ?_
      refine hs 1 _ rfl _ _ _ _ _ _ _ rfl ?_
      refine hs 2 _ rfl _ _ _ _ _ _ _ rfl ?_
      refine zw_c (hs 3 _ rfl) (a := [.int (Int32.ofInt e), .int (Int32.ofInt (-9999 : Int)), .int (Int32.ofInt (9999 : Int))]) (st := []) rfl rfl (Nat.le_of_ble_eq_true rfl) trivial (by omega) (by omega) (zm_isIn_M g (v := e) (a := (-9999)) (b := 9999) (by omega) (by omega) (by omega) (by omega) (by omega) (by omega) (fun y_ => ?_) (fun y_ => absurd (by omega) y_))
      show S 10 [some (.int (Int32.ofInt e)), some (.int (Int32.ofInt f))] [.int (Int32.ofInt (1 : Int))] _ _ _
      refine hs 4 _ rfl _ _ _ _ _ _ (fun zq => absurd (hd_c1z (c := 0) (by omega) (by omega) zq) (by omega : ¬ ((1 : Int) = 0))) (fun _ => ?_)
      refine hs 5 _ rfl _ _ _ _ _ _ _ rfl ?_
      refine hs 6 _ rfl _ _ _ _ _ _ _ rfl ?_
      refine hs 7 _ rfl _ _ _ _ _ _ _ rfl ?_
      refine zw_c (hs 8 _ rfl) (a := [.int (Int32.ofInt f), .int (Int32.ofInt (1 : Int)), .int (Int32.ofInt (999 : Int))]) (st := []) rfl rfl (Nat.le_of_ble_eq_true rfl) trivial (by omega) (by omega) (zm_isIn_M g (v := f) (a := 1) (b := 999) (by omega) (by omega) (by omega) (by omega) (by omega) (by omega) (fun y_ => absurd y_ (by omega)) (fun y_ => ?_))
      show S 21 [some (.int (Int32.ofInt e)), some (.int (Int32.ofInt f))] [.int (Int32.ofInt (0 : Int))] _ _ _
      refine hs 9 _ rfl _ _ _ _ _ _ (fun zq => absurd (hd_c1z (c := 1) (by omega) (by omega) zq) (by omega : ¬ ((0 : Int) ≠ 0))) (fun _ => ?_)
      refine hs 10 _ rfl _ _ _ _ _ _ _ rfl ?_
      refine hs 11 _ rfl _ _ _ _ _ ?_
      exact hs 13 _ rfl _ _ _ _ _ ⟨_, rfl, by decide, by decide⟩ (Nat.zero_le _) (Nat.zero_le _) (hP1 (by omega))
  · 
    refine hs 0 _ rfl _ _ _ _ _ _ _ rfl ?_
    refine hs 1 _ rfl _ _ _ _ _ _ _ rfl ?_
    refine hs 2 _ rfl _ _ _ _ _ _ _ rfl ?_
    refine zw_c (hs 3 _ rfl) (a := [.int (Int32.ofInt e), .int (Int32.ofInt (-9999 : Int)), .int (Int32.ofInt (9999 : Int))]) (st := []) rfl rfl (Nat.le_of_ble_eq_true rfl) trivial (by omega) (by omega) (zm_isIn_M g (v := e) (a := (-9999)) (b := 9999) (by omega) (by omega) (by omega) (by omega) (by omega) (by omega) (fun y_ => absurd y_ (by omega)) (fun y_ => ?_))
    show S 10 [some (.int (Int32.ofInt e)), some (.int (Int32.ofInt f))] [.int (Int32.ofInt (0 : Int))] _ _ _
    refine hs 4 _ rfl _ _ _ _ _ _ (fun _ => ?_) (fun zq => absurd (hd_c1t (c := 0) (by omega) (by omega) (by omega : (0 : Int) = 0)) zq)
    refine hs 10 _ rfl _ _ _ _ _ _ _ rfl ?_
    refine hs 11 _ rfl _ _ _ _ _ ?_
    exact hs 13 _ rfl _ _ _ _ _ ⟨_, rfl, by decide, by decide⟩ (Nat.zero_le _) (Nat.zero_le _) (hP1 (by omega))
set_option maxHeartbeats 4000000 in
theorem zm_refuse_M {l : Launch} {G : am_G} {X : ck_XT} (g : gM l G X) {o : Nat → Nat} {x tx now qw : Nat} {j m k : Int} {c : sp_S} {P : List sp_S} {h : List am_C} (hX : zm_x G h o x tx now qw 0 j m k c P) {i_ w_ : Int} (hi : i_ = 0 ∨ i_ = 1) (hw9 : 1 ≤ w_ ∧ w_ ≤ 9) {mc ms : Nat} {Post : am_O → List am_C → Prop} (hP1 : i_ = 1 → ∀ h', zm_fr G h h' → zm_x G h' o x tx now qw w_ j m k c P → Post (.inl (some (.int (Int32.ofInt 1)))) h') (hP0 : i_ = 0 → Post (.inl (some (.int (Int32.ofInt 0)))) h) :
    am_M l G yX14_refuse (.code yX14_refuse prog_14_method_3_code 3 (some .boolean)) 1 20 mc ms [.ref x, .int (Int32.ofInt i_), .int (Int32.ofInt w_)] h Post := by
  refine gh_yX14_refuse_X g (Nat.le_of_ble_eq_true rfl) fun S SX hs hr hw hx => ?_
  have rv : ∀ x : Int32, ck_fv 0 (.int x) := fun x => ⟨_, rfl⟩
  obtain ⟨a1_, a2_, a3_, a4_⟩ := id hX
  rcases hi with hi | hi
  · subst hi
    refine hs 0 _ rfl _ _ _ _ _ _ _ rfl ?_
    refine hs 1 _ rfl _ _ _ _ _ _ (fun _ => ?_) (fun zq => absurd (hd_c1t (c := 0) (by omega) (by omega) (by omega : (0 : Int) = 0)) zq)
    refine hs 8 _ rfl _ _ _ _ _ _ _ rfl ?_
    refine hs 9 _ rfl _ _ _ _ _ _ _ _ _ (a1_) a2_.1 rfl ?_
    refine hs 10 _ rfl _ _ _ _ _ _ (fun _ => ?_) (fun zq => absurd (hd_c1t (c := 5) (by omega) (by omega) (by omega : (0 : Int) ≤ 0)) zq)
    refine hs 13 _ rfl _ _ _ _ _ _ _ rfl ?_
    exact hs 14 _ rfl _ _ _ _ _ ⟨_, rfl, by decide, by decide⟩ (Nat.zero_le _) (Nat.zero_le _) (hP0 rfl)
  · subst hi
    refine hs 0 _ rfl _ _ _ _ _ _ _ rfl ?_
    refine hs 1 _ rfl _ _ _ _ _ _ (fun zq => absurd (hd_c1z (c := 0) (by omega) (by omega) zq) (by omega : ¬ ((1 : Int) = 0))) (fun _ => ?_)
    refine hs 2 _ rfl _ _ _ _ _ _ _ rfl ?_
    refine hs 3 _ rfl _ _ _ _ _ _ _ _ _ (a1_) a2_.1 rfl ?_
    refine hs 4 _ rfl _ _ _ _ _ _ (fun zq => absurd (hd_c1z (c := 1) (by omega) (by omega) zq) (by omega : ¬ ((0 : Int) ≠ 0))) (fun _ => ?_)
    refine hs 5 _ rfl _ _ _ _ _ _ _ rfl ?_
    refine hs 6 _ rfl _ _ _ _ _ _ _ rfl ?_
    refine zw_U (hs 7 _ rfl) (by omega) (a1_) a2_.1 ⟨_, rfl⟩ fun hz281 wz282 => ?_
    have wz282 : hd_w G h hz281 x (tx, [.int (Int32.ofInt w_), .ref now, .ref qw, .int (Int32.ofInt j), .int (Int32.ofInt m), .int (Int32.ofInt k)]) := wz282
    have lwz282 := wz282.1
    refine hs 8 _ rfl _ _ _ _ _ _ _ rfl ?_
    refine hs 9 _ rfl _ _ _ _ _ _ _ _ _ (wz282.at) a2_.1 rfl ?_
    refine hs 10 _ rfl _ _ _ _ _ _ (fun zq => absurd (hd_c1z (c := 5) (by omega) (by omega) zq) (by omega : ¬ (w_ ≤ 0))) (fun _ => ?_)
    refine hs 11 _ rfl _ _ _ _ _ _ _ rfl ?_
    refine hs 12 _ rfl _ _ _ _ _ ?_
    exact hs 14 _ rfl _ _ _ _ _ ⟨_, rfl, by decide, by decide⟩ (Nat.zero_le _) (Nat.zero_le _) (hP1 rfl _ (zm_fr.w wz282 a1_ (Or.inl a2_.1)) (hX.own wz282))
set_option maxHeartbeats 4000000 in
theorem zm_start_M {l : Launch} {G : am_G} {X : ck_XT} (g : gM l G X) {o : Nat → Nat} {x tx now qw : Nat} {th j m k : Int} {c : sp_S} {P : List sp_S} {h : List am_C} (hX : zm_x G h o x tx now qw th j m k c P) {i_ w_ : Int} (hi : i_ = 0 ∨ i_ = 1) (hw9 : 1 ≤ w_ ∧ w_ ≤ 9) {mc ms : Nat} {Post : am_O → List am_C → Prop} (hP1 : i_ = 1 → ∀ h', zm_fr G h h' → zm_x G h' o x tx now qw w_ j m k c P → Post (.inl (some (.int (Int32.ofInt 1)))) h') (hP0 : i_ = 0 → ∀ h', zm_fr G h h' → zm_x G h' o x tx now qw 0 j m k c P → Post (.inl (some (.int (Int32.ofInt 0)))) h') :
    am_M l G yX14_start (.code yX14_start prog_14_method_4_code 3 (some .boolean)) 2 42 mc ms [.ref x, .int (Int32.ofInt i_), .int (Int32.ofInt w_)] h Post := by
  refine gh_yX14_start_X g (Nat.le_of_ble_eq_true rfl) fun S SX hs hr hw hx => ?_
  have rv : ∀ x : Int32, ck_fv 0 (.int x) := fun x => ⟨_, rfl⟩
  obtain ⟨a1_, a2_, a3_, a4_⟩ := id hX
  refine hs 0 _ rfl _ _ _ _ _ _ _ rfl ?_
  refine hs 1 _ rfl _ _ _ _ _ _ _ rfl ?_
  refine zw_U (hs 2 _ rfl) (by omega) (a1_) a2_.1 ⟨_, rfl⟩ fun hz283 wz284 => ?_
  have wz284 : hd_w G h hz283 x (tx, [.int (Int32.ofInt (0 : Int)), .ref now, .ref qw, .int (Int32.ofInt j), .int (Int32.ofInt m), .int (Int32.ofInt k)]) := wz284
  have lwz284 := wz284.1
  have x1_ := hX.own wz284
  have f1_ : zm_fr G h _ := zm_fr.w wz284 a1_ (Or.inl a2_.1)
  refine hs 3 _ rfl _ _ _ _ _ _ _ rfl ?_
  refine hs 4 _ rfl _ _ _ _ _ _ _ rfl ?_
  refine hs 5 _ rfl _ _ _ _ _ _ _ rfl ?_
  refine zw_c (hs 6 _ rfl) (a := [.ref x, .int (Int32.ofInt i_), .int (Int32.ofInt w_)]) (st := []) rfl rfl (Nat.le_of_ble_eq_true rfl) ⟨_, _, _, rfl, wz284.at, a2_.1⟩ (by omega) (by omega) (zm_refuse_M g x1_ hi hw9 (fun y_ h2_ f2_ x2_ => ?_) (fun y_ => ?_))
  · show S 11 [some (.ref x), some (.int (Int32.ofInt i_)), some (.int (Int32.ofInt w_))] [.int (Int32.ofInt 1)] _ _ _
    exact hs 7 _ rfl _ _ _ _ _ ⟨_, rfl, by decide, by decide⟩ (Nat.zero_le _) (Nat.zero_le _) (hP1 y_ _ (f1_.tr f2_) x2_)
  · show S 11 [some (.ref x), some (.int (Int32.ofInt i_)), some (.int (Int32.ofInt w_))] [.int (Int32.ofInt 0)] _ _ _
    exact hs 7 _ rfl _ _ _ _ _ ⟨_, rfl, by decide, by decide⟩ (Nat.zero_le _) (Nat.zero_le _) (hP0 y_ _ f1_ x1_)
theorem zm_l.rc {G : am_G} {h : List am_C} {o : Nat → Nat} {q lab : Nat} {vs : List Nat} {u : List Value} (a : zm_l G h o q lab vs) : ck_rcv G (some 6) (.ref q :: u) h := by
  obtain ⟨p_, N_, t_, tr_, mo_, a1_, a2_, -⟩ := a
  exact ⟨q, t_, _, rfl, a1_, a2_⟩
set_option maxHeartbeats 4000000 in
theorem zm_noPlace_M {l : Launch} {G : am_G} {X : ck_XT} (g : gM l G X) {o : Nat → Nat} {x tx now qw : Nat} {th j m k : Int} {c : sp_S} {P : List sp_S} {h : List am_C} (hX : zm_x G h o x tx now qw th j m k c P) {e : Int} (he1 : -2147483648 ≤ e) (he2 : e ≤ 2147483647) (hok : sp_ok c) {mc ms : Nat} {Post : am_O → List am_C → Prop} (hP1 : ¬ (0 ≤ e ∧ e < (c.2.2.1.length : Int)) → Post (.inl (some (.int (Int32.ofInt 1)))) h) (hP0 : 0 ≤ e ∧ e < (c.2.2.1.length : Int) → Post (.inl (some (.int (Int32.ofInt 0)))) h) :
    am_M l G yX14_isNoPlace (.code yX14_isNoPlace prog_14_method_35_code 2 (some .boolean)) 2 42 mc ms [.ref x, .int (Int32.ofInt e)] h Post := by
  refine gh_yX14_isNoPlace_X g (Nat.le_of_ble_eq_true rfl) fun S SX hs hr hw hx => ?_
  have rv : ∀ x : Int32, ck_fv 0 (.int x) := fun x => ⟨_, rfl⟩
  obtain ⟨a1_, a2_, a3_, a4_⟩ := id hX
  obtain ⟨t_, qn_, ql_, qb_, vl_, s1_, l1_, ⟨e1_, e2_⟩, up_⟩ := hX.rowL
  have ok_ := hok.2.2.1.1
  by_cases c1_ : 0 ≤ e ∧ e < (c.2.2.1.length : Int)
  · 
    refine hs 0 _ rfl _ _ _ _ _ _ _ rfl ?_
    refine hs 1 _ rfl _ _ _ _ _ _ _ rfl ?_
    refine hs 2 _ rfl _ _ _ _ _ _ _ rfl ?_
    refine hs 3 _ rfl _ _ _ _ _ _ _ _ _ (a1_) a2_.1 rfl ?_
    refine hs 4 _ rfl _ _ _ _ _ _ _ _ _ (s1_.1) s1_.2 rfl ?_
    refine zw_c (hs 5 _ rfl) (a := [.ref ql_]) (st := [.int (Int32.ofInt (0 : Int)), .int (Int32.ofInt e)]) rfl rfl (Nat.le_of_ble_eq_true rfl) (zm_l.rc l1_) (by omega) (by omega) (zm_size_M g l1_ ?_)
    show S 12 [some (.ref x), some (.int (Int32.ofInt e))] [.int (Int32.ofInt (vl_.length : Int)), .int (Int32.ofInt (0 : Int)), .int (Int32.ofInt e)] _ _ _
    refine hs 6 _ rfl _ _ _ _ _ _ _ rfl ?_
    refine hs 7 _ rfl _ _ _ _ _ _ _ hd_sub ?_
    refine zw_c (hs 8 _ rfl) (a := [.int (Int32.ofInt e), .int (Int32.ofInt (0 : Int)), .int (Int32.ofInt ((vl_.length : Int) - (1 : Int)))]) (st := []) rfl rfl (Nat.le_of_ble_eq_true rfl) trivial (by omega) (by omega) (zm_isIn_M g (v := e) (a := 0) (b := ((vl_.length : Int) - (1 : Int))) (by omega) (by omega) (by omega) (by omega) (by omega) (by omega) (fun y_ => ?_) (fun y_ => absurd (by omega) y_))
    show S 17 [some (.ref x), some (.int (Int32.ofInt e))] [.int (Int32.ofInt (1 : Int))] _ _ _
    refine hs 9 _ rfl _ _ _ _ _ _ (fun _ => ?_) (fun zq => absurd (hd_c1t (c := 1) (by omega) (by omega) (by omega : (1 : Int) ≠ 0)) zq)
    refine hs 12 _ rfl _ _ _ _ _ _ _ rfl ?_
    exact hs 13 _ rfl _ _ _ _ _ ⟨_, rfl, by decide, by decide⟩ (Nat.zero_le _) (Nat.zero_le _) (hP0 (by omega))
  · 
    refine hs 0 _ rfl _ _ _ _ _ _ _ rfl ?_
    refine hs 1 _ rfl _ _ _ _ _ _ _ rfl ?_
    refine hs 2 _ rfl _ _ _ _ _ _ _ rfl ?_
    refine hs 3 _ rfl _ _ _ _ _ _ _ _ _ (a1_) a2_.1 rfl ?_
    refine hs 4 _ rfl _ _ _ _ _ _ _ _ _ (s1_.1) s1_.2 rfl ?_
    refine zw_c (hs 5 _ rfl) (a := [.ref ql_]) (st := [.int (Int32.ofInt (0 : Int)), .int (Int32.ofInt e)]) rfl rfl (Nat.le_of_ble_eq_true rfl) (zm_l.rc l1_) (by omega) (by omega) (zm_size_M g l1_ ?_)
    show S 12 [some (.ref x), some (.int (Int32.ofInt e))] [.int (Int32.ofInt (vl_.length : Int)), .int (Int32.ofInt (0 : Int)), .int (Int32.ofInt e)] _ _ _
    refine hs 6 _ rfl _ _ _ _ _ _ _ rfl ?_
    refine hs 7 _ rfl _ _ _ _ _ _ _ hd_sub ?_
    refine zw_c (hs 8 _ rfl) (a := [.int (Int32.ofInt e), .int (Int32.ofInt (0 : Int)), .int (Int32.ofInt ((vl_.length : Int) - (1 : Int)))]) (st := []) rfl rfl (Nat.le_of_ble_eq_true rfl) trivial (by omega) (by omega) (zm_isIn_M g (v := e) (a := 0) (b := ((vl_.length : Int) - (1 : Int))) (by omega) (by omega) (by omega) (by omega) (by omega) (by omega) (fun y_ => absurd y_ (by omega)) (fun y_ => ?_))
    show S 17 [some (.ref x), some (.int (Int32.ofInt e))] [.int (Int32.ofInt (0 : Int))] _ _ _
    refine hs 9 _ rfl _ _ _ _ _ _ (fun zq => absurd (hd_c1z (c := 1) (by omega) (by omega) zq) (by omega : ¬ ((0 : Int) ≠ 0))) (fun _ => ?_)
    refine hs 10 _ rfl _ _ _ _ _ _ _ rfl ?_
    refine hs 11 _ rfl _ _ _ _ _ ?_
    exact hs 13 _ rfl _ _ _ _ _ ⟨_, rfl, by decide, by decide⟩ (Nat.zero_le _) (Nat.zero_le _) (hP1 (by omega))
set_option maxHeartbeats 4000000 in
theorem zm_jam_M {l : Launch} {G : am_G} {X : ck_XT} (g : gM l G X) {o : Nat → Nat} {x tx now qw : Nat} {th j m k : Int} {c : sp_S} {P : List sp_S} {h : List am_C} (hX : zm_x G h o x tx now qw th j m k c P) (hok : sp_ok c) {mc ms : Nat} {Post : am_O → List am_C → Prop} (hP1 : c.1 ≤ 0 → Post (.inl (some (.int (Int32.ofInt 1)))) h) (hP0 : 0 < c.1 → Post (.inl (some (.int (Int32.ofInt 0)))) h) :
    am_M l G yX14_isJammed (.code yX14_isJammed prog_14_method_17_code 1 (some .boolean)) 1 20 mc ms [.ref x] h Post := by
  refine gh_yX14_isJammed_X g (Nat.le_of_ble_eq_true rfl) fun S SX hs hr hw hx => ?_
  have rv : ∀ x : Int32, ck_fv 0 (.int x) := fun x => ⟨_, rfl⟩
  obtain ⟨a1_, a2_, a3_, a4_⟩ := id hX
  obtain ⟨t_, qn_, ql_, qb_, s1_, up_⟩ := hX.dialL
  have ok_ := hok.1
  by_cases c1_ : c.1 ≤ 0
  · 
    refine hs 0 _ rfl _ _ _ _ _ _ _ rfl ?_
    refine hs 1 _ rfl _ _ _ _ _ _ _ _ _ (a1_) a2_.1 rfl ?_
    refine hs 2 _ rfl _ _ _ _ _ _ _ _ _ (s1_.1) s1_.2 rfl ?_
    refine hs 3 _ rfl _ _ _ _ _ _ (fun zq => absurd (hd_c1z (c := 4) (by omega) (by omega) zq) (by omega : ¬ (0 < c.1))) (fun _ => ?_)
    refine hs 4 _ rfl _ _ _ _ _ _ _ rfl ?_
    refine hs 5 _ rfl _ _ _ _ _ ?_
    exact hs 7 _ rfl _ _ _ _ _ ⟨_, rfl, by decide, by decide⟩ (Nat.zero_le _) (Nat.zero_le _) (hP1 (by omega))
  · 
    refine hs 0 _ rfl _ _ _ _ _ _ _ rfl ?_
    refine hs 1 _ rfl _ _ _ _ _ _ _ _ _ (a1_) a2_.1 rfl ?_
    refine hs 2 _ rfl _ _ _ _ _ _ _ _ _ (s1_.1) s1_.2 rfl ?_
    refine hs 3 _ rfl _ _ _ _ _ _ (fun _ => ?_) (fun zq => absurd (hd_c1t (c := 4) (by omega) (by omega) (by omega : 0 < c.1)) zq)
    refine hs 6 _ rfl _ _ _ _ _ _ _ rfl ?_
    exact hs 7 _ rfl _ _ _ _ _ ⟨_, rfl, by decide, by decide⟩ (Nat.zero_le _) (Nat.zero_le _) (hP0 (by omega))
set_option maxHeartbeats 4000000 in
theorem zm_modAt_M {l : Launch} {G : am_G} {X : ck_XT} (g : gM l G X) {o : Nat → Nat} {x tx now qw : Nat} {th j m k : Int} {c : sp_S} {P : List sp_S} {h : List am_C} (hX : zm_x G h o x tx now qw th j m k c P) (hok : sp_ok c) {i : Nat} {e : Int} (he : e = (i : Int)) (hi : i < 6) {mc ms : Nat} {Post : am_O → List am_C → Prop} (hJ : c.1 ≤ 0 → Post (.inl (some (.int (Int32.ofInt (-9))))) h) (hP : 0 < c.1 → Post (.inl (some (.int (Int32.ofInt (c.2.1.getD i 0 % c.1)))) ) h) :
    am_M l G yX14_modAt (.code yX14_modAt prog_14_method_19_code 2 (some .int)) 2 43 mc ms [.ref x, .int (Int32.ofInt e)] h Post := by
  refine gh_yX14_modAt_X g (Nat.le_of_ble_eq_true rfl) fun S SX hs hr hw hx => ?_
  have rv : ∀ x : Int32, ck_fv 0 (.int x) := fun x => ⟨_, rfl⟩
  obtain ⟨a1_, a2_, a3_, a4_⟩ := id hX
  obtain ⟨t_, qn_, tn_, ql_, qb_, vn_, s1_, ⟨b1_, b2_, b3_⟩, ⟨d1_, d2_⟩, up_⟩ := hX.numL
  have ok1_ := hok.2.1.1
  obtain ⟨v_, hv_⟩ : ∃ v_, vn_[i]? = some v_ := ⟨_, List.getElem?_eq_getElem (by omega)⟩
  have gz_ : c.2.1[i]? = some (c.2.1.getD i 0) := sb_ge (by omega)
  have nz_ := d2_ _ _ _ hv_ gz_
  obtain ⟨nt_, nd_, ntd_, nb_, nds_, n1_, n2_, n3_, n4_, n5_⟩ := nz_
  have nl_ : nds_.length ≤ 36 := zm_len n5_ (hok.get hi)
  have ok_ := hok.1
  by_cases c1_ : c.1 ≤ 0
  · 
    refine hs 0 _ rfl _ _ _ _ _ _ _ rfl ?_
    refine zw_c (hs 1 _ rfl) (a := [.ref x]) (st := []) rfl rfl (Nat.le_of_ble_eq_true rfl) ⟨_, _, _, rfl, a1_, a2_.1⟩ (by omega) (by omega) (zm_jam_M g hX hok (fun y_ => ?_) (fun y_ => absurd y_ (by omega)))
    show S 4 [some (.ref x), some (.int (Int32.ofInt e))] [.int (Int32.ofInt (1 : Int))] _ _ _
    refine hs 2 _ rfl _ _ _ _ _ _ (fun zq => absurd (hd_c1z (c := 0) (by omega) (by omega) zq) (by omega : ¬ ((1 : Int) = 0))) (fun _ => ?_)
    refine hs 3 _ rfl _ _ _ _ _ _ _ rfl ?_
    refine hs 4 _ rfl _ _ _ _ _ ?_
    exact hs 14 _ rfl _ _ _ _ _ (rv _) (Nat.zero_le _) (Nat.zero_le _) (hJ c1_)
  · obtain ⟨M_, hM_⟩ : ∃ M_ : Nat, c.1 = (M_ : Int) := ⟨c.1.toNat, by omega⟩
    have hP := hP (by omega)
    rw [hM_] at s1_ hP
    rw [he]
    show S 0 [some (.ref x), some (.int (Int32.ofInt (i : Int)))] [] _ _ _
    refine hs 0 _ rfl _ _ _ _ _ _ _ rfl ?_
    refine zw_c (hs 1 _ rfl) (a := [.ref x]) (st := []) rfl rfl (Nat.le_of_ble_eq_true rfl) ⟨_, _, _, rfl, a1_, a2_.1⟩ (by omega) (by omega) (zm_jam_M g hX hok (fun y_ => absurd y_ (by omega)) (fun y_ => ?_))
    show S 4 [some (.ref x), some (.int (Int32.ofInt (i : Int)))] [.int (Int32.ofInt (0 : Int))] _ _ _
    refine hs 2 _ rfl _ _ _ _ _ _ (fun _ => ?_) (fun zq => absurd (hd_c1t (c := 0) (by omega) (by omega) (by omega : (0 : Int) = 0)) zq)
    refine hs 5 _ rfl _ _ _ _ _ _ _ rfl ?_
    refine hs 6 _ rfl _ _ _ _ _ _ _ _ _ (a1_) a2_.1 rfl ?_
    refine hs 7 _ rfl _ _ _ _ _ _ _ _ _ (s1_.1) s1_.2 rfl ?_
    refine hs 8 _ rfl _ _ _ _ _ _ _ rfl ?_
    refine zw_Ar (hs 9 _ rfl) (b1_) (by first | rfl | (rw [b2_]; rfl)) (j := i) (by omega) (by omega) (zm_nv hv_) ?_
    refine hs 10 _ rfl _ _ _ _ _ _ _ rfl ?_
    refine hs 11 _ rfl _ _ _ _ _ _ _ _ _ (a1_) a2_.1 rfl ?_
    refine hs 12 _ rfl _ _ _ _ _ _ _ _ _ (s1_.1) s1_.2 rfl ?_
    refine zw_c (hs 13 _ rfl) (a := [.ref v_, .int (Int32.ofInt (M_ : Int))]) (st := []) rfl rfl (Nat.le_of_ble_eq_true rfl) ⟨_, _, _, rfl, n1_, n2_⟩ (by omega) (by omega) (zn_mod_M g n1_ n2_ n3_ n4_ n5_ (by omega) (m := M_) (by omega) (by omega) ?_)
    show S 31 [some (.ref x), some (.int (Int32.ofInt (i : Int)))] [.int (Int32.ofInt (c.2.1.getD i 0 % (M_ : Int)))] _ _ _
    exact hs 14 _ rfl _ _ _ _ _ (rv _) (Nat.zero_le _) (Nat.zero_le _) hP
