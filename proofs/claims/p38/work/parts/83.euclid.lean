/-! EUCLID -/
theorem hd_call {G : am_G} {S : ck_SS} {SX : ck_SX} {Rc Rs nL pc nx : Nat} {CM : ck_CM} {na : Nat} (H : ck_sQ G S SX Rc Rs nL pc nx none CM na) {a : List Value} {L : List (Option Value)} {st : List Value} {h : List am_C} {k n : Nat} {P : am_O → List am_C → Prop} (hM : CM a h 0 0 P) (ha : a.length = na) (hL : L.length = nL) (hst : (st.map fun v => v.category).sum ≤ 8) (hk : k ≤ Rc) (hn : n ≤ Rs)
    (kr : ∀ (v : Option Value) (h' : List am_C), P (.inl v) h' → S nx L (v.toList ++ st) h' k n) (kx : ∀ (E : String) (h' : List am_C), P (.inr E) h' → False) : S pc L (a.reverse ++ st) h k n :=
  H a L st h k n 0 0 P hM ha hL hst trivial hk hn kr fun E h' hp => (kx E h' hp).elim
/-- four rows, and nothing else has changed -/
def eu_st (G : am_G) (h0 h : List am_C) (qa qb qc qd : Nat) (A B C D : List Int) : Prop :=
  (am_g G h qa = some (850, hd_r A) ∧ am_g G h qb = some (850, hd_r B) ∧ am_g G h qc = some (850, hd_r C) ∧ am_g G h qd = some (850, hd_r D)) ∧ ((hd_d A ∧ A.length = 38) ∧ (hd_d B ∧ B.length = 38) ∧ (hd_d C ∧ C.length = 38) ∧ (hd_d D ∧ D.length = 38)) ∧ h.length = h0.length ∧ ∀ p, p ≠ qa → p ≠ qb → p ≠ qc → p ≠ qd → am_g G h p = am_g G h0 p
def eu_ne (qa qb qc qd : Nat) : Prop := (1000 ≤ qa ∧ 1000 ≤ qb ∧ 1000 ≤ qc ∧ 1000 ≤ qd) ∧ qa ≠ qb ∧ qa ≠ qc ∧ qa ≠ qd ∧ qb ≠ qc ∧ qb ≠ qd ∧ qc ≠ qd
theorem eu_st.dA {G : am_G} {h0 h : List am_C} {qa qb qc qd : Nat} {A B C D : List Int} (e : eu_st G h0 h qa qb qc qd A B C D) : hd_d A := e.2.1.1.1
theorem eu_st.dB {G : am_G} {h0 h : List am_C} {qa qb qc qd : Nat} {A B C D : List Int} (e : eu_st G h0 h qa qb qc qd A B C D) : hd_d B := e.2.1.2.1.1
theorem eu_st.swap {G : am_G} {h0 h : List am_C} {qa qb qc qd : Nat} {A B C D : List Int} (e : eu_st G h0 h qa qb qc qd A B C D) : eu_st G h0 h qb qa qd qc B A D C := by
  obtain ⟨⟨a1, a2, a3, a4⟩, ⟨b1, b2, b3, b4⟩, c, d⟩ := e
  exact ⟨⟨a2, a1, a4, a3⟩, ⟨b2, b1, b4, b3⟩, c, fun p h1 h2 h3 h4 => d p h2 h1 h4 h3⟩
theorem eu_ne.swap {qa qb qc qd : Nat} (e : eu_ne qa qb qc qd) : eu_ne qb qa qd qc := by
  obtain ⟨⟨a1, a2, a3, a4⟩, b1, b2, b3, b4, b5, b6⟩ := e
  exact ⟨⟨a2, a1, a4, a3⟩, b1.symm, b5, b4, b3, b2, b6.symm⟩
theorem eu_st.setA {G : am_G} {h0 h h' : List am_C} {qa qb qc qd : Nat} {A B C D A' : List Int} (e : eu_st G h0 h qa qb qc qd A B C D) (n : eu_ne qa qb qc qd) (hw : hd_w G h h' qa (850, hd_r A')) (hd : hd_d A') (hl : A'.length = 38) : eu_st G h0 h' qa qb qc qd A' B C D := by
  obtain ⟨⟨a1, a2, a3, a4⟩, ⟨b1, b2, b3, b4⟩, c, d⟩ := e
  obtain ⟨-, n1, n2, n3, n4, n5, n6⟩ := n
  exact ⟨⟨hw.at, (hw.ne n1.symm).trans a2, (hw.ne n2.symm).trans a3, (hw.ne n3.symm).trans a4⟩, ⟨⟨hd, hl⟩, b2, b3, b4⟩, hw.1.trans c, fun p h1 h2 h3 h4 => (hw.ne h1).trans (d p h1 h2 h3 h4)⟩
theorem eu_st.setC {G : am_G} {h0 h h' : List am_C} {qa qb qc qd : Nat} {A B C D C' : List Int} (e : eu_st G h0 h qa qb qc qd A B C D) (n : eu_ne qa qb qc qd) (hw : hd_w G h h' qc (850, hd_r C')) (hd : hd_d C') (hl : C'.length = 38) : eu_st G h0 h' qa qb qc qd A B C' D := by
  obtain ⟨⟨a1, a2, a3, a4⟩, ⟨b1, b2, b3, b4⟩, c, d⟩ := e
  obtain ⟨-, n1, n2, n3, n4, n5, n6⟩ := n
  exact ⟨⟨(hw.ne n2).trans a1, (hw.ne n4).trans a2, hw.at, (hw.ne n6.symm).trans a4⟩, ⟨b1, b2, ⟨hd, hl⟩, b4⟩, hw.1.trans c, fun p h1 h2 h3 h4 => (hw.ne h3).trans (d p h1 h2 h3 h4)⟩
theorem hd_chgR_ok {by_ : Int} {z : Nat} {ds os : List Int} (hb : by_ = 1 ∨ by_ = -1) (hz : z ≤ ds.length) (hd : hd_d ds) (ho : hd_d os) : hd_d (hd_chgR by_ z ds os) ∧ (hd_chgR by_ z ds os).length = ds.length ∧ (hd_chgR by_ z ds os).drop z = hd_chg by_ 0 (ds.drop z) os := by
  obtain ⟨h1, h2, -⟩ := hd_chg_ok (by_ := by_) (o := 0) (hd.drop z) ho (hb.elim (fun e => Or.inl ⟨e, by decide, by decide⟩) fun e => Or.inr ⟨e, by decide, by decide⟩)
  have h3 : (ds.take z).length = z := by rw [List.length_take]; omega
  refine ⟨(hd.take z).app h1, ?_, ?_⟩
  · unfold hd_chgR
    rw [List.length_append, h2, h3, List.length_drop]; omega
  · unfold hd_chgR
    rw [List.drop_append_of_le_length (by omega), List.drop_eq_nil_of_le (by omega), List.nil_append]
set_option maxRecDepth 100000 in
set_option maxHeartbeats 4000000 in
theorem eu_inner {l : Launch} {G : am_G} {X : ck_XT} (g : gE l G X) {S : ck_SS} {SX : Nat → ck_SX} {Post : am_O → List am_C → Prop} {mc ms : Nat} (hs : ck_hs G S SX Post mc ms (ck_cms [am_cm l G yX12_places (.code yX12_places prog_15_method_13_code 2 (some .int)) 1 20, am_cm l G yX12_isLess (.code yX12_isLess prog_15_method_14_code 5 (some .boolean)) 1 20, am_cm l G yX12_change (.code yX12_change prog_15_method_15_code 7 none) 1 20]) ge_yX12_euclid_H) {h0 : List am_C} {q1 q2 qa qb qc qd kc nc n2 zz : Nat} {t : Int} {B D : List Int} (hne : eu_ne qa qb qc qd) (hkc : kc ≤ mc) (hnc : nc ≤ ms) (hn2 : hd_pl B n2) (hp2 : 0 < n2) (hz : zz + n2 ≤ 38)
    (fin : ∀ (A C : List Int) (h : List am_C), eu_st G h0 h qa qb qc qd A B C D → hd_v (A.drop zz) < hd_v B → S 78 [some (.ref q1), some (.ref q2), some (.ref qa), some (.ref qb), some (.ref qc), some (.ref qd), some (.int (Int32.ofInt t)), some (.int (Int32.ofInt (zz : Int)))] [] h kc nc) :
    ∀ (N : Nat) (A C : List Int) (h' : List am_C), (hd_v (A.drop zz)).toNat < N → eu_st G h0 h' qa qb qc qd A B C D → S 47 [some (.ref q1), some (.ref q2), some (.ref qa), some (.ref qb), some (.ref qc), some (.ref qd), some (.int (Int32.ofInt t)), some (.int (Int32.ofInt (zz : Int)))] [] h' kc nc := by
  intro N
  induction N with
  | zero => intro A C h' hN; omega
  | succ N ih =>
    intro A C h' hN e
    obtain ⟨⟨a1, a2, a3, a4⟩, ⟨⟨b1, c1⟩, ⟨b2, c2⟩, ⟨b3, c3⟩, ⟨b4, c4⟩⟩, e3, e4⟩ := id e
    have hB : hd_v (B.take (38 - zz)) = hd_v B := hn2.take (by omega)
    have hpos := hn2.pos b2 hp2
    refine hs 27 _ rfl _ _ _ _ _ _ _ rfl ?_
    refine hs 28 _ rfl _ _ _ _ _ _ _ rfl ?_
    refine hs 29 _ rfl _ _ _ _ _ _ _ rfl ?_
    refine hd_call (hs 30 _ rfl) (a := [.ref qa, .ref qb, .int (Int32.ofInt (zz : Int))]) (st := []) (P := fun o h9 => h' = h9 ∧ ((o = .inl (some (.int (Int32.ofInt 1))) ∧ hd_v (A.drop zz) < hd_v (B.take (38 - zz))) ∨ (o = .inl (some (.int (Int32.ofInt 0))) ∧ ¬ hd_v (A.drop zz) < hd_v (B.take (38 - zz))))) (hd_less_M g (by decide) (by decide) c1 c2 b1 b2 (by omega) a1 a2 (fun z => ⟨rfl, Or.inl ⟨rfl, z⟩⟩) fun z => ⟨rfl, Or.inr ⟨rfl, z⟩⟩) rfl rfl (Nat.le_of_ble_eq_true rfl) hkc hnc (fun v9 h9 hp => ?_) (fun E h9 hp => by obtain ⟨-, ⟨z, -⟩ | ⟨z, -⟩⟩ := hp <;> cases z)
    obtain ⟨rfl, hp⟩ := hp
    rw [hB] at hp
    rcases hp with ⟨z1, z2⟩ | ⟨z1, z2⟩
    · cases z1
      refine hs 31 _ rfl _ _ _ _ _ _ (fun _ => ?_) (fun zq => absurd (hd_c1t (c := 1) (by omega) (by omega) (by omega : (1 : Int) ≠ 0)) zq)
      exact fin A C _ e z2
    · cases z1
      refine hs 31 _ rfl _ _ _ _ _ _ (fun zq => absurd (hd_c1z (c := 1) (by omega) (by omega) zq) (by omega : ¬ ((0 : Int) ≠ 0))) (fun _ => ?_)
      refine hs 32 _ rfl _ _ _ _ _ _ _ rfl ?_
      refine hs 33 _ rfl _ _ _ _ _ _ _ rfl ?_
      refine hs 34 _ rfl _ _ _ _ _ _ _ rfl ?_
      refine hs 35 _ rfl _ _ _ _ _ _ _ rfl ?_
      refine hd_call (hs 36 _ rfl) (a := [.ref qa, .ref qb, .int (Int32.ofInt (zz : Int)), .int (Int32.ofInt (-1))]) (st := []) (P := fun o h9 => o = .inl none ∧ hd_w G _ h9 qa (850, hd_r (hd_chgR (-1) zz A B))) (hd_change_M g hne.1.1 hne.2.1.symm (by decide) (by decide) c1 c2 b1 b2 (by omega) (Or.inr rfl) a1 a2 fun h9 hw => ⟨rfl, hw⟩) rfl rfl (Nat.le_of_ble_eq_true rfl) hkc hnc (fun v9 h9 hp => ?_) (fun E h9 hp => by cases hp.1)
      cases hp.1
      obtain ⟨-, hw⟩ := hp
      obtain ⟨f1, f2, f3⟩ := hd_chgR_ok (by_ := -1) (z := zz) (Or.inr rfl) (by omega) b1 b2
      have e5 := e.setA hne hw f1 (by omega)
      obtain ⟨⟨a1', a2', a3', a4'⟩, -⟩ := id e5
      refine hs 37 _ rfl _ _ _ _ _ _ _ rfl ?_
      refine hs 38 _ rfl _ _ _ _ _ _ _ rfl ?_
      refine hs 39 _ rfl _ _ _ _ _ _ _ rfl ?_
      refine hs 40 _ rfl _ _ _ _ _ _ _ rfl ?_
      refine hd_call (hs 41 _ rfl) (a := [.ref qc, .ref qd, .int (Int32.ofInt (zz : Int)), .int (Int32.ofInt 1)]) (st := []) (P := fun o h9 => o = .inl none ∧ hd_w G _ h9 qc (850, hd_r (hd_chgR 1 zz C D))) (hd_change_M g hne.1.2.2.1 hne.2.2.2.2.2.2.symm (by decide) (by decide) c3 c4 b3 b4 (by omega) (Or.inl rfl) a3' a4' fun h9 hw => ⟨rfl, hw⟩) rfl rfl (Nat.le_of_ble_eq_true rfl) hkc hnc (fun v9 h9 hp2' => ?_) (fun E h9 hp => by cases hp.1)
      cases hp2'.1
      obtain ⟨-, hw2⟩ := hp2'
      obtain ⟨f4, f5, -⟩ := hd_chgR_ok (by_ := 1) (z := zz) (Or.inl rfl) (by omega) b3 b4
      have e6 := e5.setC hne hw2 f4 (by omega)
      refine hs 42 _ rfl _ _ _ _ _ ?_
      refine ih _ _ _ ?_ e6
      rw [f3]
      have hlen : (A.drop zz).length = 38 - zz := by rw [List.length_drop]; omega
      have := hd_chg_sub (b1.drop zz) b2 (by rw [hlen, hB]; omega)
      rw [hlen, hB] at this
      have := hd_v_nn (b1.drop zz)
      omega
set_option maxRecDepth 100000 in
set_option maxHeartbeats 4000000 in
theorem eu_outer {l : Launch} {G : am_G} {X : ck_XT} (g : gE l G X) {S : ck_SS} {SX : Nat → ck_SX} {Post : am_O → List am_C → Prop} {mc ms : Nat} (hs : ck_hs G S SX Post mc ms (ck_cms [am_cm l G yX12_places (.code yX12_places prog_15_method_13_code 2 (some .int)) 1 20, am_cm l G yX12_isLess (.code yX12_isLess prog_15_method_14_code 5 (some .boolean)) 1 20, am_cm l G yX12_change (.code yX12_change prog_15_method_15_code 7 none) 1 20]) ge_yX12_euclid_H) {h0 : List am_C} {q1 q2 kc nc : Nat} (hkc : kc ≤ mc) (hnc : nc ≤ ms) (R : Nat → Nat → Nat → Nat → Prop) (hR : ∀ a b c d, R a b c d → R b a d c)
    (fin : ∀ (qa qb qc qd : Nat) (A B C D : List Int) (h : List am_C) (x : Int32) (w : Option Value), R qa qb qc qd → eu_ne qa qb qc qd → eu_st G h0 h qa qb qc qd A B C D → S 110 [some (.ref q1), some (.ref q2), some (.ref qa), some (.ref qb), some (.ref qc), some (.ref qd), some (.int x), w] [] h kc nc) :
    ∀ (N : Nat) (qa qb qc qd : Nat) (A B C D : List Int) (h' : List am_C) (t : Int) (w : Option Value), (hd_v B).toNat < N → R qa qb qc qd → eu_ne qa qb qc qd → eu_st G h0 h' qa qb qc qd A B C D → S 24 [some (.ref q1), some (.ref q2), some (.ref qa), some (.ref qb), some (.ref qc), some (.ref qd), some (.int (Int32.ofInt t)), w] [] h' kc nc := by
  intro N
  induction N with
  | zero => intro qa qb qc qd A B C D h' t w hN; omega
  | succ N ih =>
    intro qa qb qc qd A B C D h' t w hN hr hne e
    obtain ⟨⟨a1, a2, a3, a4⟩, ⟨⟨b1, c1⟩, ⟨b2, c2⟩, ⟨b3, c3⟩, ⟨b4, c4⟩⟩, e3, e4⟩ := id e
    -- behind the loop: the two change places
    have hswap : ∀ (A C : List Int) (h' : List am_C) (x : Int), eu_st G h0 h' qa qb qc qd A B C D → hd_v A < hd_v B → S 84 [some (.ref q1), some (.ref q2), some (.ref qa), some (.ref qb), some (.ref qc), some (.ref qd), some (.int (Int32.ofInt t)), some (.int (Int32.ofInt x))] [] h' kc nc := by
      intro A C h' x e hlt
      refine hs 45 _ rfl _ _ _ _ _ _ _ rfl ?_
      refine hs 46 _ rfl _ _ _ _ _ _ _ rfl ?_
      refine hs 47 _ rfl _ _ _ _ _ _ _ rfl ?_
      refine hs 48 _ rfl _ _ _ _ _ _ _ rfl ?_
      refine hs 49 _ rfl _ _ _ _ _ _ _ rfl ?_
      refine hs 50 _ rfl _ _ _ _ _ _ _ rfl ?_
      refine hs 51 _ rfl _ _ _ _ _ _ _ rfl ?_
      refine hs 52 _ rfl _ _ _ _ _ _ _ rfl ?_
      refine hs 53 _ rfl _ _ _ _ _ _ _ rfl ?_
      refine hs 54 _ rfl _ _ _ _ _ _ _ rfl ?_
      refine hs 55 _ rfl _ _ _ _ _ _ _ rfl ?_
      refine hs 56 _ rfl _ _ _ _ _ _ _ rfl ?_
      refine hs 57 _ rfl _ _ _ _ _ _ _ (hd_inc rfl) ?_
      refine hs 58 _ rfl _ _ _ _ _ ?_
      exact ih qb qa qd qc B A D C h' (t + 1) (some (.ref qc)) (by have := hd_v_nn e.dA; omega) (hR _ _ _ _ hr) hne.swap e.swap
    refine hs 16 _ rfl _ _ _ _ _ _ _ rfl ?_
    refine hd_call (hs 17 _ rfl) (a := [.ref qb]) (st := []) (P := fun o h9 => h' = h9 ∧ ∃ n : Nat, hd_pl B n ∧ o = .inl (some (.int (Int32.ofInt (n : Int))))) (hd_places_M g (by decide) (by omega) e.dB a2 fun n hn => ⟨rfl, n, hn, rfl⟩) rfl rfl (Nat.le_of_ble_eq_true rfl) hkc hnc (fun v9 h9 hp => ?_) (fun E h9 hp => by obtain ⟨-, n, -, z⟩ := hp; cases z)
    obtain ⟨rfl, n2, hn2, z9⟩ := hp
    cases z9
    have hn2l := hn2.1
    by_cases h20 : n2 = 0
    · subst h20
      refine hs 18 _ rfl _ _ _ _ _ _ (fun _ => ?_) (fun zq => absurd (hd_c1t (c := 5) (by omega) (by omega) (by omega : ((0 : Nat) : Int) ≤ 0)) zq)
      exact fin qa qb qc qd A B C D _ _ _ hr hne e
    · have hpos := hn2.pos b2 (by omega)
      refine hs 18 _ rfl _ _ _ _ _ _ (fun zq => absurd (hd_c1z (c := 5) (by omega) (by omega) zq) (by omega : ¬ ((n2 : Int) ≤ 0))) (fun _ => ?_)
      refine hs 19 _ rfl _ _ _ _ _ _ _ rfl ?_
      refine hd_call (hs 20 _ rfl) (a := [.ref qa]) (st := []) (P := fun o h9 => h' = h9 ∧ ∃ n : Nat, hd_pl A n ∧ o = .inl (some (.int (Int32.ofInt (n : Int))))) (hd_places_M g (by decide) (by omega) e.dA a1 fun n hn => ⟨rfl, n, hn, rfl⟩) rfl rfl (Nat.le_of_ble_eq_true rfl) hkc hnc (fun v9 h9 hp => ?_) (fun E h9 hp => by obtain ⟨-, n, -, z⟩ := hp; cases z)
      obtain ⟨rfl, n1, hn1, z9⟩ := hp
      cases z9
      refine hs 21 _ rfl _ _ _ _ _ _ _ rfl ?_
      refine hd_call (hs 22 _ rfl) (a := [.ref qb]) (st := [.int (Int32.ofInt (n1 : Int))]) (P := fun o h9 => h' = h9 ∧ ∃ n : Nat, hd_pl B n ∧ o = .inl (some (.int (Int32.ofInt (n : Int))))) (hd_places_M g (by decide) (by omega) e.dB a2 fun n hn => ⟨rfl, n, hn, rfl⟩) rfl rfl (Nat.le_of_ble_eq_true rfl) hkc hnc (fun v9 h9 hp => ?_) (fun E h9 hp => by obtain ⟨-, n, -, z⟩ := hp; cases z)
      obtain ⟨rfl, m2, hm2, z9⟩ := hp
      cases z9
      have hn1l := hn1.1
      have hm2l := hm2.1
      have hm0 : 0 < m2 := by
        rcases Nat.eq_zero_or_pos m2 with z | z
        · exfalso
          have := hm2.take (Nat.le_refl m2)
          rw [z, List.take_zero] at this
          have e9 : hd_v [] = 0 := rfl
          omega
        · exact z
      refine hs 23 _ rfl _ _ _ _ _ _ _ hd_sub ?_
      refine hs 24 _ rfl _ _ _ _ _ _ _ rfl ?_
      by_cases hlt : n1 < m2
      · have hv := hn1.less hm2 b1 b2 hlt
        refine hs 25 _ rfl _ _ _ _ _ _ _ rfl ?_
        refine hs 26 _ rfl _ _ _ _ _ _ (fun _ => ?_) (fun zq => absurd (hd_c1t (c := 2) (by omega) (by omega) (by omega : ((n1 : Int) - (m2 : Int)) < 0)) zq)
        exact hswap A C _ _ e hv
      · -- from here on down to no zeros
        have mid : ∀ (zz : Nat) (A C : List Int) (h' : List am_C), eu_st G h0 h' qa qb qc qd A B C D → zz + m2 ≤ 39 → (zz = 0 → hd_v A < hd_v B) → S 42 [some (.ref q1), some (.ref q2), some (.ref qa), some (.ref qb), some (.ref qc), some (.ref qd), some (.int (Int32.ofInt t)), some (.int (Int32.ofInt ((zz : Int) - 1)))] [] h' kc nc := by
          intro zz
          induction zz with
          | zero =>
            intro A C h' e _ hv
            refine hs 25 _ rfl _ _ _ _ _ _ _ rfl ?_
            refine hs 26 _ rfl _ _ _ _ _ _ (fun _ => ?_) (fun zq => absurd (hd_c1t (c := 2) (by omega) (by omega) (by omega : (((0 : Nat) : Int) - 1) < 0)) zq)
            exact hswap A C _ _ e (hv rfl)
          | succ zz ih2 =>
            intro A C h' e hzz _
            rw [show ((zz + 1 : Nat) : Int) - 1 = (zz : Int) by omega]
            refine hs 25 _ rfl _ _ _ _ _ _ _ rfl ?_
            refine hs 26 _ rfl _ _ _ _ _ _ (fun zq => absurd (hd_c1z (c := 2) (by omega) (by omega) zq) (by omega : ¬ ((zz : Int) < 0))) (fun _ => ?_)
            refine eu_inner g hs hne hkc hnc hm2 hm0 (by omega) (fun A C h e hv => ?_) _ A C h' (Nat.lt_succ_self _) e
            refine hs 43 _ rfl _ _ _ _ _ _ _ (hd_inc rfl) ?_
            refine hs 44 _ rfl _ _ _ _ _ ?_
            rw [show (zz : Int) + -1 = (zz : Int) - 1 by omega]
            refine ih2 A C h e (by omega) fun z => ?_
            subst z
            rw [List.drop_zero] at hv
            exact hv
        have := mid (n1 - m2 + 1) A C _ e (by omega) (fun z => by omega)
        rw [show ((n1 - m2 + 1 : Nat) : Int) - 1 = (n1 : Int) - (m2 : Int) by omega] at this
        exact this
