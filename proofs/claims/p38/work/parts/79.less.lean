/-! ISLESS, PLACES -/
set_option maxRecDepth 100000 in
set_option maxHeartbeats 4000000 in
theorem hd_less_loop {G : am_G} {S : ck_SS} {SX : Nat → ck_SX} {Post : am_O → List am_C → Prop} {mc ms : Nat} {cm : Nat → ck_CM} (hs : ck_hs G S SX Post mc ms cm ge_yX12_isLess_H) {q1 q2 t1 t2 z : Nat} {ds os : List Int} {h : List am_C} (h1 : t1 % 100 = 50) (h2 : t2 % 100 = 50) (hl : ds.length = 38) (ho : os.length = 38) (hd : hd_d ds) (hod : hd_d os) (hz : z ≤ 38) (hg1 : am_g G h q1 = some (t1, hd_r ds)) (hg2 : am_g G h q2 = some (t2, hd_r os))
    (hP1 : hd_v (ds.drop z) < hd_v (os.take (38 - z)) → Post (.inl (some (.int (Int32.ofInt 1)))) h) (hP0 : ¬ hd_v (ds.drop z) < hd_v (os.take (38 - z)) → Post (.inl (some (.int (Int32.ofInt 0)))) h) :
    ∀ (m : Nat) (w : Option Value), m ≤ 38 → (ds.drop z).drop (m - z) = (os.take (38 - z)).drop (m - z) →
      S 3 [some (.ref q1), some (.ref q2), some (.int (Int32.ofInt (z : Int))), some (.int (Int32.ofInt ((m : Int) - 1))), w] [] h 0 0 := by
  have hA := hd.drop z
  have hB := hod.take (38 - z)
  have r0 : ck_fv 1 (.int (Int32.ofInt 0)) := ⟨_, rfl, by decide, by decide⟩
  have r1 : ck_fv 1 (.int (Int32.ofInt 1)) := ⟨_, rfl, by decide, by decide⟩
  intro m
  induction m with
  | zero =>
    intro w hm hag
    rw [Nat.zero_sub, List.drop_zero, List.drop_zero] at hag
    refine hs 2 _ rfl _ _ _ _ _ _ _ rfl ?_
    refine hs 3 _ rfl _ _ _ _ _ _ (fun _ => ?_) (fun zq => absurd (hd_c1t (c := 2) (by omega) (by omega) (by omega : (((0 : Nat) : Int) - 1) < 0)) zq)
    refine hs 31 _ rfl _ _ _ _ _ _ _ rfl ?_
    exact hs 32 _ rfl _ _ _ _ _ r0 (Nat.zero_le _) (Nat.zero_le _) (hP0 (by rw [hag]; omega))
  | succ m ih =>
    intro w hm hag
    have em : ((m + 1 : Nat) : Int) - 1 = (m : Int) := by omega
    have em2 : (m : Int) + -1 = (m : Int) - 1 := by omega
    rw [em]
    have hdk : ds[m]? = some (ds[m]'(by omega)) := List.getElem?_eq_getElem (by omega)
    generalize ds[m]'(by omega) = d at hdk
    have hdd := hd.at hdk
    by_cases hzm : z ≤ m
    · have hok : os[m - z]? = some (os[m - z]'(by omega)) := List.getElem?_eq_getElem (by omega)
      generalize os[m - z]'(by omega) = e at hok
      have hee := hod.at hok
      have ea : (ds.drop z)[m - z]? = some d := by rw [List.getElem?_drop, show z + (m - z) = m by omega]; exact hdk
      have eb : (os.take (38 - z))[m - z]? = some e := by rw [List.getElem?_take_of_lt (by omega)]; exact hok
      rw [show m + 1 - z = m - z + 1 by omega] at hag
      rcases Int.lt_trichotomy d e with hc | hc | hc
      · have hlt := hd_cmp hA hB ea eb hag hc
        refine hs 2 _ rfl _ _ _ _ _ _ _ rfl ?_
        refine hs 3 _ rfl _ _ _ _ _ _ (fun zq => absurd (hd_c1z (c := 2) (by omega) (by omega) zq) (by omega : ¬ ((m : Int) < 0))) (fun _ => ?_)
        refine hs 4 _ rfl _ _ _ _ _ _ _ rfl ?_
        refine hs 5 _ rfl _ _ _ _ _ _ _ rfl ?_
        refine hs 6 _ rfl _ _ _ _ _ _ _ (fun _ => ?_) (fun zq => absurd (hd_c2t (c := 3) (by omega) (by omega) (by omega) (by omega) (by omega : 0 ≤ ((m : Int) - (z : Int)))) zq)
        refine hs 9 _ rfl _ _ _ _ _ _ _ rfl ?_
        refine hs 10 _ rfl _ _ _ _ _ _ _ rfl ?_
        refine hs 11 _ rfl _ _ _ _ _ _ _ rfl ?_
        refine hs 12 _ rfl _ _ _ _ _ _ _ hd_sub ?_
        refine hd_A (hs 13 _ rfl) (by decide) (by decide) hg2 h2 (j := m - z) (by omega) (by omega) hok ?_
        refine hs 14 _ rfl _ _ _ _ _ _ _ rfl ?_
        refine hs 15 _ rfl _ _ _ _ _ _ _ rfl ?_
        refine hs 16 _ rfl _ _ _ _ _ _ _ rfl ?_
        refine hd_A (hs 17 _ rfl) (by decide) (by decide) hg1 h1 (j := m) rfl (by omega) hdk ?_
        refine hs 18 _ rfl _ _ _ _ _ _ _ rfl ?_
        refine hs 19 _ rfl _ _ _ _ _ _ _ (fun zq => absurd (hd_c2z (c := 0) (by omega) (by omega) (by omega) (by omega) zq) (by omega : ¬ ((d - e) = 0))) (fun _ => ?_)
        refine hs 20 _ rfl _ _ _ _ _ _ _ rfl ?_
        refine hs 21 _ rfl _ _ _ _ _ _ _ rfl ?_
        refine hd_A (hs 22 _ rfl) (by decide) (by decide) hg1 h1 (j := m) rfl (by omega) hdk ?_
        refine hs 23 _ rfl _ _ _ _ _ _ _ rfl ?_
        refine hs 24 _ rfl _ _ _ _ _ _ _ (fun zq => absurd (hd_c2z (c := 3) (by omega) (by omega) (by omega) (by omega) zq) (by omega : ¬ (0 ≤ (d - e)))) (fun _ => ?_)
        refine hs 25 _ rfl _ _ _ _ _ _ _ rfl ?_
        refine hs 26 _ rfl _ _ _ _ _ ?_
        exact hs 28 _ rfl _ _ _ _ _ r1 (Nat.zero_le _) (Nat.zero_le _) (hP1 (by omega))
      · subst hc
        have hag2 : (ds.drop z).drop (m - z) = (os.take (38 - z)).drop (m - z) := by
          obtain ⟨x1, x2⟩ := List.getElem?_eq_some_iff.mp ea
          obtain ⟨y1, y2⟩ := List.getElem?_eq_some_iff.mp eb
          rw [List.drop_eq_getElem_cons x1, List.drop_eq_getElem_cons y1, x2, y2, hag]
        refine hs 2 _ rfl _ _ _ _ _ _ _ rfl ?_
        refine hs 3 _ rfl _ _ _ _ _ _ (fun zq => absurd (hd_c1z (c := 2) (by omega) (by omega) zq) (by omega : ¬ ((m : Int) < 0))) (fun _ => ?_)
        refine hs 4 _ rfl _ _ _ _ _ _ _ rfl ?_
        refine hs 5 _ rfl _ _ _ _ _ _ _ rfl ?_
        refine hs 6 _ rfl _ _ _ _ _ _ _ (fun _ => ?_) (fun zq => absurd (hd_c2t (c := 3) (by omega) (by omega) (by omega) (by omega) (by omega : 0 ≤ ((m : Int) - (z : Int)))) zq)
        refine hs 9 _ rfl _ _ _ _ _ _ _ rfl ?_
        refine hs 10 _ rfl _ _ _ _ _ _ _ rfl ?_
        refine hs 11 _ rfl _ _ _ _ _ _ _ rfl ?_
        refine hs 12 _ rfl _ _ _ _ _ _ _ hd_sub ?_
        refine hd_A (hs 13 _ rfl) (by decide) (by decide) hg2 h2 (j := m - z) (by omega) (by omega) hok ?_
        refine hs 14 _ rfl _ _ _ _ _ _ _ rfl ?_
        refine hs 15 _ rfl _ _ _ _ _ _ _ rfl ?_
        refine hs 16 _ rfl _ _ _ _ _ _ _ rfl ?_
        refine hd_A (hs 17 _ rfl) (by decide) (by decide) hg1 h1 (j := m) rfl (by omega) hdk ?_
        refine hs 18 _ rfl _ _ _ _ _ _ _ rfl ?_
        refine hs 19 _ rfl _ _ _ _ _ _ _ (fun _ => ?_) (fun zq => absurd (hd_c2t (c := 0) (by omega) (by omega) (by omega) (by omega) (by omega : (d - d) = 0)) zq)
        refine hs 29 _ rfl _ _ _ _ _ _ _ (hd_inc rfl) ?_
        refine hs 30 _ rfl _ _ _ _ _ ?_
        rw [em2]
        exact ih _ (by omega) hag2
      · have hgt := hd_cmp hB hA eb ea hag.symm hc
        refine hs 2 _ rfl _ _ _ _ _ _ _ rfl ?_
        refine hs 3 _ rfl _ _ _ _ _ _ (fun zq => absurd (hd_c1z (c := 2) (by omega) (by omega) zq) (by omega : ¬ ((m : Int) < 0))) (fun _ => ?_)
        refine hs 4 _ rfl _ _ _ _ _ _ _ rfl ?_
        refine hs 5 _ rfl _ _ _ _ _ _ _ rfl ?_
        refine hs 6 _ rfl _ _ _ _ _ _ _ (fun _ => ?_) (fun zq => absurd (hd_c2t (c := 3) (by omega) (by omega) (by omega) (by omega) (by omega : 0 ≤ ((m : Int) - (z : Int)))) zq)
        refine hs 9 _ rfl _ _ _ _ _ _ _ rfl ?_
        refine hs 10 _ rfl _ _ _ _ _ _ _ rfl ?_
        refine hs 11 _ rfl _ _ _ _ _ _ _ rfl ?_
        refine hs 12 _ rfl _ _ _ _ _ _ _ hd_sub ?_
        refine hd_A (hs 13 _ rfl) (by decide) (by decide) hg2 h2 (j := m - z) (by omega) (by omega) hok ?_
        refine hs 14 _ rfl _ _ _ _ _ _ _ rfl ?_
        refine hs 15 _ rfl _ _ _ _ _ _ _ rfl ?_
        refine hs 16 _ rfl _ _ _ _ _ _ _ rfl ?_
        refine hd_A (hs 17 _ rfl) (by decide) (by decide) hg1 h1 (j := m) rfl (by omega) hdk ?_
        refine hs 18 _ rfl _ _ _ _ _ _ _ rfl ?_
        refine hs 19 _ rfl _ _ _ _ _ _ _ (fun zq => absurd (hd_c2z (c := 0) (by omega) (by omega) (by omega) (by omega) zq) (by omega : ¬ ((d - e) = 0))) (fun _ => ?_)
        refine hs 20 _ rfl _ _ _ _ _ _ _ rfl ?_
        refine hs 21 _ rfl _ _ _ _ _ _ _ rfl ?_
        refine hd_A (hs 22 _ rfl) (by decide) (by decide) hg1 h1 (j := m) rfl (by omega) hdk ?_
        refine hs 23 _ rfl _ _ _ _ _ _ _ rfl ?_
        refine hs 24 _ rfl _ _ _ _ _ _ _ (fun _ => ?_) (fun zq => absurd (hd_c2t (c := 3) (by omega) (by omega) (by omega) (by omega) (by omega : 0 ≤ (d - e))) zq)
        refine hs 27 _ rfl _ _ _ _ _ _ _ rfl ?_
        exact hs 28 _ rfl _ _ _ _ _ r0 (Nat.zero_le _) (Nat.zero_le _) (hP0 (by omega))
    · rw [show m + 1 - z = 0 by omega, List.drop_zero, List.drop_zero] at hag
      by_cases hc : d = 0
      · subst hc
        refine hs 2 _ rfl _ _ _ _ _ _ _ rfl ?_
        refine hs 3 _ rfl _ _ _ _ _ _ (fun zq => absurd (hd_c1z (c := 2) (by omega) (by omega) zq) (by omega : ¬ ((m : Int) < 0))) (fun _ => ?_)
        refine hs 4 _ rfl _ _ _ _ _ _ _ rfl ?_
        refine hs 5 _ rfl _ _ _ _ _ _ _ rfl ?_
        refine hs 6 _ rfl _ _ _ _ _ _ _ (fun zq => absurd (hd_c2z (c := 3) (by omega) (by omega) (by omega) (by omega) zq) (by omega : ¬ (0 ≤ ((m : Int) - (z : Int))))) (fun _ => ?_)
        refine hs 7 _ rfl _ _ _ _ _ _ _ rfl ?_
        refine hs 8 _ rfl _ _ _ _ _ ?_
        refine hs 14 _ rfl _ _ _ _ _ _ _ rfl ?_
        refine hs 15 _ rfl _ _ _ _ _ _ _ rfl ?_
        refine hs 16 _ rfl _ _ _ _ _ _ _ rfl ?_
        refine hd_A (hs 17 _ rfl) (by decide) (by decide) hg1 h1 (j := m) rfl (by omega) hdk ?_
        refine hs 18 _ rfl _ _ _ _ _ _ _ rfl ?_
        refine hs 19 _ rfl _ _ _ _ _ _ _ (fun _ => ?_) (fun zq => absurd (hd_c2t (c := 0) (by omega) (by omega) (by omega) (by omega) (by omega : ((0 : Int) - (0 : Int)) = 0)) zq)
        refine hs 29 _ rfl _ _ _ _ _ _ _ (hd_inc rfl) ?_
        refine hs 30 _ rfl _ _ _ _ _ ?_
        rw [em2]
        exact ih _ (by omega) (by rw [show m - z = 0 by omega, List.drop_zero, List.drop_zero]; exact hag)
      · have hc2 : ¬ d < 0 := by omega
        refine hs 2 _ rfl _ _ _ _ _ _ _ rfl ?_
        refine hs 3 _ rfl _ _ _ _ _ _ (fun zq => absurd (hd_c1z (c := 2) (by omega) (by omega) zq) (by omega : ¬ ((m : Int) < 0))) (fun _ => ?_)
        refine hs 4 _ rfl _ _ _ _ _ _ _ rfl ?_
        refine hs 5 _ rfl _ _ _ _ _ _ _ rfl ?_
        refine hs 6 _ rfl _ _ _ _ _ _ _ (fun zq => absurd (hd_c2z (c := 3) (by omega) (by omega) (by omega) (by omega) zq) (by omega : ¬ (0 ≤ ((m : Int) - (z : Int))))) (fun _ => ?_)
        refine hs 7 _ rfl _ _ _ _ _ _ _ rfl ?_
        refine hs 8 _ rfl _ _ _ _ _ ?_
        refine hs 14 _ rfl _ _ _ _ _ _ _ rfl ?_
        refine hs 15 _ rfl _ _ _ _ _ _ _ rfl ?_
        refine hs 16 _ rfl _ _ _ _ _ _ _ rfl ?_
        refine hd_A (hs 17 _ rfl) (by decide) (by decide) hg1 h1 (j := m) rfl (by omega) hdk ?_
        refine hs 18 _ rfl _ _ _ _ _ _ _ rfl ?_
        refine hs 19 _ rfl _ _ _ _ _ _ _ (fun zq => absurd (hd_c2z (c := 0) (by omega) (by omega) (by omega) (by omega) zq) (by omega : ¬ ((d - (0 : Int)) = 0))) (fun _ => ?_)
        refine hs 20 _ rfl _ _ _ _ _ _ _ rfl ?_
        refine hs 21 _ rfl _ _ _ _ _ _ _ rfl ?_
        refine hd_A (hs 22 _ rfl) (by decide) (by decide) hg1 h1 (j := m) rfl (by omega) hdk ?_
        refine hs 23 _ rfl _ _ _ _ _ _ _ rfl ?_
        refine hs 24 _ rfl _ _ _ _ _ _ _ (fun _ => ?_) (fun zq => absurd (hd_c2t (c := 3) (by omega) (by omega) (by omega) (by omega) (by omega : 0 ≤ (d - (0 : Int)))) zq)
        refine hs 27 _ rfl _ _ _ _ _ _ _ rfl ?_
        exact hs 28 _ rfl _ _ _ _ _ r0 (Nat.zero_le _) (Nat.zero_le _) (hP0 (by rw [hag]; omega))
set_option maxRecDepth 100000 in
set_option maxHeartbeats 4000000 in
theorem hd_less_M {l : Launch} {G : am_G} {X : ck_XT} (g : gE l G X) {q1 q2 t1 t2 z : Nat} {ds os : List Int} {h : List am_C} (h1 : t1 % 100 = 50) (h2 : t2 % 100 = 50) (hl : ds.length = 38) (ho : os.length = 38) (hd : hd_d ds) (hod : hd_d os) (hz : z ≤ 38) (hg1 : am_g G h q1 = some (t1, hd_r ds)) (hg2 : am_g G h q2 = some (t2, hd_r os)) {mc ms : Nat} {Post : am_O → List am_C → Prop}
    (hP1 : hd_v (ds.drop z) < hd_v (os.take (38 - z)) → Post (.inl (some (.int (Int32.ofInt 1)))) h) (hP0 : ¬ hd_v (ds.drop z) < hd_v (os.take (38 - z)) → Post (.inl (some (.int (Int32.ofInt 0)))) h) :
    am_M l G yX12_isLess (.code yX12_isLess prog_15_method_14_code 5 (some .boolean)) 1 20 mc ms [.ref q1, .ref q2, .int (Int32.ofInt (z : Int))] h Post := by
  refine gh_yX12_isLess_H g (Nat.le_of_ble_eq_true rfl) fun S SX hs hr hw => ?_
  refine hs 0 _ rfl _ _ _ _ _ _ _ rfl ?_
  refine hs 1 _ rfl _ _ _ _ _ _ _ rfl ?_
  refine hd_less_loop hs h1 h2 hl ho hd hod hz hg1 hg2 hP1 hP0 38 none (Nat.le_refl _) ?_
  rw [List.drop_eq_nil_of_le (by rw [List.length_drop]; omega), List.drop_eq_nil_of_le (by rw [List.length_take]; omega)]
set_option maxRecDepth 100000 in
set_option maxHeartbeats 4000000 in
theorem hd_places_loop {G : am_G} {S : ck_SS} {SX : Nat → ck_SX} {Post : am_O → List am_C → Prop} {mc ms : Nat} {cm : Nat → ck_CM} (hs : ck_hs G S SX Post mc ms cm ge_yX12_places_H) {q1 t1 : Nat} {ds : List Int} {h : List am_C} (h1 : t1 % 100 = 50) (hl : ds.length ≤ 1000) (hd : hd_d ds) (hg1 : am_g G h q1 = some (t1, hd_r ds))
    (hP : ∀ n : Nat, hd_pl ds n → Post (.inl (some (.int (Int32.ofInt (n : Int))))) h) :
    ∀ (m : Nat), m ≤ ds.length → (∀ (j : Nat) (d : Int), m ≤ j → ds[j]? = some d → d = 0) →
      S 3 [some (.ref q1), some (.int (Int32.ofInt (m : Int)))] [] h 0 0 := by
  have rv : ∀ x : Int32, ck_fv 0 (.int x) := fun x => ⟨_, rfl⟩
  intro m
  induction m with
  | zero =>
    intro hm hz
    refine hs 3 _ rfl _ _ _ _ _ _ _ rfl ?_
    refine hs 4 _ rfl _ _ _ _ _ _ (fun _ => ?_) (fun zq => absurd (hd_c1t (c := 5) (by omega) (by omega) (by omega : ((0 : Nat) : Int) ≤ 0)) zq)
    refine hs 13 _ rfl _ _ _ _ _ _ _ rfl ?_
    exact hs 14 _ rfl _ _ _ _ _ (rv _) (Nat.zero_le _) (Nat.zero_le _) (hP 0 ⟨hm, hz, fun z => absurd z (by omega)⟩)
  | succ m ih =>
    intro hm hz
    have hdk : ds[m]? = some (ds[m]'(by omega)) := List.getElem?_eq_getElem (by omega)
    generalize ds[m]'(by omega) = d at hdk
    have hdd := hd.at hdk
    by_cases hc : d = 0
    · subst hc
      refine hs 3 _ rfl _ _ _ _ _ _ _ rfl ?_
      refine hs 4 _ rfl _ _ _ _ _ _ (fun zq => absurd (hd_c1z (c := 5) (by omega) (by omega) zq) (by omega : ¬ ((((m + 1 : Nat) : Int)) ≤ 0))) (fun _ => ?_)
      refine hs 5 _ rfl _ _ _ _ _ _ _ rfl ?_
      refine hs 6 _ rfl _ _ _ _ _ _ _ rfl ?_
      refine hs 7 _ rfl _ _ _ _ _ _ _ rfl ?_
      refine hs 8 _ rfl _ _ _ _ _ _ _ hd_sub ?_
      refine hd_A (hs 9 _ rfl) (by decide) (by decide) hg1 h1 (j := m) (by omega) (by omega) hdk ?_
      refine hs 10 _ rfl _ _ _ _ _ _ (fun zq => absurd (hd_c1z (c := 1) (by omega) (by omega) zq) (by omega : ¬ ((0 : Int) ≠ 0))) (fun _ => ?_)
      refine hs 11 _ rfl _ _ _ _ _ _ _ (hd_inc rfl) ?_
      refine hs 12 _ rfl _ _ _ _ _ ?_
      rw [show ((m + 1 : Nat) : Int) + -1 = (m : Int) by omega]
      refine ih (by omega) fun j d hj he => ?_
      by_cases e : j = m
      · subst e; rw [hdk] at he; cases he; rfl
      · exact hz j d (by omega) he
    · 
      refine hs 3 _ rfl _ _ _ _ _ _ _ rfl ?_
      refine hs 4 _ rfl _ _ _ _ _ _ (fun zq => absurd (hd_c1z (c := 5) (by omega) (by omega) zq) (by omega : ¬ ((((m + 1 : Nat) : Int)) ≤ 0))) (fun _ => ?_)
      refine hs 5 _ rfl _ _ _ _ _ _ _ rfl ?_
      refine hs 6 _ rfl _ _ _ _ _ _ _ rfl ?_
      refine hs 7 _ rfl _ _ _ _ _ _ _ rfl ?_
      refine hs 8 _ rfl _ _ _ _ _ _ _ hd_sub ?_
      refine hd_A (hs 9 _ rfl) (by decide) (by decide) hg1 h1 (j := m) (by omega) (by omega) hdk ?_
      refine hs 10 _ rfl _ _ _ _ _ _ (fun _ => ?_) (fun zq => absurd (hd_c1t (c := 1) (by omega) (by omega) (by omega : d ≠ 0)) zq)
      refine hs 13 _ rfl _ _ _ _ _ _ _ rfl ?_
      exact hs 14 _ rfl _ _ _ _ _ (rv _) (Nat.zero_le _) (Nat.zero_le _) (hP (m + 1) ⟨hm, hz, fun _ => ⟨d, hdk, hc⟩⟩)
set_option maxRecDepth 100000 in
set_option maxHeartbeats 4000000 in
theorem hd_places_M {l : Launch} {G : am_G} {X : ck_XT} (g : gE l G X) {q1 t1 : Nat} {ds : List Int} {h : List am_C} (h1 : t1 % 100 = 50) (hl : ds.length ≤ 1000) (hd : hd_d ds) (hg1 : am_g G h q1 = some (t1, hd_r ds)) {mc ms : Nat} {Post : am_O → List am_C → Prop} (hP : ∀ n : Nat, hd_pl ds n → Post (.inl (some (.int (Int32.ofInt (n : Int))))) h) :
    am_M l G yX12_places (.code yX12_places prog_15_method_13_code 2 (some .int)) 1 20 mc ms [.ref q1] h Post := by
  refine gh_yX12_places_H g (Nat.le_of_ble_eq_true rfl) fun S SX hs hr hw => ?_
  refine hs 0 _ rfl _ _ _ _ _ _ _ rfl ?_
  refine hd_Ln (hs 1 _ rfl) hg1 h1 ?_
  refine hs 2 _ rfl _ _ _ _ _ _ _ rfl ?_
  exact hd_places_loop hs h1 hl hd hg1 hP ds.length (Nat.le_refl _) fun j d hj he => by rw [List.getElem?_eq_none hj] at he; cases he
