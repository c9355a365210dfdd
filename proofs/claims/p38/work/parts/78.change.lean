/-! CHANGE -/
def hd_chgR (by_ : Int) (z : Nat) (ds os : List Int) : List Int := ds.take z ++ hd_chg by_ 0 (ds.drop z) os
set_option maxRecDepth 100000 in
set_option maxHeartbeats 4000000 in
theorem hd_change_loop {G : am_G} {S : ck_SS} {SX : Nat → ck_SX} {Post : am_O → List am_C → Prop} {mc ms : Nat} {cm : Nat → ck_CM} (hs : ck_hs G S SX Post mc ms cm ge_yX12_change_H) {q1 q2 t1 t2 z : Nat} {by_ : Int} {os : List Int} (hq : 1000 ≤ q1) (hne : q2 ≠ q1) (h1 : t1 % 100 = 50) (h2 : t2 % 100 = 50) (ho : os.length = 38) (hod : hd_d os) (hz : z ≤ 38) :
    ∀ (m k : Nat) (o : Int) (ds : List Int) (h : List am_C) (w : Option Value), k + m = 38 → z ≤ k → ds.length = 38 → hd_d ds → am_g G h q1 = some (t1, hd_r ds) → am_g G h q2 = some (t2, hd_r os) → hd_bo by_ o →
      (∀ (L : List (Option Value)) (h' : List am_C), hd_w G h h' q1 (t1, hd_r (ds.take k ++ hd_chg by_ o (ds.drop k) (os.drop (k - z)))) → S 75 L [] h' 0 0) →
      S 6 [some (.ref q1), some (.ref q2), some (.int (Int32.ofInt (z : Int))), some (.int (Int32.ofInt by_)), some (.int (Int32.ofInt o)), some (.int (Int32.ofInt (k : Int))), w] [] h 0 0 := by
  intro m
  induction m with
  | zero =>
    intro k o ds h w hk hzk hl hd hg1 hg2 hbo fin
    obtain rfl : k = 38 := by omega
    refine hs 4 _ rfl _ _ _ _ _ _ _ rfl ?_
    refine hs 5 _ rfl _ _ _ _ _ _ _ rfl ?_
    refine hs 6 _ rfl _ _ _ _ _ _ _ (fun _ => ?_) (fun zq => absurd (hd_c2t (c := 3) (by omega) (by omega) (by omega) (by omega) (by omega : 0 ≤ (((38 : Nat) : Int) - (38 : Int)))) zq)
    refine fin _ h ?_
    have e1 : ds.take 38 = ds := List.take_of_length_le (by omega)
    have e2 : ds.drop 38 = [] := List.drop_eq_nil_of_le (by omega)
    rw [e1, e2, hd_chg_nil, List.append_nil]
    exact hd_w.rf hg1
  | succ m ih =>
    intro k o ds h w hk hzk hl hd hg1 hg2 hbo fin
    have hdk : ds[k]? = some (ds[k]'(by omega)) := List.getElem?_eq_getElem (by omega)
    have hok : os[k - z]? = some (os[k - z]'(by omega)) := List.getElem?_eq_getElem (by omega)
    generalize ds[k]'(by omega) = d at hdk
    generalize os[k - z]'(by omega) = e at hok
    have hdd := hd.at hdk
    have hee := hod.at hok
    obtain ⟨⟨b1, b2⟩, b3⟩ := hbo.here hdd hee
    have hd' : ∀ d' : Int, 0 ≤ d' → d' ≤ 9 → hd_d (ds.set k d') := fun d' x1 x2 x hx => (List.mem_or_eq_of_mem_set hx).elim (hd x) (fun y => by rw [y]; exact ⟨x1, x2⟩)
    by_cases hc : d + o + by_ * e < 0
    · rw [if_pos hc] at b3
      refine hs 4 _ rfl _ _ _ _ _ _ _ rfl ?_
      refine hs 5 _ rfl _ _ _ _ _ _ _ rfl ?_
      refine hs 6 _ rfl _ _ _ _ _ _ _ (fun zq => absurd (hd_c2z (c := 3) (by omega) (by omega) (by omega) (by omega) zq) (by omega : ¬ (0 ≤ ((k : Int) - (38 : Int))))) (fun _ => ?_)
      refine hs 7 _ rfl _ _ _ _ _ _ _ rfl ?_
      refine hs 8 _ rfl _ _ _ _ _ _ _ rfl ?_
      refine hd_A (hs 9 _ rfl) (by decide) (by decide) hg1 h1 rfl (by omega) hdk ?_
      refine hs 10 _ rfl _ _ _ _ _ _ _ rfl ?_
      refine hs 11 _ rfl _ _ _ _ _ _ _ hd_add ?_
      refine hs 12 _ rfl _ _ _ _ _ _ _ rfl ?_
      refine hs 13 _ rfl _ _ _ _ _ _ _ rfl ?_
      refine hs 14 _ rfl _ _ _ _ _ _ _ rfl ?_
      refine hs 15 _ rfl _ _ _ _ _ _ _ rfl ?_
      refine hs 16 _ rfl _ _ _ _ _ _ _ hd_sub ?_
      refine hd_A (hs 17 _ rfl) (by decide) (by decide) hg2 h2 (j := k - z) (by omega) (by omega) hok ?_
      refine hs 18 _ rfl _ _ _ _ _ _ _ hd_mul ?_
      refine hs 19 _ rfl _ _ _ _ _ _ _ hd_add ?_
      refine hs 20 _ rfl _ _ _ _ _ _ _ rfl ?_
      refine hs 21 _ rfl _ _ _ _ _ _ _ rfl ?_
      refine hs 22 _ rfl _ _ _ _ _ _ (fun zq => absurd (hd_c1z (c := 3) (by omega) (by omega) zq) (by omega : ¬ (0 ≤ (d + o + by_ * e)))) (fun _ => ?_)
      refine hs 23 _ rfl _ _ _ _ _ _ _ rfl ?_
      refine hs 24 _ rfl _ _ _ _ _ ?_
      refine hs 28 _ rfl _ _ _ _ _ _ _ rfl ?_
      refine hs 29 _ rfl _ _ _ _ _ _ _ rfl ?_
      refine hs 30 _ rfl _ _ _ _ _ _ _ rfl ?_
      refine hs 31 _ rfl _ _ _ _ _ _ _ rfl ?_
      refine hs 32 _ rfl _ _ _ _ _ _ (fun zq => absurd (hd_c1z (c := 3) (by omega) (by omega) zq) (by omega : ¬ (0 ≤ (d + o + by_ * e)))) (fun _ => ?_)
      refine hs 33 _ rfl _ _ _ _ _ _ _ rfl ?_
      refine hs 34 _ rfl _ _ _ _ _ _ _ rfl ?_
      refine hs 35 _ rfl _ _ _ _ _ _ _ hd_add ?_
      refine hs 36 _ rfl _ _ _ _ _ ?_
      refine hd_B (hs 40 _ rfl) (by decide) (by decide) hq hg1 h1 rfl (by omega) (by omega) ?_
      refine hs 41 _ rfl _ _ _ _ _ _ _ (hd_inc rfl) ?_
      refine hs 42 _ rfl _ _ _ _ _ ?_
      have hw := hd_w.s (c := (t1, hd_r (ds.set k (d + o + by_ * e + 10)))) hq hg1
      refine ih (k + 1) (-1) (ds.set k (d + o + by_ * e + 10)) _ _ (by omega) (by omega) (by rw [List.length_set]; exact hl) (hd' _ (by omega) (by omega)) hw.at (by rw [hw.ne hne]; exact hg2) b3 (fun L h' hh => fin L h' (hd_w.tr hw ?_))
      rw [hd_step hdk hok hzk (by rw [if_pos hc]) (by rw [if_pos hc])]
      exact hh
    · rw [if_neg hc] at b3
      refine hs 4 _ rfl _ _ _ _ _ _ _ rfl ?_
      refine hs 5 _ rfl _ _ _ _ _ _ _ rfl ?_
      refine hs 6 _ rfl _ _ _ _ _ _ _ (fun zq => absurd (hd_c2z (c := 3) (by omega) (by omega) (by omega) (by omega) zq) (by omega : ¬ (0 ≤ ((k : Int) - (38 : Int))))) (fun _ => ?_)
      refine hs 7 _ rfl _ _ _ _ _ _ _ rfl ?_
      refine hs 8 _ rfl _ _ _ _ _ _ _ rfl ?_
      refine hd_A (hs 9 _ rfl) (by decide) (by decide) hg1 h1 rfl (by omega) hdk ?_
      refine hs 10 _ rfl _ _ _ _ _ _ _ rfl ?_
      refine hs 11 _ rfl _ _ _ _ _ _ _ hd_add ?_
      refine hs 12 _ rfl _ _ _ _ _ _ _ rfl ?_
      refine hs 13 _ rfl _ _ _ _ _ _ _ rfl ?_
      refine hs 14 _ rfl _ _ _ _ _ _ _ rfl ?_
      refine hs 15 _ rfl _ _ _ _ _ _ _ rfl ?_
      refine hs 16 _ rfl _ _ _ _ _ _ _ hd_sub ?_
      refine hd_A (hs 17 _ rfl) (by decide) (by decide) hg2 h2 (j := k - z) (by omega) (by omega) hok ?_
      refine hs 18 _ rfl _ _ _ _ _ _ _ hd_mul ?_
      refine hs 19 _ rfl _ _ _ _ _ _ _ hd_add ?_
      refine hs 20 _ rfl _ _ _ _ _ _ _ rfl ?_
      refine hs 21 _ rfl _ _ _ _ _ _ _ rfl ?_
      refine hs 22 _ rfl _ _ _ _ _ _ (fun _ => ?_) (fun zq => absurd (hd_c1t (c := 3) (by omega) (by omega) (by omega : 0 ≤ (d + o + by_ * e))) zq)
      refine hs 25 _ rfl _ _ _ _ _ _ _ rfl ?_
      refine hs 26 _ rfl _ _ _ _ _ _ _ rfl ?_
      refine hs 27 _ rfl _ _ _ _ _ _ _ (hd_div (by omega) (by omega) (by decide) (by decide)) ?_
      refine hs 28 _ rfl _ _ _ _ _ _ _ rfl ?_
      refine hs 29 _ rfl _ _ _ _ _ _ _ rfl ?_
      refine hs 30 _ rfl _ _ _ _ _ _ _ rfl ?_
      refine hs 31 _ rfl _ _ _ _ _ _ _ rfl ?_
      refine hs 32 _ rfl _ _ _ _ _ _ (fun _ => ?_) (fun zq => absurd (hd_c1t (c := 3) (by omega) (by omega) (by omega : 0 ≤ (d + o + by_ * e))) zq)
      refine hs 37 _ rfl _ _ _ _ _ _ _ rfl ?_
      refine hs 38 _ rfl _ _ _ _ _ _ _ rfl ?_
      refine hs 39 _ rfl _ _ _ _ _ _ _ (hd_rem (by omega) (by omega) (by decide) (by decide)) ?_
      refine hd_B (hs 40 _ rfl) (by decide) (by decide) hq hg1 h1 rfl (by omega) (by omega) ?_
      refine hs 41 _ rfl _ _ _ _ _ _ _ (hd_inc rfl) ?_
      refine hs 42 _ rfl _ _ _ _ _ ?_
      have hw := hd_w.s (c := (t1, hd_r (ds.set k ((d + o + by_ * e) % 10)))) hq hg1
      refine ih (k + 1) ((d + o + by_ * e) / 10) (ds.set k ((d + o + by_ * e) % 10)) _ _ (by omega) (by omega) (by rw [List.length_set]; exact hl) (hd' _ (by omega) (by omega)) hw.at (by rw [hw.ne hne]; exact hg2) b3 (fun L h' hh => fin L h' (hd_w.tr hw ?_))
      rw [hd_step hdk hok hzk (by rw [if_neg hc]) (by rw [if_neg hc])]
      exact hh
set_option maxRecDepth 100000 in
set_option maxHeartbeats 4000000 in
theorem hd_change_M {l : Launch} {G : am_G} {X : ck_XT} (g : gE l G X) {q1 q2 t1 t2 z : Nat} {by_ : Int} {ds os : List Int} {h : List am_C} (hq : 1000 ≤ q1) (hne : q2 ≠ q1) (h1 : t1 % 100 = 50) (h2 : t2 % 100 = 50) (hl : ds.length = 38) (ho : os.length = 38) (hd : hd_d ds) (hod : hd_d os) (hz : z ≤ 38) (hb : by_ = 1 ∨ by_ = -1) (hg1 : am_g G h q1 = some (t1, hd_r ds)) (hg2 : am_g G h q2 = some (t2, hd_r os)) {mc ms : Nat} {Post : am_O → List am_C → Prop} (hP : ∀ h' : List am_C, hd_w G h h' q1 (t1, hd_r (hd_chgR by_ z ds os)) → Post (.inl none) h') :
    am_M l G yX12_change (.code yX12_change prog_15_method_15_code 7 none) 1 20 mc ms [.ref q1, .ref q2, .int (Int32.ofInt (z : Int)), .int (Int32.ofInt by_)] h Post := by
  refine gh_yX12_change_H g (Nat.le_of_ble_eq_true rfl) fun S SX hs hr hw => ?_
  refine hs 0 _ rfl _ _ _ _ _ _ _ rfl ?_
  refine hs 1 _ rfl _ _ _ _ _ _ _ rfl ?_
  refine hs 2 _ rfl _ _ _ _ _ _ _ rfl ?_
  refine hs 3 _ rfl _ _ _ _ _ _ _ rfl ?_
  refine hd_change_loop hs hq hne h1 h2 ho hod hz (38 - z) z 0 ds h none (by omega) (Nat.le_refl _) hl hd hg1 hg2 (hb.elim (fun e => Or.inl ⟨e, by decide, by decide⟩) fun e => Or.inr ⟨e, by decide, by decide⟩) fun L h' hh => ?_
  rw [Nat.sub_self, List.drop_zero] at hh
  exact hs 43 _ rfl _ _ _ _ (Nat.zero_le _) (Nat.zero_le _) (hP h' hh)
