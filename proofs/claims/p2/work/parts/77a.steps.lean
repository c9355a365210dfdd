section
/-! STEPS OF A WALK BY HAND, over rows of written numbers -/
theorem hd_c1t {c : Nat} {e : Int} (h1 : -2147483648 ≤ e) (h2 : e ≤ 2147483647) (h : ck_cv c e) : ck_cv c (Int32.ofInt e).toInt := by rw [hd_oi h1 h2]; exact h
theorem hd_c1z {c : Nat} {e : Int} (h1 : -2147483648 ≤ e) (h2 : e ≤ 2147483647) (h : ck_cv c (Int32.ofInt e).toInt) : ck_cv c e := by rw [hd_oi h1 h2] at h; exact h
theorem hd_c2t {c : Nat} {a b : Int} (h1 : -2147483648 ≤ a) (h2 : a ≤ 2147483647) (h3 : -2147483648 ≤ b) (h4 : b ≤ 2147483647) (h : ck_cv c (a - b)) : ck_cv c ((Int32.ofInt a).toInt - (Int32.ofInt b).toInt) := by rw [hd_oi h1 h2, hd_oi h3 h4]; exact h
theorem hd_c2z {c : Nat} {a b : Int} (h1 : -2147483648 ≤ a) (h2 : a ≤ 2147483647) (h3 : -2147483648 ≤ b) (h4 : b ≤ 2147483647) (h : ck_cv c ((Int32.ofInt a).toInt - (Int32.ofInt b).toInt)) : ck_cv c (a - b) := by rw [hd_oi h1 h2, hd_oi h3 h4] at h; exact h
section HDA
variable {G : am_G} {S : ck_SS} {pc nx lo hi : Nat} {L : List (Option Value)} {st : List Value} {h : List am_C} {k n q t j : Nat} {e d : Int} {ds : List Int}
theorem hd_A (H : ck_sA G S pc nx lo hi) (h1 : lo ≤ 50) (h2 : 50 ≤ hi) (hg : am_g G h q = some (t, hd_r ds)) (ht : t % 100 = 50) (he : e = (j : Int)) (hj : j ≤ 2147483647) (hd : ds[j]? = some d) (kk : S nx L (.int (Int32.ofInt d) :: st) h k n) : S pc L (.int (Int32.ofInt e) :: .ref q :: st) h k n := by
  have hx : (Int32.ofInt e).toInt = (j : Int) := by rw [hd_oi (by omega) (by omega)]; exact he
  exact H L st h k n q t _ _ _ hg (by unfold ck_al; rw [ht, show Nat.ble lo 50 = true from Nat.ble_eq.mpr h1, show Nat.ble 50 hi = true from Nat.ble_eq.mpr h2]; rfl) (by omega) (by rw [hx]; exact hd_r_get hd) kk
theorem hd_B {pr : List (Nat × Nat)} (H : ck_sB G pr S pc nx lo hi) (h1 : lo ≤ 50) (h2 : 50 ≤ hi) (hq : 1000 ≤ q) (hg : am_g G h q = some (t, hd_r ds)) (ht : t % 100 = 50) (he : e = (j : Int)) (hj : j ≤ 2147483647) (hl : j < ds.length) (kk : S nx L st (am_s h q (t, hd_r (ds.set j d))) k n) : S pc L (.int (Int32.ofInt d) :: .int (Int32.ofInt e) :: .ref q :: st) h k n := by
  have hx : (Int32.ofInt e).toInt = (j : Int) := by rw [hd_oi (by omega) (by omega)]; exact he
  refine H L st h k n q t _ _ _ hq hg (by omega) (by omega) (by omega) (by rw [hx, hd_r_len]; exact hl) (Or.inl ⟨ht, _, rfl⟩) ?_
  rw [hx, Int.toNat_natCast, hd_r_set]
  exact kk
theorem hd_Ln (H : ck_sL G S pc nx) (hg : am_g G h q = some (t, hd_r ds)) (ht : t % 100 = 50) (kk : S nx L (.int (Int32.ofInt (ds.length : Int)) :: st) h k n) : S pc L (.ref q :: st) h k n := by
  refine H L st h k n q t _ hg (by omega) (by omega) ?_
  rw [hd_r_len, ← Int32.ofInt_eq_ofNat]
  exact kk
end HDA
/-- a heap with one cell of it another -/
def hd_w (G : am_G) (h h' : List am_C) (q : Nat) (c : am_C) : Prop := h'.length = h.length ∧ ∀ p, am_g G h' p = if p = q then some c else am_g G h p
theorem hd_w.s {G : am_G} {h : List am_C} {q : Nat} {c c' : am_C} (hq : 1000 ≤ q) (hg : am_g G h q = some c') : hd_w G h (am_s h q c) q c := ⟨am_s_len _ _ _, fun p => am_g_s hq (am_g_lt hq hg)⟩
theorem hd_w.rf {G : am_G} {h : List am_C} {q : Nat} {c : am_C} (hg : am_g G h q = some c) : hd_w G h h q c := by
  refine ⟨rfl, fun p => ?_⟩
  by_cases e : p = q
  · rw [if_pos e, e]; exact hg
  · rw [if_neg e]
theorem hd_w.tr {G : am_G} {h h' h2 : List am_C} {q : Nat} {c c' : am_C} (a : hd_w G h h' q c) (b : hd_w G h' h2 q c') : hd_w G h h2 q c' := ⟨b.1.trans a.1, fun p => by
  rw [b.2 p]
  by_cases e : p = q
  · rw [if_pos e, if_pos e]
  · rw [if_neg e, if_neg e, a.2 p, if_neg e]⟩
theorem hd_w.at {G : am_G} {h h' : List am_C} {q : Nat} {c : am_C} (a : hd_w G h h' q c) : am_g G h' q = some c := by rw [a.2 q, if_pos rfl]
theorem hd_w.ne {G : am_G} {h h' : List am_C} {q p : Nat} {c : am_C} (a : hd_w G h h' q c) (e : p ≠ q) : am_g G h' p = am_g G h p := by rw [a.2 p, if_neg e]
end
section
/-! CHANGE -/
def hd_chgR (by_ : Int) (z : Nat) (ds os : List Int) : List Int := ds.take z ++ hd_chg by_ 0 (ds.drop z) os
set_option maxRecDepth 100000 in
set_option maxHeartbeats 4000000 in
theorem hd_change_loop {G : am_G} {S : ck_SS} {SX : Nat → ck_SX} {Post : am_O → List am_C → Prop} {mc ms : Nat} {cm : Nat → ck_CM} (hs : ck_hs G S SX Post mc ms cm ge_yX12_change_H) {q1 q2 t1 t2 z : Nat} {by_ : Int} {os : List Int} (hq : 1000 ≤ q1) (hne : q2 ≠ q1) (h1 : t1 % 100 = 50) (h2 : t2 % 100 = 50) (ho : os.length = 38) (hod : hd_d os) (hz : z ≤ 38) :
    ∀ (m k : Nat) (o : Int) (ds : List Int) (h : List am_C) (w : Option Value), k + m = 38 → z ≤ k → ds.length = 38 → hd_d ds → am_g G h q1 = some (t1, hd_r ds) → am_g G h q2 = some (t2, hd_r os) → hd_bo by_ o →
      (∀ (L : List (Option Value)) (h' : List am_C), hd_w G h h' q1 (t1, hd_r (ds.take k ++ hd_chg by_ o (ds.drop k) (os.drop (k - z)))) → S 75 L [] h' 0 0) →
      S 6 [some (.ref q1), some (.ref q2), some (.int (Int32.ofInt (z : Int))), some (.int (Int32.ofInt by_)), some (.int (Int32.ofInt o)), some (.int (Int32.ofInt (k : Int))), w] [] h 0 0 := by
  intro m
  induction m with
  | zero =>
    intro k o ds h w hk hzk hl hd hg1 hg2 hbo fin
    obtain rfl : k = 38 := by omega
    refine hs 4 _ rfl _ _ _ _ _ _ _ rfl ?_
    refine hs 5 _ rfl _ _ _ _ _ _ _ rfl ?_
    refine hs 6 _ rfl _ _ _ _ _ _ _ (fun _ => ?_) (fun zq => absurd (hd_c2t (c := 3) (by omega) (by omega) (by omega) (by omega) (by omega : 0 ≤ (((38 : Nat) : Int) - (38 : Int)))) zq)
    refine fin _ h ?_
    have e1 : ds.take 38 = ds := List.take_of_length_le (by omega)
    have e2 : ds.drop 38 = [] := List.drop_eq_nil_of_le (by omega)
    rw [e1, e2, hd_chg_nil, List.append_nil]
    exact hd_w.rf hg1
  | succ m ih =>
    intro k o ds h w hk hzk hl hd hg1 hg2 hbo fin
    have hdk : ds[k]? = some (ds[k]'(by omega)) := List.getElem?_eq_getElem (by omega)
    have hok : os[k - z]? = some (os[k - z]'(by omega)) := List.getElem?_eq_getElem (by omega)
    generalize ds[k]'(by omega) = d at hdk
    generalize os[k - z]'(by omega) = e at hok
    have hdd := hd.at hdk
    have hee := hod.at hok
    obtain ⟨⟨b1, b2⟩, b3⟩ := hbo.here hdd hee
    have hd' : ∀ d' : Int, 0 ≤ d' → d' ≤ 9 → hd_d (ds.set k d') := fun d' x1 x2 x hx => (List.mem_or_eq_of_mem_set hx).elim (hd x) (fun y => by rw [y]; exact ⟨x1, x2⟩)
    by_cases hc : d + o + by_ * e < 0
    · rw [if_pos hc] at b3
      refine hs 4 _ rfl _ _ _ _ _ _ _ rfl ?_
      refine hs 5 _ rfl _ _ _ _ _ _ _ rfl ?_
      refine hs 6 _ rfl _ _ _ _ _ _ _ (fun zq => absurd (hd_c2z (c := 3) (by omega) (by omega) (by omega) (by omega) zq) (by omega : ¬ (0 ≤ ((k : Int) - (38 : Int))))) (fun _ => ?_)
      refine hs 7 _ rfl _ _ _ _ _ _ _ rfl ?_
      refine hs 8 _ rfl _ _ _ _ _ _ _ rfl ?_
      refine hd_A (hs 9 _ rfl) (by decide) (by decide) hg1 h1 rfl (by omega) hdk ?_
      refine hs 10 _ rfl _ _ _ _ _ _ _ rfl ?_
      refine hs 11 _ rfl _ _ _ _ _ _ _ hd_add ?_
      refine hs 12 _ rfl _ _ _ _ _ _ _ rfl ?_
      refine hs 13 _ rfl _ _ _ _ _ _ _ rfl ?_
      refine hs 14 _ rfl _ _ _ _ _ _ _ rfl ?_
      refine hs 15 _ rfl _ _ _ _ _ _ _ rfl ?_
      refine hs 16 _ rfl _ _ _ _ _ _ _ hd_sub ?_
      refine hd_A (hs 17 _ rfl) (by decide) (by decide) hg2 h2 (j := k - z) (by omega) (by omega) hok ?_
      refine hs 18 _ rfl _ _ _ _ _ _ _ hd_mul ?_
      refine hs 19 _ rfl _ _ _ _ _ _ _ hd_add ?_
      refine hs 20 _ rfl _ _ _ _ _ _ _ rfl ?_
      refine hs 21 _ rfl _ _ _ _ _ _ _ rfl ?_
      refine hs 22 _ rfl _ _ _ _ _ _ (fun zq => absurd (hd_c1z (c := 3) (by omega) (by omega) zq) (by omega : ¬ (0 ≤ (d + o + by_ * e)))) (fun _ => ?_)
      refine hs 23 _ rfl _ _ _ _ _ _ _ rfl ?_
      refine hs 24 _ rfl _ _ _ _ _ ?_
      refine hs 28 _ rfl _ _ _ _ _ _ _ rfl ?_
      refine hs 29 _ rfl _ _ _ _ _ _ _ rfl ?_
      refine hs 30 _ rfl _ _ _ _ _ _ _ rfl ?_
      refine hs 31 _ rfl _ _ _ _ _ _ _ rfl ?_
      refine hs 32 _ rfl _ _ _ _ _ _ (fun zq => absurd (hd_c1z (c := 3) (by omega) (by omega) zq) (by omega : ¬ (0 ≤ (d + o + by_ * e)))) (fun _ => ?_)
      refine hs 33 _ rfl _ _ _ _ _ _ _ rfl ?_
      refine hs 34 _ rfl _ _ _ _ _ _ _ rfl ?_
      refine hs 35 _ rfl _ _ _ _ _ _ _ hd_add ?_
      refine hs 36 _ rfl _ _ _ _ _ ?_
      refine hd_B (hs 40 _ rfl) (by decide) (by decide) hq hg1 h1 rfl (by omega) (by omega) ?_
      refine hs 41 _ rfl _ _ _ _ _ _ _ (hd_inc rfl) ?_
      refine hs 42 _ rfl _ _ _ _ _ ?_
      have hw := hd_w.s (c := (t1, hd_r (ds.set k (d + o + by_ * e + 10)))) hq hg1
      refine ih (k + 1) (-1) (ds.set k (d + o + by_ * e + 10)) _ _ (by omega) (by omega) (by rw [List.length_set]; exact hl) (hd' _ (by omega) (by omega)) hw.at (by rw [hw.ne hne]; exact hg2) b3 (fun L h' hh => fin L h' (hd_w.tr hw ?_))
      rw [hd_step hdk hok hzk (by rw [if_pos hc]) (by rw [if_pos hc])]
      exact hh
    · rw [if_neg hc] at b3
      refine hs 4 _ rfl _ _ _ _ _ _ _ rfl ?_
      refine hs 5 _ rfl _ _ _ _ _ _ _ rfl ?_
      refine hs 6 _ rfl _ _ _ _ _ _ _ (fun zq => absurd (hd_c2z (c := 3) (by omega) (by omega) (by omega) (by omega) zq) (by omega : ¬ (0 ≤ ((k : Int) - (38 : Int))))) (fun _ => ?_)
      refine hs 7 _ rfl _ _ _ _ _ _ _ rfl ?_
      refine hs 8 _ rfl _ _ _ _ _ _ _ rfl ?_
      refine hd_A (hs 9 _ rfl) (by decide) (by decide) hg1 h1 rfl (by omega) hdk ?_
      refine hs 10 _ rfl _ _ _ _ _ _ _ rfl ?_
      refine hs 11 _ rfl _ _ _ _ _ _ _ hd_add ?_
      refine hs 12 _ rfl _ _ _ _ _ _ _ rfl ?_
      refine hs 13 _ rfl _ _ _ _ _ _ _ rfl ?_
      refine hs 14 _ rfl _ _ _ _ _ _ _ rfl ?_
      refine hs 15 _ rfl _ _ _ _ _ _ _ rfl ?_
      refine hs 16 _ rfl _ _ _ _ _ _ _ hd_sub ?_
      refine hd_A (hs 17 _ rfl) (by decide) (by decide) hg2 h2 (j := k - z) (by omega) (by omega) hok ?_
      refine hs 18 _ rfl _ _ _ _ _ _ _ hd_mul ?_
      refine hs 19 _ rfl _ _ _ _ _ _ _ hd_add ?_
      refine hs 20 _ rfl _ _ _ _ _ _ _ rfl ?_
      refine hs 21 _ rfl _ _ _ _ _ _ _ rfl ?_
      refine hs 22 _ rfl _ _ _ _ _ _ (fun _ => ?_) (fun zq => absurd (hd_c1t (c := 3) (by omega) (by omega) (by omega : 0 ≤ (d + o + by_ * e))) zq)
      refine hs 25 _ rfl _ _ _ _ _ _ _ rfl ?_
      refine hs 26 _ rfl _ _ _ _ _ _ _ rfl ?_
      refine hs 27 _ rfl _ _ _ _ _ _ _ (hd_div (by omega) (by omega) (by decide) (by decide)) ?_
      refine hs 28 _ rfl _ _ _ _ _ _ _ rfl ?_
      refine hs 29 _ rfl _ _ _ _ _ _ _ rfl ?_
      refine hs 30 _ rfl _ _ _ _ _ _ _ rfl ?_
      refine hs 31 _ rfl _ _ _ _ _ _ _ rfl ?_
      refine hs 32 _ rfl _ _ _ _ _ _ (fun _ => ?_) (fun zq => absurd (hd_c1t (c := 3) (by omega) (by omega) (by omega : 0 ≤ (d + o + by_ * e))) zq)
      refine hs 37 _ rfl _ _ _ _ _ _ _ rfl ?_
      refine hs 38 _ rfl _ _ _ _ _ _ _ rfl ?_
      refine hs 39 _ rfl _ _ _ _ _ _ _ (hd_rem (by omega) (by omega) (by decide) (by decide)) ?_
      refine hd_B (hs 40 _ rfl) (by decide) (by decide) hq hg1 h1 rfl (by omega) (by omega) ?_
      refine hs 41 _ rfl _ _ _ _ _ _ _ (hd_inc rfl) ?_
      refine hs 42 _ rfl _ _ _ _ _ ?_
      have hw := hd_w.s (c := (t1, hd_r (ds.set k ((d + o + by_ * e) % 10)))) hq hg1
      refine ih (k + 1) ((d + o + by_ * e) / 10) (ds.set k ((d + o + by_ * e) % 10)) _ _ (by omega) (by omega) (by rw [List.length_set]; exact hl) (hd' _ (by omega) (by omega)) hw.at (by rw [hw.ne hne]; exact hg2) b3 (fun L h' hh => fin L h' (hd_w.tr hw ?_))
      rw [hd_step hdk hok hzk (by rw [if_neg hc]) (by rw [if_neg hc])]
      exact hh
set_option maxRecDepth 100000 in
set_option maxHeartbeats 4000000 in
theorem hd_change_M {l : Launch} {G : am_G} {X : ck_XT} (g : gE l G X) {q1 q2 t1 t2 z : Nat} {by_ : Int} {ds os : List Int} {h : List am_C} (hq : 1000 ≤ q1) (hne : q2 ≠ q1) (h1 : t1 % 100 = 50) (h2 : t2 % 100 = 50) (hl : ds.length = 38) (ho : os.length = 38) (hd : hd_d ds) (hod : hd_d os) (hz : z ≤ 38) (hb : by_ = 1 ∨ by_ = -1) (hg1 : am_g G h q1 = some (t1, hd_r ds)) (hg2 : am_g G h q2 = some (t2, hd_r os)) {mc ms : Nat} {Post : am_O → List am_C → Prop} (hP : ∀ h' : List am_C, hd_w G h h' q1 (t1, hd_r (hd_chgR by_ z ds os)) → Post (.inl none) h') :
    am_M l G yX12_change (.code yX12_change prog_15_method_15_code 7 none) 1 20 mc ms [.ref q1, .ref q2, .int (Int32.ofInt (z : Int)), .int (Int32.ofInt by_)] h Post := by
  refine gh_yX12_change_H g (Nat.le_of_ble_eq_true rfl) fun S SX hs hr hw => ?_
  refine hs 0 _ rfl _ _ _ _ _ _ _ rfl ?_
  refine hs 1 _ rfl _ _ _ _ _ _ _ rfl ?_
  refine hs 2 _ rfl _ _ _ _ _ _ _ rfl ?_
  refine hs 3 _ rfl _ _ _ _ _ _ _ rfl ?_
  refine hd_change_loop hs hq hne h1 h2 ho hod hz (38 - z) z 0 ds h none (by omega) (Nat.le_refl _) hl hd hg1 hg2 (hb.elim (fun e => Or.inl ⟨e, by decide, by decide⟩) fun e => Or.inr ⟨e, by decide, by decide⟩) fun L h' hh => ?_
  rw [Nat.sub_self, List.drop_zero] at hh
  exact hs 43 _ rfl _ _ _ _ (Nat.zero_le _) (Nat.zero_le _) (hP h' hh)
end
section
/-! ISLESS, PLACES -/
set_option maxRecDepth 100000 in
set_option maxHeartbeats 4000000 in
theorem hd_less_loop {G : am_G} {S : ck_SS} {SX : Nat → ck_SX} {Post : am_O → List am_C → Prop} {mc ms : Nat} {cm : Nat → ck_CM} (hs : ck_hs G S SX Post mc ms cm ge_yX12_isLess_H) {q1 q2 t1 t2 z : Nat} {ds os : List Int} {h : List am_C} (h1 : t1 % 100 = 50) (h2 : t2 % 100 = 50) (hl : ds.length = 38) (ho : os.length = 38) (hd : hd_d ds) (hod : hd_d os) (hz : z ≤ 38) (hg1 : am_g G h q1 = some (t1, hd_r ds)) (hg2 : am_g G h q2 = some (t2, hd_r os))
    (hP1 : hd_v (ds.drop z) < hd_v (os.take (38 - z)) → Post (.inl (some (.int (Int32.ofInt 1)))) h) (hP0 : ¬ hd_v (ds.drop z) < hd_v (os.take (38 - z)) → Post (.inl (some (.int (Int32.ofInt 0)))) h) :
    ∀ (m : Nat) (w : Option Value), m ≤ 38 → (ds.drop z).drop (m - z) = (os.take (38 - z)).drop (m - z) →
      S 3 [some (.ref q1), some (.ref q2), some (.int (Int32.ofInt (z : Int))), some (.int (Int32.ofInt ((m : Int) - 1))), w] [] h 0 0 := by
  have hA := hd.drop z
  have hB := hod.take (38 - z)
  have r0 : ck_fv 1 (.int (Int32.ofInt 0)) := ⟨_, rfl, by decide, by decide⟩
  have r1 : ck_fv 1 (.int (Int32.ofInt 1)) := ⟨_, rfl, by decide, by decide⟩
  intro m
  induction m with
  | zero =>
    intro w hm hag
    rw [Nat.zero_sub, List.drop_zero, List.drop_zero] at hag
    refine hs 2 _ rfl _ _ _ _ _ _ _ rfl ?_
    refine hs 3 _ rfl _ _ _ _ _ _ (fun _ => ?_) (fun zq => absurd (hd_c1t (c := 2) (by omega) (by omega) (by omega : (((0 : Nat) : Int) - 1) < 0)) zq)
    refine hs 31 _ rfl _ _ _ _ _ _ _ rfl ?_
    exact hs 32 _ rfl _ _ _ _ _ r0 (Nat.zero_le _) (Nat.zero_le _) (hP0 (by rw [hag]; omega))
  | succ m ih =>
    intro w hm hag
    have em : ((m + 1 : Nat) : Int) - 1 = (m : Int) := by omega
    have em2 : (m : Int) + -1 = (m : Int) - 1 := by omega
    rw [em]
    have hdk : ds[m]? = some (ds[m]'(by omega)) := List.getElem?_eq_getElem (by omega)
    generalize ds[m]'(by omega) = d at hdk
    have hdd := hd.at hdk
    by_cases hzm : z ≤ m
    · have hok : os[m - z]? = some (os[m - z]'(by omega)) := List.getElem?_eq_getElem (by omega)
      generalize os[m - z]'(by omega) = e at hok
      have hee := hod.at hok
      have ea : (ds.drop z)[m - z]? = some d := by rw [List.getElem?_drop, show z + (m - z) = m by omega]; exact hdk
      have eb : (os.take (38 - z))[m - z]? = some e := by rw [List.getElem?_take_of_lt (by omega)]; exact hok
      rw [show m + 1 - z = m - z + 1 by omega] at hag
      rcases Int.lt_trichotomy d e with hc | hc | hc
      · have hlt := hd_cmp hA hB ea eb hag hc
        refine hs 2 _ rfl _ _ _ _ _ _ _ rfl ?_
        refine hs 3 _ rfl _ _ _ _ _ _ (fun zq => absurd (hd_c1z (c := 2) (by omega) (by omega) zq) (by omega : ¬ ((m : Int) < 0))) (fun _ => ?_)
        refine hs 4 _ rfl _ _ _ _ _ _ _ rfl ?_
        refine hs 5 _ rfl _ _ _ _ _ _ _ rfl ?_
        refine hs 6 _ rfl _ _ _ _ _ _ _ (fun _ => ?_) (fun zq => absurd (hd_c2t (c := 3) (by omega) (by omega) (by omega) (by omega) (by omega : 0 ≤ ((m : Int) - (z : Int)))) zq)
        refine hs 9 _ rfl _ _ _ _ _ _ _ rfl ?_
        refine hs 10 _ rfl _ _ _ _ _ _ _ rfl ?_
        refine hs 11 _ rfl _ _ _ _ _ _ _ rfl ?_
        refine hs 12 _ rfl _ _ _ _ _ _ _ hd_sub ?_
        refine hd_A (hs 13 _ rfl) (by decide) (by decide) hg2 h2 (j := m - z) (by omega) (by omega) hok ?_
        refine hs 14 _ rfl _ _ _ _ _ _ _ rfl ?_
        refine hs 15 _ rfl _ _ _ _ _ _ _ rfl ?_
        refine hs 16 _ rfl _ _ _ _ _ _ _ rfl ?_
        refine hd_A (hs 17 _ rfl) (by decide) (by decide) hg1 h1 (j := m) rfl (by omega) hdk ?_
        refine hs 18 _ rfl _ _ _ _ _ _ _ rfl ?_
        refine hs 19 _ rfl _ _ _ _ _ _ _ (fun zq => absurd (hd_c2z (c := 0) (by omega) (by omega) (by omega) (by omega) zq) (by omega : ¬ ((d - e) = 0))) (fun _ => ?_)
        refine hs 20 _ rfl _ _ _ _ _ _ _ rfl ?_
        refine hs 21 _ rfl _ _ _ _ _ _ _ rfl ?_
        refine hd_A (hs 22 _ rfl) (by decide) (by decide) hg1 h1 (j := m) rfl (by omega) hdk ?_
        refine hs 23 _ rfl _ _ _ _ _ _ _ rfl ?_
        refine hs 24 _ rfl _ _ _ _ _ _ _ (fun zq => absurd (hd_c2z (c := 3) (by omega) (by omega) (by omega) (by omega) zq) (by omega : ¬ (0 ≤ (d - e)))) (fun _ => ?_)
        refine hs 25 _ rfl _ _ _ _ _ _ _ rfl ?_
        refine hs 26 _ rfl _ _ _ _ _ ?_
        exact hs 28 _ rfl _ _ _ _ _ r1 (Nat.zero_le _) (Nat.zero_le _) (hP1 (by omega))
      · subst hc
        have hag2 : (ds.drop z).drop (m - z) = (os.take (38 - z)).drop (m - z) := by
          obtain ⟨x1, x2⟩ := List.getElem?_eq_some_iff.mp ea
          obtain ⟨y1, y2⟩ := List.getElem?_eq_some_iff.mp eb
          rw [List.drop_eq_getElem_cons x1, List.drop_eq_getElem_cons y1, x2, y2, hag]
        refine hs 2 _ rfl _ _ _ _ _ _ _ rfl ?_
        refine hs 3 _ rfl _ _ _ _ _ _ (fun zq => absurd (hd_c1z (c := 2) (by omega) (by omega) zq) (by omega : ¬ ((m : Int) < 0))) (fun _ => ?_)
        refine hs 4 _ rfl _ _ _ _ _ _ _ rfl ?_
        refine hs 5 _ rfl _ _ _ _ _ _ _ rfl ?_
        refine hs 6 _ rfl _ _ _ _ _ _ _ (fun _ => ?_) (fun zq => absurd (hd_c2t (c := 3) (by omega) (by omega) (by omega) (by omega) (by omega : 0 ≤ ((m : Int) - (z : Int)))) zq)
        refine hs 9 _ rfl _ _ _ _ _ _ _ rfl ?_
        refine hs 10 _ rfl _ _ _ _ _ _ _ rfl ?_
        refine hs 11 _ rfl _ _ _ _ _ _ _ rfl ?_
        refine hs 12 _ rfl _ _ _ _ _ _ _ hd_sub ?_
        refine hd_A (hs 13 _ rfl) (by decide) (by decide) hg2 h2 (j := m - z) (by omega) (by omega) hok ?_
        refine hs 14 _ rfl _ _ _ _ _ _ _ rfl ?_
        refine hs 15 _ rfl _ _ _ _ _ _ _ rfl ?_
        refine hs 16 _ rfl _ _ _ _ _ _ _ rfl ?_
        refine hd_A (hs 17 _ rfl) (by decide) (by decide) hg1 h1 (j := m) rfl (by omega) hdk ?_
        refine hs 18 _ rfl _ _ _ _ _ _ _ rfl ?_
        refine hs 19 _ rfl _ _ _ _ _ _ _ (fun _ => ?_) (fun zq => absurd (hd_c2t (c := 0) (by omega) (by omega) (by omega) (by omega) (by omega : (d - d) = 0)) zq)
        refine hs 29 _ rfl _ _ _ _ _ _ _ (hd_inc rfl) ?_
        refine hs 30 _ rfl _ _ _ _ _ ?_
        rw [em2]
        exact ih _ (by omega) hag2
      · have hgt := hd_cmp hB hA eb ea hag.symm hc
        refine hs 2 _ rfl _ _ _ _ _ _ _ rfl ?_
        refine hs 3 _ rfl _ _ _ _ _ _ (fun zq => absurd (hd_c1z (c := 2) (by omega) (by omega) zq) (by omega : ¬ ((m : Int) < 0))) (fun _ => ?_)
        refine hs 4 _ rfl _ _ _ _ _ _ _ rfl ?_
        refine hs 5 _ rfl _ _ _ _ _ _ _ rfl ?_
        refine hs 6 _ rfl _ _ _ _ _ _ _ (fun _ => ?_) (fun zq => absurd (hd_c2t (c := 3) (by omega) (by omega) (by omega) (by omega) (by omega : 0 ≤ ((m : Int) - (z : Int)))) zq)
        refine hs 9 _ rfl _ _ _ _ _ _ _ rfl ?_
        refine hs 10 _ rfl _ _ _ _ _ _ _ rfl ?_
        refine hs 11 _ rfl _ _ _ _ _ _ _ rfl ?_
        refine hs 12 _ rfl _ _ _ _ _ _ _ hd_sub ?_
        refine hd_A (hs 13 _ rfl) (by decide) (by decide) hg2 h2 (j := m - z) (by omega) (by omega) hok ?_
        refine hs 14 _ rfl _ _ _ _ _ _ _ rfl ?_
        refine hs 15 _ rfl _ _ _ _ _ _ _ rfl ?_
        refine hs 16 _ rfl _ _ _ _ _ _ _ rfl ?_
        refine hd_A (hs 17 _ rfl) (by decide) (by decide) hg1 h1 (j := m) rfl (by omega) hdk ?_
        refine hs 18 _ rfl _ _ _ _ _ _ _ rfl ?_
        refine hs 19 _ rfl _ _ _ _ _ _ _ (fun zq => absurd (hd_c2z (c := 0) (by omega) (by omega) (by omega) (by omega) zq) (by omega : ¬ ((d - e) = 0))) (fun _ => ?_)
        refine hs 20 _ rfl _ _ _ _ _ _ _ rfl ?_
        refine hs 21 _ rfl _ _ _ _ _ _ _ rfl ?_
        refine hd_A (hs 22 _ rfl) (by decide) (by decide) hg1 h1 (j := m) rfl (by omega) hdk ?_
        refine hs 23 _ rfl _ _ _ _ _ _ _ rfl ?_
        refine hs 24 _ rfl _ _ _ _ _ _ _ (fun _ => ?_) (fun zq => absurd (hd_c2t (c := 3) (by omega) (by omega) (by omega) (by omega) (by omega : 0 ≤ (d - e))) zq)
        refine hs 27 _ rfl _ _ _ _ _ _ _ rfl ?_
        exact hs 28 _ rfl _ _ _ _ _ r0 (Nat.zero_le _) (Nat.zero_le _) (hP0 (by omega))
    · rw [show m + 1 - z = 0 by omega, List.drop_zero, List.drop_zero] at hag
      by_cases hc : d = 0
      · subst hc
        refine hs 2 _ rfl _ _ _ _ _ _ _ rfl ?_
        refine hs 3 _ rfl _ _ _ _ _ _ (fun zq => absurd (hd_c1z (c := 2) (by omega) (by omega) zq) (by omega : ¬ ((m : Int) < 0))) (fun _ => ?_)
        refine hs 4 _ rfl _ _ _ _ _ _ _ rfl ?_
        refine hs 5 _ rfl _ _ _ _ _ _ _ rfl ?_
        refine hs 6 _ rfl _ _ _ _ _ _ _ (fun zq => absurd (hd_c2z (c := 3) (by omega) (by omega) (by omega) (by omega) zq) (by omega : ¬ (0 ≤ ((m : Int) - (z : Int))))) (fun _ => ?_)
        refine hs 7 _ rfl _ _ _ _ _ _ _ rfl ?_
        refine hs 8 _ rfl _ _ _ _ _ ?_
        refine hs 14 _ rfl _ _ _ _ _ _ _ rfl ?_
        refine hs 15 _ rfl _ _ _ _ _ _ _ rfl ?_
        refine hs 16 _ rfl _ _ _ _ _ _ _ rfl ?_
        refine hd_A (hs 17 _ rfl) (by decide) (by decide) hg1 h1 (j := m) rfl (by omega) hdk ?_
        refine hs 18 _ rfl _ _ _ _ _ _ _ rfl ?_
        refine hs 19 _ rfl _ _ _ _ _ _ _ (fun _ => ?_) (fun zq => absurd (hd_c2t (c := 0) (by omega) (by omega) (by omega) (by omega) (by omega : ((0 : Int) - (0 : Int)) = 0)) zq)
        refine hs 29 _ rfl _ _ _ _ _ _ _ (hd_inc rfl) ?_
        refine hs 30 _ rfl _ _ _ _ _ ?_
        rw [em2]
        exact ih _ (by omega) (by rw [show m - z = 0 by omega, List.drop_zero, List.drop_zero]; exact hag)
      · have hc2 : ¬ d < 0 := by omega
        refine hs 2 _ rfl _ _ _ _ _ _ _ rfl ?_
        refine hs 3 _ rfl _ _ _ _ _ _ (fun zq => absurd (hd_c1z (c := 2) (by omega) (by omega) zq) (by omega : ¬ ((m : Int) < 0))) (fun _ => ?_)
        refine hs 4 _ rfl _ _ _ _ _ _ _ rfl ?_
        refine hs 5 _ rfl _ _ _ _ _ _ _ rfl ?_
        refine hs 6 _ rfl _ _ _ _ _ _ _ (fun zq => absurd (hd_c2z (c := 3) (by omega) (by omega) (by omega) (by omega) zq) (by omega : ¬ (0 ≤ ((m : Int) - (z : Int))))) (fun _ => ?_)
        refine hs 7 _ rfl _ _ _ _ _ _ _ rfl ?_
        refine hs 8 _ rfl _ _ _ _ _ ?_
        refine hs 14 _ rfl _ _ _ _ _ _ _ rfl ?_
        refine hs 15 _ rfl _ _ _ _ _ _ _ rfl ?_
        refine hs 16 _ rfl _ _ _ _ _ _ _ rfl ?_
        refine hd_A (hs 17 _ rfl) (by decide) (by decide) hg1 h1 (j := m) rfl (by omega) hdk ?_
        refine hs 18 _ rfl _ _ _ _ _ _ _ rfl ?_
        refine hs 19 _ rfl _ _ _ _ _ _ _ (fun zq => absurd (hd_c2z (c := 0) (by omega) (by omega) (by omega) (by omega) zq) (by omega : ¬ ((d - (0 : Int)) = 0))) (fun _ => ?_)
        refine hs 20 _ rfl _ _ _ _ _ _ _ rfl ?_
        refine hs 21 _ rfl _ _ _ _ _ _ _ rfl ?_
        refine hd_A (hs 22 _ rfl) (by decide) (by decide) hg1 h1 (j := m) rfl (by omega) hdk ?_
        refine hs 23 _ rfl _ _ _ _ _ _ _ rfl ?_
        refine hs 24 _ rfl _ _ _ _ _ _ _ (fun _ => ?_) (fun zq => absurd (hd_c2t (c := 3) (by omega) (by omega) (by omega) (by omega) (by omega : 0 ≤ (d - (0 : Int)))) zq)
        refine hs 27 _ rfl _ _ _ _ _ _ _ rfl ?_
        exact hs 28 _ rfl _ _ _ _ _ r0 (Nat.zero_le _) (Nat.zero_le _) (hP0 (by rw [hag]; omega))
set_option maxRecDepth 100000 in
set_option maxHeartbeats 4000000 in
theorem hd_less_M {l : Launch} {G : am_G} {X : ck_XT} (g : gE l G X) {q1 q2 t1 t2 z : Nat} {ds os : List Int} {h : List am_C} (h1 : t1 % 100 = 50) (h2 : t2 % 100 = 50) (hl : ds.length = 38) (ho : os.length = 38) (hd : hd_d ds) (hod : hd_d os) (hz : z ≤ 38) (hg1 : am_g G h q1 = some (t1, hd_r ds)) (hg2 : am_g G h q2 = some (t2, hd_r os)) {mc ms : Nat} {Post : am_O → List am_C → Prop}
    (hP1 : hd_v (ds.drop z) < hd_v (os.take (38 - z)) → Post (.inl (some (.int (Int32.ofInt 1)))) h) (hP0 : ¬ hd_v (ds.drop z) < hd_v (os.take (38 - z)) → Post (.inl (some (.int (Int32.ofInt 0)))) h) :
    am_M l G yX12_isLess (.code yX12_isLess prog_15_method_14_code 5 (some .boolean)) 1 20 mc ms [.ref q1, .ref q2, .int (Int32.ofInt (z : Int))] h Post := by
  refine gh_yX12_isLess_H g (Nat.le_of_ble_eq_true rfl) fun S SX hs hr hw => ?_
  refine hs 0 _ rfl _ _ _ _ _ _ _ rfl ?_
  refine hs 1 _ rfl _ _ _ _ _ _ _ rfl ?_
  refine hd_less_loop hs h1 h2 hl ho hd hod hz hg1 hg2 hP1 hP0 38 none (Nat.le_refl _) ?_
  rw [List.drop_eq_nil_of_le (by rw [List.length_drop]; omega), List.drop_eq_nil_of_le (by rw [List.length_take]; omega)]
set_option maxRecDepth 100000 in
set_option maxHeartbeats 4000000 in
theorem hd_places_loop {G : am_G} {S : ck_SS} {SX : Nat → ck_SX} {Post : am_O → List am_C → Prop} {mc ms : Nat} {cm : Nat → ck_CM} (hs : ck_hs G S SX Post mc ms cm ge_yX12_places_H) {q1 t1 : Nat} {ds : List Int} {h : List am_C} (h1 : t1 % 100 = 50) (hl : ds.length ≤ 1000) (hd : hd_d ds) (hg1 : am_g G h q1 = some (t1, hd_r ds))
    (hP : ∀ n : Nat, hd_pl ds n → Post (.inl (some (.int (Int32.ofInt (n : Int))))) h) :
    ∀ (m : Nat), m ≤ ds.length → (∀ (j : Nat) (d : Int), m ≤ j → ds[j]? = some d → d = 0) →
      S 3 [some (.ref q1), some (.int (Int32.ofInt (m : Int)))] [] h 0 0 := by
  have rv : ∀ x : Int32, ck_fv 0 (.int x) := fun x => ⟨_, rfl⟩
  intro m
  induction m with
  | zero =>
    intro hm hz
    refine hs 3 _ rfl _ _ _ _ _ _ _ rfl ?_
    refine hs 4 _ rfl _ _ _ _ _ _ (fun _ => ?_) (fun zq => absurd (hd_c1t (c := 5) (by omega) (by omega) (by omega : ((0 : Nat) : Int) ≤ 0)) zq)
    refine hs 13 _ rfl _ _ _ _ _ _ _ rfl ?_
    exact hs 14 _ rfl _ _ _ _ _ (rv _) (Nat.zero_le _) (Nat.zero_le _) (hP 0 ⟨hm, hz, fun z => absurd z (by omega)⟩)
  | succ m ih =>
    intro hm hz
    have hdk : ds[m]? = some (ds[m]'(by omega)) := List.getElem?_eq_getElem (by omega)
    generalize ds[m]'(by omega) = d at hdk
    have hdd := hd.at hdk
    by_cases hc : d = 0
    · subst hc
      refine hs 3 _ rfl _ _ _ _ _ _ _ rfl ?_
      refine hs 4 _ rfl _ _ _ _ _ _ (fun zq => absurd (hd_c1z (c := 5) (by omega) (by omega) zq) (by omega : ¬ ((((m + 1 : Nat) : Int)) ≤ 0))) (fun _ => ?_)
      refine hs 5 _ rfl _ _ _ _ _ _ _ rfl ?_
      refine hs 6 _ rfl _ _ _ _ _ _ _ rfl ?_
      refine hs 7 _ rfl _ _ _ _ _ _ _ rfl ?_
      refine hs 8 _ rfl _ _ _ _ _ _ _ hd_sub ?_
      refine hd_A (hs 9 _ rfl) (by decide) (by decide) hg1 h1 (j := m) (by omega) (by omega) hdk ?_
      refine hs 10 _ rfl _ _ _ _ _ _ (fun zq => absurd (hd_c1z (c := 1) (by omega) (by omega) zq) (by omega : ¬ ((0 : Int) ≠ 0))) (fun _ => ?_)
      refine hs 11 _ rfl _ _ _ _ _ _ _ (hd_inc rfl) ?_
      refine hs 12 _ rfl _ _ _ _ _ ?_
      rw [show ((m + 1 : Nat) : Int) + -1 = (m : Int) by omega]
      refine ih (by omega) fun j d hj he => ?_
      by_cases e : j = m
      · subst e; rw [hdk] at he; cases he; rfl
      · exact hz j d (by omega) he
    · 
      refine hs 3 _ rfl _ _ _ _ _ _ _ rfl ?_
      refine hs 4 _ rfl _ _ _ _ _ _ (fun zq => absurd (hd_c1z (c := 5) (by omega) (by omega) zq) (by omega : ¬ ((((m + 1 : Nat) : Int)) ≤ 0))) (fun _ => ?_)
      refine hs 5 _ rfl _ _ _ _ _ _ _ rfl ?_
      refine hs 6 _ rfl _ _ _ _ _ _ _ rfl ?_
      refine hs 7 _ rfl _ _ _ _ _ _ _ rfl ?_
      refine hs 8 _ rfl _ _ _ _ _ _ _ hd_sub ?_
      refine hd_A (hs 9 _ rfl) (by decide) (by decide) hg1 h1 (j := m) (by omega) (by omega) hdk ?_
      refine hs 10 _ rfl _ _ _ _ _ _ (fun _ => ?_) (fun zq => absurd (hd_c1t (c := 1) (by omega) (by omega) (by omega : d ≠ 0)) zq)
      refine hs 13 _ rfl _ _ _ _ _ _ _ rfl ?_
      exact hs 14 _ rfl _ _ _ _ _ (rv _) (Nat.zero_le _) (Nat.zero_le _) (hP (m + 1) ⟨hm, hz, fun _ => ⟨d, hdk, hc⟩⟩)
set_option maxRecDepth 100000 in
set_option maxHeartbeats 4000000 in
theorem hd_places_M {l : Launch} {G : am_G} {X : ck_XT} (g : gE l G X) {q1 t1 : Nat} {ds : List Int} {h : List am_C} (h1 : t1 % 100 = 50) (hl : ds.length ≤ 1000) (hd : hd_d ds) (hg1 : am_g G h q1 = some (t1, hd_r ds)) {mc ms : Nat} {Post : am_O → List am_C → Prop} (hP : ∀ n : Nat, hd_pl ds n → Post (.inl (some (.int (Int32.ofInt (n : Int))))) h) :
    am_M l G yX12_places (.code yX12_places prog_15_method_13_code 2 (some .int)) 1 20 mc ms [.ref q1] h Post := by
  refine gh_yX12_places_H g (Nat.le_of_ble_eq_true rfl) fun S SX hs hr hw => ?_
  refine hs 0 _ rfl _ _ _ _ _ _ _ rfl ?_
  refine hd_Ln (hs 1 _ rfl) hg1 h1 ?_
  refine hs 2 _ rfl _ _ _ _ _ _ _ rfl ?_
  exact hd_places_loop hs h1 hl hd hg1 hP ds.length (Nat.le_refl _) fun j d hj he => by rw [List.getElem?_eq_none hj] at he; cases he
end
section
/-! WIDE, NUM'S MAKING -/
theorem hd_eq {G : am_G} {h1 h2 : List am_C} (e : ∀ p, am_g G h1 p = am_g G h2 p) : h1 = h2 := by
  refine List.ext_getElem? fun i => ?_
  have := e (1000 + i)
  unfold am_g at this
  rw [if_neg (by omega), if_neg (by omega), Nat.add_sub_cancel_left] at this
  exact this
theorem hd_w.eq {G : am_G} {h h' : List am_C} {q : Nat} {c c' : am_C} (hq : 1000 ≤ q) (hg : am_g G h q = some c') (a : hd_w G h h' q c) : h' = am_s h q c := hd_eq fun p => by rw [a.2 p, am_g_s hq (am_g_lt hq hg)]
theorem hd_set_mid {α : Type} (A B : List α) (a b : α) : (A ++ a :: B).set A.length b = A ++ b :: B := by
  induction A with
  | nil => rfl
  | cons x A ih => show x :: (A ++ a :: B).set A.length b = _; rw [ih]; rfl
theorem hd_fill {ds : List Int} {j n : Nat} {d : Int} (hj : ds[j]? = some d) (hn : j < n) : (ds.take j ++ List.replicate (n - j) 0).set j d = ds.take (j + 1) ++ List.replicate (n - (j + 1)) 0 := by
  obtain ⟨h1, h2⟩ := List.getElem?_eq_some_iff.mp hj
  have e : n - j = (n - (j + 1)) + 1 := by omega
  have h3 : (ds.take j).length = j := by rw [List.length_take]; omega
  rw [e, List.replicate_succ]
  have := hd_set_mid (ds.take j) (List.replicate (n - (j + 1)) (0 : Int)) 0 d
  rw [h3] at this
  rw [this, List.take_succ_eq_append_getElem h1, h2, List.append_assoc, List.singleton_append]
theorem hd_r0 (n : Nat) : List.replicate n (ck_d0 0) = hd_r (List.replicate n 0) := by
  unfold hd_r
  rw [List.map_replicate]
  rfl
theorem hd_new {G : am_G} {h : List am_C} {c : am_C} : am_g G (h ++ [c]) (1000 + h.length) = some c := by rw [am_g_new, if_pos rfl]
theorem hd_old {G : am_G} {h : List am_C} {c d : am_C} {q : Nat} (hg : am_g G h q = some d) : am_g G (h ++ [c]) q = some d := by
  rw [am_g_new, if_neg, hg]
  rintro rfl
  unfold am_g at hg
  rw [if_neg (by omega), List.getElem?_eq_none (by omega)] at hg
  cases hg
theorem hd_neq {G : am_G} {h : List am_C} {d : am_C} {q : Nat} (hg : am_g G h q = some d) : q ≠ 1000 + h.length := by
  rintro rfl
  unfold am_g at hg
  rw [if_neg (by omega), List.getElem?_eq_none (by omega)] at hg
  cases hg
set_option maxRecDepth 100000 in
set_option maxHeartbeats 4000000 in
theorem hd_wide_loop {G : am_G} {S : ck_SS} {SX : Nat → ck_SX} {Post : am_O → List am_C → Prop} {mc ms : Nat} {cm : Nat → ck_CM} (hs : ck_hs G S SX Post mc ms cm ge_yX12_wide_H) {q0 qd qn t0 td tn kc nc : Nat} {v0 : Value} {ds : List Int} (hq : 1000 ≤ qn) (h0 : t0 % 100 = 17) (h1 : td % 100 = 50) (h2 : tn % 100 = 50) (hl : ds.length ≤ 38) (n1 : q0 ≠ qn) (n2 : qd ≠ qn) :
    ∀ (m j : Nat) (h : List am_C), j + m = ds.length → am_g G h q0 = some (t0, [v0, .ref qd]) → am_g G h qd = some (td, hd_r ds) → am_g G h qn = some (tn, hd_r (ds.take j ++ List.replicate (38 - j) 0)) →
      (∀ h' : List am_C, hd_w G h h' qn (tn, hd_r (ds ++ List.replicate (38 - ds.length) 0)) → S 31 [some (.ref q0), some (.ref qn), some (.int (Int32.ofInt (ds.length : Int)))] [] h' kc nc) →
      S 7 [some (.ref q0), some (.ref qn), some (.int (Int32.ofInt (j : Int)))] [] h kc nc := by
  intro m
  induction m with
  | zero =>
    intro j h hj g0 g1 g2 fin
    obtain rfl : j = ds.length := by omega
    refine hs 5 _ rfl _ _ _ _ _ _ _ rfl ?_
    refine hs 6 _ rfl _ _ _ _ _ _ _ rfl ?_
    refine hs 7 _ rfl _ _ _ _ _ _ _ _ _ g0 (by omega) rfl ?_
    refine hd_Ln (hs 8 _ rfl) g1 h1 ?_
    refine hs 9 _ rfl _ _ _ _ _ _ _ (fun _ => ?_) (fun zq => absurd (hd_c2t (c := 3) (by omega) (by omega) (by omega) (by omega) (by omega : 0 ≤ ((ds.length : Int) - (ds.length : Int)))) zq)
    refine fin h ?_
    rw [List.take_of_length_le (Nat.le_refl _)] at g2
    exact hd_w.rf g2
  | succ m ih =>
    intro j h hj g0 g1 g2 fin
    have hdk : ds[j]? = some (ds[j]'(by omega)) := List.getElem?_eq_getElem (by omega)
    generalize ds[j]'(by omega) = d at hdk
    refine hs 5 _ rfl _ _ _ _ _ _ _ rfl ?_
    refine hs 6 _ rfl _ _ _ _ _ _ _ rfl ?_
    refine hs 7 _ rfl _ _ _ _ _ _ _ _ _ g0 (by omega) rfl ?_
    refine hd_Ln (hs 8 _ rfl) g1 h1 ?_
    refine hs 9 _ rfl _ _ _ _ _ _ _ (fun zq => absurd (hd_c2z (c := 3) (by omega) (by omega) (by omega) (by omega) zq) (by omega : ¬ (0 ≤ ((j : Int) - (ds.length : Int))))) (fun _ => ?_)
    refine hs 10 _ rfl _ _ _ _ _ _ _ rfl ?_
    refine hs 11 _ rfl _ _ _ _ _ _ _ rfl ?_
    refine hs 12 _ rfl _ _ _ _ _ _ _ rfl ?_
    refine hs 13 _ rfl _ _ _ _ _ _ _ _ _ g0 (by omega) rfl ?_
    refine hs 14 _ rfl _ _ _ _ _ _ _ rfl ?_
    refine hd_A (hs 15 _ rfl) (by decide) (by decide) g1 h1 (j := j) rfl (by omega) hdk ?_
    refine hd_B (hs 16 _ rfl) (by decide) (by decide) hq g2 h2 (j := j) rfl (by omega) (by rw [List.length_append, List.length_take, List.length_replicate]; omega) ?_
    refine hs 17 _ rfl _ _ _ _ _ _ _ (hd_inc rfl) ?_
    refine hs 18 _ rfl _ _ _ _ _ ?_
    rw [hd_fill hdk (by omega)]
    have hw := hd_w.s (c := (tn, hd_r (ds.take (j + 1) ++ List.replicate (38 - (j + 1)) 0))) hq g2
    exact ih (j + 1) _ (by omega) (by rw [hw.ne n1]; exact g0) (by rw [hw.ne n2]; exact g1) hw.at fun h' hh => fin h' (hd_w.tr hw hh)
set_option maxRecDepth 100000 in
set_option maxHeartbeats 4000000 in
theorem hd_wide_M {l : Launch} {G : am_G} {X : ck_XT} (g : gE l G X) {q0 qd t0 td : Nat} (tn : Nat) {v0 : Value} {ds : List Int} {h : List am_C} (h0 : t0 % 100 = 17) (h1 : td % 100 = 50) (h2 : tn % 100 = 50) (hl : ds.length ≤ 38) (g0 : am_g G h q0 = some (t0, [v0, .ref qd])) (g1 : am_g G h qd = some (td, hd_r ds)) {mc ms : Nat} (hmc : 1 ≤ mc) (hms : 38 ≤ ms) {Post : am_O → List am_C → Prop} (hP : Post (.inl (some (.ref (1000 + h.length)))) (h ++ [(tn, hd_r (ds ++ List.replicate (38 - ds.length) 0))])) :
    am_M l G yX12_wide (.code yX12_wide prog_15_method_12_code 3 (some (.array .int))) 1 20 mc ms [.ref q0] h Post := by
  refine gh_yX12_wide_H g (Nat.le_of_ble_eq_true rfl) fun S SX hs hr hw => ?_
  refine hs 0 _ rfl _ _ _ _ _ _ _ rfl ?_
  refine hs 1 _ rfl tn _ _ _ _ 38 _ _ h2 (by decide) (by decide) (by omega) (by omega) ?_
  rw [show Int.toNat 0 = 0 from rfl]
  refine hs 2 _ rfl _ _ _ _ _ _ _ rfl ?_
  refine hs 3 _ rfl _ _ _ _ _ _ _ rfl ?_
  refine hs 4 _ rfl _ _ _ _ _ _ _ rfl ?_
  rw [hd_r0]
  refine hd_wide_loop hs (by omega) h0 h1 h2 hl (hd_neq g0) (hd_neq g1) ds.length 0 _ (by omega) (hd_old g0) (hd_old g1) hd_new fun h' hh => ?_
  have e : h' = h ++ [(tn, hd_r (ds ++ List.replicate (38 - ds.length) 0))] := hd_eq fun p => by
    rw [hh.2 p, am_g_new, am_g_new]
    by_cases e : p = 1000 + h.length
    · rw [if_pos e, if_pos e]
    · rw [if_neg e, if_neg e, if_neg e]
  rw [e]
  refine hs 19 _ rfl _ _ _ _ _ _ _ rfl ?_
  exact hs 20 _ rfl _ _ _ _ _ (Or.inl ⟨_, rfl⟩) (by omega) (by omega) hP
set_option maxRecDepth 100000 in
set_option maxHeartbeats 4000000 in
theorem hd_init_l1 {G : am_G} {S : ck_SS} {SX : Nat → ck_SX} {Post : am_O → List am_C → Prop} {mc ms : Nat} {cm : Nat → ck_CM} (hs : ck_hs G S SX Post mc ms cm ge_yX12_init_H) {q0 qd td : Nat} {b : Int} {ds : List Int} {h : List am_C} (h1 : td % 100 = 50) (hl : ds.length ≤ 1000) (hd : hd_d ds) (g1 : am_g G h qd = some (td, hd_r ds))
    (fin : ∀ n : Nat, hd_pl ds n → S 25 [some (.ref q0), some (.int (Int32.ofInt b)), some (.ref qd), some (.int (Int32.ofInt (n : Int))), none] [] h 0 0) :
    ∀ (m : Nat), m ≤ ds.length → (∀ (j : Nat) (d : Int), m ≤ j → ds[j]? = some d → d = 0) →
      S 7 [some (.ref q0), some (.int (Int32.ofInt b)), some (.ref qd), some (.int (Int32.ofInt (m : Int))), none] [] h 0 0 := by
  intro m
  induction m with
  | zero =>
    intro hm hz
    refine hs 5 _ rfl _ _ _ _ _ _ _ rfl ?_
    refine hs 6 _ rfl _ _ _ _ _ _ (fun _ => ?_) (fun zq => absurd (hd_c1t (c := 5) (by omega) (by omega) (by omega : ((0 : Nat) : Int) ≤ 0)) zq)
    exact fin 0 ⟨hm, hz, fun z => absurd z (by omega)⟩
  | succ m ih =>
    intro hm hz
    have hdk : ds[m]? = some (ds[m]'(by omega)) := List.getElem?_eq_getElem (by omega)
    generalize ds[m]'(by omega) = d at hdk
    have hdd := hd.at hdk
    by_cases hc : d = 0
    · subst hc
      refine hs 5 _ rfl _ _ _ _ _ _ _ rfl ?_
      refine hs 6 _ rfl _ _ _ _ _ _ (fun zq => absurd (hd_c1z (c := 5) (by omega) (by omega) zq) (by omega : ¬ ((((m + 1 : Nat) : Int)) ≤ 0))) (fun _ => ?_)
      refine hs 7 _ rfl _ _ _ _ _ _ _ rfl ?_
      refine hs 8 _ rfl _ _ _ _ _ _ _ rfl ?_
      refine hs 9 _ rfl _ _ _ _ _ _ _ rfl ?_
      refine hs 10 _ rfl _ _ _ _ _ _ _ hd_sub ?_
      refine hd_A (hs 11 _ rfl) (by decide) (by decide) g1 h1 (j := m) (by omega) (by omega) hdk ?_
      refine hs 12 _ rfl _ _ _ _ _ _ (fun zq => absurd (hd_c1z (c := 1) (by omega) (by omega) zq) (by omega : ¬ ((0 : Int) ≠ 0))) (fun _ => ?_)
      refine hs 13 _ rfl _ _ _ _ _ _ _ (hd_inc rfl) ?_
      refine hs 14 _ rfl _ _ _ _ _ ?_
      rw [show ((m + 1 : Nat) : Int) + -1 = (m : Int) by omega]
      refine ih (by omega) fun j d hj he => ?_
      by_cases e : j = m
      · subst e; rw [hdk] at he; cases he; rfl
      · exact hz j d (by omega) he
    · 
      refine hs 5 _ rfl _ _ _ _ _ _ _ rfl ?_
      refine hs 6 _ rfl _ _ _ _ _ _ (fun zq => absurd (hd_c1z (c := 5) (by omega) (by omega) zq) (by omega : ¬ ((((m + 1 : Nat) : Int)) ≤ 0))) (fun _ => ?_)
      refine hs 7 _ rfl _ _ _ _ _ _ _ rfl ?_
      refine hs 8 _ rfl _ _ _ _ _ _ _ rfl ?_
      refine hs 9 _ rfl _ _ _ _ _ _ _ rfl ?_
      refine hs 10 _ rfl _ _ _ _ _ _ _ hd_sub ?_
      refine hd_A (hs 11 _ rfl) (by decide) (by decide) g1 h1 (j := m) (by omega) (by omega) hdk ?_
      refine hs 12 _ rfl _ _ _ _ _ _ (fun _ => ?_) (fun zq => absurd (hd_c1t (c := 1) (by omega) (by omega) (by omega : d ≠ 0)) zq)
      exact fin (m + 1) ⟨hm, hz, fun _ => ⟨d, hdk, hc⟩⟩
set_option maxRecDepth 100000 in
set_option maxHeartbeats 4000000 in
theorem hd_init_l2 {G : am_G} {S : ck_SS} {SX : Nat → ck_SX} {Post : am_O → List am_C → Prop} {mc ms : Nat} {cm : Nat → ck_CM} (hs : ck_hs G S SX Post mc ms cm ge_yX12_init_H) {q0 qd qn t0 td tn kc nc n : Nat} {b : Int} {v0 : Value} {ds : List Int} (hq : 1000 ≤ qn) (h0 : t0 % 100 = 17) (h1 : td % 100 = 50) (h2 : tn % 100 = 50) (hn : n ≤ ds.length) (hl : ds.length ≤ 1000) (n1 : q0 ≠ qn) (n2 : qd ≠ qn) :
    ∀ (m j : Nat) (h : List am_C) (w : Option Value), j + m = n → am_g G h q0 = some (t0, [v0, .ref qn]) → am_g G h qd = some (td, hd_r ds) → am_g G h qn = some (tn, hd_r (ds.take j ++ List.replicate (n - j) 0)) →
      (∀ (L : List (Option Value)) (h' : List am_C), hd_w G h h' qn (tn, hd_r (ds.take n)) → S 75 L [] h' kc nc) →
      S 52 [some (.ref q0), some (.int (Int32.ofInt b)), some (.ref qd), some (.int (Int32.ofInt (n : Int))), some (.int (Int32.ofInt (j : Int)))] [] h kc nc := by
  intro m
  induction m with
  | zero =>
    intro j h w hj g0 g1 g2 fin
    obtain rfl : j = n := by omega
    refine hs 30 _ rfl _ _ _ _ _ _ _ rfl ?_
    refine hs 31 _ rfl _ _ _ _ _ _ _ rfl ?_
    refine hs 32 _ rfl _ _ _ _ _ _ _ (fun _ => ?_) (fun zq => absurd (hd_c2t (c := 3) (by omega) (by omega) (by omega) (by omega) (by omega : 0 ≤ ((j : Int) - (j : Int)))) zq)
    refine fin _ h ?_
    rw [Nat.sub_self] at g2
    rw [List.replicate_zero, List.append_nil] at g2
    exact hd_w.rf g2
  | succ m ih =>
    intro j h w hj g0 g1 g2 fin
    have hdk : ds[j]? = some (ds[j]'(by omega)) := List.getElem?_eq_getElem (by omega)
    generalize ds[j]'(by omega) = d at hdk
    refine hs 30 _ rfl _ _ _ _ _ _ _ rfl ?_
    refine hs 31 _ rfl _ _ _ _ _ _ _ rfl ?_
    refine hs 32 _ rfl _ _ _ _ _ _ _ (fun zq => absurd (hd_c2z (c := 3) (by omega) (by omega) (by omega) (by omega) zq) (by omega : ¬ (0 ≤ ((j : Int) - (n : Int))))) (fun _ => ?_)
    refine hs 33 _ rfl _ _ _ _ _ _ _ rfl ?_
    refine hs 34 _ rfl _ _ _ _ _ _ _ _ _ g0 (by omega) rfl ?_
    refine hs 35 _ rfl _ _ _ _ _ _ _ rfl ?_
    refine hs 36 _ rfl _ _ _ _ _ _ _ rfl ?_
    refine hs 37 _ rfl _ _ _ _ _ _ _ rfl ?_
    refine hd_A (hs 38 _ rfl) (by decide) (by decide) g1 h1 (j := j) rfl (by omega) hdk ?_
    refine hd_B (hs 39 _ rfl) (by decide) (by decide) hq g2 h2 (j := j) rfl (by omega) (by rw [List.length_append, List.length_take, List.length_replicate]; omega) ?_
    refine hs 40 _ rfl _ _ _ _ _ _ _ (hd_inc rfl) ?_
    refine hs 41 _ rfl _ _ _ _ _ ?_
    rw [hd_fill hdk (by omega)]
    have hw := hd_w.s (c := (tn, hd_r (ds.take (j + 1) ++ List.replicate (n - (j + 1)) 0))) hq g2
    exact ih (j + 1) _ w (by omega) (by rw [hw.ne n1]; exact g0) (by rw [hw.ne n2]; exact g1) hw.at fun L h' hh => fin L h' (hd_w.tr hw hh)
set_option maxRecDepth 100000 in
set_option maxHeartbeats 4000000 in
theorem hd_init_M {l : Launch} {G : am_G} {X : ck_XT} (g : gE l G X) {q0 qd t0 td : Nat} (t0' tn : Nat) {x0 x1 : Value} {b : Int} {ds : List Int} {h : List am_C} (hq : 1000 ≤ q0) (hb : 0 ≤ b ∧ b ≤ 1) (h0 : t0 % 100 = 17) (h0' : t0' % 100 = 17) (h1 : td % 100 = 50) (h2 : tn % 100 = 50) (hl : ds.length ≤ 1000) (hd : hd_d ds) (g0 : am_g G h q0 = some (t0, [x0, x1])) (g1 : am_g G h qd = some (td, hd_r ds)) {mc ms : Nat} (hmc : 1 ≤ mc) (hms : ds.length ≤ ms) {Post : am_O → List am_C → Prop}
    (hP : ∀ (n : Nat) (v : Int), hd_pl ds n → 0 ≤ v → v ≤ 1 → Post (.inl none) (am_s (h ++ [(tn, hd_r (ds.take n))]) q0 (t0', [.int (Int32.ofInt v), .ref (1000 + h.length)]))) :
    am_M l G yX12_init (.code yX12_init prog_15_method_1_code 5 none) 1 20 mc ms [.ref q0, .int (Int32.ofInt b), .ref qd] h Post := by
  refine gh_yX12_init_H g (Nat.le_of_ble_eq_true rfl) fun S SX hs hr hw => ?_
  have hqd : qd ≠ q0 := by
    rintro rfl
    rw [g0] at g1
    have := (Prod.mk.inj (Option.some.inj g1)).1
    omega
  refine hr 0 _ _ _ _ _ q0 t0 t0' _ g0 hq (by omega) ?_
  have hw0 := hd_w.s (c := (t0', [x0, x1])) hq g0
  have k0 := hw0.at
  have k1 := (hw0.ne hqd).trans g1
  have hlen := hw0.1
  have H39 : ∀ (n : Nat) (v : Int), hd_pl ds n → 0 ≤ v → v ≤ 1 → S 39 [some (.ref q0), some (.int (Int32.ofInt b)), some (.ref qd), some (.int (Int32.ofInt (n : Int))), none] [.int (Int32.ofInt v), .ref q0] (am_s h q0 (t0', [x0, x1])) 0 0 := by
    intro n v hn hv1 hv2
    have hnl := hn.1
    have hv : ck_fv 1 (.int (Int32.ofInt v)) := ⟨_, rfl, by rw [hd_oi (by omega) (by omega)]; exact hv1, by rw [hd_oi (by omega) (by omega)]; exact hv2⟩
    refine hs 23 _ rfl _ _ _ _ _ _ _ _ _ hq k0 (by omega) hv ?_
    rw [show [x0, x1].set 0 (.int (Int32.ofInt v)) = [.int (Int32.ofInt v), x1] from rfl]
    have w2 := hd_w.s (c := (t0', [.int (Int32.ofInt v), x1])) hq k0
    have hl2 : (am_s (am_s h q0 (t0', [x0, x1])) q0 (t0', [.int (Int32.ofInt v), x1])).length = h.length := by rw [am_s_len, am_s_len]
    have hne : q0 ≠ 1000 + h.length := hd_neq g0
    have hnd : qd ≠ 1000 + h.length := hd_neq g1
    refine hs 24 _ rfl _ _ _ _ _ _ _ rfl ?_
    refine hs 25 _ rfl _ _ _ _ _ _ _ rfl ?_
    refine hs 26 _ rfl tn _ _ _ _ n _ _ h2 (hd_oi (by omega) (by omega)) (by omega) (by omega) (by omega) ?_
    rw [show Int.toNat 0 = 0 from rfl]
    have j2 := hd_old (c := (tn, List.replicate n (ck_d0 0))) w2.at
    refine hs 27 _ rfl _ _ _ _ _ _ _ _ _ hq j2 (by omega) (Or.inl ⟨_, rfl⟩) ?_
    rw [show ∀ u : Value, [.int (Int32.ofInt v), x1].set 1 u = [.int (Int32.ofInt v), u] from fun _ => rfl]
    refine hs 28 _ rfl _ _ _ _ _ _ _ rfl ?_
    refine hs 29 _ rfl _ _ _ _ _ _ _ rfl ?_
    have w4 := hd_w.s (c := (t0', [.int (Int32.ofInt v), .ref (1000 + (am_s (am_s h q0 (t0', [x0, x1])) q0 (t0', [.int (Int32.ofInt v), x1])).length)])) hq j2
    refine hd_init_l2 hs (qn := 1000 + (am_s (am_s h q0 (t0', [x0, x1])) q0 (t0', [.int (Int32.ofInt v), x1])).length) (by omega) h0' h1 h2 hnl hl (by rw [hl2]; exact hne) (by rw [hl2]; exact hnd) n 0 _ none (by omega) w4.at ?_ ?_ fun L h' hh => ?_
    · rw [w4.ne hqd, am_g_new, if_neg (by rw [hl2]; exact hnd), w2.ne hqd]; exact k1
    · rw [w4.ne (by rw [hl2]; exact fun z => hne z.symm), am_g_new, if_pos rfl, hd_r0]; rfl
    · have e : h' = am_s (h ++ [(tn, hd_r (ds.take n))]) q0 (t0', [.int (Int32.ofInt v), .ref (1000 + h.length)]) := hd_eq fun p => by
        rw [hh.2 p, w4.2 p, am_g_new, w2.2 p, hw0.2 p, am_g_s hq (by rw [List.length_append]; have := am_g_lt hq g0; omega), am_g_new, hl2]
        by_cases e1 : p = q0
        · rw [if_pos e1, if_pos e1, if_neg (by rw [e1]; exact hne)]
        · by_cases e2 : p = 1000 + h.length
          · rw [if_pos e2, if_neg e1, if_pos e2]
          · rw [if_neg e2, if_neg e1, if_neg e2, if_neg e1, if_neg e1, if_neg e1, if_neg e2]
      rw [e]
      exact hs 42 _ rfl _ _ _ _ (by omega) (by omega) (hP n v hn hv1 hv2)
  refine hs 0 _ rfl _ _ _ _ _ _ _ rfl ?_
  refine hs 1 _ rfl _ _ _ _ _ _ rfl (Nat.le_of_ble_eq_true rfl) ?_
  refine hs 2 _ rfl _ _ _ _ _ _ _ rfl ?_
  refine hd_Ln (hs 3 _ rfl) k1 h1 ?_
  refine hs 4 _ rfl _ _ _ _ _ _ _ rfl ?_
  refine hd_init_l1 hs h1 hl hd k1 (fun n hn => ?_) ds.length (Nat.le_refl _) fun j d hj he => by rw [List.getElem?_eq_none hj] at he; cases he
  have hnl := hn.1
  by_cases hb0 : b = 0
  · subst hb0
    refine hs 15 _ rfl _ _ _ _ _ _ _ rfl ?_
    refine hs 16 _ rfl _ _ _ _ _ _ _ rfl ?_
    refine hs 17 _ rfl _ _ _ _ _ _ (fun _ => ?_) (fun zq => absurd (hd_c1t (c := 0) (by omega) (by omega) (by omega : (0 : Int) = 0)) zq)
    refine hs 22 _ rfl _ _ _ _ _ _ _ rfl ?_
    exact H39 n 0 hn (by decide) (by decide)
  · by_cases hn0 : n = 0
    · subst hn0
      refine hs 15 _ rfl _ _ _ _ _ _ _ rfl ?_
      refine hs 16 _ rfl _ _ _ _ _ _ _ rfl ?_
      refine hs 17 _ rfl _ _ _ _ _ _ (fun zq => absurd (hd_c1z (c := 0) (by omega) (by omega) zq) (by omega : ¬ (b = 0))) (fun _ => ?_)
      refine hs 18 _ rfl _ _ _ _ _ _ _ rfl ?_
      refine hs 19 _ rfl _ _ _ _ _ _ (fun _ => ?_) (fun zq => absurd (hd_c1t (c := 5) (by omega) (by omega) (by omega : ((0 : Nat) : Int) ≤ 0)) zq)
      refine hs 22 _ rfl _ _ _ _ _ _ _ rfl ?_
      exact H39 0 0 hn (by decide) (by decide)
    · 
      refine hs 15 _ rfl _ _ _ _ _ _ _ rfl ?_
      refine hs 16 _ rfl _ _ _ _ _ _ _ rfl ?_
      refine hs 17 _ rfl _ _ _ _ _ _ (fun zq => absurd (hd_c1z (c := 0) (by omega) (by omega) zq) (by omega : ¬ (b = 0))) (fun _ => ?_)
      refine hs 18 _ rfl _ _ _ _ _ _ _ rfl ?_
      refine hs 19 _ rfl _ _ _ _ _ _ (fun zq => absurd (hd_c1z (c := 5) (by omega) (by omega) zq) (by omega : ¬ ((n : Int) ≤ 0))) (fun _ => ?_)
      refine hs 20 _ rfl _ _ _ _ _ _ _ rfl ?_
      refine hs 21 _ rfl _ _ _ _ _ ?_
      exact H39 n 1 hn (by decide) (by decide)
end
section
/-! CONTRACTS OF WHAT IS WALKED BY HAND -/
def hd_lessK (t1 t2 : Nat) : ck_KK := (([(0, 99999999999999999999999999999999999999), (0, 99999999999999999999999999999999999999)], [], [(2, 0, 0, t1, (0, 0, (38, []))), (6, 0, 1, t1, (0, 0, (0, [(1, 0)]))), (2, 1, 0, t2, (0, 0, (38, []))), (6, 1, 1, t2, (0, 0, (0, [(1, 1)])))], 2, [(3, 0, (0, [])), (3, 1, (0, [])), (1, 0, (0, []))]), ((0, []), (0, [])), [], [], ([(0, 1)], [(99999999999999999999999999999999999999, [((-1), 0), (1, 1), ((-100000000000000000000000000000000000000), 2)]), (0, [(1, 0), ((-1), 1), (100000000000000000000000000000000000000, 2)])], [], 0, [(1, 0, (0, [(1, 2)]))]), [])
def hd_chgK (t1 t2 : Nat) : ck_KK := (([(0, 99999999999999999999999999999999999999), (0, 99999999999999999999999999999999999999)], [(0, [(1, 0), ((-1), 1)])], [(2, 0, 0, t1, (0, 0, (38, []))), (6, 0, 1, t1, (0, 0, (0, [(1, 0)]))), (2, 1, 0, t2, (0, 0, (38, []))), (6, 1, 1, t2, (0, 0, (0, [(1, 1)])))], 2, [(3, 0, (0, [])), (3, 1, (0, [])), (1, 0, (0, [])), (1, 0, ((-1), []))]), ((0, []), (0, [])), [(t1, 1000)], [], ([], [], [(6, 0, 1, t1, (0, 0, (0, [(1, 0), ((-1), 1)])))], 0, []), [])
def hd_digK (t : Nat) : ck_KK := (([], [], [(2, 0, 0, t, (0, 0, (38, [])))], 1, [(3, 0, (0, []))]), ((0, []), (0, [])), [], [], ([(0, 99999999999999999999999999999999999999)], [], [(6, 0, 1, t, (0, 0, (0, [(1, 0)])))], 0, []), [])
def hd_wideK : ck_KK := (([(1, 36)], [], [(2, 0, 0, 1017, (0, 0, (2, []))), (3, 0, 1, 1017, (3, 1, (0, []))), (2, 1, 0, 42150, (0, 0, (0, [(1, 0)])))], 2, [(3, 0, (0, []))]), ((1, []), (38, [])), [], [], ([(1, 99999999999999999999999999999999999999)], [], [(2, 2, 0, 950, (0, 0, (38, []))), (5, 2, 0, 0, (0, 0, (0, []))), (6, 2, 1, 950, (0, 0, (0, [(1, 1)])))], 1, [(3, 2, (0, []))]), [])
theorem hd_row {G : am_G} {h : List am_C} {r : List Int} {s : List Nat} {i n t : Nat} (h2 : ck_fa (am_g G h) 0 r s (2, i, 0, t, (0, 0, (38, [])))) (h6 : ck_fa (am_g G h) 0 r s (6, i, 1, t, (0, 0, (0, [(1, n)])))) : ∃ (q : Nat) (ds : List Int), s[i]? = some q ∧ am_g G h q = some (t, hd_r ds) ∧ hd_d ds ∧ ds.length = 38 ∧ r[n]? = some (hd_v ds) := by
  obtain ⟨q, vs, a1, a2, a3⟩ := h2
  obtain ⟨q', vs', x1, b1, b2, b3, b4, b5⟩ := h6
  have a1 : s[i]? = some q := a1
  have b1 : s[i]? = some q' := b1
  rw [a1] at b1
  cases b1
  have a2 : am_g G h q = some (t, vs) := a2
  have b2 : am_g G h q = some (t, vs') := b2
  rw [a2] at b2
  cases b2
  obtain ⟨ds, rfl, c1, c2⟩ := hd_of b4
  have a3 := li_k a3
  rw [hd_r_len] at a3
  have b3 := ck_lv1 b3
  rw [b5, c2] at b3
  exact ⟨q, ds, a1, a2, c1, by omega, b3⟩
theorem hd_z {r : List Int} {c : Int} {x : Int32} (h : ck_Lv r (c, []) x.toInt) : x = Int32.ofInt c := by rw [← li_k h, Int32.ofInt_toInt]
theorem hd_less_con {l : Launch} {G : am_G} {X : ck_XT} (g : gE l G X) {t1 t2 : Nat} (h1 : t1 % 100 = 50) (h2 : t2 % 100 = 50) : ck_Con (am_cm l G yX12_isLess (.code yX12_isLess prog_15_method_14_code 5 (some .boolean)) 1 20) G X gT (hd_lessK t1 t2) := by
  intro K r s a h hH hV hC hF hn hS mc ms hmc hms
  obtain ⟨q1, ds, a1, a2, a3, a4, a5⟩ := hd_row (i := 0) (n := 0) (t := t1) (hF _ (by unfold hd_lessK; simp)) (hF _ (by unfold hd_lessK; simp))
  obtain ⟨q2, os, b1, b2, b3, b4, b5⟩ := hd_row (i := 1) (n := 1) (t := t2) (hF _ (by unfold hd_lessK; simp)) (hF _ (by unfold hd_lessK; simp))
  match a, hS with
  | [w1, w2, w3], ⟨⟨p1, c1, c2⟩, ⟨p2, c3, c4⟩, ⟨x3, c5, c6⟩, _⟩ =>
    subst c2 c4 c5
    have c1 : s[0]? = some p1 := c1
    have c3 : s[1]? = some p2 := c3
    rw [a1] at c1; rw [b1] at c3
    cases c1; cases c3
    rw [hd_z c6]
    have hr : r.length = 2 := hV.1.symm
    have e1 : (os.take (38 - 0)) = os := List.take_of_length_le (by omega)
    have gv1 := hd_v_nn a3
    have gv2 := hd_v_lt a3
    have gv3 := hd_v_nn b3
    have gv4 := hd_v_lt b3
    rw [a4] at gv2; rw [b4] at gv4
    have ev : ∀ b : Int, (r ++ [b])[0]? = some (hd_v ds) ∧ (r ++ [b])[1]? = some (hd_v os) ∧ (r ++ [b])[2]? = some b := fun b => ⟨ck_get_app a5, ck_get_app b5, by rw [List.getElem?_append_right (by omega), hr]; rfl⟩
    have fin : ∀ b : Int, 0 ≤ b → b ≤ 1 → (b = 1 → hd_v ds < hd_v os) → (b = 0 → ¬ hd_v ds < hd_v os) → ck_Po G X gT K (hd_lessK t1 t2) r s h (.inl (some (.int (Int32.ofInt b)))) h := by
      intro b hb0 hb1 hx hy
      obtain ⟨v0, v1, v2⟩ := ev b
      refine ⟨hH, ck_Kp.rf, Nat.le_refl _, [b], [], li_in hb0 hb1 li_in0, List.forall_mem_cons.mpr ⟨?_, List.forall_mem_cons.mpr ⟨?_, List.forall_mem_nil _⟩⟩, List.forall_mem_nil _, rfl, ⟨⟨_, rfl, by rw [hd_oi (by omega) (by omega)]; exact ck_Lv.x v2⟩, trivial⟩⟩
      · refine ⟨10 ^ 38 - 1 - hd_v ds + hd_v os - 10 ^ 38 * b, ⟨fun t ht => ?_, ?_⟩, ?_⟩
        · simp at ht
          rw [List.length_append, hr]
          rcases ht with rfl | rfl | rfl <;> exact Nat.le_of_ble_eq_true rfl
        · show _ = (_ : Int) + (-1 * (r ++ [b]).getD 0 0 + (1 * (r ++ [b]).getD 1 0 + (-100000000000000000000000000000000000000 * (r ++ [b]).getD 2 0 + 0)))
          rw [ck_lvk v0, ck_lvk v1, ck_lvk v2]
          omega
        · rcases (by omega : b = 0 ∨ b = 1) with rfl | rfl
          · have := hy rfl; omega
          · have := hx rfl; omega
      · refine ⟨hd_v ds - hd_v os + 10 ^ 38 * b, ⟨fun t ht => ?_, ?_⟩, ?_⟩
        · simp at ht
          rw [List.length_append, hr]
          rcases ht with rfl | rfl | rfl <;> exact Nat.le_of_ble_eq_true rfl
        · show _ = (0 : Int) + (1 * (r ++ [b]).getD 0 0 + (-1 * (r ++ [b]).getD 1 0 + (100000000000000000000000000000000000000 * (r ++ [b]).getD 2 0 + 0)))
          rw [ck_lvk v0, ck_lvk v1, ck_lvk v2]
          omega
        · rcases (by omega : b = 0 ∨ b = 1) with rfl | rfl
          · have := hy rfl; omega
          · have := hx rfl; omega
    refine hd_less_M g (z := 0) h1 h2 a4 b4 a3 b3 (by decide) a2 b2 (fun z => fin 1 (by decide) (by decide) (fun _ => ?_) (fun y => absurd y (by decide))) (fun z => fin 0 (by decide) (by decide) (fun y => absurd y (by decide)) (fun _ => ?_))
    · rw [List.drop_zero, e1] at z; exact z
    · rw [List.drop_zero, e1] at z; exact z
def hd_Tg (t : Nat) : Prop := t = 450 ∨ t = 750 ∨ t = 850 ∨ t = 950
theorem hd_Tg.lk {t : Nat} (h : hd_Tg t) : ck_lk gT t = some (1, 0, 90, [(1, 0, 0, 9)]) ∧ t % 100 = 50 ∧ t < 1000 := by
  rcases h with rfl | rfl | rfl | rfl <;> exact ⟨rfl, rfl, by decide⟩
theorem hd_cey {K : Int32} {g : ck_g} {ds : List Int} (hd : hd_d ds) {lo hi : Int} (h1 : lo ≤ (ds.length : Int)) (h2 : (ds.length : Int) ≤ hi) {t : Nat} (hk : ck_lk gT t = some (1, lo, hi, [(1, 0, 0, 9)])) : ck_ce gT K g t (hd_r ds) := by
  intro d hd9
  rw [hk] at hd9
  cases hd9
  refine ⟨⟨by rw [hd_r_len]; exact h1, by rw [hd_r_len]; exact h2⟩, fun j v hv => ⟨(1, 0, 0, 9), rfl, ?_⟩⟩
  obtain ⟨x, e1, e2, e3⟩ := (hd_to hd).1 j v hv
  exact ⟨x, e1, e2, e3⟩
theorem hd_rdy {X : ck_XT} {K : Int32} {g : ck_g} (hH : ck_HT X gT K g) {q t : Nat} {vs : List Value} (hg : g q = some (t, vs)) {lo hi : Int} (hk : ck_lk gT t = some (1, lo, hi, [(1, 0, 0, 9)])) : ck_dig vs ∧ lo ≤ (vs.length : Int) ∧ (vs.length : Int) ≤ hi := by
  obtain ⟨h1, h2⟩ := (hH.2 q t vs hg).1 _ hk
  refine ⟨fun j v hv => ?_, h1.1, h1.2⟩
  obtain ⟨y, y1, y2⟩ := h2 j v hv
  cases y1
  obtain ⟨x, e1, e2, e3⟩ := y2
  exact ⟨x, e1, e2, e3⟩
theorem hd_change_con {l : Launch} {G : am_G} {X : ck_XT} (g : gE l G X) {t1 t2 : Nat} (h1 : hd_Tg t1) (h2 : t2 % 100 = 50) (h12 : t1 ≠ t2) : ck_Con (am_cm l G yX12_change (.code yX12_change prog_15_method_15_code 7 none) 1 20) G X gT (hd_chgK t1 t2) := by
  intro K r s a h hH hV hC hF hn hS mc ms hmc hms
  obtain ⟨k1, k2, k3⟩ := h1.lk
  obtain ⟨q1, ds, a1, a2, a3, a4, a5⟩ := hd_row (i := 0) (n := 0) (t := t1) (hF _ (by unfold hd_chgK; simp)) (hF _ (by unfold hd_chgK; simp))
  obtain ⟨q2, os, b1, b2, b3, b4, b5⟩ := hd_row (i := 1) (n := 1) (t := t2) (hF _ (by unfold hd_chgK; simp)) (hF _ (by unfold hd_chgK; simp))
  have hq : 1000 ≤ q1 := (hH.2 _ _ _ a2).2.2 (by unfold ck_wr; rw [k1]; rfl)
  have hne : q2 ≠ q1 := by rintro rfl; rw [a2] at b2; exact h12 (Prod.mk.inj (Option.some.inj b2)).1
  match a, hS with
  | [w1, w2, w3, w4], ⟨⟨p1, c1, c2⟩, ⟨p2, c3, c4⟩, ⟨x3, c5, c6⟩, ⟨x4, c7, c8⟩, _⟩ =>
    subst c2 c4 c5 c7
    have c1 : s[0]? = some p1 := c1
    have c3 : s[1]? = some p2 := c3
    rw [a1] at c1; rw [b1] at c3
    cases c1; cases c3
    rw [hd_z c6, hd_z c8]
    have hr : r.length = 2 := hV.1.symm
    have e1 : os.take ds.length = os := List.take_of_length_le (by omega)
    obtain ⟨x9, f1, f2⟩ := hC (0, [(1, 0), (-1, 1)]) (by unfold hd_chgK; simp)
    have f3 : x9 = (0 : Int) + (1 * r.getD 0 0 + (-1 * r.getD 1 0 + 0)) := f1.2
    rw [ck_lvk a5, ck_lvk b5] at f3
    have hsub := hd_chg_sub a3 b3 (by rw [e1]; omega)
    rw [e1] at hsub
    obtain ⟨d1, d2, -⟩ := hd_chg_ok (by_ := -1) (o := 0) a3 b3 (Or.inr ⟨rfl, by decide, by decide⟩)
    refine hd_change_M g (z := 0) hq hne k2 h2 a4 b4 a3 b3 (by decide) (Or.inr rfl) a2 b2 fun h' hh => ?_
    have e2 : hd_chgR (-1) 0 ds os = hd_chg (-1) 0 ds os := rfl
    rw [e2] at hh
    rw [hh.eq hq a2]
    have hp0 : ck_Hp (G, X, gT, K, h, r, s, [(t1, 1000)], []) r s h := ⟨hH, ck_Kp.rf, Nat.le_refl _, ⟨[], (List.append_nil r).symm⟩, [], (List.append_nil s).symm⟩
    have hp := ck_Hp.put hp0 g.2.1 g.2.2.1 (q := q1) (t := t1) (t' := t1) (vs := hd_r ds) (vs' := hd_r (hd_chg (-1) 0 ds os)) a2 hq (by omega) (by omega) (by rw [hd_r_len, hd_r_len, d2]) (Or.inl rfl) (fun g' _ => hd_cey d1 (by omega) (by omega) k1) (Or.inl ⟨rfl, fun j hj => by simp [ck_inM] at hj⟩)
    refine ⟨hp.1, hp.2.1, hp.2.2.1, [], [], li_in0, (fun c hc => nomatch hc), List.forall_mem_cons.mpr ⟨?_, List.forall_mem_nil _⟩, rfl, trivial⟩
    obtain ⟨t3, t4⟩ := hd_to d1
    refine ⟨q1, _, hd_v ds - hd_v os, by rw [List.append_nil]; exact a1, by rw [am_g_s hq (am_g_lt hq a2), if_pos rfl], ⟨fun t ht => ?_, ?_⟩, t3, by rw [t4, hsub]⟩
    · simp at ht
      rw [List.append_nil, hr]
      rcases ht with rfl | rfl <;> exact Nat.le_of_ble_eq_true rfl
    · show _ = (0 : Int) + (1 * (r ++ []).getD 0 0 + (-1 * (r ++ []).getD 1 0 + 0))
      rw [List.append_nil, ck_lvk a5, ck_lvk b5]
      omega
theorem hd_dig_con {G : am_G} {X : ck_XT} {t : Nat} (h1 : hd_Tg t) : ck_Con (ck_lem G) G X gT (hd_digK t) := by
  intro K r s a h hH hV hC hF hn hS mc ms hmc hms
  obtain ⟨k1, k2, k3⟩ := h1.lk
  obtain ⟨q, vs, a1, a2, a3⟩ := hF (2, 0, 0, t, (0, 0, (38, []))) (by unfold hd_digK; simp)
  have a2 : am_g G h q = some (t, vs) := a2
  obtain ⟨b1, -, b2⟩ := hd_rdy hH a2 k1
  obtain ⟨ds, rfl, c1, c2⟩ := hd_of b1
  have a3 := li_k a3
  rw [hd_r_len] at a3
  have gv2 := hd_v_lt c1
  rw [show ds.length = 38 by omega] at gv2
  have hr : r = [] := List.length_eq_zero_iff.mp hV.1.symm
  subst hr
  exact ⟨h, ck_rh.rf _, hH, ck_Kp.rf, Nat.le_refl _, [hd_v ds], [], li_in (hd_v_nn c1) (by omega) li_in0, (fun c hc => nomatch hc), List.forall_mem_cons.mpr ⟨⟨q, _, _, by rw [List.append_nil]; exact a1, a2, ck_Lv.x rfl, b1, c2.symm⟩, List.forall_mem_nil _⟩, rfl, trivial⟩
def li_exp2K (F : li_F) : ck_KK := (([(1, F.2.2.2.2.2)], [], [(2, 0, 0, F.1, (0, 0, (3, []))), (3, 0, 2, F.1, (1, 0, (0, [(1, 0)])))], 1, [(3, 0, (0, []))]), ((0, []), (0, [])), [], [], ([(-2147483648, 2147483647), (10, 24)], [(0, [(-1, 0), (1, 2)])], [(3, 0, 1, F.1, (3, 1, (0, []))), (2, 1, 0, F.2.1, (0, 0, (0, [(1, 2)]))), (6, 1, 4, F.2.1, (0, 0, (0, [(1, 0)])))], 1, []), [])
theorem li_exp2_con {G : am_G} {F : li_F} (hF : F ∈ li_Fs) : ck_Con (ck_lem G) G li_X gT (li_exp2K F) := by
  intro K r s a h hH hV hC hFc hn hS mc ms hmc hms
  obtain ⟨h', hr, k1, k2, k3, q, p, m1, m2, m3, m4, m5⟩ := li_exp_con hF K r s a h hH hV hC hFc hn hS mc ms hmc hms
  exact ⟨h', hr, k1, k2, k3, q, p, m1, m2, fun f hf => m3 f (List.mem_cons_of_mem _ hf), m4, m5⟩
def zr_K : ck_KK := (([(0, 90), (0, 90), (0, 36)], [(0, [((-1), 0), (1, 1), (1, 2)])], [(6, 0, 5, 750, (0, 0, (0, [(1, 0)]))), (3, 1, 1, 1017, (3, 2, (0, []))), (2, 2, 0, 42150, (0, 0, (0, [(1, 2)])))], 3, [(3, 0, (0, [])), (1, 0, (0, [(1, 1)])), (3, 1, (0, []))]), ((0, []), (0, [])), [], [], ([], [], [(6, 0, 5, 750, (0, 0, (0, [(1, 1), (1, 2)])))], 0, []), [])
def z1_K : ck_KK := (([(0, 200)], [], [(6, 0, 5, 750, (0, 0, (0, [(1, 0)])))], 1, [(3, 0, (0, []))]), ((0, []), (0, [])), [], [], ([], [], [(6, 0, 5, 750, (0, 0, (1, [(1, 0)])))], 0, []), [])
def hd_dighK : ck_KK := (([(0, 99999999999999999999999999999999999999)], [], [(6, 0, 1, 850, (0, 0, (0, [(1, 0)])))], 1, [(3, 0, (0, []))]), ((0, []), (0, [])), [], [], ([], [], [], 0, []), [])
theorem zr_con {G : am_G} {X : ck_XT} : ck_Con (ck_lem G) G X gT zr_K := by
  intro K r s a h hH hV hC hF hn hS mc ms hmc hms
  obtain ⟨q, vs, x, a1, a2, a3, a4⟩ := hF (6, 0, 5, 750, (0, 0, (0, [(1, 0)]))) (by unfold zr_K; simp)
  obtain ⟨y, c1, c2⟩ := hC (0, [(-1, 0), (1, 1), (1, 2)]) (by unfold zr_K; simp)
  match r, hV.1 with
  | [x0, x1, x2], _ =>
    have a3 := ck_lv1 a3
    have a3 : some x0 = some x := a3
    have a5 : x0 = x := Option.some.inj a3
    have c3 : y = (0 : Int) + (-1 * x0 + (1 * x1 + (1 * x2 + 0))) := c1.2
    refine ⟨h, ck_rh.rf _, hH, ck_Kp.rf, Nat.le_refl _, [], [], li_in0, (fun c hc => nomatch hc), List.forall_mem_cons.mpr ⟨?_, List.forall_mem_nil _⟩, rfl, trivial⟩
    refine ⟨q, vs, x1 + x2, by rw [List.append_nil]; exact a1, a2, ⟨fun t ht => ?_, ?_⟩, fun k v hk hv => a4 k v (by omega) hv⟩
    · simp at ht
      rcases ht with rfl | rfl <;> exact Nat.le_of_ble_eq_true rfl
    · show _ = (0 : Int) + (1 * x1 + (1 * x2 + 0))
      omega
theorem z1_con {G : am_G} {X : ck_XT} : ck_Con (ck_lem G) G X gT z1_K := by
  intro K r s a h hH hV hC hF hn hS mc ms hmc hms
  obtain ⟨q, vs, x, a1, a2, a3, a4⟩ := hF (6, 0, 5, 750, (0, 0, (0, [(1, 0)]))) (by unfold z1_K; simp)
  match r, hV.1 with
  | [x0], _ =>
    have a3 := ck_lv1 a3
    have a3 : some x0 = some x := a3
    have a5 : x0 = x := Option.some.inj a3
    refine ⟨h, ck_rh.rf _, hH, ck_Kp.rf, Nat.le_refl _, [], [], li_in0, (fun c hc => nomatch hc), List.forall_mem_cons.mpr ⟨?_, List.forall_mem_nil _⟩, rfl, trivial⟩
    refine ⟨q, vs, x0 + 1, by rw [List.append_nil]; exact a1, a2, ⟨fun t ht => ?_, ?_⟩, fun k v hk hv => a4 k v (by omega) hv⟩
    · simp at ht
      rcases ht with rfl
      exact Nat.le_of_ble_eq_true rfl
    · show _ = (1 : Int) + (1 * x0 + 0)
      omega
theorem hd_digh_con {G : am_G} {X : ck_XT} : ck_Con (ck_lem G) G X gT hd_dighK := by
  intro K r s a h hH hV hC hF hn hS mc ms hmc hms
  exact ⟨h, ck_rh.rf _, hH, ck_Kp.rf, Nat.le_refl _, [], [], li_in0, (fun c hc => nomatch hc), List.forall_mem_nil _, rfl, trivial⟩
end
section
/-! NUM: WHAT IS KEPT -/
theorem li_X.tr2 {g g' : ck_g} (e : ∀ (q t : Nat) (vs : List Value), 40000 ≤ t → t ≠ 42150 → t ≠ 42350 → (g' q = some (t, vs) ↔ g q = some (t, vs))) (ht : li_top g') (h : li_X g) : li_X g' := by
  obtain ⟨h1, h2, h3, h4, -⟩ := h
  have hF : ∀ F ∈ li_Fs, F.1 ≠ 42150 ∧ F.1 ≠ 42350 ∧ F.2.1 ≠ 42150 ∧ F.2.1 ≠ 42350 := by decide
  have hok : ∀ F ∈ li_Fs, ∀ vs : List Value, li_ok g F.2.1 vs → li_ok g' F.2.1 vs := by
    intro F hF9 vs h
    obtain ⟨mc, n, r, a1, a2, a3⟩ := h
    exact ⟨mc, n, r, a1, a2, a3.imp (fun z => ⟨(e _ _ _ (by decide) (by decide) (by decide)).mpr z.1, z.2⟩) fun ⟨ws, z1, z2⟩ => ⟨ws, (e _ _ _ (li_Fs_ge hF9).2.1 (hF F hF9).2.2.1 (hF F hF9).2.2.2).mpr z1, z2⟩⟩
  refine ⟨fun F hF9 q vs hq => hok F hF9 vs (h1 F hF9 q vs ((e _ _ _ (li_Fs_ge hF9).1 (hF F hF9).1 (hF F hF9).2.1).mp hq)), ?_, ?_, ?_, ht⟩
  · intro q q' t t' r tr vs vs' ws f1 f2 g1 g2 g3 g4 g5 g6 g7
    obtain ⟨F1, e1, rfl⟩ := f1
    obtain ⟨F2, e2, rfl⟩ := f2
    have a1 := (e _ _ _ (li_Fs_ge e1).1 (hF F1 e1).1 (hF F1 e1).2.1).mp g1
    have a2 := (e _ _ _ (li_Fs_ge e2).1 (hF F2 e2).1 (hF F2 e2).2.1).mp g2
    obtain ⟨mc9, n9, r9, rfl, -, b2⟩ := h1 F1 e1 q vs a1
    have g3 : some (Value.ref r9) = some (.ref r) := g3
    cases g3
    rcases b2 with ⟨b2, -⟩ | ⟨w9, b2, -⟩
    · have := (e _ _ _ (by decide) (by decide) (by decide)).mpr b2
      rw [g5] at this
      exact absurd (Prod.mk.inj (Option.some.inj this)).1 g7
    · have := (e _ _ _ (li_Fs_ge e1).2.1 (hF F1 e1).2.2.1 (hF F1 e1).2.2.2).mpr b2
      rw [g5] at this
      obtain ⟨b3, b4⟩ := Prod.mk.inj (Option.some.inj this)
      subst b4
      exact h2 q q' F1.1 F2.1 _ tr _ vs' _ ⟨F1, e1, rfl⟩ ⟨F2, e2, rfl⟩ a1 a2 rfl g4 (by rw [b2, b3]) g6 g7
  · intro q r mc n ws g1 g2
    exact (h3 q r mc n ws ((e _ _ _ (by decide) (by decide) (by decide)).mp g1) ((e _ _ _ (by decide) (by decide) (by decide)).mp g2)).tr fun q vs => (e q _ vs (by decide) (by decide) (by decide)).symm
  · intro t q q' vs vs' ht g1 g2
    have h40 : 40000 ≤ t ∧ t ≠ 42150 ∧ t ≠ 42350 := by rcases ht with rfl | rfl <;> decide
    exact h4 t q q' vs vs' ht ((e _ _ _ h40.1 h40.2.1 h40.2.2).mp g1) ((e _ _ _ h40.1 h40.2.1 h40.2.2).mp g2)
/-- a row of digits without needless zeros is made -/
theorem hd_pub {w : ck_W} {r : List Int} {s : List Nat} {h : List am_C} (H : ck_Hp w r s h) (hX : w.2.1 = li_X) (hT : w.2.2.1 = gT) {t : Nat} {mx : Int} (ht : (t = 42150 ∧ mx = 36) ∨ (t = 42350 ∧ mx = 80)) {ds : List Int} (hd : hd_d ds) (hl : (ds.length : Int) ≤ mx) (hz : ∀ d : Int, ds.getLast? = some d → d ≠ 0) : ck_Hp w r s (h ++ [(t, hd_r ds)]) := by
  obtain ⟨⟨⟨h0, hXg⟩, h1⟩, h2, h3, h4, h5⟩ := H
  rw [hX] at hXg
  have ht4 : 40000 ≤ t ∧ t ≠ 999 := by rcases ht with ⟨rfl, -⟩ | ⟨rfl, -⟩ <;> decide
  have hlk : ck_lk gT t = some (1, 0, mx, [(1, 0, 0, 9)]) := by rcases ht with ⟨rfl, rfl⟩ | ⟨rfl, rfl⟩ <;> rfl
  have hgs : ∀ m, am_g w.1 (h ++ [(t, hd_r ds)]) m = if m = 1000 + h.length then some (t, hd_r ds) else am_g w.1 h m := fun m => am_g_new
  have hno : am_g w.1 h (1000 + h.length) = none := by unfold am_g; rw [if_neg (by omega), List.getElem?_eq_none (by omega)]
  have hfw : ∀ (q1 t1 : Nat) (vs1 : List Value), am_g w.1 h q1 = some (t1, vs1) → am_g w.1 (h ++ [(t, hd_r ds)]) q1 = some (t1, vs1) := by
    intro q1 t1 vs1 e
    rw [hgs, if_neg (fun z => by rw [z, hno] at e; cases e)]
    exact e
  have htop : li_top (am_g w.1 (h ++ [(t, hd_r ds)])) := by
    intro q1 t1 vs1 ht1 e v hv
    rw [hgs] at e
    by_cases z : q1 = 1000 + h.length
    · rw [if_pos z] at e
      cases e
      unfold hd_r at hv
      rw [List.getLast?_map] at hv
      cases hg : ds.getLast? with
      | none => rw [hg] at hv; cases hv
      | some d =>
        rw [hg] at hv
        cases hv
        intro z9
        have hdd := hd d (List.mem_of_getLast? hg)
        have z9 : Int32.ofInt d = 0 := by injection z9
        have := hd_oi (z := d) (by omega) (by omega)
        rw [z9, Int32.toInt_zero] at this
        exact hz d hg this.symm
    · rw [if_neg z] at e
      exact hXg.2.2.2.2 q1 t1 vs1 ht1 e v hv
  have hnew : li_X (am_g w.1 (h ++ [(t, hd_r ds)])) := by
    refine li_X.tr2 (fun q1 t1 vs1 e1 e2 e3 => ⟨fun z => ?_, hfw q1 t1 vs1⟩) htop hXg
    rw [hgs] at z
    by_cases e : q1 = 1000 + h.length
    · rw [if_pos e] at z
      have : t = t1 := (Prod.mk.inj (Option.some.inj z)).1
      rcases ht with ⟨rfl, -⟩ | ⟨rfl, -⟩
      · exact absurd this.symm e2
      · exact absurd this.symm e3
    · rw [if_neg e] at z
      exact z
  refine ⟨⟨⟨by rw [hgs, if_neg (by omega)]; exact h0, by rw [hX]; exact hnew⟩, fun q1 t1 vs1 e1 => ?_⟩, fun q1 t1 vs1 e1 => ?_, by rw [List.length_append]; omega, h4, h5⟩
  · rw [hgs] at e1
    by_cases e : q1 = 1000 + h.length
    · rw [if_pos e] at e1
      cases e1
      refine ⟨?_, trivial, fun _ => by omega⟩
      rw [hT]
      exact hd_cey hd (by omega) hl hlk
    · rw [if_neg e] at e1
      obtain ⟨f1, f2, f3⟩ := h1 q1 t1 vs1 e1
      refine ⟨fun d hd => ⟨(f1 d hd).1, fun j v hv => ?_⟩, trivial, f3⟩
      obtain ⟨y, y1, y2⟩ := (f1 d hd).2 j v hv
      exact ⟨y, y1, y2.ex fun a b c d1 d2 => ⟨c, hfw a b c d1, rfl⟩⟩
  · have hne : q1 ≠ 1000 + h.length := fun e => by
      have := h2 q1 t1 vs1 e1
      rw [e, hno] at this
      rcases this with ⟨-, _, _, z, -⟩ | ⟨_, z, -⟩ <;> cases z
    rw [hgs, if_neg hne]
    exact h2 q1 t1 vs1 e1
end
section
/-! WIDE -/
theorem hd_wide_con {l : Launch} {G : am_G} {X : ck_XT} (g : gM l G X) : ck_Con (am_cm l G yX12_wide (.code yX12_wide prog_15_method_12_code 3 (some (.array .int))) 1 20) G X gT hd_wideK := by
  obtain ⟨ge, rfl, -⟩ := g
  intro K r s a h hH hV hC hF hn hS mc ms hmc hms
  have hmc' : (mc : Int) = 1 := li_k hmc
  have hms' : (ms : Int) = 38 := li_k hms
  obtain ⟨q0, vs, a1, a2, a3⟩ := hF (2, 0, 0, 1017, (0, 0, (2, []))) (by unfold hd_wideK; simp)
  obtain ⟨q0', vs', v1, b1, b2, b3, qd, b4, b5⟩ := hF (3, 0, 1, 1017, (3, 1, (0, []))) (by unfold hd_wideK; simp)
  obtain ⟨qd', wd, c1, c2, c3⟩ := hF (2, 1, 0, 42150, (0, 0, (0, [(1, 0)]))) (by unfold hd_wideK; simp)
  have a1 : s[0]? = some q0 := a1
  have b1 : s[0]? = some q0' := b1
  rw [a1] at b1; cases b1
  have a2 : am_g G h q0 = some (1017, vs) := a2
  have b2 : am_g G h q0 = some (1017, vs') := b2
  rw [a2] at b2; cases b2
  have b4 : s[1]? = some qd := b4
  have c1 : s[1]? = some qd' := c1
  rw [b4] at c1; cases c1
  subst b5
  have c2 : am_g G h qd = some (42150, wd) := c2
  have hvs : ∃ v0, vs = [v0, .ref qd] := by
    have := li_k a3
    match vs, this with
    | [u0, u1], _ => cases b3; exact ⟨u0, rfl⟩
  obtain ⟨v0, rfl⟩ := hvs
  obtain ⟨d1, d2, d3⟩ := hd_rdy hH c2 (lo := 0) (hi := 36) rfl
  obtain ⟨ds, rfl, e1, e2⟩ := hd_of d1
  rw [hd_r_len] at d3 c3
  match r, hV.1 with
  | [n0], _ =>
    have c3 := ck_lv1 c3
    have c3 : some n0 = some (ds.length : Int) := c3
    cases c3
    obtain ⟨i1, i2⟩ := li_in' hV
    match a, hS with
    | [w1], ⟨⟨p1, f1, f2⟩, _⟩ =>
      subst f2
      have f1 : s[0]? = some p1 := f1
      rw [a1] at f1; cases f1
      -- the last one isn't 0
      have htop := hH.1.2.2.2.2.2 qd 42150 _ (Or.inl rfl) c2
      have hpos : 1 ≤ hd_v (ds ++ List.replicate (38 - ds.length) 0) := by
        rw [hd_v_app]
        have hz : hd_v (List.replicate (38 - ds.length) (0 : Int)) = 0 := hd_v_zero fun d hd => List.eq_of_mem_replicate hd
        rw [hz, Int.mul_zero, Int.add_zero]
        have hj : ds[ds.length - 1]? = some (ds[ds.length - 1]'(by omega)) := List.getElem?_eq_getElem (by omega)
        have hl : ds.getLast? = some (ds[ds.length - 1]'(by omega)) := by rw [List.getLast?_eq_getElem?, hj]
        have := hd_v_at e1 hj (fun z => by
          refine htop (.int 0) ?_ rfl
          unfold hd_r
          rw [List.getLast?_map, hl, z]
          rfl)
        have h9 : (0 : Int) < 10 ^ (ds.length - 1) := Int.pow_pos (by decide)
        omega
      have hdd : hd_d (ds ++ List.replicate (38 - ds.length) 0) := e1.app fun d hd => by rw [List.eq_of_mem_replicate hd]; decide
      have hll : (ds ++ List.replicate (38 - ds.length) (0 : Int)).length = 38 := by rw [List.length_append, List.length_replicate]; omega
      have hlt := hd_v_lt hdd
      rw [hll] at hlt
      refine hd_wide_M ge 950 (by decide) (by decide) (by decide) (by omega) a2 c2 (by omega) (by omega) ?_
      have hp0 : ck_Hp (G, li_X, gT, K, h, [(ds.length : Int)], s, [], []) [(ds.length : Int)] s h := ⟨hH, ck_Kp.rf, Nat.le_refl _, ⟨[], (List.append_nil _).symm⟩, [], (List.append_nil s).symm⟩
      have hp := ck_Hp.make hp0 li_XO li_X0 (t := 950) (vs := hd_r (ds ++ List.replicate (38 - ds.length) 0)) (by decide) (fun g' => hd_cey hdd (lo := 0) (hi := 90) (by omega) (by omega) rfl)
      have hq : (s ++ [1000 + h.length])[2]? = some (1000 + h.length) := by
        have hn : s.length = 2 := hn
        rw [List.getElem?_append_right (by omega), hn]
        rfl
      obtain ⟨t3, t4⟩ := hd_to hdd
      refine ⟨hp.1, hp.2.1, hp.2.2.1, [hd_v (ds ++ List.replicate (38 - ds.length) 0)], [1000 + h.length], li_in hpos (by omega) li_in0, (fun c hc => nomatch hc), List.forall_mem_cons.mpr ⟨?_, List.forall_mem_cons.mpr ⟨?_, List.forall_mem_cons.mpr ⟨?_, List.forall_mem_nil _⟩⟩⟩, rfl, ⟨⟨_, hq, rfl⟩, trivial⟩⟩
      · exact ⟨_, _, hq, hd_new, by rw [hd_r_len, hll]; exact ck_Lv.k _ 38⟩
      · exact ⟨_, hq, Nat.le_refl _⟩
      · exact ⟨_, _, _, hq, hd_new, ck_Lv.x rfl, t3, t4.symm⟩
end
section
/-! INIT -/
def hd_initP (ts : Nat) (mx : Int) : ck_KK := (([(0, 1), (0, mx)], [], [(2, 0, 0, 17, (0, 0, (2, []))), (2, 1, 0, ts, (0, 0, (0, [(1, 1)])))], 2, [(3, 0, (0, [])), (1, 0, (0, [(1, 0)])), (3, 1, (0, []))]), ((1, []), (0, [(1, 1)])), [], [17], ([], [], [(2, 0, 0, 1017, (0, 0, (2, [])))], 0, []), [])
def hd_initQ (ts : Nat) (mx : Int) : ck_KK := (([(0, 1), (0, mx)], [], [(2, 0, 0, 17, (0, 0, (2, []))), (2, 1, 0, ts, (0, 0, (0, [(1, 1)])))], 2, [(3, 0, (0, [])), (1, 0, (0, [(1, 0)])), (3, 1, (0, []))]), ((1, []), (0, [(1, 1)])), [], [17], ([], [], [(2, 0, 0, 1117, (0, 0, (2, [])))], 0, []), [])
def hd_initR (ts : Nat) (mx : Int) : ck_KK := (([(0, 1), (0, mx)], [], [(2, 0, 0, 17, (0, 0, (2, []))), (2, 1, 0, ts, (0, 0, (0, [(1, 1)])))], 2, [(3, 0, (0, [])), (1, 0, (0, [(1, 0)])), (3, 1, (0, []))]), ((1, []), (0, [(1, 1)])), [], [17], ([(0, 1), (0, mx)], [(0, [(1, 1), ((-1), 3)])], [(2, 0, 0, 217, (0, 0, (2, []))), (3, 0, 0, 217, (1, 0, (0, [(1, 2)]))), (3, 0, 1, 217, (3, 2, (0, []))), (2, 2, 0, 450, (0, 0, (0, [(1, 3)]))), (5, 2, 0, 0, (0, 0, (0, []))), (6, 2, 9, 450, (0, 0, (0, [])))], 1, []), [])
theorem hd_pl_last {ds : List Int} {n : Nat} (h : hd_pl ds n) (d : Int) (e : (ds.take n).getLast? = some d) : d ≠ 0 := by
  by_cases hn : n = 0
  · subst hn; rw [List.take_zero] at e; cases e
  · obtain ⟨d', h1, h2⟩ := h.2.2 (by omega)
    rw [List.getLast?_eq_getElem?, List.length_take, Nat.min_eq_left h.1, List.getElem?_take_of_lt (by omega), h1] at e
    cases e
    exact h2
/-- the walk, at what a contract gives -/
theorem hd_init_core {l : Launch} {G : am_G} (g : gE l G li_X) {ts : Nat} {mx lo hi : Int} (hk : ck_lk gT ts = some (1, lo, hi, [(1, 0, 0, 9)])) (hts : ts % 100 = 50) (hmx : mx ≤ 90) (t0' tn : Nat) (h0' : t0' % 100 = 17) (h2 : tn % 100 = 50)
    {K : Int32} {r : List Int} {s : List Nat} {a : List Value} {h : List am_C} (hH : ck_HT li_X gT K (am_g G h)) (hV : ck_In [(0, 1), (0, mx)] r) (hF0 : ck_fa (am_g G h) 0 r s (2, 0, 0, 17, (0, 0, (2, [])))) (hF1 : ck_fa (am_g G h) 0 r s (2, 1, 0, ts, (0, 0, (0, [(1, 1)])))) (hS : ck_stk r s [(3, 0, (0, [])), (1, 0, (0, [(1, 0)])), (3, 1, (0, []))] a) {mc ms : Nat} (hmc : (mc : Int) = 1) (hms : ck_Lv r (0, [(1, 1)]) (ms : Int)) {Post : am_O → List am_C → Prop}
    (hP : ∀ (q0 : Nat) (vs : List Value) (ds : List Int) (n : Nat) (v : Int), s[0]? = some q0 → 1000 ≤ q0 → am_g G h q0 = some (17, vs) → vs.length = 2 → hd_d ds → hd_pl ds n → (ds.length : Int) ≤ mx → r[1]? = some (ds.length : Int) → 0 ≤ v → v ≤ 1 → Post (.inl none) (am_s (h ++ [(tn, hd_r (ds.take n))]) q0 (t0', [.int (Int32.ofInt v), .ref (1000 + h.length)]))) :
    am_M l G yX12_init (.code yX12_init prog_15_method_1_code 5 none) 1 20 mc ms a h Post := by
  obtain ⟨q0, vs, a1, a2, a3⟩ := hF0
  obtain ⟨qd, wd, c1, c2, c3⟩ := hF1
  have a1 : s[0]? = some q0 := a1
  have a2 : am_g G h q0 = some (17, vs) := a2
  have c1 : s[1]? = some qd := c1
  have c2 : am_g G h qd = some (ts, wd) := c2
  have hl2 := li_k a3
  obtain ⟨d1, d2, d3⟩ := hd_rdy hH c2 hk
  obtain ⟨ds, rfl, e1, e2⟩ := hd_of d1
  rw [hd_r_len] at d3 c3
  have c3 := ck_lv1 c3
  have hms := ck_lv1 hms
  rw [c3] at hms
  have hms : (ds.length : Int) = ms := Option.some.inj hms
  have hq : 1000 ≤ q0 := (hH.2 _ _ _ a2).2.2 rfl
  have hdm : (ds.length : Int) ≤ mx := (hV.2 1 0 mx _ rfl c3).2
  match a, hS with
  | [w1, w2, w3], ⟨⟨p1, f1, f2⟩, ⟨x2, f3, f4⟩, ⟨p3, f5, f6⟩, _⟩ =>
    subst f2 f3 f6
    have f1 : s[0]? = some p1 := f1
    have f5 : s[1]? = some p3 := f5
    rw [a1] at f1; cases f1
    rw [c1] at f5; cases f5
    have f4 := ck_lv1 f4
    obtain ⟨i1, i2⟩ := hV.2 0 0 1 _ rfl f4
    rw [← Int32.ofInt_toInt x2]
    have hl2 : vs.length = 2 := by omega
    match vs, hl2 with
    | [u0, u1], _ =>
      exact hd_init_M g t0' tn hq ⟨i1, i2⟩ (by decide) h0' hts h2 (by omega) e1 a2 c2 (by omega) (by omega) fun n v hn hv1 hv2 => hP q0 _ ds n v a1 hq a2 rfl e1 hn hdm c3 hv1 hv2
end
section
/-! INITS -/
theorem hd_initP_con {l : Launch} {G : am_G} {X : ck_XT} (g : gM l G X) {ts : Nat} {mx lo hi : Int} (hk : ck_lk gT ts = some (1, lo, hi, [(1, 0, 0, 9)])) (hts : ts % 100 = 50) (hmx : mx ≤ 36) : ck_Con (am_cm l G yX12_init (.code yX12_init prog_15_method_1_code 5 none) 1 20) G X gT (hd_initP ts mx) := by
  obtain ⟨ge, rfl, -⟩ := g
  intro K r s a h hH hV hC hF hn hS mc ms hmc hms
  refine hd_init_core ge hk hts (by omega) 1017 42150 (by decide) (by decide) hH hV (hF _ (by unfold hd_initP; simp)) (hF _ (by unfold hd_initP; simp)) hS (li_k hmc) hms fun q0 vs ds n v a1 hq a2 hvs hd hp hl hr1 hv1 hv2 => ?_
  have hp0 : ck_Hp (G, li_X, gT, K, h, r, s, [], [(q0, 17)]) r s h := ⟨hH, ck_Kp.rf, Nat.le_refl _, ⟨[], (List.append_nil r).symm⟩, [], (List.append_nil s).symm⟩
  have hlt : (ds.take n).length ≤ ds.length := by rw [List.length_take]; omega
  have hp1 := hd_pub hp0 rfl rfl (t := 42150) (mx := 36) (Or.inl ⟨rfl, rfl⟩) (hd.take n) (by omega) (hd_pl_last hp)
  have hp2 := ck_Hp.put hp1 li_XO li_X0 (q := q0) (t := 17) (t' := 1017) (vs := vs) (vs' := [.int (Int32.ofInt v), .ref (1000 + h.length)]) (hd_old a2) hq (by decide) (by decide) (by rw [hvs]; rfl) (Or.inr (by decide)) (fun g' hx d hd9 => by
      have hlk : ck_lk gT 1017 = some (0, 2, 2, [(1, 0, 0, 1), (3, 42150, 0, 0)]) := rfl
      have hd9 : ck_lk gT 1017 = some d := hd9
      rw [hlk] at hd9
      cases hd9
      refine ⟨⟨(by decide : (2 : Int) ≤ ((2 : Nat) : Int)), (by decide : ((2 : Nat) : Int) ≤ 2)⟩, fun j u hu => ?_⟩
      match j, hu with
      | 0, hu => cases hu; exact ⟨_, rfl, _, rfl, by rw [hd_oi (by omega) (by omega)]; exact hv1, by rw [hd_oi (by omega) (by omega)]; exact hv2⟩
      | 1, hu =>
        cases hu
        obtain ⟨w9, x1, -⟩ := hx _ _ _ hd_new (by decide)
        exact ⟨_, rfl, by decide, _, _, rfl, x1⟩
      | j + 2, hu => cases hu) (Or.inr (Or.inr List.mem_cons_self))
  obtain ⟨u9, hs9⟩ : ∃ b, s = [q0, b] := by
    match s, hn, a1 with
    | [a, b], _, a1 => cases a1; exact ⟨b, rfl⟩
  subst hs9
  refine ⟨hp2.1, hp2.2.1, hp2.2.2.1, [], [], li_in0, (fun c hc => nomatch hc), List.forall_mem_cons.mpr ⟨?_, List.forall_mem_nil _⟩, rfl, trivial⟩
  exact ⟨q0, _, rfl, by rw [am_g_s hq (by rw [List.length_append]; have := am_g_lt hq a2; omega), if_pos rfl], ck_Lv.k _ 2⟩
theorem hd_initQ_con {l : Launch} {G : am_G} {X : ck_XT} (g : gM l G X) {ts : Nat} {mx lo hi : Int} (hk : ck_lk gT ts = some (1, lo, hi, [(1, 0, 0, 9)])) (hts : ts % 100 = 50) (hmx : mx ≤ 80) : ck_Con (am_cm l G yX12_init (.code yX12_init prog_15_method_1_code 5 none) 1 20) G X gT (hd_initQ ts mx) := by
  obtain ⟨ge, rfl, -⟩ := g
  intro K r s a h hH hV hC hF hn hS mc ms hmc hms
  refine hd_init_core ge hk hts (by omega) 1117 42350 (by decide) (by decide) hH hV (hF _ (by unfold hd_initQ; simp)) (hF _ (by unfold hd_initQ; simp)) hS (li_k hmc) hms fun q0 vs ds n v a1 hq a2 hvs hd hp hl hr1 hv1 hv2 => ?_
  have hp0 : ck_Hp (G, li_X, gT, K, h, r, s, [], [(q0, 17)]) r s h := ⟨hH, ck_Kp.rf, Nat.le_refl _, ⟨[], (List.append_nil r).symm⟩, [], (List.append_nil s).symm⟩
  have hlt : (ds.take n).length ≤ ds.length := by rw [List.length_take]; omega
  have hp1 := hd_pub hp0 rfl rfl (t := 42350) (mx := 80) (Or.inr ⟨rfl, rfl⟩) (hd.take n) (by omega) (hd_pl_last hp)
  have hp2 := ck_Hp.put hp1 li_XO li_X0 (q := q0) (t := 17) (t' := 1117) (vs := vs) (vs' := [.int (Int32.ofInt v), .ref (1000 + h.length)]) (hd_old a2) hq (by decide) (by decide) (by rw [hvs]; rfl) (Or.inr (by decide)) (fun g' hx d hd9 => by
      have hlk : ck_lk gT 1117 = some (0, 2, 2, [(1, 0, 0, 1), (3, 42350, 0, 0)]) := rfl
      have hd9 : ck_lk gT 1117 = some d := hd9
      rw [hlk] at hd9
      cases hd9
      refine ⟨⟨(by decide : (2 : Int) ≤ ((2 : Nat) : Int)), (by decide : ((2 : Nat) : Int) ≤ 2)⟩, fun j u hu => ?_⟩
      match j, hu with
      | 0, hu => cases hu; exact ⟨_, rfl, _, rfl, by rw [hd_oi (by omega) (by omega)]; exact hv1, by rw [hd_oi (by omega) (by omega)]; exact hv2⟩
      | 1, hu =>
        cases hu
        obtain ⟨w9, x1, -⟩ := hx _ _ _ hd_new (by decide)
        exact ⟨_, rfl, by decide, _, _, rfl, x1⟩
      | j + 2, hu => cases hu) (Or.inr (Or.inr List.mem_cons_self))
  obtain ⟨u9, hs9⟩ : ∃ b, s = [q0, b] := by
    match s, hn, a1 with
    | [a, b], _, a1 => cases a1; exact ⟨b, rfl⟩
  subst hs9
  refine ⟨hp2.1, hp2.2.1, hp2.2.2.1, [], [], li_in0, (fun c hc => nomatch hc), List.forall_mem_cons.mpr ⟨?_, List.forall_mem_nil _⟩, rfl, trivial⟩
  exact ⟨q0, _, rfl, by rw [am_g_s hq (by rw [List.length_append]; have := am_g_lt hq a2; omega), if_pos rfl], ck_Lv.k _ 2⟩
theorem hd_initR_con {l : Launch} {G : am_G} {X : ck_XT} (g : gM l G X) {ts : Nat} {mx lo hi : Int} (hk : ck_lk gT ts = some (1, lo, hi, [(1, 0, 0, 9)])) (hts : ts % 100 = 50) (hmx : mx ≤ 90) : ck_Con (am_cm l G yX12_init (.code yX12_init prog_15_method_1_code 5 none) 1 20) G X gT (hd_initR ts mx) := by
  obtain ⟨ge, rfl, -⟩ := g
  intro K r s a h hH hV hC hF hn hS mc ms hmc hms
  refine hd_init_core ge hk hts hmx 217 450 (by decide) (by decide) hH hV (hF _ (by unfold hd_initR; simp)) (hF _ (by unfold hd_initR; simp)) hS (li_k hmc) hms fun q0 vs ds n v a1 hq a2 hvs hd hp hl hr1 hv1 hv2 => ?_
  have hp0 : ck_Hp (G, li_X, gT, K, h, r, s, [], [(q0, 17)]) r s h := ⟨hH, ck_Kp.rf, Nat.le_refl _, ⟨[], (List.append_nil r).symm⟩, [], (List.append_nil s).symm⟩
  have hnl := hp.1
  have hlt : (ds.take n).length = n := by rw [List.length_take]; omega
  have hp1 := ck_Hp.make hp0 li_XO li_X0 (t := 450) (vs := hd_r (ds.take n)) (by decide) (fun g' => hd_cey (hd.take n) (lo := 0) (hi := 90) (by omega) (by omega) rfl)
  have hp2 := ck_Hp.put hp1 li_XO li_X0 (q := q0) (t := 17) (t' := 217) (vs := vs) (vs' := [.int (Int32.ofInt v), .ref (1000 + h.length)]) (hd_old a2) hq (by decide) (by decide) (by rw [hvs]; rfl) (Or.inr (by decide)) (fun g' hx d hd9 => by
      have hlk : ck_lk gT 217 = none := rfl
      have hd9 : ck_lk gT 217 = some d := hd9
      rw [hlk] at hd9
      cases hd9) (Or.inr (Or.inr List.mem_cons_self))
  obtain ⟨u9, hs9⟩ : ∃ b, s = [q0, b] := by
    match s, hn, a1 with
    | [a, b], _, a1 => cases a1; exact ⟨b, rfl⟩
  subst hs9
  obtain ⟨n0, n1, hr9⟩ : ∃ a b, r = [a, b] := by
    match r, hV.1 with
    | [a, b], _ => exact ⟨a, b, rfl⟩
  subst hr9
  cases hr1
  have hc0 : am_g G (am_s (h ++ [(450, hd_r (ds.take n))]) q0 (217, [.int (Int32.ofInt v), .ref (1000 + h.length)])) q0 = some (217, [.int (Int32.ofInt v), .ref (1000 + h.length)]) := by rw [am_g_s hq (by rw [List.length_append]; have := am_g_lt hq a2; omega), if_pos rfl]
  have hc1 : am_g G (am_s (h ++ [(450, hd_r (ds.take n))]) q0 (217, [.int (Int32.ofInt v), .ref (1000 + h.length)])) (1000 + h.length) = some (450, hd_r (ds.take n)) := by rw [am_g_s hq (by rw [List.length_append]; have := am_g_lt hq a2; omega), if_neg (fun z => hd_neq a2 z.symm), hd_new]
  refine ⟨hp2.1, hp2.2.1, hp2.2.2.1, [v, (n : Int)], [1000 + h.length], li_in hv1 hv2 (li_in (by omega) (by omega) li_in0), List.forall_mem_cons.mpr ⟨?_, List.forall_mem_nil _⟩, List.forall_mem_cons.mpr ⟨?_, List.forall_mem_cons.mpr ⟨?_, List.forall_mem_cons.mpr ⟨?_, List.forall_mem_cons.mpr ⟨?_, List.forall_mem_cons.mpr ⟨?_, List.forall_mem_cons.mpr ⟨?_, List.forall_mem_nil _⟩⟩⟩⟩⟩⟩, rfl, trivial⟩
  · refine ⟨(ds.length : Int) - (n : Int), ⟨fun t ht => ?_, ?_⟩, by omega⟩
    · simp at ht
      rcases ht with rfl | rfl <;> exact Nat.le_of_ble_eq_true rfl
    · show _ = (0 : Int) + (1 * (ds.length : Int) + (-1 * (n : Int) + 0))
      omega
  · exact ⟨q0, _, rfl, hc0, ck_Lv.k _ 2⟩
  · exact ⟨q0, _, _, rfl, hc0, rfl, _, rfl, by rw [hd_oi (by omega) (by omega)]; exact ck_Lv.x rfl⟩
  · exact ⟨q0, _, _, rfl, hc0, rfl, _, rfl, rfl⟩
  · exact ⟨_, _, rfl, hc1, by rw [hd_r_len, hlt]; exact ck_Lv.x rfl⟩
  · exact ⟨_, rfl, Nat.le_refl _⟩
  · refine ⟨_, _, 0, rfl, hc1, ck_Lv.k _ 0, fun u hu => ?_⟩
    unfold hd_r at hu
    rw [List.getLast?_map] at hu
    cases hg : (ds.take n).getLast? with
    | none => rw [hg] at hu; cases hu
    | some d =>
      rw [hg] at hu
      cases hu
      intro z9
      have hdd := hd.take n d (List.mem_of_getLast? hg)
      have z9 : Int32.ofInt d = 0 := by injection z9
      have := hd_oi (z := d) (by omega) (by omega)
      rw [z9, Int32.toInt_zero] at this
      exact hd_pl_last hp d hg this.symm
end
