/-! POWERS -/
/-- what is told of a power -/
def sm_pw (a m : Nat) (sg v z : Int) : Prop := (sg < 0 ∧ Nat.gcd a m ≠ 1 ∧ z = -8) ∨ ((sg < 0 → Nat.gcd a m = 1) ∧ ∃ f : Nat, f < m ∧ (sg < 0 → (a : Int) * (f : Int) % m = 1 % m) ∧ (¬ sg < 0 → f = a) ∧ z = ((f ^ v.toNat % m : Nat) : Int))
set_option maxHeartbeats 4000000 in
theorem sm_pow_M {l : Launch} {G : am_G} {X : ck_XT} (g : gM l G X) {q p t tp n a m : Nat} {ls : List Int} {sg z : Int} {h : List am_C} (ha : a < m) (hm2 : m ≤ 999) (hg : am_g G h q = some (sb_c t p (n : Int) sg)) (ht : t % 100 = 7) (hgp : am_g G h p = some (tp, hd_r ls)) (htp : tp % 100 = 50) (hi : sb_is n sg ls z) {mc ms : Nat} {Post : am_O → List am_C → Prop} (hP : ∀ z : Int, sm_pw a m sg (sb_v ls) z → Post (.inl (some (.int (Int32.ofInt z)))) h) :
    am_M l G yX7_raise (.code yX7_raise prog_9_method_5_code 6 (some .int)) 2 49 mc ms [.int (Int32.ofInt (a : Int)), .ref q, .int (Int32.ofInt (m : Int))] h Post := by
  refine gh_yX7_raise_H g (Nat.le_of_ble_eq_true rfl) fun S SX hs hr hw => ?_
  have rv : ∀ x : Int32, ck_fv 0 (.int x) := fun x => ⟨_, rfl⟩
  obtain ⟨hd, hn, -, hsg, hz⟩ := hi
  have hn10 : n ≤ 10 := by have := hn.1; have := hd.1; omega
  have loop : ∀ (f : Nat), f < m → (Post (.inl (some (.int (Int32.ofInt ((f ^ (sb_v ls).toNat % m : Nat) : Int))))) h) → ∀ k : Nat, k ≤ n → S 46 [some (.int (Int32.ofInt (a : Int))), some (.ref q), some (.int (Int32.ofInt (m : Int))), some (.int (Int32.ofInt (f : Int))), some (.int (Int32.ofInt ((f ^ (sb_v (ls.drop k)).toNat % m : Nat) : Int))), some (.int (Int32.ofInt ((k : Int) - 1)))] [] h 0 0 := by
    intro f hf hP k
    induction k with
    | zero =>
      intro hk
      rw [List.drop_zero]
      refine hs 27 _ rfl _ _ _ _ _ _ _ rfl ?_
      refine hs 28 _ rfl _ _ _ _ _ _ (fun _ => ?_) (fun zq => absurd (hd_c1t (c := 2) (by omega) (by omega) (by omega : (((0 : Nat) : Int) - 1) < 0)) zq)
      refine hs 45 _ rfl _ _ _ _ _ _ _ rfl ?_
      exact hs 46 _ rfl _ _ _ _ _ (rv _) (Nat.zero_le _) (Nat.zero_le _) hP
    | succ k ih =>
      intro hk
      obtain ⟨x, x1, x2, x3⟩ := hd.get (j := k) (by omega)
      obtain ⟨y, rfl⟩ : ∃ y : Nat, x = (y : Int) := ⟨x.toNat, by omega⟩
      have gx : ls.getD k 0 = (y : Int) := by rw [List.getD_eq_getElem?_getD, x1]; rfl
      have hlt := Nat.mod_lt (f ^ (sb_v (ls.drop (k + 1))).toNat) (show 0 < m by omega)
      rw [show (((k + 1 : Nat) : Int) - 1) = (k : Int) by omega]
      generalize hV : (sb_v (ls.drop (k + 1))).toNat = V at *
      generalize hres : f ^ V % m = res at *
      have hl1 := Nat.mod_lt (res ^ 1000000000) (show 0 < m by omega)
      have hl2 := Nat.mod_lt (f ^ y) (show 0 < m by omega)
      have hpp := sm_le hl1 hl2 (by omega)
      have hpp' : (((res ^ 1000000000 % m) * (f ^ y % m) : Nat) : Int) = ((res ^ 1000000000 % m : Nat) : Int) * ((f ^ y % m : Nat) : Int) := Int.natCast_mul _ _
      have key : (sb_v (ls.drop k)).toNat = V * 1000000000 + y := by
        have h0 := sb_a.nn (ls := ls.drop (k + 1)) fun z hz => hd.2 z (List.mem_of_mem_drop hz)
        rw [List.drop_eq_getElem_cons (l := ls) (show k < ls.length by have := hd.1; omega), Option.some.inj ((List.getElem?_eq_getElem _).symm.trans x1)]
        show ((y : Int) + 1000000000 * sb_v (ls.drop (k + 1))).toNat = _
        omega
      generalize hw1 : res ^ 1000000000 % m = w1 at *
      generalize hw2 : f ^ y % m = w2 at *
      refine hs 27 _ rfl _ _ _ _ _ _ _ rfl ?_
      refine hs 28 _ rfl _ _ _ _ _ _ (fun zq => absurd (hd_c1z (c := 2) (by omega) (by omega) zq) (by omega : ¬ ((k : Int) < 0))) (fun _ => ?_)
      refine hs 29 _ rfl _ _ _ _ _ _ _ rfl ?_
      refine hs 30 _ rfl _ _ _ _ _ _ _ rfl ?_
      refine hs 31 _ rfl _ _ _ _ _ _ _ rfl ?_
      refine hd_call (hs 32 _ rfl) (a := [.int (Int32.ofInt (res : Int)), .int (Int32.ofInt 1000000000), .int (Int32.ofInt (m : Int))]) (st := []) (P := fun o h9 => o = .inl (some (.int (Int32.ofInt (w1 : Int)))) ∧ h = h9) (sm_raise_M g (e := 1000000000) hlt (by omega) (by decide) (by rw [hw1]; exact ⟨rfl, rfl⟩)) rfl rfl (Nat.le_of_ble_eq_true rfl) (Nat.zero_le _) (Nat.zero_le _) (fun v9 h9 e9 => ?_) (fun E h9 hp => by first | exact nomatch hp.1 | (obtain ⟨⟨_, hz, _⟩, _⟩ := hp; cases hz))
      obtain ⟨e9, rfl⟩ := e9
      cases e9
      refine hs 33 _ rfl _ _ _ _ _ _ _ rfl ?_
      refine hs 34 _ rfl _ _ _ _ _ _ _ rfl ?_
      refine hs 35 _ rfl _ _ _ _ _ _ _ rfl ?_
      refine hd_callV (hs 36 _ rfl) (a := [.ref q, .int (Int32.ofInt (k : Int))]) (st := [.int (Int32.ofInt (f : Int)), .int (Int32.ofInt (w1 : Int))]) (P := fun o h9 => o = .inl (some (.int (Int32.ofInt (y : Int)))) ∧ h = h9) (sb_limb_M g hg ht hgp htp hd (by omega) (by rw [gx]; exact ⟨rfl, rfl⟩)) ⟨_, _, _, rfl, hg, ht⟩ rfl rfl (Nat.le_of_ble_eq_true rfl) (Nat.zero_le _) (Nat.zero_le _) (fun v9 h9 e9 => ?_) (fun E h9 hp => by first | exact nomatch hp.1 | (obtain ⟨⟨_, hz, _⟩, _⟩ := hp; cases hz))
      obtain ⟨e9, rfl⟩ := e9
      cases e9
      refine hs 37 _ rfl _ _ _ _ _ _ _ rfl ?_
      refine hd_call (hs 38 _ rfl) (a := [.int (Int32.ofInt (f : Int)), .int (Int32.ofInt (y : Int)), .int (Int32.ofInt (m : Int))]) (st := [.int (Int32.ofInt (w1 : Int))]) (P := fun o h9 => o = .inl (some (.int (Int32.ofInt (w2 : Int)))) ∧ h = h9) (sm_raise_M g hf (by omega) (by omega) (by rw [hw2]; exact ⟨rfl, rfl⟩)) rfl rfl (Nat.le_of_ble_eq_true rfl) (Nat.zero_le _) (Nat.zero_le _) (fun v9 h9 e9 => ?_) (fun E h9 hp => by first | exact nomatch hp.1 | (obtain ⟨⟨_, hz, _⟩, _⟩ := hp; cases hz))
      obtain ⟨e9, rfl⟩ := e9
      cases e9
      refine hs 39 _ rfl _ _ _ _ _ _ _ hd_mul ?_
      refine hs 40 _ rfl _ _ _ _ _ _ _ rfl ?_
      refine hs 41 _ rfl _ _ _ _ _ _ _ (hd_rem (by omega) (by omega) (by omega) (by omega)) ?_
      refine hs 42 _ rfl _ _ _ _ _ _ _ rfl ?_
      refine hs 43 _ rfl _ _ _ _ _ _ _ (hd_inc rfl) ?_
      refine hs 44 _ rfl _ _ _ _ _ ?_
      rw [sm_mm]
      have e : w1 * w2 % m = f ^ (sb_v (ls.drop k)).toNat % m := by
        rw [key, ← hw1, ← hw2, ← hres, ← Nat.pow_mod, ← Nat.mul_mod, ← Nat.pow_mul, ← Nat.pow_add]
      rw [e]
      exact ih (by omega)
  have start : ∀ (f : Nat) (L0 : List (Option Value)), f < m → S 46 [some (.int (Int32.ofInt (a : Int))), some (.ref q), some (.int (Int32.ofInt (m : Int))), some (.int (Int32.ofInt (f : Int))), some (.int (Int32.ofInt ((1 : Int) % (m : Int)))), some (.int (Int32.ofInt ((n : Int) - 1)))] [] h 0 0 → S 33 [some (.int (Int32.ofInt (a : Int))), some (.ref q), some (.int (Int32.ofInt (m : Int))), some (.int (Int32.ofInt (f : Int))), none, none] [] h 0 0 := by
    intro f L0 hf kk
    refine hs 18 _ rfl _ _ _ _ _ _ _ rfl ?_
    refine hs 19 _ rfl _ _ _ _ _ _ _ rfl ?_
    refine hs 20 _ rfl _ _ _ _ _ _ _ (hd_rem (by omega) (by omega) (by omega) (by omega)) ?_
    refine hs 21 _ rfl _ _ _ _ _ _ _ rfl ?_
    refine hs 22 _ rfl _ _ _ _ _ _ _ rfl ?_
    refine hs 23 _ rfl _ _ _ _ _ _ _ _ _ hg ht rfl ?_
    refine hs 24 _ rfl _ _ _ _ _ _ _ rfl ?_
    refine hs 25 _ rfl _ _ _ _ _ _ _ hd_sub ?_
    refine hs 26 _ rfl _ _ _ _ _ _ _ rfl ?_
    exact kk
  have hfin : ∀ f : Nat, f < m → Post (.inl (some (.int (Int32.ofInt ((f ^ (sb_v ls).toNat % m : Nat) : Int))))) h → S 33 [some (.int (Int32.ofInt (a : Int))), some (.ref q), some (.int (Int32.ofInt (m : Int))), some (.int (Int32.ofInt (f : Int))), none, none] [] h 0 0 := by
    intro f hf hP
    refine start f [] hf ?_
    have := loop f hf hP n (Nat.le_refl _)
    rw [show sb_v (ls.drop n) = 0 from sb_zero fun j d hj => by rw [List.getElem?_drop] at hj; exact hn.2.1 _ d (by omega) hj, Int.toNat_zero, Nat.pow_zero, ← sm_1m] at this
    exact this
  by_cases hsn : sg < 0
  · obtain rfl : sg = -1 := by omega
    refine hs 0 _ rfl _ _ _ _ _ _ _ rfl ?_
    refine hs 1 _ rfl _ _ _ _ _ _ (fun _ => ?_) (fun zq => absurd (hd_c1t (c := 4) (by omega) (by omega) (by omega : 0 < (m : Int))) zq)
    refine hs 4 _ rfl _ _ _ _ _ _ _ rfl ?_
    refine hs 5 _ rfl _ _ _ _ _ _ _ _ _ hg ht rfl ?_
    refine hs 6 _ rfl _ _ _ _ _ _ (fun zq => absurd (hd_c1z (c := 3) (by omega) (by omega) zq) (by omega : ¬ (0 ≤ (-1 : Int)))) (fun _ => ?_)
    refine hs 7 _ rfl _ _ _ _ _ _ _ rfl ?_
    refine hs 8 _ rfl _ _ _ _ _ _ _ rfl ?_
    refine hd_call (hs 9 _ rfl) (a := [.int (Int32.ofInt (a : Int)), .int (Int32.ofInt (m : Int))]) (st := []) (P := fun o h9 => (∃ zi : Int, o = .inl (some (.int (Int32.ofInt zi))) ∧ sm_inv a m zi) ∧ h = h9) (sm_invert_M g ha hm2 fun zi hzi => ⟨⟨zi, rfl, hzi⟩, rfl⟩) rfl rfl (Nat.le_of_ble_eq_true rfl) (Nat.zero_le _) (Nat.zero_le _) (fun v9 h9 e9 => ?_) (fun E h9 hp => by first | exact nomatch hp.1 | (obtain ⟨⟨_, hz, _⟩, _⟩ := hp; cases hz))
    obtain ⟨⟨zi, e9, hinv⟩, rfl⟩ := e9
    cases e9
    rcases hinv with ⟨i1, rfl⟩ | ⟨i1, i2, i3, i4⟩
    · have hP := hP (-8) (Or.inl ⟨by decide, i1, rfl⟩)
      show S 19 _ [.int (Int32.ofInt (-8))] _ 0 0
      refine hs 10 _ rfl _ _ _ _ _ ?_
      refine hs 12 _ rfl _ _ _ _ _ _ _ rfl ?_
      refine hs 13 _ rfl _ _ _ _ _ _ _ rfl ?_
      refine hs 14 _ rfl _ _ _ _ _ _ _ rfl ?_
      refine hs 15 _ rfl _ _ _ _ _ _ _ (fun zq => absurd (hd_c2z (c := 1) (by omega) (by omega) (by omega) (by omega) zq) (by omega : ¬ (((-8 : Int) - (-8 : Int)) ≠ 0))) (fun _ => ?_)
      refine hs 16 _ rfl _ _ _ _ _ _ _ rfl ?_
      exact hs 17 _ rfl _ _ _ _ _ (rv _) (Nat.zero_le _) (Nat.zero_le _) hP
    · obtain ⟨f, rfl⟩ : ∃ f : Nat, zi = (f : Int) := ⟨zi.toNat, by omega⟩
      show S 19 _ [.int (Int32.ofInt (f : Int))] _ 0 0
      refine hs 10 _ rfl _ _ _ _ _ ?_
      refine hs 12 _ rfl _ _ _ _ _ _ _ rfl ?_
      refine hs 13 _ rfl _ _ _ _ _ _ _ rfl ?_
      refine hs 14 _ rfl _ _ _ _ _ _ _ rfl ?_
      refine hs 15 _ rfl _ _ _ _ _ _ _ (fun _ => ?_) (fun zq => absurd (hd_c2t (c := 1) (by omega) (by omega) (by omega) (by omega) (by omega : ((f : Int) - (-8 : Int)) ≠ 0)) zq)
      exact hfin f (by omega) (hP _ (Or.inr ⟨fun _ => i1, f, by omega, fun _ => i4, fun z => absurd (by decide) z, rfl⟩))
  · 
    refine hs 0 _ rfl _ _ _ _ _ _ _ rfl ?_
    refine hs 1 _ rfl _ _ _ _ _ _ (fun _ => ?_) (fun zq => absurd (hd_c1t (c := 4) (by omega) (by omega) (by omega : 0 < (m : Int))) zq)
    refine hs 4 _ rfl _ _ _ _ _ _ _ rfl ?_
    refine hs 5 _ rfl _ _ _ _ _ _ _ _ _ hg ht rfl ?_
    refine hs 6 _ rfl _ _ _ _ _ _ (fun _ => ?_) (fun zq => absurd (hd_c1t (c := 3) (by omega) (by omega) (by omega : 0 ≤ sg)) zq)
    refine hs 11 _ rfl _ _ _ _ _ _ _ rfl ?_
    refine hs 12 _ rfl _ _ _ _ _ _ _ rfl ?_
    refine hs 13 _ rfl _ _ _ _ _ _ _ rfl ?_
    refine hs 14 _ rfl _ _ _ _ _ _ _ rfl ?_
    refine hs 15 _ rfl _ _ _ _ _ _ _ (fun _ => ?_) (fun zq => absurd (hd_c2t (c := 1) (by omega) (by omega) (by omega) (by omega) (by omega : ((a : Int) - (-8 : Int)) ≠ 0)) zq)
    exact hfin a ha (hP _ (Or.inr ⟨fun z => absurd z hsn, a, ha, fun z => absurd z hsn, fun _ => rfl, rfl⟩))
