/-! LIMBS, RESTS, DIGITS -/
theorem sb_limb_M {l : Launch} {G : am_G} {X : ck_XT} (g : gM l G X) {q p t tp j : Nat} {ls : List Int} {len sg : Int} {h : List am_C} (hg : am_g G h q = some (sb_c t p len sg)) (ht : t % 100 = 7) (hgp : am_g G h p = some (tp, hd_r ls)) (htp : tp % 100 = 50) (hd : sb_d ls) (hj : j ≤ 2147483647) {mc ms : Nat} {Post : am_O → List am_C → Prop} (hP : Post (.inl (some (.int (Int32.ofInt (ls.getD j 0))))) h) :
    am_M l G yX0_limb (.code yX0_limb prog_2_method_2_code 2 (some .int)) 1 20 mc ms [.ref q, .int (Int32.ofInt (j : Int))] h Post := by
  refine gh_yX0_limb_H g (Nat.le_of_ble_eq_true rfl) fun S SX hs hr hw => ?_
  have rv : ∀ x : Int32, ck_fv 0 (.int x) := fun x => ⟨_, rfl⟩
  by_cases hj2 : j < 10
  · obtain ⟨x, x1, x2⟩ := hd.get hj2
    rw [List.getD_eq_getElem?_getD, x1, Option.getD_some] at hP
    refine hs 0 _ rfl _ _ _ _ _ _ _ rfl ?_
    refine hs 1 _ rfl _ _ _ _ _ _ (fun zq => absurd (hd_c1z (c := 2) (by omega) (by omega) zq) (by omega : ¬ ((j : Int) < 0))) (fun _ => ?_)
    refine hs 2 _ rfl _ _ _ _ _ _ _ rfl ?_
    refine hs 3 _ rfl _ _ _ _ _ _ _ rfl ?_
    refine hs 4 _ rfl _ _ _ _ _ _ _ (fun zq => absurd (hd_c2z (c := 3) (by omega) (by omega) (by omega) (by omega) zq) (by omega : ¬ (0 ≤ ((j : Int) - (10 : Int))))) (fun _ => ?_)
    refine hs 5 _ rfl _ _ _ _ _ _ _ rfl ?_
    refine hs 6 _ rfl _ _ _ _ _ _ _ _ _ hg ht rfl ?_
    refine hs 7 _ rfl _ _ _ _ _ _ _ rfl ?_
    refine hd_A (hs 8 _ rfl) (by decide) (by decide) hgp htp (j := j) rfl hj x1 ?_
    refine hs 9 _ rfl _ _ _ _ _ ?_
    exact hs 11 _ rfl _ _ _ _ _ (rv _) (Nat.zero_le _) (Nat.zero_le _) hP
  · rw [List.getD_eq_getElem?_getD, List.getElem?_eq_none (by have := hd.1; omega), Option.getD_none] at hP
    refine hs 0 _ rfl _ _ _ _ _ _ _ rfl ?_
    refine hs 1 _ rfl _ _ _ _ _ _ (fun zq => absurd (hd_c1z (c := 2) (by omega) (by omega) zq) (by omega : ¬ ((j : Int) < 0))) (fun _ => ?_)
    refine hs 2 _ rfl _ _ _ _ _ _ _ rfl ?_
    refine hs 3 _ rfl _ _ _ _ _ _ _ rfl ?_
    refine hs 4 _ rfl _ _ _ _ _ _ _ (fun _ => ?_) (fun zq => absurd (hd_c2t (c := 3) (by omega) (by omega) (by omega) (by omega) (by omega : 0 ≤ ((j : Int) - (10 : Int)))) zq)
    refine hs 10 _ rfl _ _ _ _ _ _ _ rfl ?_
    exact hs 11 _ rfl _ _ _ _ _ (rv _) (Nat.zero_le _) (Nat.zero_le _) hP
theorem sb_long_M {l : Launch} {G : am_G} {X : ck_XT} (g : gM l G X) {q p t n : Nat} {sg : Int} {h : List am_C} (hg : am_g G h q = some (sb_c t p (n : Int) sg)) (ht : t % 100 = 7) (hn : n ≤ 10) {mc ms : Nat} {Post : am_O → List am_C → Prop} (hP : Post (.inl (some (.int (Int32.ofInt (if 4 < n then 1 else 0))))) h) :
    am_M l G yX0_isTooLong (.code yX0_isTooLong prog_2_method_4_code 1 (some .boolean)) 1 20 mc ms [.ref q] h Post := by
  refine gh_yX0_isTooLong_H g (Nat.le_of_ble_eq_true rfl) fun S SX hs hr hw => ?_
  have rv : ∀ x : Int32, ck_fv 0 (.int x) := fun x => ⟨_, rfl⟩
  by_cases h4 : 4 < n
  · rw [if_pos h4] at hP
    refine hs 0 _ rfl _ _ _ _ _ _ _ rfl ?_
    refine hs 1 _ rfl _ _ _ _ _ _ _ _ _ hg ht rfl ?_
    refine hs 2 _ rfl _ _ _ _ _ _ _ rfl ?_
    refine hs 3 _ rfl _ _ _ _ _ _ _ (fun zq => absurd (hd_c2z (c := 5) (by omega) (by omega) (by omega) (by omega) zq) (by omega : ¬ (((n : Int) - (4 : Int)) ≤ 0))) (fun _ => ?_)
    refine hs 4 _ rfl _ _ _ _ _ _ _ rfl ?_
    refine hs 5 _ rfl _ _ _ _ _ ?_
    exact hs 7 _ rfl _ _ _ _ _ ⟨_, rfl, by decide, by decide⟩ (Nat.zero_le _) (Nat.zero_le _) hP
  · rw [if_neg h4] at hP
    refine hs 0 _ rfl _ _ _ _ _ _ _ rfl ?_
    refine hs 1 _ rfl _ _ _ _ _ _ _ _ _ hg ht rfl ?_
    refine hs 2 _ rfl _ _ _ _ _ _ _ rfl ?_
    refine hs 3 _ rfl _ _ _ _ _ _ _ (fun _ => ?_) (fun zq => absurd (hd_c2t (c := 5) (by omega) (by omega) (by omega) (by omega) (by omega : ((n : Int) - (4 : Int)) ≤ 0)) zq)
    refine hs 6 _ rfl _ _ _ _ _ _ _ rfl ?_
    exact hs 7 _ rfl _ _ _ _ _ ⟨_, rfl, by decide, by decide⟩ (Nat.zero_le _) (Nat.zero_le _) hP
theorem sb_lsub {L : List (Option Value)} {st : List Value} {v x y : Int} : ck_cf 16 1 v L (.long (Int64.ofInt y) :: .long (Int64.ofInt x) :: st) = some (L, .long (Int64.ofInt (x - y)) :: st) := by rw [Int64.ofInt_sub]; rfl
theorem sb_lcmp {L : List (Option Value)} {st : List Value} {a : Nat} {v x : Int} (h1 : 0 ≤ x) (h2 : x ≤ 1000000) : ck_cf 21 a v L (.long (Int64.ofInt 0) :: .long (Int64.ofInt x) :: st) = some (L, .int (Int32.ofInt (if 0 < x then 1 else 0)) :: st) := by
  have e : lg_cmp (Int64.ofInt x) (Int64.ofInt 0) = Int32.ofInt (if 0 < x then 1 else 0) := by
    unfold lg_cmp
    by_cases h : 0 < x
    · have hgt : Int64.ofInt x > Int64.ofInt 0 := Int64.lt_iff_toInt_lt.mpr (by rw [hd_li (by omega) (by omega), hd_li (by omega) (by omega)]; exact h)
      rw [if_pos h, if_pos hgt]
      rfl
    · obtain rfl : x = 0 := by omega
      rfl
  rw [← e]
  rfl
theorem sb_mod1 (r L x m : Int) : (r % m * L + x) % m = (x + L * r) % m := by
  rw [Int.add_emod, Int.mul_emod, Int.emod_emod, ← Int.mul_emod, ← Int.add_emod, Int.add_comm, Int.mul_comm]
set_option maxHeartbeats 4000000 in
theorem sb_rest_M {l : Launch} {G : am_G} {X : ck_XT} (g : gM l G X) {q p t tp n m : Nat} {ls : List Int} {sg z : Int} {h : List am_C} (hg : am_g G h q = some (sb_c t p (n : Int) sg)) (ht : t % 100 = 7) (hgp : am_g G h p = some (tp, hd_r ls)) (htp : tp % 100 = 50) (hi : sb_is n sg ls z) (hm : 1 ≤ m) (hm2 : m ≤ 1000) {mc ms : Nat} {Post : am_O → List am_C → Prop} (hP : Post (.inl (some (.int (Int32.ofInt (z % (m : Int)))))) h) :
    am_M l G yX0_restBy (.code yX0_restBy prog_2_method_15_code 5 (some .int)) 2 41 mc ms [.ref q, .int (Int32.ofInt (m : Int))] h Post := by
  refine gh_yX0_restBy_H g (Nat.le_of_ble_eq_true rfl) fun S SX hs hr hw => ?_
  have rv : ∀ x : Int32, ck_fv 0 (.int x) := fun x => ⟨_, rfl⟩
  obtain ⟨hd, hn, rfl, hsg, hz⟩ := hi
  have hn10 : n ≤ 10 := by have := hn.1; have := hd.1; omega
  have rb : ∀ v : Int, 0 ≤ v % (m : Int) ∧ v % (m : Int) < 1000 := fun v => by
    have h1 := Int.emod_nonneg v (b := (m : Int)) (by omega)
    have h2 := Int.emod_lt_of_pos v (b := (m : Int)) (by omega)
    omega
  have loop : ∀ k : Nat, k ≤ n → S 16 [some (.ref q), some (.int (Int32.ofInt (m : Int))), some (.long (Int64.ofInt (sb_v (ls.drop k) % (m : Int)))), none, some (.int (Int32.ofInt ((k : Int) - 1)))] [] h 0 0 := by
    intro k
    induction k with
    | zero =>
      intro hk
      obtain ⟨r1, r2⟩ := rb (sb_v (ls.drop 0))
      rw [List.drop_zero] at r1 r2 ⊢
      by_cases hsn : sg < 0
      · obtain rfl : sg = -1 := by omega
        by_cases h0 : 0 < sb_v ls % (m : Int)
        · have e : (-1 * sb_v ls) % (m : Int) = (m : Int) - sb_v ls % (m : Int) := by
            have := Int.mul_ediv_add_emod (sb_v ls) (m : Int)
            exact ((Int.ediv_emod_unique (a := -1 * sb_v ls) (r := (m : Int) - sb_v ls % (m : Int)) (q := -(sb_v ls / (m : Int)) - 1) (by omega)).mpr ⟨by rw [Int.mul_sub, Int.mul_neg]; omega, by have := Int.emod_lt_of_pos (sb_v ls) (b := (m : Int)) (by omega); omega, by omega⟩).2
          rw [e] at hP
          have ec : (if 0 < sb_v ls % (m : Int) then (1 : Int) else 0) = 1 := if_pos h0
          refine hs 11 _ rfl _ _ _ _ _ _ _ rfl ?_
          refine hs 12 _ rfl _ _ _ _ _ _ (fun _ => ?_) (fun zq => absurd (hd_c1t (c := 2) (by omega) (by omega) (by omega : (((0 : Nat) : Int) - 1) < 0)) zq)
          refine hs 27 _ rfl _ _ _ _ _ _ _ rfl ?_
          refine hs 28 _ rfl _ _ _ _ _ _ _ _ _ hg ht rfl ?_
          refine hs 29 _ rfl _ _ _ _ _ _ (fun zq => absurd (hd_c1z (c := 3) (by omega) (by omega) zq) (by omega : ¬ (0 ≤ (-1 : Int)))) (fun _ => ?_)
          refine hs 30 _ rfl _ _ _ _ _ _ _ rfl ?_
          refine hs 31 _ rfl _ _ _ _ _ _ _ rfl ?_
          refine hs 32 _ rfl _ _ _ _ _ _ _ (sb_lcmp r1 (by omega)) ?_
          refine hs 33 _ rfl _ _ _ _ _ _ (fun zq => absurd (hd_c1z (c := 5) (by omega) (by omega) zq) (by omega : ¬ ((if 0 < sb_v ls % (m : Int) then 1 else 0 : Int) ≤ 0))) (fun _ => ?_)
          refine hs 34 _ rfl _ _ _ _ _ _ _ rfl ?_
          refine hs 35 _ rfl _ _ _ _ _ _ _ (hd_i2l (by omega) (by omega)) ?_
          refine hs 36 _ rfl _ _ _ _ _ _ _ rfl ?_
          refine hs 37 _ rfl _ _ _ _ _ _ _ sb_lsub ?_
          refine hs 38 _ rfl _ _ _ _ _ ?_
          refine hs 40 _ rfl _ _ _ _ _ _ _ (hd_l2i (by omega) (by omega)) ?_
          exact hs 41 _ rfl _ _ _ _ _ (rv _) (Nat.zero_le _) (Nat.zero_le _) hP
        · have e0 : sb_v ls % (m : Int) = 0 := by omega
          have e : (-1 * sb_v ls) % (m : Int) = sb_v ls % (m : Int) := by
            rw [e0, Int.emod_eq_zero_of_dvd]
            exact Int.dvd_trans (Int.dvd_of_emod_eq_zero e0) (Int.dvd_mul_left (-1) (sb_v ls))
          rw [e] at hP
          have ec : (if 0 < sb_v ls % (m : Int) then (1 : Int) else 0) = 0 := if_neg h0
          refine hs 11 _ rfl _ _ _ _ _ _ _ rfl ?_
          refine hs 12 _ rfl _ _ _ _ _ _ (fun _ => ?_) (fun zq => absurd (hd_c1t (c := 2) (by omega) (by omega) (by omega : (((0 : Nat) : Int) - 1) < 0)) zq)
          refine hs 27 _ rfl _ _ _ _ _ _ _ rfl ?_
          refine hs 28 _ rfl _ _ _ _ _ _ _ _ _ hg ht rfl ?_
          refine hs 29 _ rfl _ _ _ _ _ _ (fun zq => absurd (hd_c1z (c := 3) (by omega) (by omega) zq) (by omega : ¬ (0 ≤ (-1 : Int)))) (fun _ => ?_)
          refine hs 30 _ rfl _ _ _ _ _ _ _ rfl ?_
          refine hs 31 _ rfl _ _ _ _ _ _ _ rfl ?_
          refine hs 32 _ rfl _ _ _ _ _ _ _ (sb_lcmp r1 (by omega)) ?_
          refine hs 33 _ rfl _ _ _ _ _ _ (fun _ => ?_) (fun zq => absurd (hd_c1t (c := 5) (by omega) (by omega) (by omega : (if 0 < sb_v ls % (m : Int) then 1 else 0 : Int) ≤ 0)) zq)
          refine hs 39 _ rfl _ _ _ _ _ _ _ rfl ?_
          refine hs 40 _ rfl _ _ _ _ _ _ _ (hd_l2i (by omega) (by omega)) ?_
          exact hs 41 _ rfl _ _ _ _ _ (rv _) (Nat.zero_le _) (Nat.zero_le _) hP
      · have e : (sg * sb_v ls) % (m : Int) = sb_v ls % (m : Int) := by
          rcases hsg with y | y | y
          · omega
          · rw [y, hz.mp y]; rfl
          · rw [y, Int.one_mul]
        rw [e] at hP
        refine hs 11 _ rfl _ _ _ _ _ _ _ rfl ?_
        refine hs 12 _ rfl _ _ _ _ _ _ (fun _ => ?_) (fun zq => absurd (hd_c1t (c := 2) (by omega) (by omega) (by omega : (((0 : Nat) : Int) - 1) < 0)) zq)
        refine hs 27 _ rfl _ _ _ _ _ _ _ rfl ?_
        refine hs 28 _ rfl _ _ _ _ _ _ _ _ _ hg ht rfl ?_
        refine hs 29 _ rfl _ _ _ _ _ _ (fun _ => ?_) (fun zq => absurd (hd_c1t (c := 3) (by omega) (by omega) (by omega : 0 ≤ sg)) zq)
        refine hs 39 _ rfl _ _ _ _ _ _ _ rfl ?_
        refine hs 40 _ rfl _ _ _ _ _ _ _ (hd_l2i (by omega) (by omega)) ?_
        exact hs 41 _ rfl _ _ _ _ _ (rv _) (Nat.zero_le _) (Nat.zero_le _) hP
    | succ k ih =>
      intro hk
      obtain ⟨r1, r2⟩ := rb (sb_v (ls.drop (k + 1)))
      obtain ⟨x, x1, x2⟩ := hd.get (j := k) (by omega)
      have gx : ls.getD k 0 = x := by rw [List.getD_eq_getElem?_getD, x1]; rfl
      rw [show (((k + 1 : Nat) : Int) - 1) = (k : Int) by omega]
      refine hs 11 _ rfl _ _ _ _ _ _ _ rfl ?_
      refine hs 12 _ rfl _ _ _ _ _ _ (fun zq => absurd (hd_c1z (c := 2) (by omega) (by omega) zq) (by omega : ¬ ((k : Int) < 0))) (fun _ => ?_)
      refine hs 13 _ rfl _ _ _ _ _ _ _ rfl ?_
      refine hs 14 _ rfl _ _ _ _ _ _ _ rfl ?_
      refine hs 15 _ rfl _ _ _ _ _ _ _ hd_lmul ?_
      refine hs 16 _ rfl _ _ _ _ _ _ _ rfl ?_
      refine hs 17 _ rfl _ _ _ _ _ _ _ rfl ?_
      refine hd_callV (hs 18 _ rfl) (a := [.ref q, .int (Int32.ofInt (k : Int))]) (st := [.long (Int64.ofInt (sb_v (ls.drop (k + 1)) % (m : Int) * 1000000000))]) (P := fun o h9 => o = .inl (some (.int (Int32.ofInt (ls.getD k 0)))) ∧ h = h9) (sb_limb_M g hg ht hgp htp hd (by omega) ⟨rfl, rfl⟩) ⟨_, _, _, rfl, hg, ht⟩ rfl rfl (Nat.le_of_ble_eq_true rfl) (Nat.zero_le _) (Nat.zero_le _) (fun v9 h9 e9 => ?_) (fun E h9 hp => by first | exact nomatch hp.1 | (obtain ⟨⟨_, hz, _⟩, _⟩ := hp; cases hz))
      obtain ⟨e9, rfl⟩ := e9
      cases e9
      refine hs 19 _ rfl _ _ _ _ _ _ _ (hd_i2l (by omega) (by omega)) ?_
      refine hs 20 _ rfl _ _ _ _ _ _ _ hd_ladd ?_
      refine hs 21 _ rfl _ _ _ _ _ _ _ rfl ?_
      refine hs 22 _ rfl _ _ _ _ _ _ _ (hd_i2l (by omega) (by omega)) ?_
      refine hs 23 _ rfl _ _ _ _ _ _ _ (hd_lrem (by omega) (by omega) (by omega) (by omega)) ?_
      refine hs 24 _ rfl _ _ _ _ _ _ _ rfl ?_
      refine hs 25 _ rfl _ _ _ _ _ _ _ (hd_inc rfl) ?_
      refine hs 26 _ rfl _ _ _ _ _ ?_
      have e : (sb_v (ls.drop (k + 1)) % (m : Int) * 1000000000 + ls.getD k 0) % (m : Int) = sb_v (ls.drop k) % (m : Int) := by
        rw [sb_mod1, gx, List.drop_eq_getElem_cons (l := ls) (show k < ls.length by have := hd.1; omega), Option.some.inj ((List.getElem?_eq_getElem _).symm.trans x1)]
        rfl
      rw [e]
      exact ih (by omega)
  refine hs 0 _ rfl _ _ _ _ _ _ _ rfl ?_
  refine hs 1 _ rfl _ _ _ _ _ _ (fun _ => ?_) (fun zq => absurd (hd_c1t (c := 4) (by omega) (by omega) (by omega : 0 < (m : Int))) zq)
  refine hs 4 _ rfl _ _ _ _ _ _ _ rfl ?_
  refine hs 5 _ rfl _ _ _ _ _ _ _ rfl ?_
  refine hs 6 _ rfl _ _ _ _ _ _ _ rfl ?_
  refine hs 7 _ rfl _ _ _ _ _ _ _ _ _ hg ht rfl ?_
  refine hs 8 _ rfl _ _ _ _ _ _ _ rfl ?_
  refine hs 9 _ rfl _ _ _ _ _ _ _ hd_sub ?_
  refine hs 10 _ rfl _ _ _ _ _ _ _ rfl ?_
  have := loop n (Nat.le_refl _)
  rw [show sb_v (ls.drop n) = 0 from sb_zero fun j d hj => by rw [List.getElem?_drop] at hj; exact hn.2.1 _ d (by omega) hj, Int.zero_emod] at this
  exact this
