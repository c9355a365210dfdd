/-! DIGITS -/
/-- so many digits -/
def zc_dg (v : Int) (d : Nat) : Prop := 1 ≤ d ∧ v < 10 ^ d ∧ (d = 1 ∨ 10 ^ (d - 1) ≤ v)
theorem zc_dg.fn {v : Int} {d e : Nat} (h : zc_dg v d) (h' : zc_dg v e) : d = e := by
  have key : ∀ {d e : Nat}, zc_dg v d → zc_dg v e → ¬ d < e := by
    intro d e h h' hl
    obtain ⟨h1_, h2_, -⟩ := h
    rcases h'.2.2 with z_ | z_
    · omega
    · have e1_ : (10 : Int) ^ d ≤ 10 ^ (e - 1) := by
        have := Nat.pow_le_pow_right (show 0 < 10 by decide) (show d ≤ e - 1 by omega)
        have e2_ : ((10 ^ d : Nat) : Int) ≤ ((10 ^ (e - 1) : Nat) : Int) := Int.ofNat_le.mpr this
        rw [Int.natCast_pow, Int.natCast_pow] at e2_
        exact e2_
      omega
  have a_ := key h h'
  have b_ := key h' h
  omega
theorem zc_top {ls : List Int} {n : Nat} (hd : sb_d ls) (hn : hd_pl ls n) (h0 : 0 < n) : ∃ y : Nat, ls.getD (n - 1) 0 = (y : Int) ∧ 0 < y ∧ y ≤ 999999999 ∧ ∀ k : Nat, y < 10 ^ k → 0 < k → 10 ^ (k - 1) ≤ y → zc_dg (sb_v ls) (9 * (n - 1) + k) := by
  obtain ⟨x_, x1_, x2_⟩ := hn.2.2 h0
  have hb_ := hd.at x1_
  obtain ⟨y_, rfl⟩ : ∃ y_ : Nat, x_ = (y_ : Int) := ⟨x_.toNat, by omega⟩
  refine ⟨y_, by rw [List.getD_eq_getElem?_getD, x1_]; rfl, by omega, by omega, fun k h1 h2 h3 => ?_⟩
  have e1_ := sb_take x1_
  rw [show n - 1 + 1 = n by omega, sb_take_all hn (Nat.le_refl _)] at e1_
  have ha_ : sb_a (ls.take (n - 1)) := fun z hz => hd.2 z (List.mem_of_mem_take hz)
  have h4_ := ha_.nn
  have h5_ := sb_lt ha_
  rw [List.length_take, Nat.min_eq_left (by have := hn.1; omega)] at h5_
  have e2_ : (1000000000 : Int) ^ (n - 1) = 10 ^ (9 * (n - 1)) := by
    rw [Int.pow_mul]; rfl
  rw [e2_] at e1_ h5_
  have e3_ : (10 : Int) ^ (9 * (n - 1) + k) = 10 ^ (9 * (n - 1)) * 10 ^ k := Int.pow_add _ _ _
  have e4_ : (10 : Int) ^ (9 * (n - 1) + (k - 1)) = 10 ^ (9 * (n - 1)) * 10 ^ (k - 1) := Int.pow_add _ _ _
  have p0_ : (0 : Int) ≤ 10 ^ (9 * (n - 1)) := Int.pow_nonneg (by decide)
  have f1_ : ((y_ : Int) + 1) * 10 ^ (9 * (n - 1)) ≤ 10 ^ k * 10 ^ (9 * (n - 1)) := Int.mul_le_mul_of_nonneg_right (by
    have : ((y_ + 1 : Nat) : Int) ≤ ((10 ^ k : Nat) : Int) := Int.ofNat_le.mpr h1
    rw [Int.natCast_pow] at this
    exact this) p0_
  have f2_ : 10 ^ (k - 1) * 10 ^ (9 * (n - 1)) ≤ (y_ : Int) * 10 ^ (9 * (n - 1)) := Int.mul_le_mul_of_nonneg_right (by
    have : ((10 ^ (k - 1) : Nat) : Int) ≤ (y_ : Int) := Int.ofNat_le.mpr h3
    rw [Int.natCast_pow] at this
    exact this) p0_
  rw [Int.add_mul, Int.one_mul] at f1_
  refine ⟨by omega, ?_, Or.inr ?_⟩
  · rw [e3_, e1_, Int.mul_comm _ (10 ^ k)]
    omega
  · rw [show 9 * (n - 1) + k - 1 = 9 * (n - 1) + (k - 1) by omega, e4_, e1_, Int.mul_comm _ (10 ^ (k - 1))]
    omega
set_option maxHeartbeats 4000000 in
theorem sb_dig_M {l : Launch} {G : am_G} {X : ck_XT} (g : gM l G X) {q p t tp n : Nat} {ls : List Int} {sg : Int} {h : List am_C} (hq : 1000 ≤ q) (hp : 1000 ≤ p) (hpq : p ≠ q) (hg : am_g G h q = some (sb_c t p (n : Int) sg)) (ht : t % 100 = 7) (hgp : am_g G h p = some (tp, hd_r ls)) (htp : tp % 100 = 50) (hd : sb_d ls) (hn : hd_pl ls n) {mc ms : Nat} {Post : am_O → List am_C → Prop}
    (hP : ∀ d : Nat, zc_dg (sb_v ls) d → Post (.inl (some (.int (Int32.ofInt (d : Int))))) h) :
    am_M l G yX0_digitCount (.code yX0_digitCount prog_2_method_16_code 4 (some .int)) 2 41 mc ms [.ref q] h Post := by
  refine gh_yX0_digitCount_X g (Nat.le_of_ble_eq_true rfl) fun S SX hs hr hw hx => ?_
  have rv : ∀ x : Int32, ck_fv 0 (.int x) := fun x => ⟨_, rfl⟩
  have hn10_ : n ≤ 10 := by have := hn.1; have := hd.1; omega
  by_cases h0_ : n = 0
  · have e0_ := (sb_n0 hd hn).mp h0_
    subst h0_
    refine hs 0 _ rfl _ _ _ _ _ _ _ rfl ?_
    refine hs 1 _ rfl _ _ _ _ _ _ _ _ _ (hg) ht rfl ?_
    refine hs 2 _ rfl _ _ _ _ _ _ (fun zq => absurd (hd_c1z (c := 1) (by omega) (by omega) zq) (by omega : ¬ (((0 : Nat) : Int) ≠ 0))) (fun _ => ?_)
    refine hs 3 _ rfl _ _ _ _ _ _ _ rfl ?_
    exact hs 4 _ rfl _ _ _ _ _ (rv _) (Nat.zero_le _) (Nat.zero_le _) (hP 1 ⟨by decide, by rw [e0_]; decide, Or.inl rfl⟩)
  · obtain ⟨y_, ey_, y1_, y2_, hk_⟩ := zc_top hd hn (by omega)
    have loop_ : ∀ (m_ i_ : Nat) (c_ : Int), i_ + m_ = 9 → c_ = ((9 * (n - 1) + i_ : Nat) : Int) → (i_ = 0 ∨ 10 ^ (i_ - 1) ≤ y_) → S 32 [some (.ref q), some (.int (Int32.ofInt c_)), some (.int (Int32.ofInt ((y_ / 10 ^ i_ : Nat) : Int))), some (.int (Int32.ofInt (i_ : Int)))] [] h 0 0 := by
      intro m_
      induction m_ with
      | zero =>
        intro i_ c_ him_ hc_ hy_
        obtain rfl : i_ = 9 := by omega
        have hlt_ : y_ < 10 ^ 9 := by omega
        have hfin_ : Post (.inl (some (.int (Int32.ofInt c_)))) h := by rw [hc_]; exact hP _ (hk_ _ hlt_ (by decide) (by omega))
        refine hs 21 _ rfl _ _ _ _ _ _ _ rfl ?_
        refine hs 22 _ rfl _ _ _ _ _ _ _ rfl ?_
        refine hs 23 _ rfl _ _ _ _ _ _ _ (fun _ => ?_) (fun zq => absurd (hd_c2t (c := 3) (by omega) (by omega) (by omega) (by omega) (by omega : 0 ≤ (((9 : Nat) : Int) - (9 : Int)))) zq)
        refine hs 33 _ rfl _ _ _ _ _ _ _ rfl ?_
        exact hs 34 _ rfl _ _ _ _ _ (rv _) (Nat.zero_le _) (Nat.zero_le _) hfin_
      | succ m_ ih_ =>
        intro i_ c_ him_ hc_ hy_
        have hpow_ : 0 < 10 ^ i_ := Nat.pow_pos (by decide)
        have hle_ : y_ / 10 ^ i_ ≤ y_ := Nat.div_le_self _ _
        by_cases hz_ : y_ / 10 ^ i_ = 0
        · have hlt_ : y_ < 10 ^ i_ := by
            rcases (Nat.div_eq_zero_iff).mp hz_ with z_ | z_
            · omega
            · exact z_
          have hi0_ : 0 < i_ := by
            apply Nat.pos_of_ne_zero
            intro z_
            subst z_
            omega
          have hfin_ : Post (.inl (some (.int (Int32.ofInt c_)))) h := by rw [hc_]; exact hP _ (hk_ _ hlt_ hi0_ (hy_.resolve_left (by omega)))
          refine hs 21 _ rfl _ _ _ _ _ _ _ rfl ?_
          refine hs 22 _ rfl _ _ _ _ _ _ _ rfl ?_
          refine hs 23 _ rfl _ _ _ _ _ _ _ (fun zq => absurd (hd_c2z (c := 3) (by omega) (by omega) (by omega) (by omega) zq) (by omega : ¬ (0 ≤ ((i_ : Int) - (9 : Int))))) (fun _ => ?_)
          refine hs 24 _ rfl _ _ _ _ _ _ _ rfl ?_
          refine hs 25 _ rfl _ _ _ _ _ _ (fun _ => ?_) (fun zq => absurd (hd_c1t (c := 5) (by omega) (by omega) (by omega : ((y_ / 10 ^ i_ : Nat) : Int) ≤ 0)) zq)
          refine hs 33 _ rfl _ _ _ _ _ _ _ rfl ?_
          exact hs 34 _ rfl _ _ _ _ _ (rv _) (Nat.zero_le _) (Nat.zero_le _) hfin_
        · have hge_ : 10 ^ i_ ≤ y_ := Nat.not_lt.mp fun z_ => hz_ (Nat.div_eq_of_lt z_)
          have ih2_ := ih_ (i_ + 1) (c_ + (1 : Int)) (by omega) (by rw [hc_]; omega) (Or.inr (by rw [Nat.add_sub_cancel]; exact hge_))
          rw [Nat.pow_succ, ← Nat.div_div_eq_div_mul] at ih2_
          clear hge_ hy_ hpow_
          generalize y_ / 10 ^ i_ = d_ at *
          refine hs 21 _ rfl _ _ _ _ _ _ _ rfl ?_
          refine hs 22 _ rfl _ _ _ _ _ _ _ rfl ?_
          refine hs 23 _ rfl _ _ _ _ _ _ _ (fun zq => absurd (hd_c2z (c := 3) (by omega) (by omega) (by omega) (by omega) zq) (by omega : ¬ (0 ≤ ((i_ : Int) - (9 : Int))))) (fun _ => ?_)
          refine hs 24 _ rfl _ _ _ _ _ _ _ rfl ?_
          refine hs 25 _ rfl _ _ _ _ _ _ (fun zq => absurd (hd_c1z (c := 5) (by omega) (by omega) zq) (by omega : ¬ ((d_ : Int) ≤ 0))) (fun _ => ?_)
          refine hs 26 _ rfl _ _ _ _ _ _ _ rfl ?_
          refine hs 27 _ rfl _ _ _ _ _ _ _ rfl ?_
          refine hs 28 _ rfl _ _ _ _ _ _ _ (hd_div (by omega) (by omega) (by omega) (by omega)) ?_
          refine hs 29 _ rfl _ _ _ _ _ _ _ rfl ?_
          refine hs 30 _ rfl _ _ _ _ _ _ _ (hd_inc rfl) ?_
          refine hs 31 _ rfl _ _ _ _ _ _ _ (hd_inc rfl) ?_
          refine hs 32 _ rfl _ _ _ _ _ ?_
          rw [show ((i_ : Int) + (1 : Int)) = ((i_ + 1 : Nat) : Int) by omega]
          exact ih2_
    refine hs 0 _ rfl _ _ _ _ _ _ _ rfl ?_
    refine hs 1 _ rfl _ _ _ _ _ _ _ _ _ (hg) ht rfl ?_
    refine hs 2 _ rfl _ _ _ _ _ _ (fun _ => ?_) (fun zq => absurd (hd_c1t (c := 1) (by omega) (by omega) (by omega : (n : Int) ≠ 0)) zq)
    refine hs 5 _ rfl _ _ _ _ _ _ _ rfl ?_
    refine hs 6 _ rfl _ _ _ _ _ _ _ _ _ (hg) ht rfl ?_
    refine hs 7 _ rfl _ _ _ _ _ _ _ rfl ?_
    refine hs 8 _ rfl _ _ _ _ _ _ _ hd_sub ?_
    refine hs 9 _ rfl _ _ _ _ _ _ _ rfl ?_
    refine hs 10 _ rfl _ _ _ _ _ _ _ hd_mul ?_
    refine hs 11 _ rfl _ _ _ _ _ _ _ rfl ?_
    refine hs 12 _ rfl _ _ _ _ _ _ _ rfl ?_
    refine hs 13 _ rfl _ _ _ _ _ _ _ rfl ?_
    refine hs 14 _ rfl _ _ _ _ _ _ _ _ _ (hg) ht rfl ?_
    refine hs 15 _ rfl _ _ _ _ _ _ _ rfl ?_
    refine hs 16 _ rfl _ _ _ _ _ _ _ hd_sub ?_
    refine zw_c (hs 17 _ rfl) (a := [.ref q, .int (Int32.ofInt ((n : Int) - (1 : Int)))]) (st := []) rfl rfl (Nat.le_of_ble_eq_true rfl) ⟨_, _, _, rfl, (hg), ht⟩ (Nat.zero_le _) (Nat.zero_le _) (sb_limbE_M g (j := n - 1) (hg) ht (hgp) htp hd (by omega) (by omega) ey_ ?_)
    show S 29 [some (.ref q), some (.int (Int32.ofInt (((n : Int) - (1 : Int)) * (9 : Int)))), none, none] [.int (Int32.ofInt (y_ : Int))] _ _ _
    refine hs 18 _ rfl _ _ _ _ _ _ _ rfl ?_
    refine hs 19 _ rfl _ _ _ _ _ _ _ rfl ?_
    refine hs 20 _ rfl _ _ _ _ _ _ _ rfl ?_
    rw [show (y_ : Int) = ((y_ / 10 ^ 0 : Nat) : Int) by rw [Nat.pow_zero, Nat.div_one]]
    exact loop_ 9 0 _ (by omega) (by omega) (Or.inl rfl)
