/-! COMMON DIVISORS -/
def nu_in (a b k t : Nat) : Prop := (1 ≤ t ∧ t ∣ a ∧ t ∣ b) ∧ ∀ d : Nat, d ∣ a → d ∣ b → d < k → d ≤ t
theorem nu_out {a b k t : Nat} (h : nu_in a b k t) (ha : 0 < a) (hb : 0 < b) (hk : a < k ∨ b < k) : t = Nat.gcd a b := by
  obtain ⟨⟨h1, h2, h3⟩, h4⟩ := h
  have h5 := h4 (Nat.gcd a b) (Nat.gcd_dvd_left a b) (Nat.gcd_dvd_right a b) (by
    have := Nat.le_of_dvd ha (Nat.gcd_dvd_left a b)
    have := Nat.le_of_dvd hb (Nat.gcd_dvd_right a b)
    omega)
  have h6 := Nat.le_of_dvd (Nat.gcd_pos_of_pos_left b ha) (Nat.dvd_gcd h2 h3)
  omega
theorem nu_mod {a k : Nat} : ((a : Int) % (k : Int) = 0) ↔ k ∣ a := by rw [← Int.natCast_emod, Nat.dvd_iff_mod_eq_zero]; omega
set_option maxRecDepth 100000 in
set_option maxHeartbeats 4000000 in
theorem nu_gcd_M {l : Launch} {G : am_G} {X : ck_XT} (g : gE l G X) {a b : Nat} {h : List am_C} (ha : a ≤ 1000000) (hb : b ≤ 1000000) {mc ms : Nat} {Post : am_O → List am_C → Prop} (hP : Post (.inl (some (.int (Int32.ofInt (Nat.gcd a b : Int))))) h) :
    am_M l G yX14_gcdOf (.code yX14_gcdOf prog_14_method_8_code 4 (some .int)) 1 20 mc ms [.int (Int32.ofInt (a : Int)), .int (Int32.ofInt (b : Int))] h Post := by
  refine gh_yX14_gcdOf_H g (Nat.le_of_ble_eq_true rfl) fun S SX hs hr hw => ?_
  have rv : ∀ x : Int32, ck_fv 0 (.int x) := fun x => ⟨_, rfl⟩
  have hexit : ∀ (k t : Nat), nu_in a b k t → (a < k ∨ b < k) → S 34 [some (.int (Int32.ofInt (a : Int))), some (.int (Int32.ofInt (b : Int))), some (.int (Int32.ofInt (t : Int))), some (.int (Int32.ofInt (k : Int)))] [] h 0 0 := by
    intro k t hi hk
    by_cases ha0 : a = 0
    · subst ha0
      rw [Nat.gcd_zero_left] at hP
      refine hs 22 _ rfl _ _ _ _ _ _ _ rfl ?_
      refine hs 23 _ rfl _ _ _ _ _ _ (fun zq => absurd (hd_c1z (c := 1) (by omega) (by omega) zq) (by omega : ¬ (((0 : Nat) : Int) ≠ 0))) (fun _ => ?_)
      refine hs 24 _ rfl _ _ _ _ _ _ _ rfl ?_
      refine hs 25 _ rfl _ _ _ _ _ ?_
      exact hs 31 _ rfl _ _ _ _ _ (rv _) (Nat.zero_le _) (Nat.zero_le _) hP
    · by_cases hb0 : b = 0
      · subst hb0
        rw [Nat.gcd_zero_right] at hP
        refine hs 22 _ rfl _ _ _ _ _ _ _ rfl ?_
        refine hs 23 _ rfl _ _ _ _ _ _ (fun _ => ?_) (fun zq => absurd (hd_c1t (c := 1) (by omega) (by omega) (by omega : (a : Int) ≠ 0)) zq)
        refine hs 26 _ rfl _ _ _ _ _ _ _ rfl ?_
        refine hs 27 _ rfl _ _ _ _ _ _ (fun zq => absurd (hd_c1z (c := 1) (by omega) (by omega) zq) (by omega : ¬ (((0 : Nat) : Int) ≠ 0))) (fun _ => ?_)
        refine hs 28 _ rfl _ _ _ _ _ _ _ rfl ?_
        refine hs 29 _ rfl _ _ _ _ _ ?_
        exact hs 31 _ rfl _ _ _ _ _ (rv _) (Nat.zero_le _) (Nat.zero_le _) hP
      · rw [← nu_out hi (by omega) (by omega) hk] at hP
        refine hs 22 _ rfl _ _ _ _ _ _ _ rfl ?_
        refine hs 23 _ rfl _ _ _ _ _ _ (fun _ => ?_) (fun zq => absurd (hd_c1t (c := 1) (by omega) (by omega) (by omega : (a : Int) ≠ 0)) zq)
        refine hs 26 _ rfl _ _ _ _ _ _ _ rfl ?_
        refine hs 27 _ rfl _ _ _ _ _ _ (fun _ => ?_) (fun zq => absurd (hd_c1t (c := 1) (by omega) (by omega) (by omega : (b : Int) ≠ 0)) zq)
        refine hs 30 _ rfl _ _ _ _ _ _ _ rfl ?_
        exact hs 31 _ rfl _ _ _ _ _ (rv _) (Nat.zero_le _) (Nat.zero_le _) hP
  have loop : ∀ (m k t : Nat), k + m = a + 1 → 1 ≤ k → nu_in a b k t → S 4 [some (.int (Int32.ofInt (a : Int))), some (.int (Int32.ofInt (b : Int))), some (.int (Int32.ofInt (t : Int))), some (.int (Int32.ofInt (k : Int)))] [] h 0 0 := by
    intro m
    induction m with
    | zero =>
      intro k t hk h1 hi
      refine hs 4 _ rfl _ _ _ _ _ _ _ rfl ?_
      refine hs 5 _ rfl _ _ _ _ _ _ _ rfl ?_
      refine hs 6 _ rfl _ _ _ _ _ _ _ (fun _ => ?_) (fun zq => absurd (hd_c2t (c := 4) (by omega) (by omega) (by omega) (by omega) (by omega : 0 < ((k : Int) - (a : Int)))) zq)
      exact hexit k t hi (Or.inl (by omega))
    | succ m ih =>
      intro k t hk h1 hi
      obtain ⟨⟨i1, i2, i3⟩, i4⟩ := id hi
      by_cases hkb : b < k
      · 
        refine hs 4 _ rfl _ _ _ _ _ _ _ rfl ?_
        refine hs 5 _ rfl _ _ _ _ _ _ _ rfl ?_
        refine hs 6 _ rfl _ _ _ _ _ _ _ (fun zq => absurd (hd_c2z (c := 4) (by omega) (by omega) (by omega) (by omega) zq) (by omega : ¬ (0 < ((k : Int) - (a : Int))))) (fun _ => ?_)
        refine hs 7 _ rfl _ _ _ _ _ _ _ rfl ?_
        refine hs 8 _ rfl _ _ _ _ _ _ _ rfl ?_
        refine hs 9 _ rfl _ _ _ _ _ _ _ (fun _ => ?_) (fun zq => absurd (hd_c2t (c := 4) (by omega) (by omega) (by omega) (by omega) (by omega : 0 < ((k : Int) - (b : Int)))) zq)
        exact hexit k t hi (Or.inr hkb)
      · have na := nu_mod (a := a) (k := k)
        have nb := nu_mod (a := b) (k := k)
        have ra := Int.emod_nonneg (a : Int) (b := (k : Int)) (by omega)
        have rb := Int.emod_nonneg (b : Int) (b := (k : Int)) (by omega)
        have sa := Int.emod_lt_of_pos (a : Int) (b := (k : Int)) (by omega)
        have sb := Int.emod_lt_of_pos (b : Int) (b := (k : Int)) (by omega)
        by_cases hda : k ∣ a
        · have ea := na.mpr hda
          by_cases hdb : k ∣ b
          · have eb := nb.mpr hdb
            refine hs 4 _ rfl _ _ _ _ _ _ _ rfl ?_
            refine hs 5 _ rfl _ _ _ _ _ _ _ rfl ?_
            refine hs 6 _ rfl _ _ _ _ _ _ _ (fun zq => absurd (hd_c2z (c := 4) (by omega) (by omega) (by omega) (by omega) zq) (by omega : ¬ (0 < ((k : Int) - (a : Int))))) (fun _ => ?_)
            refine hs 7 _ rfl _ _ _ _ _ _ _ rfl ?_
            refine hs 8 _ rfl _ _ _ _ _ _ _ rfl ?_
            refine hs 9 _ rfl _ _ _ _ _ _ _ (fun zq => absurd (hd_c2z (c := 4) (by omega) (by omega) (by omega) (by omega) zq) (by omega : ¬ (0 < ((k : Int) - (b : Int))))) (fun _ => ?_)
            refine hs 10 _ rfl _ _ _ _ _ _ _ rfl ?_
            refine hs 11 _ rfl _ _ _ _ _ _ _ rfl ?_
            refine hs 12 _ rfl _ _ _ _ _ _ _ (hd_rem (by omega) (by omega) (by omega) (by omega)) ?_
            refine hs 13 _ rfl _ _ _ _ _ _ (fun zq => absurd (hd_c1z (c := 1) (by omega) (by omega) zq) (by omega : ¬ (((a : Int) % (k : Int)) ≠ 0))) (fun _ => ?_)
            refine hs 14 _ rfl _ _ _ _ _ _ _ rfl ?_
            refine hs 15 _ rfl _ _ _ _ _ _ _ rfl ?_
            refine hs 16 _ rfl _ _ _ _ _ _ _ (hd_rem (by omega) (by omega) (by omega) (by omega)) ?_
            refine hs 17 _ rfl _ _ _ _ _ _ (fun zq => absurd (hd_c1z (c := 1) (by omega) (by omega) zq) (by omega : ¬ (((b : Int) % (k : Int)) ≠ 0))) (fun _ => ?_)
            refine hs 18 _ rfl _ _ _ _ _ _ _ rfl ?_
            refine hs 19 _ rfl _ _ _ _ _ _ _ rfl ?_
            refine hs 20 _ rfl _ _ _ _ _ _ _ (hd_inc rfl) ?_
            refine hs 21 _ rfl _ _ _ _ _ ?_
            refine ih (k + 1) k (by omega) (by omega) ⟨⟨h1, hda, hdb⟩, fun d d1 d2 d3 => by omega⟩
          · have eb : ¬ (b : Int) % (k : Int) = 0 := fun z => hdb (nb.mp z)
            refine hs 4 _ rfl _ _ _ _ _ _ _ rfl ?_
            refine hs 5 _ rfl _ _ _ _ _ _ _ rfl ?_
            refine hs 6 _ rfl _ _ _ _ _ _ _ (fun zq => absurd (hd_c2z (c := 4) (by omega) (by omega) (by omega) (by omega) zq) (by omega : ¬ (0 < ((k : Int) - (a : Int))))) (fun _ => ?_)
            refine hs 7 _ rfl _ _ _ _ _ _ _ rfl ?_
            refine hs 8 _ rfl _ _ _ _ _ _ _ rfl ?_
            refine hs 9 _ rfl _ _ _ _ _ _ _ (fun zq => absurd (hd_c2z (c := 4) (by omega) (by omega) (by omega) (by omega) zq) (by omega : ¬ (0 < ((k : Int) - (b : Int))))) (fun _ => ?_)
            refine hs 10 _ rfl _ _ _ _ _ _ _ rfl ?_
            refine hs 11 _ rfl _ _ _ _ _ _ _ rfl ?_
            refine hs 12 _ rfl _ _ _ _ _ _ _ (hd_rem (by omega) (by omega) (by omega) (by omega)) ?_
            refine hs 13 _ rfl _ _ _ _ _ _ (fun zq => absurd (hd_c1z (c := 1) (by omega) (by omega) zq) (by omega : ¬ (((a : Int) % (k : Int)) ≠ 0))) (fun _ => ?_)
            refine hs 14 _ rfl _ _ _ _ _ _ _ rfl ?_
            refine hs 15 _ rfl _ _ _ _ _ _ _ rfl ?_
            refine hs 16 _ rfl _ _ _ _ _ _ _ (hd_rem (by omega) (by omega) (by omega) (by omega)) ?_
            refine hs 17 _ rfl _ _ _ _ _ _ (fun _ => ?_) (fun zq => absurd (hd_c1t (c := 1) (by omega) (by omega) (by omega : ((b : Int) % (k : Int)) ≠ 0)) zq)
            refine hs 20 _ rfl _ _ _ _ _ _ _ (hd_inc rfl) ?_
            refine hs 21 _ rfl _ _ _ _ _ ?_
            refine ih (k + 1) t (by omega) (by omega) ⟨⟨i1, i2, i3⟩, fun d d1 d2 d3 => ?_⟩
            by_cases e : d = k
            · subst e; exact absurd d2 hdb
            · exact i4 d d1 d2 (by omega)
        · have ea : ¬ (a : Int) % (k : Int) = 0 := fun z => hda (na.mp z)
          refine hs 4 _ rfl _ _ _ _ _ _ _ rfl ?_
          refine hs 5 _ rfl _ _ _ _ _ _ _ rfl ?_
          refine hs 6 _ rfl _ _ _ _ _ _ _ (fun zq => absurd (hd_c2z (c := 4) (by omega) (by omega) (by omega) (by omega) zq) (by omega : ¬ (0 < ((k : Int) - (a : Int))))) (fun _ => ?_)
          refine hs 7 _ rfl _ _ _ _ _ _ _ rfl ?_
          refine hs 8 _ rfl _ _ _ _ _ _ _ rfl ?_
          refine hs 9 _ rfl _ _ _ _ _ _ _ (fun zq => absurd (hd_c2z (c := 4) (by omega) (by omega) (by omega) (by omega) zq) (by omega : ¬ (0 < ((k : Int) - (b : Int))))) (fun _ => ?_)
          refine hs 10 _ rfl _ _ _ _ _ _ _ rfl ?_
          refine hs 11 _ rfl _ _ _ _ _ _ _ rfl ?_
          refine hs 12 _ rfl _ _ _ _ _ _ _ (hd_rem (by omega) (by omega) (by omega) (by omega)) ?_
          refine hs 13 _ rfl _ _ _ _ _ _ (fun _ => ?_) (fun zq => absurd (hd_c1t (c := 1) (by omega) (by omega) (by omega : ((a : Int) % (k : Int)) ≠ 0)) zq)
          refine hs 20 _ rfl _ _ _ _ _ _ _ (hd_inc rfl) ?_
          refine hs 21 _ rfl _ _ _ _ _ ?_
          refine ih (k + 1) t (by omega) (by omega) ⟨⟨i1, i2, i3⟩, fun d d1 d2 d3 => ?_⟩
          by_cases e : d = k
          · subst e; exact absurd d1 hda
          · exact i4 d d1 d2 (by omega)
  refine hs 0 _ rfl _ _ _ _ _ _ _ rfl ?_
  refine hs 1 _ rfl _ _ _ _ _ _ _ rfl ?_
  refine hs 2 _ rfl _ _ _ _ _ _ _ rfl ?_
  refine hs 3 _ rfl _ _ _ _ _ _ _ rfl ?_
  exact loop a 1 1 (by omega) (by decide) ⟨⟨by decide, Nat.one_dvd a, Nat.one_dvd b⟩, fun d _ _ d3 => by omega⟩
def nu_gcdK : ck_KK := (([(0, 999), (1, 999)], [], [], 0, [(1, 0, (0, [(1, 0)])), (1, 0, (0, [(1, 1)]))]), ((0, []), (0, [])), [], [], ([(1, 999)], [], [(4, 0, 2, 0, (0, 0, (0, [(1000000, 0), (1, 1), (1000000000000, 2)])))], 0, [(1, 0, (0, [(1, 2)]))]), [])
theorem nu_i32 {x : Int32} {n : Int} (h : x.toInt = n) : x = Int32.ofInt n := by rw [← h, Int32.ofInt_toInt]
theorem nu_gcd_con {l : Launch} {G : am_G} {X : ck_XT} (g : gE l G X) : ck_Con (am_cm l G yX14_gcdOf (.code yX14_gcdOf prog_14_method_8_code 4 (some .int)) 1 20) G X gT nu_gcdK := by
  intro K r s a h hH hV hC hF hn hS mc ms hmc hms
  match r, hV.1 with
  | [x0, x1], _ =>
    match a, hS with
    | [w1, w2], ⟨⟨y1, c1, c2⟩, ⟨y2, c3, c4⟩, _⟩ =>
      subst c1 c3
      have c2 := ck_lv1 c2
      have c4 := ck_lv1 c4
      cases c2; cases c4
      obtain ⟨i1, i2⟩ := li_in' hV
      obtain ⟨i3, i4⟩ := hV.2 1 1 999 y2.toInt rfl rfl
      have e1 : y1.toInt = (y1.toInt.toNat : Int) := by omega
      have e2 : y2.toInt = (y2.toInt.toNat : Int) := by omega
      have hy1 := nu_i32 e1
      have hy2 := nu_i32 e2
      have gl := Nat.le_of_dvd (by omega) (Nat.gcd_dvd_right y1.toInt.toNat y2.toInt.toNat)
      have gp := Nat.gcd_pos_of_pos_right y1.toInt.toNat (show 0 < y2.toInt.toNat by omega)
      generalize hA : y1.toInt.toNat = A at *
      generalize hB : y2.toInt.toNat = B at *
      rw [hy1, hy2]
      refine nu_gcd_M g (by omega) (by omega) ⟨hH, ck_Kp.rf, Nat.le_refl _, [(Nat.gcd A B : Int)], [], li_in (by omega) (by omega) li_in0, (fun c hc => nomatch hc), List.forall_mem_cons.mpr ⟨?_, List.forall_mem_nil _⟩, rfl, ⟨⟨_, rfl, by rw [show (Int32.ofInt (Nat.gcd A B : Int)).toInt = (Nat.gcd A B : Int) from hd_oi (by omega) (by omega)]; exact ck_Lv.x rfl⟩, trivial⟩⟩
      refine ⟨1000000000000 * (Nat.gcd A B : Int) + (1000000 * (A : Int) + (B : Int)), ⟨fun t ht => ?_, ?_⟩, Nat.gcd A B, A, B, by omega, by omega, rfl, rfl⟩
      · simp at ht
        rcases ht with rfl | rfl | rfl <;> exact Nat.le_of_ble_eq_true rfl
      · show _ = (0 : Int) + (1000000 * (Int32.ofInt (A : Int)).toInt + (1 * (Int32.ofInt (B : Int)).toInt + (1000000000000 * (Nat.gcd A B : Int) + 0)))
        rw [hd_oi (by omega) (by omega), hd_oi (by omega) (by omega)]
        omega
