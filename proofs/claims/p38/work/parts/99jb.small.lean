/-! SMALL NUMBERS OF THE CLASS -/
set_option maxHeartbeats 4000000 in
theorem sm_common_M {l : Launch} {G : am_G} {X : ck_XT} (g : gM l G X) {a b : Nat} {h : List am_C} (ha : a ≤ 1000000) (hb : b ≤ 999) {mc ms : Nat} {Post : am_O → List am_C → Prop} (hP : Post (.inl (some (.int (Int32.ofInt (Nat.gcd a b : Int))))) h) :
    am_M l G yX7_commonOf (.code yX7_commonOf prog_9_method_2_code 6 (some .int)) 1 20 mc ms [.int (Int32.ofInt (a : Int)), .int (Int32.ofInt (b : Int))] h Post := by
  refine gh_yX7_commonOf_H g (Nat.le_of_ble_eq_true rfl) fun S SX hs hr hw => ?_
  have rv : ∀ x : Int32, ck_fv 0 (.int x) := fun x => ⟨_, rfl⟩
  have loop : ∀ (m k x y : Nat) (w : Option Value), y ≤ m → k + m ≤ 999 → x ≤ 1000000 → Nat.gcd x y = Nat.gcd a b → S 7 [some (.int (Int32.ofInt (a : Int))), some (.int (Int32.ofInt (b : Int))), some (.int (Int32.ofInt (x : Int))), some (.int (Int32.ofInt (y : Int))), some (.int (Int32.ofInt (k : Int))), w] [] h 0 0 := by
    intro m
    have hexit : ∀ (k x y : Nat) (w : Option Value), y = 0 → k ≤ 999 → x ≤ 1000000 → Nat.gcd x y = Nat.gcd a b → S 7 [some (.int (Int32.ofInt (a : Int))), some (.int (Int32.ofInt (b : Int))), some (.int (Int32.ofInt (x : Int))), some (.int (Int32.ofInt (y : Int))), some (.int (Int32.ofInt (k : Int))), w] [] h 0 0 := by
      intro k x y w hy hk hx hg
      subst hy
      rw [← hg, Nat.gcd_zero_right] at hP
      refine hs 6 _ rfl _ _ _ _ _ _ _ rfl ?_
      refine hs 7 _ rfl _ _ _ _ _ _ _ rfl ?_
      refine hs 8 _ rfl _ _ _ _ _ _ _ (fun zq => absurd (hd_c2z (c := 3) (by omega) (by omega) (by omega) (by omega) zq) (by omega : ¬ (0 ≤ ((k : Int) - (1000 : Int))))) (fun _ => ?_)
      refine hs 9 _ rfl _ _ _ _ _ _ _ rfl ?_
      refine hs 10 _ rfl _ _ _ _ _ _ (fun _ => ?_) (fun zq => absurd (hd_c1t (c := 5) (by omega) (by omega) (by omega : ((0 : Nat) : Int) ≤ 0)) zq)
      refine hs 21 _ rfl _ _ _ _ _ _ _ rfl ?_
      exact hs 22 _ rfl _ _ _ _ _ (rv _) (Nat.zero_le _) (Nat.zero_le _) hP
    induction m with
    | zero =>
      intro k x y w hy hk hx hg
      exact hexit k x y w (by omega) (by omega) hx hg
    | succ m ih =>
      intro k x y w hy hk hx hg
      by_cases h0 : y = 0
      · exact hexit k x y w h0 (by omega) hx hg
      · have hlt := Nat.mod_lt x (show 0 < y by omega)
        refine hs 6 _ rfl _ _ _ _ _ _ _ rfl ?_
        refine hs 7 _ rfl _ _ _ _ _ _ _ rfl ?_
        refine hs 8 _ rfl _ _ _ _ _ _ _ (fun zq => absurd (hd_c2z (c := 3) (by omega) (by omega) (by omega) (by omega) zq) (by omega : ¬ (0 ≤ ((k : Int) - (1000 : Int))))) (fun _ => ?_)
        refine hs 9 _ rfl _ _ _ _ _ _ _ rfl ?_
        refine hs 10 _ rfl _ _ _ _ _ _ (fun zq => absurd (hd_c1z (c := 5) (by omega) (by omega) zq) (by omega : ¬ ((y : Int) ≤ 0))) (fun _ => ?_)
        refine hs 11 _ rfl _ _ _ _ _ _ _ rfl ?_
        refine hs 12 _ rfl _ _ _ _ _ _ _ rfl ?_
        refine hs 13 _ rfl _ _ _ _ _ _ _ (hd_rem (by omega) (by omega) (by omega) (by omega)) ?_
        refine hs 14 _ rfl _ _ _ _ _ _ _ rfl ?_
        refine hs 15 _ rfl _ _ _ _ _ _ _ rfl ?_
        refine hs 16 _ rfl _ _ _ _ _ _ _ rfl ?_
        refine hs 17 _ rfl _ _ _ _ _ _ _ rfl ?_
        refine hs 18 _ rfl _ _ _ _ _ _ _ rfl ?_
        refine hs 19 _ rfl _ _ _ _ _ _ _ (hd_inc rfl) ?_
        refine hs 20 _ rfl _ _ _ _ _ ?_
        rw [show ((x : Int) % (y : Int)) = ((x % y : Nat) : Int) from (Int.natCast_emod x y).symm]
        refine ih (k + 1) y (x % y) _ (by omega) (by omega) (by omega) ?_
        rw [← hg, Nat.gcd_comm x y, Nat.gcd_rec y x, Nat.gcd_comm]
  refine hs 0 _ rfl _ _ _ _ _ _ _ rfl ?_
  refine hs 1 _ rfl _ _ _ _ _ _ _ rfl ?_
  refine hs 2 _ rfl _ _ _ _ _ _ _ rfl ?_
  refine hs 3 _ rfl _ _ _ _ _ _ _ rfl ?_
  refine hs 4 _ rfl _ _ _ _ _ _ _ rfl ?_
  refine hs 5 _ rfl _ _ _ _ _ _ _ rfl ?_
  exact loop 999 0 a b none hb (by omega) ha rfl
theorem sm_mm (x y m : Nat) : (x : Int) * (y : Int) % (m : Int) = ((x * y % m : Nat) : Int) := by rw [Int.natCast_emod, Int.natCast_mul]
theorem sm_d2 (x : Nat) : (x : Int) / (2 : Int) = ((x / 2 : Nat) : Int) := by rw [Int.natCast_ediv]; rfl
theorem sm_r2 (x : Nat) : (x : Int) % (2 : Int) = ((x % 2 : Nat) : Int) := by rw [Int.natCast_emod]; rfl
theorem sm_1m (m : Nat) : (1 : Int) % (m : Int) = ((1 % m : Nat) : Int) := by rw [Int.natCast_emod]; rfl
theorem sm_le {x y m : Nat} (hx : x < m) (hy : y < m) (hm : m ≤ 1000) : x * y ≤ 1000000 := by
  have := Nat.mul_le_mul (show x ≤ 1000 by omega) (show y ≤ 1000 by omega)
  omega
theorem sm_sq (r f q m : Nat) : r * (f * f % m) ^ q % m = r * f ^ (2 * q) % m := by
  rw [Nat.mul_mod, ← Nat.pow_mod, ← Nat.mul_mod, ← Nat.pow_two, ← Nat.pow_mul]
theorem sm_od (r f q m : Nat) : (r * f % m) * (f * f % m) ^ q % m = r * f ^ (2 * q + 1) % m := by
  rw [sm_sq, Nat.mul_mod, Nat.mod_mod, ← Nat.mul_mod, Nat.mul_assoc, Nat.pow_succ, Nat.mul_comm f]
set_option maxHeartbeats 4000000 in
theorem sm_raise_M {l : Launch} {G : am_G} {X : ck_XT} (g : gM l G X) {a e m : Nat} {h : List am_C} (ha : a < m) (hm : m ≤ 1000) (he : e ≤ 2147483647) {mc ms : Nat} {Post : am_O → List am_C → Prop} (hP : Post (.inl (some (.int (Int32.ofInt ((a ^ e % m : Nat) : Int))))) h) :
    am_M l G yX7_raiseByInt (.code yX7_raiseByInt prog_9_method_4_code 7 (some .int)) 1 20 mc ms [.int (Int32.ofInt (a : Int)), .int (Int32.ofInt (e : Int)), .int (Int32.ofInt (m : Int))] h Post := by
  refine gh_yX7_raiseByInt_H g (Nat.le_of_ble_eq_true rfl) fun S SX hs hr hw => ?_
  have rv : ∀ x : Int32, ck_fv 0 (.int x) := fun x => ⟨_, rfl⟩
  have loop : ∀ (j k res fac left : Nat), k + j = 31 → left < 2 ^ j → left ≤ 2147483647 → res < m → fac < m → res * fac ^ left % m = a ^ e % m → S 20 [some (.int (Int32.ofInt (a : Int))), some (.int (Int32.ofInt (e : Int))), some (.int (Int32.ofInt (m : Int))), some (.int (Int32.ofInt (res : Int))), some (.int (Int32.ofInt (fac : Int))), some (.int (Int32.ofInt (left : Int))), some (.int (Int32.ofInt (k : Int)))] [] h 0 0 := by
    intro j
    induction j with
    | zero =>
      intro k res fac left hk hl hl2 hr1 hf hi
      obtain rfl : left = 0 := by omega
      rw [Nat.pow_zero, Nat.mul_one, Nat.mod_eq_of_lt hr1] at hi
      rw [← hi] at hP
      refine hs 14 _ rfl _ _ _ _ _ _ _ rfl ?_
      refine hs 15 _ rfl _ _ _ _ _ _ _ rfl ?_
      refine hs 16 _ rfl _ _ _ _ _ _ _ (fun _ => ?_) (fun zq => absurd (hd_c2t (c := 3) (by omega) (by omega) (by omega) (by omega) (by omega : 0 ≤ ((k : Int) - (31 : Int)))) zq)
      refine hs 42 _ rfl _ _ _ _ _ _ _ rfl ?_
      exact hs 43 _ rfl _ _ _ _ _ (rv _) (Nat.zero_le _) (Nat.zero_le _) hP
    | succ j ih =>
      intro k res fac left hk hl hl2 hr1 hf hi
      by_cases h0 : left = 0
      · subst h0
        rw [Nat.pow_zero, Nat.mul_one, Nat.mod_eq_of_lt hr1] at hi
        rw [← hi] at hP
        refine hs 14 _ rfl _ _ _ _ _ _ _ rfl ?_
        refine hs 15 _ rfl _ _ _ _ _ _ _ rfl ?_
        refine hs 16 _ rfl _ _ _ _ _ _ _ (fun zq => absurd (hd_c2z (c := 3) (by omega) (by omega) (by omega) (by omega) zq) (by omega : ¬ (0 ≤ ((k : Int) - (31 : Int))))) (fun _ => ?_)
        refine hs 17 _ rfl _ _ _ _ _ _ _ rfl ?_
        refine hs 18 _ rfl _ _ _ _ _ _ (fun _ => ?_) (fun zq => absurd (hd_c1t (c := 5) (by omega) (by omega) (by omega : ((0 : Nat) : Int) ≤ 0)) zq)
        refine hs 42 _ rfl _ _ _ _ _ _ _ rfl ?_
        exact hs 43 _ rfl _ _ _ _ _ (rv _) (Nat.zero_le _) (Nat.zero_le _) hP
      · have hrf := sm_le hr1 hf hm
        have hff := sm_le hf hf hm
        have hrf' : ((res * fac : Nat) : Int) = (res : Int) * (fac : Int) := Int.natCast_mul _ _
        have hff' : ((fac * fac : Nat) : Int) = (fac : Int) * (fac : Int) := Int.natCast_mul _ _
        have hl3 : left / 2 < 2 ^ j := by rw [Nat.pow_succ] at hl; omega
        have hmp : 0 < m := by omega
        by_cases h1 : left % 2 = 1
        · have h1' : (left : Int) % (2 : Int) = 1 := by rw [sm_r2, h1]; rfl
          refine hs 14 _ rfl _ _ _ _ _ _ _ rfl ?_
          refine hs 15 _ rfl _ _ _ _ _ _ _ rfl ?_
          refine hs 16 _ rfl _ _ _ _ _ _ _ (fun zq => absurd (hd_c2z (c := 3) (by omega) (by omega) (by omega) (by omega) zq) (by omega : ¬ (0 ≤ ((k : Int) - (31 : Int))))) (fun _ => ?_)
          refine hs 17 _ rfl _ _ _ _ _ _ _ rfl ?_
          refine hs 18 _ rfl _ _ _ _ _ _ (fun zq => absurd (hd_c1z (c := 5) (by omega) (by omega) zq) (by omega : ¬ ((left : Int) ≤ 0))) (fun _ => ?_)
          refine hs 19 _ rfl _ _ _ _ _ _ _ rfl ?_
          refine hs 20 _ rfl _ _ _ _ _ _ _ rfl ?_
          refine hs 21 _ rfl _ _ _ _ _ _ _ (hd_rem (by omega) (by omega) (by omega) (by omega)) ?_
          refine hs 22 _ rfl _ _ _ _ _ _ _ rfl ?_
          refine hs 23 _ rfl _ _ _ _ _ _ _ (fun zq => absurd (hd_c2z (c := 1) (by omega) (by omega) (by omega) (by omega) zq) (by omega : ¬ ((((left : Int) % (2 : Int)) - (1 : Int)) ≠ 0))) (fun _ => ?_)
          refine hs 24 _ rfl _ _ _ _ _ _ _ rfl ?_
          refine hs 25 _ rfl _ _ _ _ _ _ _ rfl ?_
          refine hs 26 _ rfl _ _ _ _ _ _ _ hd_mul ?_
          refine hs 27 _ rfl _ _ _ _ _ _ _ rfl ?_
          refine hs 28 _ rfl _ _ _ _ _ _ _ (hd_rem (by omega) (by omega) (by omega) (by omega)) ?_
          refine hs 29 _ rfl _ _ _ _ _ _ _ rfl ?_
          refine hs 30 _ rfl _ _ _ _ _ _ _ rfl ?_
          refine hs 31 _ rfl _ _ _ _ _ _ _ rfl ?_
          refine hs 32 _ rfl _ _ _ _ _ _ _ (hd_div (by omega) (by omega) (by omega) (by omega)) ?_
          refine hs 33 _ rfl _ _ _ _ _ _ _ rfl ?_
          refine hs 34 _ rfl _ _ _ _ _ _ _ rfl ?_
          refine hs 35 _ rfl _ _ _ _ _ _ _ rfl ?_
          refine hs 36 _ rfl _ _ _ _ _ _ _ hd_mul ?_
          refine hs 37 _ rfl _ _ _ _ _ _ _ rfl ?_
          refine hs 38 _ rfl _ _ _ _ _ _ _ (hd_rem (by omega) (by omega) (by omega) (by omega)) ?_
          refine hs 39 _ rfl _ _ _ _ _ _ _ rfl ?_
          refine hs 40 _ rfl _ _ _ _ _ _ _ (hd_inc rfl) ?_
          refine hs 41 _ rfl _ _ _ _ _ ?_
          rw [sm_mm, sm_mm, sm_d2]
          refine ih (k + 1) _ _ _ (by omega) hl3 (by omega) (Nat.mod_lt _ hmp) (Nat.mod_lt _ hmp) ?_
          rw [sm_od, show 2 * (left / 2) + 1 = left by omega]
          exact hi
        · have h1' : (left : Int) % (2 : Int) = 0 := by rw [sm_r2, show left % 2 = 0 by omega]; rfl
          refine hs 14 _ rfl _ _ _ _ _ _ _ rfl ?_
          refine hs 15 _ rfl _ _ _ _ _ _ _ rfl ?_
          refine hs 16 _ rfl _ _ _ _ _ _ _ (fun zq => absurd (hd_c2z (c := 3) (by omega) (by omega) (by omega) (by omega) zq) (by omega : ¬ (0 ≤ ((k : Int) - (31 : Int))))) (fun _ => ?_)
          refine hs 17 _ rfl _ _ _ _ _ _ _ rfl ?_
          refine hs 18 _ rfl _ _ _ _ _ _ (fun zq => absurd (hd_c1z (c := 5) (by omega) (by omega) zq) (by omega : ¬ ((left : Int) ≤ 0))) (fun _ => ?_)
          refine hs 19 _ rfl _ _ _ _ _ _ _ rfl ?_
          refine hs 20 _ rfl _ _ _ _ _ _ _ rfl ?_
          refine hs 21 _ rfl _ _ _ _ _ _ _ (hd_rem (by omega) (by omega) (by omega) (by omega)) ?_
          refine hs 22 _ rfl _ _ _ _ _ _ _ rfl ?_
          refine hs 23 _ rfl _ _ _ _ _ _ _ (fun _ => ?_) (fun zq => absurd (hd_c2t (c := 1) (by omega) (by omega) (by omega) (by omega) (by omega : (((left : Int) % (2 : Int)) - (1 : Int)) ≠ 0)) zq)
          refine hs 30 _ rfl _ _ _ _ _ _ _ rfl ?_
          refine hs 31 _ rfl _ _ _ _ _ _ _ rfl ?_
          refine hs 32 _ rfl _ _ _ _ _ _ _ (hd_div (by omega) (by omega) (by omega) (by omega)) ?_
          refine hs 33 _ rfl _ _ _ _ _ _ _ rfl ?_
          refine hs 34 _ rfl _ _ _ _ _ _ _ rfl ?_
          refine hs 35 _ rfl _ _ _ _ _ _ _ rfl ?_
          refine hs 36 _ rfl _ _ _ _ _ _ _ hd_mul ?_
          refine hs 37 _ rfl _ _ _ _ _ _ _ rfl ?_
          refine hs 38 _ rfl _ _ _ _ _ _ _ (hd_rem (by omega) (by omega) (by omega) (by omega)) ?_
          refine hs 39 _ rfl _ _ _ _ _ _ _ rfl ?_
          refine hs 40 _ rfl _ _ _ _ _ _ _ (hd_inc rfl) ?_
          refine hs 41 _ rfl _ _ _ _ _ ?_
          rw [sm_mm, sm_d2]
          refine ih (k + 1) _ _ _ (by omega) hl3 (by omega) hr1 (Nat.mod_lt _ hmp) ?_
          rw [sm_sq, show 2 * (left / 2) = left by omega]
          exact hi
  refine hs 0 _ rfl _ _ _ _ _ _ _ rfl ?_
  refine hs 1 _ rfl _ _ _ _ _ _ (fun _ => ?_) (fun zq => absurd (hd_c1t (c := 4) (by omega) (by omega) (by omega : 0 < (m : Int))) zq)
  refine hs 4 _ rfl _ _ _ _ _ _ _ rfl ?_
  refine hs 5 _ rfl _ _ _ _ _ _ _ rfl ?_
  refine hs 6 _ rfl _ _ _ _ _ _ _ (hd_rem (by omega) (by omega) (by omega) (by omega)) ?_
  refine hs 7 _ rfl _ _ _ _ _ _ _ rfl ?_
  refine hs 8 _ rfl _ _ _ _ _ _ _ rfl ?_
  refine hs 9 _ rfl _ _ _ _ _ _ _ rfl ?_
  refine hs 10 _ rfl _ _ _ _ _ _ _ rfl ?_
  refine hs 11 _ rfl _ _ _ _ _ _ _ rfl ?_
  refine hs 12 _ rfl _ _ _ _ _ _ _ rfl ?_
  refine hs 13 _ rfl _ _ _ _ _ _ _ rfl ?_
  rw [sm_1m]
  refine loop 31 0 (1 % m) a e (by omega) (by omega) he (Nat.mod_lt _ (by omega)) ha ?_
  rw [Nat.mul_mod, Nat.mod_mod, ← Nat.mul_mod, Nat.one_mul]
/-- what is told of an inverse -/
def sm_inv (a m : Nat) (z : Int) : Prop := (Nat.gcd a m ≠ 1 ∧ z = -8) ∨ (Nat.gcd a m = 1 ∧ 0 ≤ z ∧ z < m ∧ (a : Int) * z % m = 1 % m)
/-- Euclid's way with the factors beside it -/
def sm_ev (a m o n : Nat) (p q : Int) : Prop := n < o ∧ Nat.gcd o n = Nat.gcd m a ∧ (∃ u v : Nat, ((p = -(u : Int) ∧ q = (v : Int)) ∨ (p = (u : Int) ∧ q = -(v : Int))) ∧ v * o + u * n = m ∧ 2 * u ≤ m) ∧ (m : Int) ∣ (o : Int) - p * a ∧ (m : Int) ∣ (n : Int) - q * a
theorem sm_ev0 {a m : Nat} (ha : a < m) : sm_ev a m m a 0 1 :=
  ⟨ha, rfl, ⟨0, 1, Or.inl ⟨rfl, rfl⟩, by omega, by omega⟩, ⟨1, by omega⟩, ⟨0, by omega⟩⟩
theorem sm_ev_b {a m o n : Nat} {p q : Int} (h : sm_ev a m o n p q) (hm : 1 ≤ m) (hm2 : m ≤ 1000) (hn : 0 < n) : (-1000 ≤ q ∧ q ≤ 1000) ∧ (-1000 ≤ p ∧ p ≤ 1000) ∧ (-1000 ≤ ((o / n : Nat) : Int) * q ∧ ((o / n : Nat) : Int) * q ≤ 1000) := by
  obtain ⟨h1, -, ⟨u, v, h3, h4, h5⟩, -⟩ := h
  have e1 : v * 1 ≤ v * o := Nat.mul_le_mul_left v (by omega)
  have e2 : (o / n) * v ≤ o * v := Nat.mul_le_mul_right v (Nat.div_le_self o n)
  have e3 : o * v = v * o := Nat.mul_comm o v
  have e4 : (((o / n) * v : Nat) : Int) = ((o / n : Nat) : Int) * (v : Int) := Int.natCast_mul _ _
  generalize hw : (o / n) * v = w at *
  generalize hy : v * o = y at *
  generalize hz : u * n = z at *
  rcases h3 with ⟨rfl, rfl⟩ | ⟨rfl, rfl⟩
  · refine ⟨⟨by omega, by omega⟩, ⟨by omega, by omega⟩, ?_, ?_⟩ <;> rw [← e4] <;> omega
  · refine ⟨⟨by omega, by omega⟩, ⟨by omega, by omega⟩, ?_, ?_⟩ <;> rw [Int.mul_neg, ← e4] <;> omega
theorem sm_ev_s {a m o n : Nat} {p q : Int} (h : sm_ev a m o n p q) (hn : 0 < n) : sm_ev a m n (o % n) q (p - ((o / n : Nat) : Int) * q) := by
  obtain ⟨h1, h2, ⟨u, v, h3, h4, h5⟩, h6, h7⟩ := h
  have hd : n * (o / n) + o % n = o := Nat.div_add_mod o n
  refine ⟨Nat.mod_lt o hn, ?_, ⟨v, u + (o / n) * v, ?_, ?_, ?_⟩, h7, ?_⟩
  · rw [← h2, Nat.gcd_comm o n, Nat.gcd_rec n o, Nat.gcd_comm]
  · have e4 : (((o / n) * v : Nat) : Int) = ((o / n : Nat) : Int) * (v : Int) := Int.natCast_mul _ _
    generalize (o / n) * v = w at *
    rcases h3 with ⟨rfl, rfl⟩ | ⟨rfl, rfl⟩
    · refine Or.inr ⟨rfl, ?_⟩
      rw [← e4]; omega
    · refine Or.inl ⟨rfl, ?_⟩
      rw [Int.mul_neg, ← e4]; omega
  · rw [← h4]
    have : v * o = v * (n * (o / n)) + v * (o % n) := by rw [← Nat.mul_add, hd]
    rw [this, Nat.add_mul]
    have e1 : o / n * v * n = v * (n * (o / n)) := by rw [Nat.mul_comm (o / n) v, Nat.mul_assoc, Nat.mul_comm (o / n) n]
    rw [e1]
    omega
  · have e1 : 2 * v ≤ v * o := by rw [Nat.mul_comm 2 v]; exact Nat.mul_le_mul_left v (by omega)
    generalize v * o = y at *
    omega
  · obtain ⟨x, hx⟩ := h6
    obtain ⟨y, hy⟩ := h7
    refine ⟨x - ((o / n : Nat) : Int) * y, ?_⟩
    have hz : ((o % n : Nat) : Int) = (o : Int) - (n : Int) * ((o / n : Nat) : Int) := by
      have : ((n * (o / n) + o % n : Nat) : Int) = (o : Int) := by rw [hd]
      rw [Int.natCast_add, Int.natCast_mul] at this
      omega
    rw [hz, Int.mul_sub, ← hx, ← Int.mul_assoc, Int.mul_comm (m : Int), Int.mul_assoc, ← hy, Int.sub_mul, Int.mul_sub, Int.mul_comm (n : Int), ← Int.mul_assoc]
    omega
theorem sm_ev_e {a m o : Nat} {p q : Int} (hm : 1 ≤ m) (h : sm_ev a m o 0 p q) : (o ≠ 1 → sm_inv a m (-8)) ∧ (o = 1 → (-1000 ≤ p ∨ 1000 < m) ∧ (p < 0 → sm_inv a m (p + m)) ∧ (¬ p < 0 → sm_inv a m p)) := by
  obtain ⟨h1, h2, ⟨u, v, h3, h4, h5⟩, h6, -⟩ := h
  rw [Nat.gcd_zero_right, Nat.gcd_comm] at h2
  refine ⟨fun ho => Or.inl ⟨by rw [← h2]; exact ho, rfl⟩, fun ho => ?_⟩
  subst ho
  obtain ⟨x, hx⟩ := h6
  have key : ∀ z : Int, (m : Int) ∣ z - p → (a : Int) * z % m = 1 % m := fun z ⟨y, hy⟩ => by
    rw [Int.emod_eq_emod_iff_emod_sub_eq_zero]
    apply Int.emod_eq_zero_of_dvd
    refine ⟨(a : Int) * y - x, ?_⟩
    have e1 : (m : Int) * ((a : Int) * y - x) = (a : Int) * ((m : Int) * y) - (m : Int) * x := by
      rw [Int.mul_sub, ← Int.mul_assoc, Int.mul_comm (m : Int) (a : Int), Int.mul_assoc]
    rw [e1, ← hy, ← hx, Int.mul_sub, Int.mul_comm p]
    omega
  refine ⟨by rcases h3 with ⟨rfl, rfl⟩ | ⟨rfl, rfl⟩ <;> omega, fun hp => Or.inr ⟨h2.symm, ?_, ?_, key _ ⟨1, by omega⟩⟩, fun hp => Or.inr ⟨h2.symm, by omega, ?_, key _ ⟨0, by omega⟩⟩⟩
  · rcases h3 with ⟨rfl, rfl⟩ | ⟨rfl, rfl⟩ <;> omega
  · omega
  · rcases h3 with ⟨rfl, rfl⟩ | ⟨rfl, rfl⟩ <;> omega
set_option maxHeartbeats 4000000 in
theorem sm_invert_M {l : Launch} {G : am_G} {X : ck_XT} (g : gM l G X) {a m : Nat} {h : List am_C} (ha : a < m) (hm : m ≤ 999) {mc ms : Nat} {Post : am_O → List am_C → Prop} (hP : ∀ z : Int, sm_inv a m z → Post (.inl (some (.int (Int32.ofInt z)))) h) :
    am_M l G yX7_invert (.code yX7_invert prog_9_method_3_code 10 (some .int)) 1 20 mc ms [.int (Int32.ofInt (a : Int)), .int (Int32.ofInt (m : Int))] h Post := by
  refine gh_yX7_invert_H g (Nat.le_of_ble_eq_true rfl) fun S SX hs hr hw => ?_
  have rv : ∀ x : Int32, ck_fv 0 (.int x) := fun x => ⟨_, rfl⟩
  have hexit : ∀ (k o : Nat) (p q : Int) (w1 w2 w3 : Option Value), k ≤ 999 → o ≤ m → sm_ev a m o 0 p q → S 13 [some (.int (Int32.ofInt (a : Int))), some (.int (Int32.ofInt (m : Int))), some (.int (Int32.ofInt (o : Int))), some (.int (Int32.ofInt ((0 : Nat) : Int))), some (.int (Int32.ofInt p)), some (.int (Int32.ofInt q)), some (.int (Int32.ofInt (k : Int))), w1, w2, w3] [] h 0 0 := by
    intro k o p q w1 w2 w3 hk hom hi
    obtain ⟨e1, e2⟩ := sm_ev_e (by omega) hi
    obtain ⟨-, -, ⟨u, v, i3, i4, i5⟩, -⟩ := hi
    have hpb : -1000 ≤ p ∧ p ≤ 1000 := by rcases i3 with ⟨rfl, rfl⟩ | ⟨rfl, rfl⟩ <;> omega
    by_cases ho : o = 1
    · obtain ⟨-, e3, e4⟩ := e2 ho
      subst ho
      by_cases hp : p < 0
      · have hP := hP _ (e3 hp)
        refine hs 10 _ rfl _ _ _ _ _ _ _ rfl ?_
        refine hs 11 _ rfl _ _ _ _ _ _ _ rfl ?_
        refine hs 12 _ rfl _ _ _ _ _ _ _ (fun zq => absurd (hd_c2z (c := 3) (by omega) (by omega) (by omega) (by omega) zq) (by omega : ¬ (0 ≤ ((k : Int) - (1000 : Int))))) (fun _ => ?_)
        refine hs 13 _ rfl _ _ _ _ _ _ _ rfl ?_
        refine hs 14 _ rfl _ _ _ _ _ _ (fun _ => ?_) (fun zq => absurd (hd_c1t (c := 5) (by omega) (by omega) (by omega : ((0 : Nat) : Int) ≤ 0)) zq)
        refine hs 39 _ rfl _ _ _ _ _ _ _ rfl ?_
        refine hs 40 _ rfl _ _ _ _ _ _ _ rfl ?_
        refine hs 41 _ rfl _ _ _ _ _ _ _ (fun _ => ?_) (fun zq => absurd (hd_c2t (c := 0) (by omega) (by omega) (by omega) (by omega) (by omega : (((1 : Nat) : Int) - (1 : Int)) = 0)) zq)
        refine hs 44 _ rfl _ _ _ _ _ _ _ rfl ?_
        refine hs 45 _ rfl _ _ _ _ _ _ (fun zq => absurd (hd_c1z (c := 3) (by omega) (by omega) zq) (by omega : ¬ (0 ≤ p))) (fun _ => ?_)
        refine hs 46 _ rfl _ _ _ _ _ _ _ rfl ?_
        refine hs 47 _ rfl _ _ _ _ _ _ _ rfl ?_
        refine hs 48 _ rfl _ _ _ _ _ _ _ hd_add ?_
        refine hs 49 _ rfl _ _ _ _ _ ?_
        exact hs 51 _ rfl _ _ _ _ _ (rv _) (Nat.zero_le _) (Nat.zero_le _) hP
      · have hP := hP _ (e4 hp)
        refine hs 10 _ rfl _ _ _ _ _ _ _ rfl ?_
        refine hs 11 _ rfl _ _ _ _ _ _ _ rfl ?_
        refine hs 12 _ rfl _ _ _ _ _ _ _ (fun zq => absurd (hd_c2z (c := 3) (by omega) (by omega) (by omega) (by omega) zq) (by omega : ¬ (0 ≤ ((k : Int) - (1000 : Int))))) (fun _ => ?_)
        refine hs 13 _ rfl _ _ _ _ _ _ _ rfl ?_
        refine hs 14 _ rfl _ _ _ _ _ _ (fun _ => ?_) (fun zq => absurd (hd_c1t (c := 5) (by omega) (by omega) (by omega : ((0 : Nat) : Int) ≤ 0)) zq)
        refine hs 39 _ rfl _ _ _ _ _ _ _ rfl ?_
        refine hs 40 _ rfl _ _ _ _ _ _ _ rfl ?_
        refine hs 41 _ rfl _ _ _ _ _ _ _ (fun _ => ?_) (fun zq => absurd (hd_c2t (c := 0) (by omega) (by omega) (by omega) (by omega) (by omega : (((1 : Nat) : Int) - (1 : Int)) = 0)) zq)
        refine hs 44 _ rfl _ _ _ _ _ _ _ rfl ?_
        refine hs 45 _ rfl _ _ _ _ _ _ (fun _ => ?_) (fun zq => absurd (hd_c1t (c := 3) (by omega) (by omega) (by omega : 0 ≤ p)) zq)
        refine hs 50 _ rfl _ _ _ _ _ _ _ rfl ?_
        exact hs 51 _ rfl _ _ _ _ _ (rv _) (Nat.zero_le _) (Nat.zero_le _) hP
    · have hP := hP _ (e1 ho)
      refine hs 10 _ rfl _ _ _ _ _ _ _ rfl ?_
      refine hs 11 _ rfl _ _ _ _ _ _ _ rfl ?_
      refine hs 12 _ rfl _ _ _ _ _ _ _ (fun zq => absurd (hd_c2z (c := 3) (by omega) (by omega) (by omega) (by omega) zq) (by omega : ¬ (0 ≤ ((k : Int) - (1000 : Int))))) (fun _ => ?_)
      refine hs 13 _ rfl _ _ _ _ _ _ _ rfl ?_
      refine hs 14 _ rfl _ _ _ _ _ _ (fun _ => ?_) (fun zq => absurd (hd_c1t (c := 5) (by omega) (by omega) (by omega : ((0 : Nat) : Int) ≤ 0)) zq)
      refine hs 39 _ rfl _ _ _ _ _ _ _ rfl ?_
      refine hs 40 _ rfl _ _ _ _ _ _ _ rfl ?_
      refine hs 41 _ rfl _ _ _ _ _ _ _ (fun zq => absurd (hd_c2z (c := 0) (by omega) (by omega) (by omega) (by omega) zq) (by omega : ¬ (((o : Int) - (1 : Int)) = 0))) (fun _ => ?_)
      refine hs 42 _ rfl _ _ _ _ _ _ _ rfl ?_
      exact hs 43 _ rfl _ _ _ _ _ (rv _) (Nat.zero_le _) (Nat.zero_le _) hP
  have loop : ∀ (j k o n : Nat) (p q : Int) (w1 w2 w3 : Option Value), n ≤ j → k + j ≤ 999 → o ≤ m → sm_ev a m o n p q → S 13 [some (.int (Int32.ofInt (a : Int))), some (.int (Int32.ofInt (m : Int))), some (.int (Int32.ofInt (o : Int))), some (.int (Int32.ofInt (n : Int))), some (.int (Int32.ofInt p)), some (.int (Int32.ofInt q)), some (.int (Int32.ofInt (k : Int))), w1, w2, w3] [] h 0 0 := by
    intro j
    induction j with
    | zero =>
      intro k o n p q w1 w2 w3 hn hk hom hi
      obtain rfl : n = 0 := by omega
      exact hexit k o p q w1 w2 w3 (by omega) hom hi
    | succ j ih =>
      intro k o n p q w1 w2 w3 hn hk hom hi
      by_cases h0 : n = 0
      · subst h0
        exact hexit k o p q w1 w2 w3 (by omega) hom hi
      · obtain ⟨b1, b2, b3⟩ := sm_ev_b hi (by omega) (by omega) (by omega)
        have hlt := hi.1
        have hml := Nat.mod_lt o (show 0 < n by omega)
        refine hs 10 _ rfl _ _ _ _ _ _ _ rfl ?_
        refine hs 11 _ rfl _ _ _ _ _ _ _ rfl ?_
        refine hs 12 _ rfl _ _ _ _ _ _ _ (fun zq => absurd (hd_c2z (c := 3) (by omega) (by omega) (by omega) (by omega) zq) (by omega : ¬ (0 ≤ ((k : Int) - (1000 : Int))))) (fun _ => ?_)
        refine hs 13 _ rfl _ _ _ _ _ _ _ rfl ?_
        refine hs 14 _ rfl _ _ _ _ _ _ (fun zq => absurd (hd_c1z (c := 5) (by omega) (by omega) zq) (by omega : ¬ ((n : Int) ≤ 0))) (fun _ => ?_)
        refine hs 15 _ rfl _ _ _ _ _ _ _ rfl ?_
        refine hs 16 _ rfl _ _ _ _ _ _ _ rfl ?_
        refine hs 17 _ rfl _ _ _ _ _ _ _ (hd_div (by omega) (by omega) (by omega) (by omega)) ?_
        refine hs 18 _ rfl _ _ _ _ _ _ _ rfl ?_
        refine hs 19 _ rfl _ _ _ _ _ _ _ rfl ?_
        refine hs 20 _ rfl _ _ _ _ _ _ _ rfl ?_
        refine hs 21 _ rfl _ _ _ _ _ _ _ (hd_rem (by omega) (by omega) (by omega) (by omega)) ?_
        refine hs 22 _ rfl _ _ _ _ _ _ _ rfl ?_
        rw [show ((o : Int) / (n : Int)) = ((o / n : Nat) : Int) from (Int.natCast_ediv o n).symm, show ((o : Int) % (n : Int)) = ((o % n : Nat) : Int) from (Int.natCast_emod o n).symm]
        show S 35 [some (.int (Int32.ofInt (a : Int))), some (.int (Int32.ofInt (m : Int))), some (.int (Int32.ofInt (o : Int))), some (.int (Int32.ofInt (n : Int))), some (.int (Int32.ofInt p)), some (.int (Int32.ofInt q)), some (.int (Int32.ofInt (k : Int))), some (.int (Int32.ofInt ((o / n : Nat) : Int))), some (.int (Int32.ofInt ((o % n : Nat) : Int))), w3] [] h 0 0
        refine hs 23 _ rfl _ _ _ _ _ _ _ rfl ?_
        refine hs 24 _ rfl _ _ _ _ _ _ _ rfl ?_
        refine hs 25 _ rfl _ _ _ _ _ _ _ rfl ?_
        refine hs 26 _ rfl _ _ _ _ _ _ _ rfl ?_
        refine hs 27 _ rfl _ _ _ _ _ _ _ rfl ?_
        refine hs 28 _ rfl _ _ _ _ _ _ _ rfl ?_
        refine hs 29 _ rfl _ _ _ _ _ _ _ rfl ?_
        refine hs 30 _ rfl _ _ _ _ _ _ _ hd_mul ?_
        refine hs 31 _ rfl _ _ _ _ _ _ _ hd_sub ?_
        refine hs 32 _ rfl _ _ _ _ _ _ _ rfl ?_
        show S 50 [some (.int (Int32.ofInt (a : Int))), some (.int (Int32.ofInt (m : Int))), some (.int (Int32.ofInt (n : Int))), some (.int (Int32.ofInt ((o % n : Nat) : Int))), some (.int (Int32.ofInt p)), some (.int (Int32.ofInt q)), some (.int (Int32.ofInt (k : Int))), some (.int (Int32.ofInt ((o / n : Nat) : Int))), some (.int (Int32.ofInt ((o % n : Nat) : Int))), some (.int (Int32.ofInt (p - ((o / n : Nat) : Int) * q)))] [] h 0 0
        refine hs 33 _ rfl _ _ _ _ _ _ _ rfl ?_
        refine hs 34 _ rfl _ _ _ _ _ _ _ rfl ?_
        refine hs 35 _ rfl _ _ _ _ _ _ _ rfl ?_
        refine hs 36 _ rfl _ _ _ _ _ _ _ rfl ?_
        refine hs 37 _ rfl _ _ _ _ _ _ _ (hd_inc rfl) ?_
        refine hs 38 _ rfl _ _ _ _ _ ?_
        exact ih (k + 1) n (o % n) q _ _ _ _ (by omega) (by omega) (by omega) (sm_ev_s hi (by omega))
  refine hs 0 _ rfl _ _ _ _ _ _ _ rfl ?_
  refine hs 1 _ rfl _ _ _ _ _ _ _ rfl ?_
  refine hs 2 _ rfl _ _ _ _ _ _ _ rfl ?_
  refine hs 3 _ rfl _ _ _ _ _ _ _ rfl ?_
  refine hs 4 _ rfl _ _ _ _ _ _ _ rfl ?_
  refine hs 5 _ rfl _ _ _ _ _ _ _ rfl ?_
  refine hs 6 _ rfl _ _ _ _ _ _ _ rfl ?_
  refine hs 7 _ rfl _ _ _ _ _ _ _ rfl ?_
  refine hs 8 _ rfl _ _ _ _ _ _ _ rfl ?_
  refine hs 9 _ rfl _ _ _ _ _ _ _ rfl ?_
  exact loop 999 0 m a 0 1 none none none (by omega) (by omega) (Nat.le_refl _) (sm_ev0 ha)
theorem sm_msb (w : Int32) : w.toBitVec.msb = decide (w.toInt < 0) := BitVec.msb_eq_toInt
theorem sm_xorc {a b : Int} (ha : -2147483648 ≤ a) (ha2 : a ≤ 2147483647) (hb : 0 < b) (hb2 : b ≤ 2147483647) : ∃ s : Int, (-2147483648 ≤ s ∧ s ≤ 2147483647) ∧ (s < 0 ↔ a < 0) ∧ ∀ (v : Int) (L : List (Option Value)) (st : List Value), ck_cf 15 7 v L (.int (Int32.ofInt b) :: .int (Int32.ofInt a) :: st) = some (L, .int (Int32.ofInt s) :: st) := by
  refine ⟨(Int32.ofInt a ^^^ Int32.ofInt b).toInt, ⟨?_, ?_⟩, ?_, fun v L st => ?_⟩
  · exact Int32.le_toInt _
  · have := Int32.toInt_lt (Int32.ofInt a ^^^ Int32.ofInt b)
    have h2 : (2 : Int) ^ 31 = 2147483648 := by decide
    omega
  · have h1 := sm_msb (Int32.ofInt a ^^^ Int32.ofInt b)
    rw [Int32.toBitVec_xor, BitVec.msb_xor, sm_msb, sm_msb, hd_oi ha ha2, hd_oi (by omega) hb2, decide_eq_false (show ¬ b < 0 by omega), Bool.xor_false] at h1
    exact (decide_eq_decide.mp h1).symm
  · rw [Int32.ofInt_toInt]
    rfl
theorem sm_tdiv {L : List (Option Value)} {st : List Value} {v x y : Int} (h1 : -2147483648 ≤ x) (h2 : x ≤ 2147483647) (h3 : 0 < y) (h4 : y ≤ 2147483647) : ck_cf 15 3 v L (.int (Int32.ofInt y) :: .int (Int32.ofInt x) :: st) = some (L, .int (Int32.ofInt (x.tdiv y)) :: st) := by
  have hm : Int32.minValue.toInt = -2147483648 := by decide
  have hM : Int32.maxValue.toInt = 2147483647 := by decide
  rw [Int32.ofInt_tdiv (by omega) (by omega) (by omega) (by omega)]
  show (if ck_dz 3 = true ∧ Int32.ofInt y = 0 then none else _) = _
  rw [if_neg (fun z => hd_i0 h3 h4 z.2)]
  rfl
theorem sm_trem {L : List (Option Value)} {st : List Value} {v x y : Int} (h1 : -2147483648 ≤ x) (h2 : x ≤ 2147483647) (h3 : 0 < y) (h4 : y ≤ 2147483647) : ck_cf 15 4 v L (.int (Int32.ofInt y) :: .int (Int32.ofInt x) :: st) = some (L, .int (Int32.ofInt (x.tmod y)) :: st) := by
  have hm : Int32.minValue.toInt = -2147483648 := by decide
  have hM : Int32.maxValue.toInt = 2147483647 := by decide
  have e : Int32.ofInt x - Int32.ofInt x / Int32.ofInt y * Int32.ofInt y = Int32.ofInt (x.tmod y) := by
    rw [← Int32.ofInt_tdiv (by omega) (by omega) (by omega) (by omega), ← Int32.ofInt_mul, ← Int32.ofInt_sub, Int.tmod_def, Int.mul_comm]
  rw [← e]
  show (if ck_dz 4 = true ∧ Int32.ofInt y = 0 then none else _) = _
  rw [if_neg (fun z => hd_i0 h3 h4 z.2)]
  rfl
/-- both kinds of division, by the sign -/
theorem sm_td {x y : Int} (hy : 0 < y) : (0 ≤ x ∧ x.tdiv y = x / y ∧ x.tmod y = x % y) ∨ (x < 0 ∧ x.tmod y = 0 ∧ x.tdiv y = x / y ∧ x % y = 0) ∨ (x < 0 ∧ x.tmod y < 0 ∧ -y < x.tmod y ∧ x.tdiv y - 1 = x / y ∧ x.tmod y + y = x % y) := by
  have h1 := Int.tdiv_mul_add_tmod x y
  rcases Int.lt_or_le x 0 with hx | hx
  · have h2 : x.tmod y ≤ 0 := by
      have := Int.tmod_nonneg (a := -x) y (by omega)
      rw [Int.neg_tmod] at this
      omega
    have h3 : -y < x.tmod y := by
      have := Int.tmod_lt_of_pos (-x) hy
      rw [Int.neg_tmod] at this
      omega
    by_cases h4 : x.tmod y = 0
    · have := (Int.ediv_emod_unique (a := x) (r := 0) (q := x.tdiv y) hy).mpr ⟨by rw [h4, Int.mul_comm] at h1; omega, by omega, by omega⟩
      exact Or.inr (Or.inl ⟨hx, h4, this.1.symm, this.2⟩)
    · have := (Int.ediv_emod_unique (a := x) (r := x.tmod y + y) (q := x.tdiv y - 1) hy).mpr ⟨by rw [Int.mul_sub, Int.mul_comm y]; omega, by omega, by omega⟩
      exact Or.inr (Or.inr ⟨hx, by omega, h3, this.1.symm, this.2.symm⟩)
  · exact Or.inl ⟨hx, Int.tdiv_eq_ediv_of_nonneg hx, Int.tmod_eq_emod_of_nonneg hx⟩
theorem sm_fmod_M {l : Launch} {G : am_G} {X : ck_XT} (g : gM l G X) {x y : Int} {h : List am_C} (hx : -2147483648 ≤ x) (hx2 : x ≤ 2147483647) (hy : 0 < y) (hy2 : y ≤ 2147483647) {mc ms : Nat} {Post : am_O → List am_C → Prop} (hP : Post (.inl (some (.int (Int32.ofInt (x % y))))) h) :
    am_M l G yJ9_floorMod_7cf53 (.code yJ9_floorMod_7cf53 prog_32_method_50_code 3 (some .int)) 1 20 mc ms [.int (Int32.ofInt x), .int (Int32.ofInt y)] h Post := by
  refine gh_yJ9_floorMod_7cf53_H g (Nat.le_of_ble_eq_true rfl) fun S SX hs hr hw => ?_
  have rv : ∀ x : Int32, ck_fv 0 (.int x) := fun x => ⟨_, rfl⟩
  have hl := Int.emod_lt_of_pos x hy
  have hl0 := Int.emod_nonneg x (b := y) (by omega)
  have htb : -2147483648 ≤ x.tmod y ∧ x.tmod y ≤ 2147483647 := by rcases sm_td (x := x) hy with ⟨z1, z2, z3⟩ | ⟨z1, z2, z3, z4⟩ | ⟨z1, z2, z3, z4, z5⟩ <;> omega
  obtain ⟨s, ⟨s1, s2⟩, s3, s4⟩ := sm_xorc (a := x) (b := y) hx hx2 hy hy2
  rcases sm_td (x := x) hy with ⟨z1, z2, z3⟩ | ⟨z1, z2, z3, z4⟩ | ⟨z1, z2, z3, z4, z5⟩
  · rw [← z3] at hP
    refine hs 0 _ rfl _ _ _ _ _ _ _ rfl ?_
    refine hs 1 _ rfl _ _ _ _ _ _ _ rfl ?_
    refine hs 2 _ rfl _ _ _ _ _ _ _ (sm_trem hx hx2 hy hy2) ?_
    refine hs 3 _ rfl _ _ _ _ _ _ _ rfl ?_
    refine hs 4 _ rfl _ _ _ _ _ _ _ rfl ?_
    refine hs 5 _ rfl _ _ _ _ _ _ _ rfl ?_
    refine hs 6 _ rfl _ _ _ _ _ _ _ (s4 _ _ _) ?_
    refine hs 7 _ rfl _ _ _ _ _ _ (fun _ => ?_) (fun zq => absurd (hd_c1t (c := 3) (by omega) (by omega) (by omega : 0 ≤ s)) zq)
    refine hs 14 _ rfl _ _ _ _ _ _ _ rfl ?_
    exact hs 15 _ rfl _ _ _ _ _ (rv _) (Nat.zero_le _) (Nat.zero_le _) hP
  · rw [z4, ← z2] at hP
    refine hs 0 _ rfl _ _ _ _ _ _ _ rfl ?_
    refine hs 1 _ rfl _ _ _ _ _ _ _ rfl ?_
    refine hs 2 _ rfl _ _ _ _ _ _ _ (sm_trem hx hx2 hy hy2) ?_
    refine hs 3 _ rfl _ _ _ _ _ _ _ rfl ?_
    refine hs 4 _ rfl _ _ _ _ _ _ _ rfl ?_
    refine hs 5 _ rfl _ _ _ _ _ _ _ rfl ?_
    refine hs 6 _ rfl _ _ _ _ _ _ _ (s4 _ _ _) ?_
    refine hs 7 _ rfl _ _ _ _ _ _ (fun zq => absurd (hd_c1z (c := 3) (by omega) (by omega) zq) (by omega : ¬ (0 ≤ s))) (fun _ => ?_)
    refine hs 8 _ rfl _ _ _ _ _ _ _ rfl ?_
    refine hs 9 _ rfl _ _ _ _ _ _ (fun _ => ?_) (fun zq => absurd (hd_c1t (c := 0) (by omega) (by omega) (by omega : (x.tmod y) = 0)) zq)
    refine hs 14 _ rfl _ _ _ _ _ _ _ rfl ?_
    exact hs 15 _ rfl _ _ _ _ _ (rv _) (Nat.zero_le _) (Nat.zero_le _) hP
  · rw [← z5] at hP
    refine hs 0 _ rfl _ _ _ _ _ _ _ rfl ?_
    refine hs 1 _ rfl _ _ _ _ _ _ _ rfl ?_
    refine hs 2 _ rfl _ _ _ _ _ _ _ (sm_trem hx hx2 hy hy2) ?_
    refine hs 3 _ rfl _ _ _ _ _ _ _ rfl ?_
    refine hs 4 _ rfl _ _ _ _ _ _ _ rfl ?_
    refine hs 5 _ rfl _ _ _ _ _ _ _ rfl ?_
    refine hs 6 _ rfl _ _ _ _ _ _ _ (s4 _ _ _) ?_
    refine hs 7 _ rfl _ _ _ _ _ _ (fun zq => absurd (hd_c1z (c := 3) (by omega) (by omega) zq) (by omega : ¬ (0 ≤ s))) (fun _ => ?_)
    refine hs 8 _ rfl _ _ _ _ _ _ _ rfl ?_
    refine hs 9 _ rfl _ _ _ _ _ _ (fun zq => absurd (hd_c1z (c := 0) (by omega) (by omega) zq) (by omega : ¬ ((x.tmod y) = 0))) (fun _ => ?_)
    refine hs 10 _ rfl _ _ _ _ _ _ _ rfl ?_
    refine hs 11 _ rfl _ _ _ _ _ _ _ rfl ?_
    refine hs 12 _ rfl _ _ _ _ _ _ _ hd_add ?_
    exact hs 13 _ rfl _ _ _ _ _ (rv _) (Nat.zero_le _) (Nat.zero_le _) hP
theorem sm_fdiv_M {l : Launch} {G : am_G} {X : ck_XT} (g : gM l G X) {x y : Int} {h : List am_C} (hx : -2147483648 ≤ x) (hx2 : x ≤ 2147483647) (hy : 0 < y) (hy2 : y ≤ 2147483647) {mc ms : Nat} {Post : am_O → List am_C → Prop} (hP : Post (.inl (some (.int (Int32.ofInt (x / y))))) h) :
    am_M l G yJ9_floorDiv_7cf53 (.code yJ9_floorDiv_7cf53 prog_32_method_47_code 3 (some .int)) 1 20 mc ms [.int (Int32.ofInt x), .int (Int32.ofInt y)] h Post := by
  refine gh_yJ9_floorDiv_7cf53_H g (Nat.le_of_ble_eq_true rfl) fun S SX hs hr hw => ?_
  have rv : ∀ x : Int32, ck_fv 0 (.int x) := fun x => ⟨_, rfl⟩
  obtain ⟨s, ⟨s1, s2⟩, s3, s4⟩ := sm_xorc (a := x) (b := y) hx hx2 hy hy2
  have e1 := Int.tdiv_mul_add_tmod x y
  rcases sm_td (x := x) hy with ⟨z1, z2, z3⟩ | ⟨z1, z2, z3, z4⟩ | ⟨z1, z2, z3, z4, z5⟩
  · rw [← z2] at hP
    refine hs 0 _ rfl _ _ _ _ _ _ _ rfl ?_
    refine hs 1 _ rfl _ _ _ _ _ _ _ rfl ?_
    refine hs 2 _ rfl _ _ _ _ _ _ _ (sm_tdiv hx hx2 hy hy2) ?_
    refine hs 3 _ rfl _ _ _ _ _ _ _ rfl ?_
    refine hs 4 _ rfl _ _ _ _ _ _ _ rfl ?_
    refine hs 5 _ rfl _ _ _ _ _ _ _ rfl ?_
    refine hs 6 _ rfl _ _ _ _ _ _ _ (s4 _ _ _) ?_
    refine hs 7 _ rfl _ _ _ _ _ _ (fun _ => ?_) (fun zq => absurd (hd_c1t (c := 3) (by omega) (by omega) (by omega : 0 ≤ s)) zq)
    refine hs 17 _ rfl _ _ _ _ _ _ _ rfl ?_
    exact hs 18 _ rfl _ _ _ _ _ (rv _) (Nat.zero_le _) (Nat.zero_le _) hP
  · rw [← z3] at hP
    refine hs 0 _ rfl _ _ _ _ _ _ _ rfl ?_
    refine hs 1 _ rfl _ _ _ _ _ _ _ rfl ?_
    refine hs 2 _ rfl _ _ _ _ _ _ _ (sm_tdiv hx hx2 hy hy2) ?_
    refine hs 3 _ rfl _ _ _ _ _ _ _ rfl ?_
    refine hs 4 _ rfl _ _ _ _ _ _ _ rfl ?_
    refine hs 5 _ rfl _ _ _ _ _ _ _ rfl ?_
    refine hs 6 _ rfl _ _ _ _ _ _ _ (s4 _ _ _) ?_
    refine hs 7 _ rfl _ _ _ _ _ _ (fun zq => absurd (hd_c1z (c := 3) (by omega) (by omega) zq) (by omega : ¬ (0 ≤ s))) (fun _ => ?_)
    refine hs 8 _ rfl _ _ _ _ _ _ _ rfl ?_
    refine hs 9 _ rfl _ _ _ _ _ _ _ rfl ?_
    refine hs 10 _ rfl _ _ _ _ _ _ _ hd_mul ?_
    refine hs 11 _ rfl _ _ _ _ _ _ _ rfl ?_
    refine hs 12 _ rfl _ _ _ _ _ _ _ (fun _ => ?_) (fun zq => absurd (hd_c2t (c := 0) (by omega) (by omega) (by omega) (by omega) (by omega : ((x.tdiv y * y) - x) = 0)) zq)
    refine hs 17 _ rfl _ _ _ _ _ _ _ rfl ?_
    exact hs 18 _ rfl _ _ _ _ _ (rv _) (Nat.zero_le _) (Nat.zero_le _) hP
  · rw [← z4] at hP
    refine hs 0 _ rfl _ _ _ _ _ _ _ rfl ?_
    refine hs 1 _ rfl _ _ _ _ _ _ _ rfl ?_
    refine hs 2 _ rfl _ _ _ _ _ _ _ (sm_tdiv hx hx2 hy hy2) ?_
    refine hs 3 _ rfl _ _ _ _ _ _ _ rfl ?_
    refine hs 4 _ rfl _ _ _ _ _ _ _ rfl ?_
    refine hs 5 _ rfl _ _ _ _ _ _ _ rfl ?_
    refine hs 6 _ rfl _ _ _ _ _ _ _ (s4 _ _ _) ?_
    refine hs 7 _ rfl _ _ _ _ _ _ (fun zq => absurd (hd_c1z (c := 3) (by omega) (by omega) zq) (by omega : ¬ (0 ≤ s))) (fun _ => ?_)
    refine hs 8 _ rfl _ _ _ _ _ _ _ rfl ?_
    refine hs 9 _ rfl _ _ _ _ _ _ _ rfl ?_
    refine hs 10 _ rfl _ _ _ _ _ _ _ hd_mul ?_
    refine hs 11 _ rfl _ _ _ _ _ _ _ rfl ?_
    refine hs 12 _ rfl _ _ _ _ _ _ _ (fun zq => absurd (hd_c2z (c := 0) (by omega) (by omega) (by omega) (by omega) zq) (by omega : ¬ (((x.tdiv y * y) - x) = 0))) (fun _ => ?_)
    refine hs 13 _ rfl _ _ _ _ _ _ _ rfl ?_
    refine hs 14 _ rfl _ _ _ _ _ _ _ rfl ?_
    refine hs 15 _ rfl _ _ _ _ _ _ _ hd_sub ?_
    exact hs 16 _ rfl _ _ _ _ _ (rv _) (Nat.zero_le _) (Nat.zero_le _) hP
