/-! CONGRUENCES JOIN -/
section HDL
variable {L : List (Option Value)} {st : List Value} {x y v : Int}
theorem hd_li {z : Int} (h1 : -9223372036854775808 ≤ z) (h2 : z ≤ 9223372036854775807) : (Int64.ofInt z).toInt = z := Int64.toInt_ofInt_of_le (by omega) (by omega)
theorem hd_i2l {a : Nat} (h1 : -2147483648 ≤ x) (h2 : x ≤ 2147483647) : ck_cf 19 a v L (.int (Int32.ofInt x) :: st) = some (L, .long (Int64.ofInt x) :: st) := by
  have : (Int32.ofInt x).toInt64 = Int64.ofInt x := Int64.toInt_inj.mp (by rw [Int32.toInt_toInt64, hd_oi h1 h2, hd_li (by omega) (by omega)])
  rw [← this]
  rfl
theorem hd_l2i {a : Nat} (h1 : -2147483648 ≤ x) (h2 : x ≤ 2147483647) : ck_cf 20 a v L (.long (Int64.ofInt x) :: st) = some (L, .int (Int32.ofInt x) :: st) := by
  have : (Int64.ofInt x).toInt32 = Int32.ofInt x := Int32.toInt_inj.mp (by
    rw [Int64.toInt_toInt32, hd_oi h1 h2, hd_li (by omega) (by omega)]
    exact Int.bmod_eq_of_le (by omega) (by omega))
  rw [← this]
  rfl
theorem hd_ladd : ck_cf 16 0 v L (.long (Int64.ofInt y) :: .long (Int64.ofInt x) :: st) = some (L, .long (Int64.ofInt (x + y)) :: st) := by rw [Int64.ofInt_add]; rfl
theorem hd_lmul : ck_cf 16 2 v L (.long (Int64.ofInt y) :: .long (Int64.ofInt x) :: st) = some (L, .long (Int64.ofInt (x * y)) :: st) := by rw [Int64.ofInt_mul]; rfl
theorem hd_l0 (h1 : 0 < y) (h2 : y ≤ 9223372036854775807) : ¬ Int64.ofInt y = 0 := fun z => by
  have := hd_li (z := y) (by omega) h2
  rw [z, Int64.toInt_zero] at this
  omega
theorem hd_ldivI (h1 : 0 ≤ x) (h2 : x ≤ 9223372036854775807) (h3 : 0 < y) (h4 : y ≤ 9223372036854775807) : Int64.ofInt x / Int64.ofInt y = Int64.ofInt (x / y) := by
  have hm : Int64.minValue.toInt = -9223372036854775808 := by decide
  have hM : Int64.maxValue.toInt = 9223372036854775807 := by decide
  rw [← Int64.ofInt_tdiv (by omega) (by omega) (by omega) (by omega), Int.tdiv_eq_ediv_of_nonneg h1]
theorem hd_ldiv (h1 : 0 ≤ x) (h2 : x ≤ 9223372036854775807) (h3 : 0 < y) (h4 : y ≤ 9223372036854775807) : ck_cf 16 3 v L (.long (Int64.ofInt y) :: .long (Int64.ofInt x) :: st) = some (L, .long (Int64.ofInt (x / y)) :: st) := by
  rw [← hd_ldivI h1 h2 h3 h4]
  show (if ck_dz 3 = true ∧ Int64.ofInt y = 0 then none else _) = _
  rw [if_neg (fun z => hd_l0 h3 h4 z.2)]
  rfl
theorem hd_lrem (h1 : 0 ≤ x) (h2 : x ≤ 9223372036854775807) (h3 : 0 < y) (h4 : y ≤ 9223372036854775807) : ck_cf 16 4 v L (.long (Int64.ofInt y) :: .long (Int64.ofInt x) :: st) = some (L, .long (Int64.ofInt (x % y)) :: st) := by
  have e : Int64.ofInt x - Int64.ofInt x / Int64.ofInt y * Int64.ofInt y = Int64.ofInt (x % y) := by
    rw [hd_ldivI h1 h2 h3 h4, ← Int64.ofInt_mul, ← Int64.ofInt_sub, Int.emod_def, Int.mul_comm]
  rw [← e]
  show (if ck_dz 4 = true ∧ Int64.ofInt y = 0 then none else _) = _
  rw [if_neg (fun z => hd_l0 h3 h4 z.2)]
  rfl
end HDL
theorem hd_cmp0 {x y : Int} (h1 : -9223372036854775808 ≤ x) (h2 : x ≤ 9223372036854775807) (h3 : -9223372036854775808 ≤ y) (h4 : y ≤ 9223372036854775807) : (x = y → (lg_cmp (Int64.ofInt x) (Int64.ofInt y)).toInt = 0) ∧ (x ≠ y → (lg_cmp (Int64.ofInt x) (Int64.ofInt y)).toInt ≠ 0) := by
  obtain ⟨-, c2, c3⟩ := ck_cmp_ok (Int64.ofInt x) (Int64.ofInt y)
  rw [hd_li h1 h2, hd_li h3 h4] at c2 c3
  refine ⟨fun e => by omega, fun e z => ?_⟩
  rcases Int.lt_trichotomy x y with h | h | h
  · have := c2.mpr (by omega); omega
  · exact e h
  · have := c3.mpr (by omega); omega
/-- with no common divisor: every rest is reached -/
theorem nu_bez (a b : Nat) : ∃ x y : Int, (a : Int) * x + (b : Int) * y = (Nat.gcd a b : Int) := by
  induction a, b using Nat.gcd.induction with
  | H0 n => exact ⟨0, 1, by rw [Nat.gcd_zero_left]; omega⟩
  | H1 m n hm ih =>
    obtain ⟨x, y, h⟩ := ih
    refine ⟨y - (n / m : Nat) * x, x, ?_⟩
    rw [Nat.gcd_rec m n, ← h]
    have e : (n : Int) = (m : Int) * ((n / m : Nat) : Int) + ((n % m : Nat) : Int) := by
      have := Nat.div_add_mod n m
      omega
    have e2 : (m : Int) * (y - ((n / m : Nat) : Int) * x) = (m : Int) * y - (m : Int) * ((n / m : Nat) : Int) * x := by rw [Int.mul_sub, Int.mul_assoc]
    rw [e2]
    have e3 : (n : Int) * x = (m : Int) * ((n / m : Nat) : Int) * x + ((n % m : Nat) : Int) * x := by
      conv => lhs; rw [e]
      rw [Int.add_mul]
    omega
theorem nu_reach {s m : Nat} (hm : 0 < m) (h : Nat.gcd s m = 1) (c : Int) : ∃ k : Nat, k < m ∧ ((s : Int) * (k : Int)) % (m : Int) = c % (m : Int) := by
  obtain ⟨x, y, e⟩ := nu_bez s m
  rw [h] at e
  have hz : (0 : Int) ≤ (x * c) % (m : Int) := Int.emod_nonneg _ (by omega)
  have hl : (x * c) % (m : Int) < (m : Int) := Int.emod_lt_of_pos _ (by omega)
  refine ⟨((x * c) % (m : Int)).toNat, by omega, ?_⟩
  rw [Int.toNat_of_nonneg hz, Int.mul_emod, Int.emod_emod, ← Int.mul_emod]
  have e2 : (s : Int) * (x * c) = c + (m : Int) * (-(y * c)) := by
    have : ((s : Int) * x + (m : Int) * y) * c = 1 * c := by rw [e]; rfl
    rw [Int.add_mul, Int.one_mul, Int.mul_assoc, Int.mul_assoc] at this
    rw [Int.mul_neg]
    omega
  rw [e2, Int.add_mul_emod_self_left]
theorem nu_gcd_mod (s m : Nat) : Nat.gcd (s % m) m = Nat.gcd s m := by rw [← Nat.gcd_rec, Nat.gcd_comm]
set_option maxRecDepth 100000 in
set_option maxHeartbeats 4000000 in
theorem nu_com_M {l : Launch} {G : am_G} {X : ck_XT} (g : gE l G X) {s m : Nat} {h : List am_C} (hs0 : 1 ≤ s) (hs1 : s ≤ 1000000000000000) (hm0 : 1 ≤ m) (hm1 : m ≤ 999) (hc : Nat.gcd s m = 1) {mc ms : Nat} {Post : am_O → List am_C → Prop} (hP : Post (.inl (some (.long (Int64.ofInt ((s : Int) * (m : Int)))))) h) :
    am_M l G yX14_common (.code yX14_common prog_14_method_30_code 3 (some .long)) 2 43 mc ms [.long (Int64.ofInt (s : Int)), .int (Int32.ofInt (m : Int))] h Post := by
  refine gh_yX14_common_H g (Nat.le_of_ble_eq_true rfl) fun S SX hs hr hw => ?_
  have r0 := Int.emod_nonneg (s : Int) (b := (m : Int)) (by omega)
  have r1 := Int.emod_lt_of_pos (s : Int) (b := (m : Int)) (by omega)
  refine hs 0 _ rfl _ _ _ _ _ _ _ rfl ?_
  refine hs 1 _ rfl _ _ _ _ _ _ _ rfl ?_
  refine hs 2 _ rfl _ _ _ _ _ _ _ rfl ?_
  refine hs 3 _ rfl _ _ _ _ _ _ _ (hd_i2l (by omega) (by omega)) ?_
  refine hs 4 _ rfl _ _ _ _ _ _ _ (hd_lrem (by omega) (by omega) (by omega) (by omega)) ?_
  refine hs 5 _ rfl _ _ _ _ _ _ _ (hd_l2i (by omega) (by omega)) ?_
  have em : (s : Int) % (m : Int) = ((s % m : Nat) : Int) := by rw [Int.natCast_emod]
  rw [em]
  have hml := Nat.mod_lt s (y := m) (by omega)
  refine hs 6 _ rfl _ _ _ _ _ _ _ rfl ?_
  refine hd_call (hs 7 _ rfl) (a := [.int (Int32.ofInt ((s % m : Nat) : Int)), .int (Int32.ofInt (m : Int))]) (st := [.long (Int64.ofInt (s : Int))]) (P := fun o h9 => h = h9 ∧ o = .inl (some (.int (Int32.ofInt (Nat.gcd (s % m) m : Int))))) (nu_gcd_M g (by omega) (by omega) ⟨rfl, rfl⟩) rfl rfl (Nat.le_of_ble_eq_true rfl) (Nat.zero_le _) (Nat.zero_le _) (fun v9 h9 hp => ?_) (fun E h9 hp => by cases hp.2)
  obtain ⟨rfl, z9⟩ := hp
  cases z9
  rw [nu_gcd_mod, hc]
  refine hs 8 _ rfl _ _ _ _ _ _ _ (hd_i2l (by decide) (by decide)) ?_
  refine hs 9 _ rfl _ _ _ _ _ _ _ (hd_ldiv (by omega) (by omega) (by decide) (by decide)) ?_
  rw [show ((s : Int) / ((1 : Nat) : Int)) = (s : Int) from Int.ediv_one _]
  refine hs 10 _ rfl _ _ _ _ _ _ _ rfl ?_
  refine hs 11 _ rfl _ _ _ _ _ _ _ (hd_i2l (by omega) (by omega)) ?_
  refine hs 12 _ rfl _ _ _ _ _ _ _ hd_lmul ?_
  exact hs 13 _ rfl _ _ _ _ _ ⟨_, rfl⟩ (Nat.zero_le _) (Nat.zero_le _) hP
set_option maxRecDepth 100000 in
set_option maxHeartbeats 4000000 in
theorem nu_try_M {l : Launch} {G : am_G} {X : ck_XT} (g : gE l G X) {n s m r q t : Nat} {h : List am_C} (hn : n ≤ 1000000000000000) (hs1 : s ≤ 1000000000000000) (hm0 : 1 ≤ m) (hm1 : m ≤ 999) (hr1 : r < m) (hc : Nat.gcd s m = 1) (ht : t % 100 = 50) (hg : am_g G h q = some (t, hd_r [(r : Int), (m : Int)])) {mc ms : Nat} {Post : am_O → List am_C → Prop} (hP : ∀ k : Nat, k < m → Post (.inl (some (.int (Int32.ofInt (k : Int))))) h) :
    am_M l G yX14_tried (.code yX14_tried prog_14_method_29_code 6 (some .int)) 1 20 mc ms [.long (Int64.ofInt (n : Int)), .long (Int64.ofInt (s : Int)), .ref q] h Post := by
  refine gh_yX14_tried_H g (Nat.le_of_ble_eq_true rfl) fun S SX hs hr hw => ?_
  have rv : ∀ x : Int32, ck_fv 0 (.int x) := fun x => ⟨_, rfl⟩
  have n0 := Int.emod_nonneg (n : Int) (b := (m : Int)) (by omega)
  have n1 := Int.emod_lt_of_pos (n : Int) (b := (m : Int)) (by omega)
  have s0 := Int.emod_nonneg (s : Int) (b := (m : Int)) (by omega)
  have s1 := Int.emod_lt_of_pos (s : Int) (b := (m : Int)) (by omega)
  obtain ⟨k0, hk0, e0⟩ := nu_reach (by omega) hc ((r : Int) - (n : Int))
  have hsol : ((n : Int) % (m : Int) + (k0 : Int) * ((s : Int) % (m : Int))) % (m : Int) = (r : Int) := by
    have e1 : ((k0 : Int) * ((s : Int) % (m : Int))) % (m : Int) = ((r : Int) - (n : Int)) % (m : Int) := by
      rw [Int.mul_emod, Int.emod_emod, ← Int.mul_emod, Int.mul_comm, e0]
    rw [Int.add_emod, e1, Int.emod_emod, ← Int.add_emod]
    rw [show (n : Int) + ((r : Int) - (n : Int)) = (r : Int) by omega]
    exact Int.emod_eq_of_lt (by omega) (by omega)
  have hl : ∀ k : Nat, k < m → 0 ≤ (k : Int) * ((s : Int) % (m : Int)) ∧ (k : Int) * ((s : Int) % (m : Int)) ≤ 1000000 := by
    intro k hk
    refine ⟨Int.mul_nonneg (by omega) s0, ?_⟩
    have : (k : Int) * ((s : Int) % (m : Int)) ≤ 1000 * 1000 := Int.mul_le_mul (by omega) (by omega) s0 (by omega)
    omega
  have loop : ∀ (j k : Nat), k + j = k0 → S 3 [some (.long (Int64.ofInt (n : Int))), none, some (.long (Int64.ofInt (s : Int))), none, some (.ref q), some (.int (Int32.ofInt (k : Int)))] [] h 0 0 := by
    intro j
    induction j with
    | zero =>
      intro k hk
      obtain rfl : k = k0 := by omega
      obtain ⟨l0, l1⟩ := hl k hk0
      have hcmp := (hd_cmp0 (x := ((n : Int) % (m : Int) + (k : Int) * ((s : Int) % (m : Int))) % (m : Int)) (y := (r : Int)) (by omega) (by omega) (by omega) (by omega)).1 hsol
      refine hs 2 _ rfl _ _ _ _ _ _ _ rfl ?_
      refine hs 3 _ rfl _ _ _ _ _ _ _ rfl ?_
      refine hs 4 _ rfl _ _ _ _ _ _ _ rfl ?_
      refine hd_A (hs 5 _ rfl) (by decide) (by decide) hg ht (j := 1) (d := (m : Int)) rfl (by decide) rfl ?_
      refine hs 6 _ rfl _ _ _ _ _ _ _ (fun zq => absurd (hd_c2z (c := 3) (by omega) (by omega) (by omega) (by omega) zq) (by omega : ¬ (0 ≤ ((k : Int) - (m : Int))))) (fun _ => ?_)
      refine hs 7 _ rfl _ _ _ _ _ _ _ rfl ?_
      refine hs 8 _ rfl _ _ _ _ _ _ _ rfl ?_
      refine hs 9 _ rfl _ _ _ _ _ _ _ rfl ?_
      refine hd_A (hs 10 _ rfl) (by decide) (by decide) hg ht (j := 1) (d := (m : Int)) rfl (by decide) rfl ?_
      refine hs 11 _ rfl _ _ _ _ _ _ _ (hd_i2l (by omega) (by omega)) ?_
      refine hs 12 _ rfl _ _ _ _ _ _ _ (hd_lrem (by omega) (by omega) (by omega) (by omega)) ?_
      refine hs 13 _ rfl _ _ _ _ _ _ _ rfl ?_
      refine hs 14 _ rfl _ _ _ _ _ _ _ (hd_i2l (by omega) (by omega)) ?_
      refine hs 15 _ rfl _ _ _ _ _ _ _ rfl ?_
      refine hs 16 _ rfl _ _ _ _ _ _ _ rfl ?_
      refine hs 17 _ rfl _ _ _ _ _ _ _ rfl ?_
      refine hd_A (hs 18 _ rfl) (by decide) (by decide) hg ht (j := 1) (d := (m : Int)) rfl (by decide) rfl ?_
      refine hs 19 _ rfl _ _ _ _ _ _ _ (hd_i2l (by omega) (by omega)) ?_
      refine hs 20 _ rfl _ _ _ _ _ _ _ (hd_lrem (by omega) (by omega) (by omega) (by omega)) ?_
      refine hs 21 _ rfl _ _ _ _ _ _ _ hd_lmul ?_
      refine hs 22 _ rfl _ _ _ _ _ _ _ hd_ladd ?_
      refine hs 23 _ rfl _ _ _ _ _ _ _ rfl ?_
      refine hs 24 _ rfl _ _ _ _ _ _ _ rfl ?_
      refine hd_A (hs 25 _ rfl) (by decide) (by decide) hg ht (j := 1) (d := (m : Int)) rfl (by decide) rfl ?_
      refine hs 26 _ rfl _ _ _ _ _ _ _ (hd_i2l (by omega) (by omega)) ?_
      refine hs 27 _ rfl _ _ _ _ _ _ _ (hd_lrem (by omega) (by omega) (by omega) (by omega)) ?_
      refine hs 28 _ rfl _ _ _ _ _ _ _ rfl ?_
      refine hs 29 _ rfl _ _ _ _ _ _ _ rfl ?_
      refine hd_A (hs 30 _ rfl) (by decide) (by decide) hg ht (j := 0) (d := (r : Int)) rfl (by decide) rfl ?_
      refine hs 31 _ rfl _ _ _ _ _ _ _ (hd_i2l (by omega) (by omega)) ?_
      refine hs 32 _ rfl _ _ _ _ _ _ _ rfl ?_
      refine hs 33 _ rfl _ _ _ _ _ _ (fun z => absurd hcmp z) (fun _ => ?_)
      refine hs 34 _ rfl _ _ _ _ _ _ _ rfl ?_
      exact hs 35 _ rfl _ _ _ _ _ (rv _) (Nat.zero_le _) (Nat.zero_le _) (hP k hk0)
    | succ j ih =>
      intro k hk
      obtain ⟨l0, l1⟩ := hl k (by omega)
      have u0 := Int.emod_nonneg ((n : Int) % (m : Int) + (k : Int) * ((s : Int) % (m : Int))) (b := (m : Int)) (by omega)
      have u1 := Int.emod_lt_of_pos ((n : Int) % (m : Int) + (k : Int) * ((s : Int) % (m : Int))) (b := (m : Int)) (by omega)
      refine hs 2 _ rfl _ _ _ _ _ _ _ rfl ?_
      refine hs 3 _ rfl _ _ _ _ _ _ _ rfl ?_
      refine hs 4 _ rfl _ _ _ _ _ _ _ rfl ?_
      refine hd_A (hs 5 _ rfl) (by decide) (by decide) hg ht (j := 1) (d := (m : Int)) rfl (by decide) rfl ?_
      refine hs 6 _ rfl _ _ _ _ _ _ _ (fun zq => absurd (hd_c2z (c := 3) (by omega) (by omega) (by omega) (by omega) zq) (by omega : ¬ (0 ≤ ((k : Int) - (m : Int))))) (fun _ => ?_)
      refine hs 7 _ rfl _ _ _ _ _ _ _ rfl ?_
      refine hs 8 _ rfl _ _ _ _ _ _ _ rfl ?_
      refine hs 9 _ rfl _ _ _ _ _ _ _ rfl ?_
      refine hd_A (hs 10 _ rfl) (by decide) (by decide) hg ht (j := 1) (d := (m : Int)) rfl (by decide) rfl ?_
      refine hs 11 _ rfl _ _ _ _ _ _ _ (hd_i2l (by omega) (by omega)) ?_
      refine hs 12 _ rfl _ _ _ _ _ _ _ (hd_lrem (by omega) (by omega) (by omega) (by omega)) ?_
      refine hs 13 _ rfl _ _ _ _ _ _ _ rfl ?_
      refine hs 14 _ rfl _ _ _ _ _ _ _ (hd_i2l (by omega) (by omega)) ?_
      refine hs 15 _ rfl _ _ _ _ _ _ _ rfl ?_
      refine hs 16 _ rfl _ _ _ _ _ _ _ rfl ?_
      refine hs 17 _ rfl _ _ _ _ _ _ _ rfl ?_
      refine hd_A (hs 18 _ rfl) (by decide) (by decide) hg ht (j := 1) (d := (m : Int)) rfl (by decide) rfl ?_
      refine hs 19 _ rfl _ _ _ _ _ _ _ (hd_i2l (by omega) (by omega)) ?_
      refine hs 20 _ rfl _ _ _ _ _ _ _ (hd_lrem (by omega) (by omega) (by omega) (by omega)) ?_
      refine hs 21 _ rfl _ _ _ _ _ _ _ hd_lmul ?_
      refine hs 22 _ rfl _ _ _ _ _ _ _ hd_ladd ?_
      refine hs 23 _ rfl _ _ _ _ _ _ _ rfl ?_
      refine hs 24 _ rfl _ _ _ _ _ _ _ rfl ?_
      refine hd_A (hs 25 _ rfl) (by decide) (by decide) hg ht (j := 1) (d := (m : Int)) rfl (by decide) rfl ?_
      refine hs 26 _ rfl _ _ _ _ _ _ _ (hd_i2l (by omega) (by omega)) ?_
      refine hs 27 _ rfl _ _ _ _ _ _ _ (hd_lrem (by omega) (by omega) (by omega) (by omega)) ?_
      refine hs 28 _ rfl _ _ _ _ _ _ _ rfl ?_
      refine hs 29 _ rfl _ _ _ _ _ _ _ rfl ?_
      refine hd_A (hs 30 _ rfl) (by decide) (by decide) hg ht (j := 0) (d := (r : Int)) rfl (by decide) rfl ?_
      refine hs 31 _ rfl _ _ _ _ _ _ _ (hd_i2l (by omega) (by omega)) ?_
      refine hs 32 _ rfl _ _ _ _ _ _ _ rfl ?_
      refine hs 33 _ rfl _ _ _ _ _ _ (fun z => ?_) (fun _ => ?_)
      · have z : ¬ ((lg_cmp (Int64.ofInt (((n : Int) % (m : Int) + (k : Int) * ((s : Int) % (m : Int))) % (m : Int))) (Int64.ofInt (r : Int))).toInt = 0) := z
        refine hs 36 _ rfl _ _ _ _ _ _ _ (hd_inc rfl) ?_
        refine hs 37 _ rfl _ _ _ _ _ ?_
        exact ih (k + 1) (by omega)
      · 
        refine hs 34 _ rfl _ _ _ _ _ _ _ rfl ?_
        exact hs 35 _ rfl _ _ _ _ _ (rv _) (Nat.zero_le _) (Nat.zero_le _) (hP k (by omega))
  refine hs 0 _ rfl _ _ _ _ _ _ _ rfl ?_
  refine hs 1 _ rfl _ _ _ _ _ _ _ rfl ?_
  exact loop k0 0 (by omega)
def nu_comK : ck_KK := (([(1, 995009990004999), (1, 999)], [], [(4, 0, 1, 0, (0, 0, (0, [(1000, 0), (1, 1)])))], 0, [(2, 0, (0, [(1, 0)])), (1, 0, (0, [(1, 1)]))]), ((0, []), (0, [])), [], [], ([(1, 994014980014994001)], [], [(4, 0, 3, 0, (0, 0, (0, [(1000, 0), (1, 1), (10000000000000000000, 2)])))], 0, [(2, 0, (0, [(1, 2)]))]), [])
def nu_tryK : ck_KK := (([(0, 995009990004999), (1, 995009990004999), (0, 998), (1, 999)], [((-1), [((-1), 2), (1, 3)])], [(2, 0, 0, 2550, (0, 0, (2, []))), (3, 0, 0, 2550, (1, 0, (0, [(1, 2)]))), (3, 0, 1, 2550, (1, 0, (0, [(1, 3)]))), (4, 0, 1, 0, (0, 0, (0, [(1000, 1), (1, 3)])))], 1, [(2, 0, (0, [(1, 0)])), (2, 0, (0, [(1, 1)])), (3, 0, (0, []))]), ((0, []), (0, [])), [], [], ([(0, 998)], [((-1), [(1, 3), ((-1), 4)])], [], 0, [(1, 0, (0, [(1, 4)]))]), [])
theorem nu_i64 {x : Int64} {n : Int} (h : x.toInt = n) : x = Int64.ofInt n := by rw [← h, Int64.ofInt_toInt]
theorem nu_com_con {l : Launch} {G : am_G} {X : ck_XT} (g : gE l G X) : ck_Con (am_cm l G yX14_common (.code yX14_common prog_14_method_30_code 3 (some .long)) 2 43) G X gT nu_comK := by
  intro K r s a h hH hV hC hF hn hS mc ms hmc hms
  match r, hV.1 with
  | [x0, x1], _ =>
    match a, hS with
    | [w1, w2], ⟨⟨y1, c1, c2⟩, ⟨y2, c3, c4⟩, _⟩ =>
      subst c1 c3
      have c2 := ck_lv1 c2
      have c4 := ck_lv1 c4
      cases c2; cases c4
      obtain ⟨i1, i2⟩ := li_in' hV
      obtain ⟨i3, i4⟩ := hV.2 1 1 999 y2.toInt rfl rfl
      obtain ⟨xx, f1, A', B', f2, f3, f4⟩ := hF (4, 0, 1, 0, (0, 0, (0, [(1000, 0), (1, 1)]))) (by unfold nu_comK; simp)
      have f5 : xx = (0 : Int) + (1000 * y1.toInt + (1 * y2.toInt + 0)) := f1.2
      have hA : y1.toInt = (A' : Int) := by omega
      have hB : y2.toInt = (B' : Int) := by omega
      rw [nu_i64 hA, nu_i32 hB]
      have hmul : (A' : Int) * (B' : Int) ≤ 995009990004999 * 999 := Int.mul_le_mul (by omega) (by omega) (by omega) (by omega)
      have hmul1 : (1 : Int) * 1 ≤ (A' : Int) * (B' : Int) := Int.mul_le_mul (by omega) (by omega) (by omega) (by omega)
      refine nu_com_M g (by omega) (by omega) (by omega) (by omega) f4 ⟨hH, ck_Kp.rf, Nat.le_refl _, [(A' : Int) * (B' : Int)], [], li_in (by omega) (by omega) li_in0, (fun c hc => nomatch hc), List.forall_mem_cons.mpr ⟨?_, List.forall_mem_nil _⟩, rfl, ⟨⟨_, rfl, by rw [show (Int64.ofInt ((A' : Int) * (B' : Int))).toInt = (A' : Int) * (B' : Int) from hd_li (by omega) (by omega)]; exact ck_Lv.x rfl⟩, trivial⟩⟩
      refine ⟨10000000000000000000 * ((A' : Int) * (B' : Int)) + (1000 * (A' : Int) + (B' : Int)), ⟨fun t ht => ?_, ?_⟩, A' * B', A', B', by omega, by omega, by rw [Int.natCast_mul, show (10 : Int) ^ 19 = 10000000000000000000 from by decide], rfl⟩
      · simp at ht
        rcases ht with rfl | rfl | rfl <;> exact Nat.le_of_ble_eq_true rfl
      · show _ = (0 : Int) + (1000 * (Int64.ofInt (A' : Int)).toInt + (1 * (Int32.ofInt (B' : Int)).toInt + (10000000000000000000 * ((A' : Int) * (B' : Int)) + 0)))
        rw [hd_li (by omega) (by omega), hd_oi (by omega) (by omega)]
        omega
theorem nu_try_con {l : Launch} {G : am_G} {X : ck_XT} (g : gE l G X) : ck_Con (am_cm l G yX14_tried (.code yX14_tried prog_14_method_29_code 6 (some .int)) 1 20) G X gT nu_tryK := by
  intro K r s a h hH hV hC hF hn hS mc ms hmc hms
  match r, hV.1 with
  | [x0, x1, x2, x3], _ =>
    obtain ⟨i1, i2⟩ := li_in' hV
    obtain ⟨i3, i4⟩ := hV.2 1 _ _ x1 rfl rfl
    obtain ⟨i5, i6⟩ := hV.2 2 _ _ x2 rfl rfl
    obtain ⟨i7, i8⟩ := hV.2 3 _ _ x3 rfl rfl
    obtain ⟨q, vs, a1, a2, a3⟩ := hF (2, 0, 0, 2550, (0, 0, (2, []))) (by unfold nu_tryK; simp)
    obtain ⟨q', vs', v0, b1, b2, b3, u0, b4, b5⟩ := hF (3, 0, 0, 2550, (1, 0, (0, [(1, 2)]))) (by unfold nu_tryK; simp)
    obtain ⟨q2, vs2, v1, d1, d2, d3, u1, d4, d5⟩ := hF (3, 0, 1, 2550, (1, 0, (0, [(1, 3)]))) (by unfold nu_tryK; simp)
    obtain ⟨xx, f1, A', B', f2, f3, f4⟩ := hF (4, 0, 1, 0, (0, 0, (0, [(1000, 1), (1, 3)]))) (by unfold nu_tryK; simp)
    have a1 : s[0]? = some q := a1
    have b1 : s[0]? = some q' := b1
    have d1 : s[0]? = some q2 := d1
    rw [a1] at b1 d1; cases b1; cases d1
    have a2 : am_g G h q = some (2550, vs) := a2
    have b2 : am_g G h q = some (2550, vs') := b2
    have d2 : am_g G h q = some (2550, vs2) := d2
    rw [a2] at b2 d2; cases b2; cases d2
    subst b4 d4
    have b5 := ck_lv1 b5
    have d5 := ck_lv1 d5
    have b5 : some x2 = some u0.toInt := b5
    have d5 : some x3 = some u1.toInt := d5
    cases b5; cases d5
    have a3 := li_k a3
    have hvs : vs = [.int u0, .int u1] := by
      match vs, a3 with
      | [y0, y1], _ => cases b3; cases d3; rfl
    subst hvs
    obtain ⟨xy, g1, g2⟩ := hC (-1, [(-1, 2), (1, 3)]) (by unfold nu_tryK; simp)
    have g3 : xy = (-1 : Int) + (-1 * u0.toInt + (1 * u1.toInt + 0)) := g1.2
    have f5 : xx = (0 : Int) + (1000 * x1 + (1 * u1.toInt + 0)) := f1.2
    have hB : u1.toInt = (B' : Int) := by omega
    have hA : x1 = (A' : Int) := by omega
    have hR : u0.toInt = (u0.toInt.toNat : Int) := by omega
    have hN : x0 = (x0.toNat : Int) := by omega
    match a, hS with
    | [w1, w2, w3], ⟨⟨y1, c1, c2⟩, ⟨y2, c3, c4⟩, ⟨q9, c5, c6⟩, _⟩ =>
      subst c1 c3 c6
      have c5 : s[0]? = some q9 := c5
      rw [a1] at c5; cases c5
      have c2 := ck_lv1 c2
      have c4 := ck_lv1 c4
      have c2 : some x0 = some y1.toInt := c2
      have c4 : some x1 = some y2.toInt := c4
      have e1 : y1.toInt = (x0.toNat : Int) := by rw [← hN]; exact (Option.some.inj c2).symm
      have e2 : y2.toInt = (A' : Int) := by rw [← hA]; exact (Option.some.inj c4).symm
      rw [nu_i64 e1, nu_i64 e2]
      have hrow : am_g G h q = some (2550, hd_r [((u0.toInt.toNat : Nat) : Int), (B' : Int)]) := by
        rw [a2]
        unfold hd_r
        rw [List.map_cons, List.map_cons, ← hR, ← hB, Int32.ofInt_toInt, Int32.ofInt_toInt]
        rfl
      refine nu_try_M g (t := 2550) (by omega) (by omega) (by omega) (by omega) (by omega) f4 (by decide) hrow fun k hk => ⟨hH, ck_Kp.rf, Nat.le_refl _, [(k : Int)], [], li_in (by omega) (by omega) li_in0, List.forall_mem_cons.mpr ⟨?_, List.forall_mem_nil _⟩, List.forall_mem_nil _, rfl, ⟨⟨_, rfl, by rw [hd_oi (by omega) (by omega)]; exact ck_Lv.x rfl⟩, trivial⟩⟩
      refine ⟨(B' : Int) - 1 - (k : Int), ⟨fun t ht => ?_, ?_⟩, by omega⟩
      · simp at ht
        rcases ht with rfl | rfl <;> exact Nat.le_of_ble_eq_true rfl
      · show _ = (-1 : Int) + (1 * u1.toInt + (-1 * (k : Int) + 0))
        omega
