/-! CONGRUENCES JOIN -/
theorem zj_msb (w : Int64) : w.toBitVec.msb = decide (w.toInt < 0) := BitVec.msb_eq_toInt
theorem zj_xorc {a b : Int} (ha : -9223372036854775808 ≤ a) (ha2 : a ≤ 9223372036854775807) (hb : 0 < b) (hb2 : b ≤ 9223372036854775807) : ∃ s : Int, (-9223372036854775808 ≤ s ∧ s ≤ 9223372036854775807) ∧ (s < 0 ↔ a < 0) ∧ ∀ (v : Int) (L : List (Option Value)) (st : List Value), ck_cf 16 7 v L (.long (Int64.ofInt b) :: .long (Int64.ofInt a) :: st) = some (L, .long (Int64.ofInt s) :: st) := by
  refine ⟨(Int64.ofInt a ^^^ Int64.ofInt b).toInt, ⟨?_, ?_⟩, ?_, fun v L st => ?_⟩
  · exact Int64.le_toInt _
  · have := Int64.toInt_lt (Int64.ofInt a ^^^ Int64.ofInt b)
    have h2 : (2 : Int) ^ 63 = 9223372036854775808 := by decide
    omega
  · have h1 := zj_msb (Int64.ofInt a ^^^ Int64.ofInt b)
    rw [Int64.toBitVec_xor, BitVec.msb_xor, zj_msb, zj_msb, hd_li ha ha2, hd_li (by omega) hb2, decide_eq_false (show ¬ b < 0 by omega), Bool.xor_false] at h1
    exact (decide_eq_decide.mp h1).symm
  · rw [Int64.ofInt_toInt]
    rfl
theorem zj_trem {L : List (Option Value)} {st : List Value} {v x y : Int} (h1 : -9223372036854775808 ≤ x) (h2 : x ≤ 9223372036854775807) (h3 : 0 < y) (h4 : y ≤ 9223372036854775807) : ck_cf 16 4 v L (.long (Int64.ofInt y) :: .long (Int64.ofInt x) :: st) = some (L, .long (Int64.ofInt (x.tmod y)) :: st) := by
  have hm : Int64.minValue.toInt = -9223372036854775808 := by decide
  have hM : Int64.maxValue.toInt = 9223372036854775807 := by decide
  have e : Int64.ofInt x - Int64.ofInt x / Int64.ofInt y * Int64.ofInt y = Int64.ofInt (x.tmod y) := by
    rw [← Int64.ofInt_tdiv (by omega) (by omega) (by omega) (by omega), ← Int64.ofInt_mul, ← Int64.ofInt_sub, Int.tmod_def, Int.mul_comm]
  rw [← e]
  show (if ck_dz 4 = true ∧ Int64.ofInt y = 0 then none else _) = _
  rw [if_neg (fun z => hd_l0 h3 h4 z.2)]
  rfl
theorem zj_ldivE {L : List (Option Value)} {st : List Value} {v x y z : Int} (h1 : 0 ≤ x) (h2 : x ≤ 9223372036854775807) (h3 : 0 < y) (h4 : y ≤ 9223372036854775807) (e : x / y = z) : ck_cf 16 3 v L (.long (Int64.ofInt y) :: .long (Int64.ofInt x) :: st) = some (L, .long (Int64.ofInt z) :: st) := by
  rw [← e]
  exact hd_ldiv h1 h2 h3 h4
theorem zj_lremE {L : List (Option Value)} {st : List Value} {v x y z : Int} (h1 : 0 ≤ x) (h2 : x ≤ 9223372036854775807) (h3 : 0 < y) (h4 : y ≤ 9223372036854775807) (e : x % y = z) : ck_cf 16 4 v L (.long (Int64.ofInt y) :: .long (Int64.ofInt x) :: st) = some (L, .long (Int64.ofInt z) :: st) := by
  rw [← e]
  exact hd_lrem h1 h2 h3 h4
theorem zj_idivE {L : List (Option Value)} {st : List Value} {v x y z : Int} (h1 : 0 ≤ x) (h2 : x ≤ 2147483647) (h3 : 0 < y) (h4 : y ≤ 2147483647) (e : x / y = z) : ck_cf 15 3 v L (.int (Int32.ofInt y) :: .int (Int32.ofInt x) :: st) = some (L, .int (Int32.ofInt z) :: st) := by
  rw [← e]
  exact hd_div h1 h2 h3 h4
theorem zj_sg (s : Int) : ∃ c : Int, (if 0 < s then 1 else if s < 0 then -1 else 0 : Int) = c ∧ -1 ≤ c ∧ c ≤ 1 ∧ (c < 0 ↔ s < 0) ∧ (c = 0 ↔ s = 0) := by
  rcases Int.lt_trichotomy s 0 with h_ | h_ | h_
  · exact ⟨-1, by rw [if_neg (by omega), if_pos h_], by omega, by omega, by omega, by omega⟩
  · exact ⟨0, by rw [if_neg (by omega), if_neg (by omega)], by omega, by omega, by omega, by omega⟩
  · exact ⟨1, by rw [if_pos h_], by omega, by omega, by omega, by omega⟩
set_option maxHeartbeats 4000000 in
theorem zj_fmod_M {l : Launch} {G : am_G} {X : ck_XT} (g : gM l G X) {x y : Int} {h : List am_C} (hx : -4611686018427387904 ≤ x) (hx2 : x ≤ 4611686018427387904) (hy : 0 < y) (hy2 : y ≤ 4611686018427387904) {mc ms : Nat} {Post : am_O → List am_C → Prop}
    (hP : Post (.inl (some (.long (Int64.ofInt (x % y))))) h) :
    am_M l G yJ9_floorMod_f86c9 (.code yJ9_floorMod_f86c9 prog_32_method_52_code 6 (some .long)) 1 20 mc ms [.long (Int64.ofInt x), .long (Int64.ofInt y)] h Post := by
  refine gh_yJ9_floorMod_f86c9_X g (Nat.le_of_ble_eq_true rfl) fun S SX hs hr hw hx => ?_
  have rv : ∀ x : Int32, ck_fv 0 (.int x) := fun x => ⟨_, rfl⟩
  have htb_ : -4611686018427387904 ≤ x.tmod y ∧ x.tmod y ≤ 4611686018427387904 := by
    have hl_ := Int.emod_lt_of_pos x hy
    have hl0_ := Int.emod_nonneg x (b := y) (by omega)
    rcases sm_td (x := x) hy with ⟨z1, z2, z3⟩ | ⟨z1, z2, z3, z4⟩ | ⟨z1, z2, z3, z4, z5⟩ <;> omega
  obtain ⟨s_, ⟨s1_, s2_⟩, s3_, s4_⟩ := zj_xorc (a := x) (b := y) (by omega) (by omega) hy (by omega)
  obtain ⟨c_, q1_, q2_, q3_, q4_, q5_⟩ := zj_sg s_
  obtain ⟨d_, p1_, p2_, p3_, p4_, p5_⟩ := zj_sg (x.tmod y)
  rcases sm_td (x := x) hy with ⟨z1, z2, z3⟩ | ⟨z1, z2, z3, z4⟩ | ⟨z1, z2, z3, z4, z5⟩
  · rw [← z3] at hP
    have c0_ : 0 ≤ c_ := by omega
    refine hs 0 _ rfl _ _ _ _ _ _ _ rfl ?_
    refine hs 1 _ rfl _ _ _ _ _ _ _ rfl ?_
    refine hs 2 _ rfl _ _ _ _ _ _ _ (zj_trem (by omega) (by omega) (by omega) (by omega)) ?_
    refine hs 3 _ rfl _ _ _ _ _ _ _ rfl ?_
    refine hs 4 _ rfl _ _ _ _ _ _ _ rfl ?_
    refine hs 5 _ rfl _ _ _ _ _ _ _ rfl ?_
    refine hs 6 _ rfl _ _ _ _ _ _ _ (s4_ _ _ _) ?_
    refine hs 7 _ rfl _ _ _ _ _ _ _ rfl ?_
    refine hs 8 _ rfl _ _ _ _ _ _ _ (zw_lcmpE (by omega) (by omega) (by decide) (by decide) q1_) ?_
    refine hs 9 _ rfl _ _ _ _ _ _ (fun _ => ?_) (fun zq => absurd (hd_c1t (c := 3) (by omega) (by omega) (by omega : 0 ≤ c_)) zq)
    refine hs 18 _ rfl _ _ _ _ _ _ _ rfl ?_
    exact hs 19 _ rfl _ _ _ _ _ ⟨_, rfl⟩ (Nat.zero_le _) (Nat.zero_le _) hP
  · rw [z4, ← z2] at hP
    have c0_ : c_ < 0 := by omega
    have d0_ : d_ = 0 := by omega
    refine hs 0 _ rfl _ _ _ _ _ _ _ rfl ?_
    refine hs 1 _ rfl _ _ _ _ _ _ _ rfl ?_
    refine hs 2 _ rfl _ _ _ _ _ _ _ (zj_trem (by omega) (by omega) (by omega) (by omega)) ?_
    refine hs 3 _ rfl _ _ _ _ _ _ _ rfl ?_
    refine hs 4 _ rfl _ _ _ _ _ _ _ rfl ?_
    refine hs 5 _ rfl _ _ _ _ _ _ _ rfl ?_
    refine hs 6 _ rfl _ _ _ _ _ _ _ (s4_ _ _ _) ?_
    refine hs 7 _ rfl _ _ _ _ _ _ _ rfl ?_
    refine hs 8 _ rfl _ _ _ _ _ _ _ (zw_lcmpE (by omega) (by omega) (by decide) (by decide) q1_) ?_
    refine hs 9 _ rfl _ _ _ _ _ _ (fun zq => absurd (hd_c1z (c := 3) (by omega) (by omega) zq) (by omega : ¬ (0 ≤ c_))) (fun _ => ?_)
    refine hs 10 _ rfl _ _ _ _ _ _ _ rfl ?_
    refine hs 11 _ rfl _ _ _ _ _ _ _ rfl ?_
    refine hs 12 _ rfl _ _ _ _ _ _ _ (zw_lcmpE (by omega) (by omega) (by decide) (by decide) p1_) ?_
    refine hs 13 _ rfl _ _ _ _ _ _ (fun _ => ?_) (fun zq => absurd (hd_c1t (c := 0) (by omega) (by omega) (by omega : d_ = 0)) zq)
    refine hs 18 _ rfl _ _ _ _ _ _ _ rfl ?_
    exact hs 19 _ rfl _ _ _ _ _ ⟨_, rfl⟩ (Nat.zero_le _) (Nat.zero_le _) hP
  · rw [← z5] at hP
    have c0_ : c_ < 0 := by omega
    have d0_ : d_ ≠ 0 := by omega
    refine hs 0 _ rfl _ _ _ _ _ _ _ rfl ?_
    refine hs 1 _ rfl _ _ _ _ _ _ _ rfl ?_
    refine hs 2 _ rfl _ _ _ _ _ _ _ (zj_trem (by omega) (by omega) (by omega) (by omega)) ?_
    refine hs 3 _ rfl _ _ _ _ _ _ _ rfl ?_
    refine hs 4 _ rfl _ _ _ _ _ _ _ rfl ?_
    refine hs 5 _ rfl _ _ _ _ _ _ _ rfl ?_
    refine hs 6 _ rfl _ _ _ _ _ _ _ (s4_ _ _ _) ?_
    refine hs 7 _ rfl _ _ _ _ _ _ _ rfl ?_
    refine hs 8 _ rfl _ _ _ _ _ _ _ (zw_lcmpE (by omega) (by omega) (by decide) (by decide) q1_) ?_
    refine hs 9 _ rfl _ _ _ _ _ _ (fun zq => absurd (hd_c1z (c := 3) (by omega) (by omega) zq) (by omega : ¬ (0 ≤ c_))) (fun _ => ?_)
    refine hs 10 _ rfl _ _ _ _ _ _ _ rfl ?_
    refine hs 11 _ rfl _ _ _ _ _ _ _ rfl ?_
    refine hs 12 _ rfl _ _ _ _ _ _ _ (zw_lcmpE (by omega) (by omega) (by decide) (by decide) p1_) ?_
    refine hs 13 _ rfl _ _ _ _ _ _ (fun zq => absurd (hd_c1z (c := 0) (by omega) (by omega) zq) (by omega : ¬ (d_ = 0))) (fun _ => ?_)
    refine hs 14 _ rfl _ _ _ _ _ _ _ rfl ?_
    refine hs 15 _ rfl _ _ _ _ _ _ _ rfl ?_
    refine hs 16 _ rfl _ _ _ _ _ _ _ hd_ladd ?_
    exact hs 17 _ rfl _ _ _ _ _ ⟨_, rfl⟩ (Nat.zero_le _) (Nat.zero_le _) hP
theorem zj_com_M {l : Launch} {G : am_G} {X : ck_XT} (g : gM l G X) {w s : Nat} {h : List am_C} (hs : 1 ≤ s) (hs2 : s ≤ 999) {mc ms : Nat} {Post : am_O → List am_C → Prop} (hP : Post (.inl (some (.int (Int32.ofInt ((Nat.gcd w s : Nat) : Int))))) h) :
    am_M l G yX7_commonOf (.code yX7_commonOf prog_9_method_2_code 6 (some .int)) 1 20 mc ms [.int (Int32.ofInt ((w : Int) % (s : Int))), .int (Int32.ofInt (s : Int))] h Post := by
  rw [show (w : Int) % (s : Int) = ((w % s : Nat) : Int) from (Int.natCast_emod w s).symm]
  have l_ := Nat.mod_lt w (y := s) (by omega)
  refine sm_common_M g (by omega) (by omega) ?_
  rw [nu_gcd_mod]
  exact hP
theorem zj_emd {a b m : Int} (h : a % m = b % m) : m ∣ a - b := Int.dvd_of_emod_eq_zero (by rw [Int.sub_emod, h, Int.sub_self, Int.zero_emod])
theorem zj_parts (w s : Nat) (hs : 0 < s) : ∃ w_ t_ : Nat, w = Nat.gcd w s * w_ ∧ s = Nat.gcd w s * t_ ∧ Nat.gcd w_ t_ = 1 ∧ 0 < t_ ∧ 0 < Nat.gcd w s := by
  obtain ⟨w_, hw_⟩ := Nat.gcd_dvd_left w s
  obtain ⟨t_, ht_⟩ := Nat.gcd_dvd_right w s
  have g0_ : 0 < Nat.gcd w s := Nat.gcd_pos_of_pos_right w hs
  have e_ : Nat.gcd w s * Nat.gcd w_ t_ = Nat.gcd w s * 1 := by rw [← Nat.gcd_mul_left (Nat.gcd w s) w_ t_, ← hw_, ← ht_, Nat.mul_one]
  refine ⟨w_, t_, hw_, ht_, Nat.eq_of_mul_eq_mul_left g0_ e_, ?_, g0_⟩
  apply Nat.pos_of_ne_zero
  intro y_
  rw [y_, Nat.mul_zero] at ht_
  omega
theorem zj_key {gg w s w_ t_ : Nat} {n rest q u : Int} (hw : w = gg * w_) (hs : s = gg * t_) (hq : rest - n = (gg : Int) * q) (hu : (t_ : Int) ∣ (w_ : Int) * u - q) : (s : Int) ∣ n + (w : Int) * u - rest := by
  obtain ⟨k_, hk_⟩ := hu
  have e1_ : (gg : Int) * ((w_ : Int) * u) - (gg : Int) * q = (gg : Int) * ((t_ : Int) * k_) := by rw [← Int.mul_sub, hk_]
  have e2_ : (w : Int) * u = (gg : Int) * ((w_ : Int) * u) := by rw [hw, Int.natCast_mul, Int.mul_assoc]
  have e3_ : (s : Int) * k_ = (gg : Int) * ((t_ : Int) * k_) := by rw [hs, Int.natCast_mul, Int.mul_assoc]
  exact ⟨k_, by rw [e2_, e3_, ← e1_, ← hq]; omega⟩
theorem zj_solve {w s : Nat} (hs : 0 < s) {n rest : Int} (h : ((Nat.gcd w s : Nat) : Int) ∣ rest - n) : ∃ u : Int, (s : Int) ∣ n + (w : Int) * u - rest := by
  obtain ⟨w_, t_, hw_, ht_, hc_, h0_, -⟩ := zj_parts w s hs
  obtain ⟨q_, hq_⟩ := h
  obtain ⟨k_, -, hk_⟩ := nu_reach h0_ hc_ q_
  exact ⟨(k_ : Int), zj_key hw_ ht_ hq_ (zj_emd hk_)⟩
theorem zj_dv {t a u g v q : Int} (A : t ∣ u - g * v) (B : t ∣ a * v - 1) (C : t ∣ g - q) : t ∣ a * u - q := by
  have x_ := Int.dvd_add (Int.dvd_add (Int.dvd_mul_of_dvd_right (b := a) A) (Int.dvd_mul_of_dvd_right (b := g) B)) C
  have e_ : a * (u - g * v) + g * (a * v - 1) + (g - q) = a * u - q := by
    rw [Int.mul_sub a u (g * v), Int.mul_sub g (a * v) 1, Int.mul_one, Int.mul_left_comm a g v]
    omega
  rw [e_] at x_
  exact x_
theorem zj_inv {a t : Nat} (hc : Nat.gcd a t = 1) {v : Int} (h : sm_inv ((a : Int) % (t : Int)).toNat (t : Int).toNat v) : 0 ≤ v ∧ v < (t : Int) ∧ (t : Int) ∣ (a : Int) * v - 1 := by
  rw [← Int.natCast_emod, Int.toNat_natCast, Int.toNat_natCast] at h
  rcases h with ⟨c_, -⟩ | ⟨-, h1_, h2_, h3_⟩
  · rw [nu_gcd_mod] at c_
    exact absurd hc c_
  · refine ⟨h1_, h2_, ?_⟩
    have e2_ := zj_emd h3_
    rw [Int.natCast_emod] at e2_
    have x_ : (t : Int) ∣ ((a : Int) - (a : Int) % (t : Int)) * v := Int.dvd_mul_of_dvd_left (c := v) (Int.dvd_self_sub_emod (x := (a : Int)) (m := (t : Int)))
    rw [Int.sub_mul] at x_
    have y_ := Int.dvd_add x_ e2_
    rw [show (a : Int) * v - (a : Int) % (t : Int) * v + ((a : Int) % (t : Int) * v - 1) = (a : Int) * v - 1 by omega] at y_
    exact y_
theorem zj_gap {gg s t : Nat} (g0 : 0 < gg) (hs : s = gg * t) {d q : Int} (hd : d = (gg : Int) * q) : d % (s : Int) / (gg : Int) = q % (t : Int) := by
  rw [hd, hs, Int.natCast_mul, Int.mul_emod_mul_of_pos _ _ (by omega), Int.mul_ediv_cancel_left _ (by omega)]
theorem zj_lt {w n u t : Int} (hn : 0 ≤ n) (hn2 : n < w) (hu : 0 ≤ u) (hu2 : u < t) : 0 ≤ n + w * u ∧ n + w * u < w * t := by
  have a_ : w * (u + 1) ≤ w * t := Int.mul_le_mul_of_nonneg_left (by omega) (by omega)
  have b_ := Int.mul_nonneg (show 0 ≤ w by omega) hu
  rw [Int.mul_add, Int.mul_one] at a_
  omega
/-- a congruence may join -/
def zj_ad (j n rest : Int) (w s : Nat) : Prop := j = 1 ∧ ((Nat.gcd w s : Nat) : Int) ∣ rest - n
/-- some number has all rests -/
def sp_fit (L : List (Int × Int)) : Prop := ∃ m : Int, ∀ p ∈ L, p.2 ∣ m - p.1
/-- what the joiner holds behind some congruences -/
def zj_I (L : List (Int × Int)) (j n : Int) (w : Nat) : Prop := 1 ≤ w ∧ w ≤ 999 ^ L.length ∧ (0 ≤ n ∧ n < (w : Int)) ∧ (∀ p ∈ L, p.2 ∣ (w : Int)) ∧ (∀ k : Int, (∀ p ∈ L, p.2 ∣ k) → (w : Int) ∣ k) ∧ ((j = 1 ∧ ∀ p ∈ L, p.2 ∣ n - p.1) ∨ (j = 0 ∧ ¬ sp_fit L))
theorem zj_I.fit {L : List (Int × Int)} {j n : Int} {w s : Nat} (h : zj_I L j n w) (hs : 0 < s) {rest r : Int} (hr : (s : Int) ∣ rest - r) : zj_ad j n rest w s ↔ sp_fit (L ++ [(r, (s : Int))]) := by
  obtain ⟨h1_, -, -, h2_, h3_, h4_⟩ := h
  have gs_ : ((Nat.gcd w s : Nat) : Int) ∣ (s : Int) := Int.natCast_dvd_natCast.mpr (Nat.gcd_dvd_right w s)
  have gw_ : ((Nat.gcd w s : Nat) : Int) ∣ (w : Int) := Int.natCast_dvd_natCast.mpr (Nat.gcd_dvd_left w s)
  constructor
  · intro a9_
    obtain ⟨j1_, d1_⟩ := a9_
    have d2_ := Int.dvd_sub d1_ (Int.dvd_trans gs_ hr)
    rw [show rest - n - (rest - r) = r - n by omega] at d2_
    obtain ⟨u_, hu_⟩ := zj_solve hs d2_
    rcases h4_ with ⟨-, b_⟩ | ⟨b_, -⟩
    · refine ⟨n + (w : Int) * u_, fun p hp => ?_⟩
      rcases List.mem_append.mp hp with e_ | e_
      · have x_ := Int.dvd_add (b_ p e_) (Int.dvd_mul_of_dvd_left (c := u_) (h2_ p e_))
        rw [show n - p.1 + (w : Int) * u_ = n + (w : Int) * u_ - p.1 by omega] at x_
        exact x_
      · cases List.mem_singleton.mp e_
        exact hu_
    · omega
  · intro a9_
    obtain ⟨m_, hm_⟩ := a9_
    have a_ : ∀ p ∈ L, p.2 ∣ m_ - p.1 := fun p hp => hm_ p (List.mem_append_left _ hp)
    have b_ : (s : Int) ∣ m_ - r := hm_ (r, (s : Int)) (List.mem_append_right _ (List.mem_singleton.mpr rfl))
    rcases h4_ with ⟨j1_, c_⟩ | ⟨-, c_⟩
    · refine ⟨j1_, ?_⟩
      have d_ : (w : Int) ∣ m_ - n := h3_ _ fun p hp => by
        have x_ := Int.dvd_sub (a_ p hp) (c_ p hp)
        rw [show m_ - p.1 - (n - p.1) = m_ - n by omega] at x_
        exact x_
      have e_ := Int.dvd_add (Int.dvd_sub (Int.dvd_trans gs_ hr) (Int.dvd_trans gs_ b_)) (Int.dvd_trans gw_ d_)
      rw [show rest - r - (m_ - r) + (m_ - n) = rest - n by omega] at e_
      exact e_
    · exact absurd ⟨m_, a_⟩ c_
theorem zj_I.lcm {L : List (Int × Int)} {j n r : Int} {w s t : Nat} (h : zj_I L j n w) (ht : s = Nat.gcd w s * t) (hs : 1 ≤ s) (hs2 : s ≤ 999) : 1 ≤ t ∧ 1 ≤ w * t ∧ w * t ≤ 999 ^ (L ++ [(r, (s : Int))]).length ∧ (∀ p ∈ L ++ [(r, (s : Int))], p.2 ∣ ((w * t : Nat) : Int)) ∧ (∀ k : Int, (∀ p ∈ L ++ [(r, (s : Int))], p.2 ∣ k) → ((w * t : Nat) : Int) ∣ k) := by
  obtain ⟨h1_, h0_, -, h2_, h3_, -⟩ := h
  have g0_ : 0 < Nat.gcd w s := Nat.gcd_pos_of_pos_right w (by omega)
  have t0_ : 1 ≤ t := by
    apply Nat.pos_of_ne_zero
    intro y_
    rw [y_, Nat.mul_zero] at ht
    omega
  have t9_ : t ≤ s := Nat.le_trans (Nat.le_mul_of_pos_left t g0_) (Nat.le_of_eq ht.symm)
  obtain ⟨w_, hw_⟩ := Nat.gcd_dvd_left w s
  have sw_ : w * t = s * w_ := by
    have a1_ : w * t = Nat.gcd w s * w_ * t := congrArg (· * t) hw_
    have a2_ : s * w_ = Nat.gcd w s * t * w_ := congrArg (· * w_) ht
    rw [a1_, a2_, Nat.mul_right_comm]
  have l_ : Nat.lcm w s = w * t := by
    apply Nat.eq_of_mul_eq_mul_left g0_
    have a3_ : w * s = w * (Nat.gcd w s * t) := congrArg (w * ·) ht
    rw [Nat.gcd_mul_lcm, a3_, Nat.mul_left_comm]
  refine ⟨t0_, Nat.mul_pos h1_ t0_, ?_, fun p hp => ?_, fun k hk => ?_⟩
  · rw [List.length_append, List.length_singleton, Nat.pow_succ]
    exact Nat.mul_le_mul h0_ (by omega)
  · rcases List.mem_append.mp hp with e_ | e_
    · rw [Int.natCast_mul]
      exact Int.dvd_mul_of_dvd_left (h2_ p e_)
    · cases List.mem_singleton.mp e_
      exact Int.natCast_dvd_natCast.mpr ⟨w_, sw_⟩
  · have a_ := h3_ k fun p hp => hk p (List.mem_append_left _ hp)
    have b_ : (s : Int) ∣ k := hk (r, (s : Int)) (List.mem_append_right _ (List.mem_singleton.mpr rfl))
    rw [← l_]
    exact Int.ofNat_dvd_left.mpr (Nat.lcm_dvd (Int.ofNat_dvd_left.mp a_) (Int.ofNat_dvd_left.mp b_))
theorem zj_I.one {L : List (Int × Int)} {j n r n2 : Int} {w s t : Nat} (h : zj_I L j n w) (ht : s = Nat.gcd w s * t) (hs : 1 ≤ s) (hs2 : s ≤ 999) (hj : j = 1) (h1 : 0 ≤ n2) (h2 : n2 < ((w * t : Nat) : Int)) (h3 : (w : Int) ∣ n2 - n) (h4 : (s : Int) ∣ n2 - r) : zj_I (L ++ [(r, (s : Int))]) 1 n2 (w * t) := by
  obtain ⟨-, a2_, a3_, a4_, a5_⟩ := h.lcm (r := r) ht hs hs2
  obtain ⟨-, -, -, b2_, -, b4_⟩ := h
  refine ⟨a2_, a3_, ⟨h1, h2⟩, a4_, a5_, Or.inl ⟨rfl, fun p hp => ?_⟩⟩
  rcases b4_ with ⟨-, b_⟩ | ⟨b_, -⟩
  · rcases List.mem_append.mp hp with e_ | e_
    · have x_ := Int.dvd_add (b_ p e_) (Int.dvd_trans (b2_ p e_) h3)
      rw [show n - p.1 + (n2 - n) = n2 - p.1 by omega] at x_
      exact x_
    · cases List.mem_singleton.mp e_
      exact h4
  · omega
theorem zj_I.none {L : List (Int × Int)} {j n r : Int} {w s t : Nat} (h : zj_I L j n w) (ht : s = Nat.gcd w s * t) (hs : 1 ≤ s) (hs2 : s ≤ 999) (hf : ¬ sp_fit (L ++ [(r, (s : Int))])) : zj_I (L ++ [(r, (s : Int))]) 0 n (w * t) := by
  obtain ⟨a1_, a2_, a3_, a4_, a5_⟩ := h.lcm (r := r) ht hs hs2
  obtain ⟨-, -, b3_, -, -, -⟩ := h
  have m_ : w ≤ w * t := Nat.le_mul_of_pos_right w a1_
  exact ⟨a2_, a3_, ⟨b3_.1, by omega⟩, a4_, a5_, Or.inr ⟨rfl, hf⟩⟩
theorem zj_I.nil : zj_I [] 1 0 1 := ⟨Nat.le_refl 1, Nat.le_refl 1, ⟨by decide, by decide⟩, (fun p hp => nomatch hp), fun k _ => ⟨k, by omega⟩, Or.inl ⟨rfl, (fun p hp => nomatch hp)⟩⟩
def zj_c (j n w : Int) : am_C := (1011, [.int (Int32.ofInt j), .long (Int64.ofInt n), .long (Int64.ofInt w)])
set_option maxHeartbeats 4000000 in
theorem zj_clear_M {l : Launch} {G : am_G} {X : ck_XT} (g : gM l G X) {q : Nat} {h : List am_C} {a0_ : Int32} {b0_ d0_ : Int64} (hq : 1000 ≤ q) (hg : am_g G h q = some (1011, [.int a0_, .long b0_, .long d0_])) {mc ms : Nat} {Post : am_O → List am_C → Prop}
    (hP : ∀ h', zw_f G h h' q 1 → am_g G h' q = some (zj_c 1 0 1) → Post (.inl none) h') :
    am_M l G yX4_clear (.code yX4_clear prog_6_method_2_code 1 none) 1 20 mc ms [.ref q] h Post := by
  refine gh_yX4_clear_X g (Nat.le_of_ble_eq_true rfl) fun S SX hs hr hw hx => ?_
  have rv : ∀ x : Int32, ck_fv 0 (.int x) := fun x => ⟨_, rfl⟩
  refine hs 0 _ rfl _ _ _ _ _ _ _ rfl ?_
  refine hs 1 _ rfl _ _ _ _ _ _ _ rfl ?_
  refine zw_U (hs 2 _ rfl) (by omega) (hg) rfl ⟨_, rfl, by decide, by decide⟩ fun hz79 wz80 => ?_
  have wz80 : hd_w G h hz79 q (1011, [.int (Int32.ofInt (1 : Int)), .long b0_, .long d0_]) := wz80
  refine hs 3 _ rfl _ _ _ _ _ _ _ rfl ?_
  refine hs 4 _ rfl _ _ _ _ _ _ _ rfl ?_
  refine zw_U (hs 5 _ rfl) (by omega) (wz80.at) rfl ⟨_, rfl⟩ fun hz81 wz82 => ?_
  have wz82 : hd_w G hz79 hz81 q (1011, [.int (Int32.ofInt (1 : Int)), .long (Int64.ofInt (0 : Int)), .long d0_]) := wz82
  refine hs 6 _ rfl _ _ _ _ _ _ _ rfl ?_
  refine hs 7 _ rfl _ _ _ _ _ _ _ rfl ?_
  refine zw_U (hs 8 _ rfl) (by omega) (wz82.at) rfl ⟨_, rfl⟩ fun hz83 wz84 => ?_
  have wz84 : hd_w G hz81 hz83 q (1011, [.int (Int32.ofInt (1 : Int)), .long (Int64.ofInt (0 : Int)), .long (Int64.ofInt (1 : Int))]) := wz84
  exact hs 9 _ rfl _ _ _ _ (Nat.zero_le _) (Nat.zero_le _) (hP _ (((zw_f.w (lo := q) (n := 1) wz80 (by omega) (by omega)).tr (zw_f.w (lo := q) (n := 1) wz82 (by omega) (by omega))).tr (zw_f.w (lo := q) (n := 1) wz84 (by omega) (by omega))) wz84.at)
set_option maxHeartbeats 4000000 in
theorem zj_admits_M {l : Launch} {G : am_G} {X : ck_XT} (g : gM l G X) {q w s : Nat} {j n rest : Int} {h : List am_C} (hg : am_g G h q = some (zj_c j n (w : Int))) (hj : j = 0 ∨ j = 1) (hw1 : 1 ≤ w) (hw2 : w ≤ 994014980014994001) (hn : 0 ≤ n) (hn2 : n < (w : Int)) (hs1 : 1 ≤ s) (hs2 : s ≤ 999) (hr1 : -9999 ≤ rest) (hr2 : rest ≤ 9999) {mc ms : Nat} {Post : am_O → List am_C → Prop}
    (hP1 : zj_ad j n rest w s → Post (.inl (some (.int (Int32.ofInt 1)))) h) (hP0 : ¬ zj_ad j n rest w s → Post (.inl (some (.int (Int32.ofInt 0)))) h) :
    am_M l G yX4_admits (.code yX4_admits prog_6_method_3_code 4 (some .boolean)) 2 45 mc ms [.ref q, .int (Int32.ofInt rest), .int (Int32.ofInt (s : Int))] h Post := by
  refine gh_yX4_admits_X g (Nat.le_of_ble_eq_true rfl) fun S SX hs hr hw hx => ?_
  have rv : ∀ x : Int32, ck_fv 0 (.int x) := fun x => ⟨_, rfl⟩
  have rm0_ := Int.emod_nonneg (w : Int) (b := (s : Int)) (by omega)
  have rm1_ := Int.emod_lt_of_pos (w : Int) (b := (s : Int)) (by omega)
  have g0_ : 0 < Nat.gcd w s := Nat.gcd_pos_of_pos_right w (by omega)
  have gl_ : Nat.gcd w s ≤ s := Nat.gcd_le_right w (by omega)
  rcases hj with rfl | rfl
  · 
    refine hs 0 _ rfl _ _ _ _ _ _ _ rfl ?_
    refine hs 1 _ rfl _ _ _ _ _ _ (fun _ => ?_) (fun zq => absurd (hd_c1t (c := 4) (by omega) (by omega) (by omega : 0 < (s : Int))) zq)
    refine hs 4 _ rfl _ _ _ _ _ _ _ rfl ?_
    refine hs 5 _ rfl _ _ _ _ _ _ _ _ _ (hg) rfl rfl ?_
    refine hs 6 _ rfl _ _ _ _ _ _ _ rfl ?_
    refine hs 7 _ rfl _ _ _ _ _ _ _ (hd_i2l (by omega) (by omega)) ?_
    refine hs 8 _ rfl _ _ _ _ _ _ _ (hd_lrem (by omega) (by omega) (by omega) (by omega)) ?_
    refine hs 9 _ rfl _ _ _ _ _ _ _ (hd_l2i (by omega) (by omega)) ?_
    refine hs 10 _ rfl _ _ _ _ _ _ _ rfl ?_
    refine zw_c (hs 11 _ rfl) (a := [.int (Int32.ofInt ((w : Int) % (s : Int))), .int (Int32.ofInt (s : Int))]) (st := []) rfl rfl (Nat.le_of_ble_eq_true rfl) trivial (Nat.zero_le _) (Nat.zero_le _) (zj_com_M g (by omega) (by omega) ?_)
    show S 18 [some (.ref q), some (.int (Int32.ofInt rest)), some (.int (Int32.ofInt (s : Int))), none] [.int (Int32.ofInt ((Nat.gcd w s : Nat) : Int))] _ _ _
    refine hs 12 _ rfl _ _ _ _ _ _ _ rfl ?_
    refine hs 13 _ rfl _ _ _ _ _ _ _ rfl ?_
    refine hs 14 _ rfl _ _ _ _ _ _ _ _ _ (hg) rfl rfl ?_
    refine hs 15 _ rfl _ _ _ _ _ _ (fun _ => ?_) (fun zq => absurd (hd_c1t (c := 0) (by omega) (by omega) (by omega : (0 : Int) = 0)) zq)
    refine hs 31 _ rfl _ _ _ _ _ _ _ rfl ?_
    exact hs 32 _ rfl _ _ _ _ _ ⟨_, rfl, by decide, by decide⟩ (Nat.zero_le _) (Nat.zero_le _) (hP0 fun y_ => absurd y_.1 (by decide))
  · have htb_ : -4611686018427387904 ≤ (rest - n).tmod ((Nat.gcd w s : Nat) : Int) ∧ (rest - n).tmod ((Nat.gcd w s : Nat) : Int) ≤ 4611686018427387904 := by
      have hl_ := Int.emod_lt_of_pos (rest - n) (b := ((Nat.gcd w s : Nat) : Int)) (by omega)
      have hl0_ := Int.emod_nonneg (rest - n) (b := ((Nat.gcd w s : Nat) : Int)) (by omega)
      rcases sm_td (x := rest - n) (y := ((Nat.gcd w s : Nat) : Int)) (by omega) with ⟨z1, z2, z3⟩ | ⟨z1, z2, z3, z4⟩ | ⟨z1, z2, z3, z4, z5⟩ <;> omega
    obtain ⟨c_, q1_, q2_, q3_, q4_, q5_⟩ := zj_sg ((rest - n).tmod ((Nat.gcd w s : Nat) : Int))
    by_cases d_ : ((Nat.gcd w s : Nat) : Int) ∣ rest - n
    · have z_ := Int.dvd_iff_tmod_eq_zero.mp d_
      have c0_ : c_ = 0 := by omega
      refine hs 0 _ rfl _ _ _ _ _ _ _ rfl ?_
      refine hs 1 _ rfl _ _ _ _ _ _ (fun _ => ?_) (fun zq => absurd (hd_c1t (c := 4) (by omega) (by omega) (by omega : 0 < (s : Int))) zq)
      refine hs 4 _ rfl _ _ _ _ _ _ _ rfl ?_
      refine hs 5 _ rfl _ _ _ _ _ _ _ _ _ (hg) rfl rfl ?_
      refine hs 6 _ rfl _ _ _ _ _ _ _ rfl ?_
      refine hs 7 _ rfl _ _ _ _ _ _ _ (hd_i2l (by omega) (by omega)) ?_
      refine hs 8 _ rfl _ _ _ _ _ _ _ (hd_lrem (by omega) (by omega) (by omega) (by omega)) ?_
      refine hs 9 _ rfl _ _ _ _ _ _ _ (hd_l2i (by omega) (by omega)) ?_
      refine hs 10 _ rfl _ _ _ _ _ _ _ rfl ?_
      refine zw_c (hs 11 _ rfl) (a := [.int (Int32.ofInt ((w : Int) % (s : Int))), .int (Int32.ofInt (s : Int))]) (st := []) rfl rfl (Nat.le_of_ble_eq_true rfl) trivial (Nat.zero_le _) (Nat.zero_le _) (zj_com_M g (by omega) (by omega) ?_)
      show S 18 [some (.ref q), some (.int (Int32.ofInt rest)), some (.int (Int32.ofInt (s : Int))), none] [.int (Int32.ofInt ((Nat.gcd w s : Nat) : Int))] _ _ _
      refine hs 12 _ rfl _ _ _ _ _ _ _ rfl ?_
      refine hs 13 _ rfl _ _ _ _ _ _ _ rfl ?_
      refine hs 14 _ rfl _ _ _ _ _ _ _ _ _ (hg) rfl rfl ?_
      refine hs 15 _ rfl _ _ _ _ _ _ (fun zq => absurd (hd_c1z (c := 0) (by omega) (by omega) zq) (by omega : ¬ ((1 : Int) = 0))) (fun _ => ?_)
      refine hs 16 _ rfl _ _ _ _ _ _ _ rfl ?_
      refine hs 17 _ rfl _ _ _ _ _ _ (fun zq => absurd (hd_c1z (c := 5) (by omega) (by omega) zq) (by omega : ¬ (((Nat.gcd w s : Nat) : Int) ≤ 0))) (fun _ => ?_)
      refine hs 18 _ rfl _ _ _ _ _ _ _ rfl ?_
      refine hs 19 _ rfl _ _ _ _ _ _ _ (hd_i2l (by omega) (by omega)) ?_
      refine hs 20 _ rfl _ _ _ _ _ _ _ rfl ?_
      refine hs 21 _ rfl _ _ _ _ _ _ _ _ _ (hg) rfl rfl ?_
      refine hs 22 _ rfl _ _ _ _ _ _ _ sb_lsub ?_
      refine hs 23 _ rfl _ _ _ _ _ _ _ rfl ?_
      refine hs 24 _ rfl _ _ _ _ _ _ _ (hd_i2l (by omega) (by omega)) ?_
      refine hs 25 _ rfl _ _ _ _ _ _ _ (zj_trem (by omega) (by omega) (by omega) (by omega)) ?_
      refine hs 26 _ rfl _ _ _ _ _ _ _ rfl ?_
      refine hs 27 _ rfl _ _ _ _ _ _ _ (zw_lcmpE (by omega) (by omega) (by decide) (by decide) q1_) ?_
      refine hs 28 _ rfl _ _ _ _ _ _ (fun zq => absurd (hd_c1z (c := 1) (by omega) (by omega) zq) (by omega : ¬ (c_ ≠ 0))) (fun _ => ?_)
      refine hs 29 _ rfl _ _ _ _ _ _ _ rfl ?_
      refine hs 30 _ rfl _ _ _ _ _ ?_
      exact hs 32 _ rfl _ _ _ _ _ ⟨_, rfl, by decide, by decide⟩ (Nat.zero_le _) (Nat.zero_le _) (hP1 ⟨rfl, d_⟩)
    · have z_ : (rest - n).tmod ((Nat.gcd w s : Nat) : Int) ≠ 0 := fun y_ => d_ (Int.dvd_iff_tmod_eq_zero.mpr y_)
      have c0_ : c_ ≠ 0 := by omega
      refine hs 0 _ rfl _ _ _ _ _ _ _ rfl ?_
      refine hs 1 _ rfl _ _ _ _ _ _ (fun _ => ?_) (fun zq => absurd (hd_c1t (c := 4) (by omega) (by omega) (by omega : 0 < (s : Int))) zq)
      refine hs 4 _ rfl _ _ _ _ _ _ _ rfl ?_
      refine hs 5 _ rfl _ _ _ _ _ _ _ _ _ (hg) rfl rfl ?_
      refine hs 6 _ rfl _ _ _ _ _ _ _ rfl ?_
      refine hs 7 _ rfl _ _ _ _ _ _ _ (hd_i2l (by omega) (by omega)) ?_
      refine hs 8 _ rfl _ _ _ _ _ _ _ (hd_lrem (by omega) (by omega) (by omega) (by omega)) ?_
      refine hs 9 _ rfl _ _ _ _ _ _ _ (hd_l2i (by omega) (by omega)) ?_
      refine hs 10 _ rfl _ _ _ _ _ _ _ rfl ?_
      refine zw_c (hs 11 _ rfl) (a := [.int (Int32.ofInt ((w : Int) % (s : Int))), .int (Int32.ofInt (s : Int))]) (st := []) rfl rfl (Nat.le_of_ble_eq_true rfl) trivial (Nat.zero_le _) (Nat.zero_le _) (zj_com_M g (by omega) (by omega) ?_)
      show S 18 [some (.ref q), some (.int (Int32.ofInt rest)), some (.int (Int32.ofInt (s : Int))), none] [.int (Int32.ofInt ((Nat.gcd w s : Nat) : Int))] _ _ _
      refine hs 12 _ rfl _ _ _ _ _ _ _ rfl ?_
      refine hs 13 _ rfl _ _ _ _ _ _ _ rfl ?_
      refine hs 14 _ rfl _ _ _ _ _ _ _ _ _ (hg) rfl rfl ?_
      refine hs 15 _ rfl _ _ _ _ _ _ (fun zq => absurd (hd_c1z (c := 0) (by omega) (by omega) zq) (by omega : ¬ ((1 : Int) = 0))) (fun _ => ?_)
      refine hs 16 _ rfl _ _ _ _ _ _ _ rfl ?_
      refine hs 17 _ rfl _ _ _ _ _ _ (fun zq => absurd (hd_c1z (c := 5) (by omega) (by omega) zq) (by omega : ¬ (((Nat.gcd w s : Nat) : Int) ≤ 0))) (fun _ => ?_)
      refine hs 18 _ rfl _ _ _ _ _ _ _ rfl ?_
      refine hs 19 _ rfl _ _ _ _ _ _ _ (hd_i2l (by omega) (by omega)) ?_
      refine hs 20 _ rfl _ _ _ _ _ _ _ rfl ?_
      refine hs 21 _ rfl _ _ _ _ _ _ _ _ _ (hg) rfl rfl ?_
      refine hs 22 _ rfl _ _ _ _ _ _ _ sb_lsub ?_
      refine hs 23 _ rfl _ _ _ _ _ _ _ rfl ?_
      refine hs 24 _ rfl _ _ _ _ _ _ _ (hd_i2l (by omega) (by omega)) ?_
      refine hs 25 _ rfl _ _ _ _ _ _ _ (zj_trem (by omega) (by omega) (by omega) (by omega)) ?_
      refine hs 26 _ rfl _ _ _ _ _ _ _ rfl ?_
      refine hs 27 _ rfl _ _ _ _ _ _ _ (zw_lcmpE (by omega) (by omega) (by decide) (by decide) q1_) ?_
      refine hs 28 _ rfl _ _ _ _ _ _ (fun _ => ?_) (fun zq => absurd (hd_c1t (c := 1) (by omega) (by omega) (by omega : c_ ≠ 0)) zq)
      refine hs 31 _ rfl _ _ _ _ _ _ _ rfl ?_
      exact hs 32 _ rfl _ _ _ _ _ ⟨_, rfl, by decide, by decide⟩ (Nat.zero_le _) (Nat.zero_le _) (hP0 fun y_ => d_ y_.2)
set_option maxHeartbeats 4000000 in
theorem zj_join_M {l : Launch} {G : am_G} {X : ck_XT} (g : gM l G X) {q w s : Nat} {j n rest : Int} {h : List am_C} (hg : am_g G h q = some (zj_c j n (w : Int))) (hj : j = 0 ∨ j = 1) (hw1 : 1 ≤ w) (hw2 : w ≤ 995009990004999) (hn : 0 ≤ n) (hn2 : n < (w : Int)) (hs1 : 1 ≤ s) (hs2 : s ≤ 999) (hr1 : 0 ≤ rest) (hr2 : rest ≤ 9999) (hq : 1000 ≤ q) {mc ms : Nat} {Post : am_O → List am_C → Prop}
    (hP1 : zj_ad j n rest w s → ∀ (h' : List am_C) (t : Nat) (n2 : Int), s = Nat.gcd w s * t → zw_f G h h' q 1 → am_g G h' q = some (zj_c 1 n2 ((w : Int) * (t : Int))) → 0 ≤ n2 → n2 < (w : Int) * (t : Int) → (w : Int) ∣ n2 - n → (s : Int) ∣ n2 - rest → Post (.inl none) h')
    (hP0 : ¬ zj_ad j n rest w s → ∀ (h' : List am_C) (t : Nat), s = Nat.gcd w s * t → zw_f G h h' q 1 → am_g G h' q = some (zj_c 0 n ((w : Int) * (t : Int))) → Post (.inl none) h') :
    am_M l G yX4_join (.code yX4_join prog_6_method_4_code 9 none) 3 68 mc ms [.ref q, .int (Int32.ofInt rest), .int (Int32.ofInt (s : Int))] h Post := by
  refine gh_yX4_join_X g (Nat.le_of_ble_eq_true rfl) fun S SX hs hr hw hx => ?_
  have rv : ∀ x : Int32, ck_fv 0 (.int x) := fun x => ⟨_, rfl⟩
  have rm0_ := Int.emod_nonneg (w : Int) (b := (s : Int)) (by omega)
  have rm1_ := Int.emod_lt_of_pos (w : Int) (b := (s : Int)) (by omega)
  have g0_ : 0 < Nat.gcd w s := Nat.gcd_pos_of_pos_right w (by omega)
  have gl_ : Nat.gcd w s ≤ s := Nat.gcd_le_right w (by omega)
  obtain ⟨w_, t_, hw_, ht_, hc_, h0_, -⟩ := zj_parts w s (by omega)
  have t9_ : t_ ≤ s := Nat.le_trans (Nat.le_mul_of_pos_left t_ g0_) (Nat.le_of_eq ht_.symm)
  have e1_ : (w : Int) / ((Nat.gcd w s : Nat) : Int) = (w_ : Int) := Int.ediv_eq_of_eq_mul_right (by omega) (by rw [← Int.natCast_mul, ← hw_])
  have e2_ : (s : Int) / ((Nat.gcd w s : Nat) : Int) = (t_ : Int) := Int.ediv_eq_of_eq_mul_right (by omega) (by rw [← Int.natCast_mul, ← ht_])
  have w9_ : w_ ≤ w := Nat.le_trans (Nat.le_mul_of_pos_left w_ g0_) (Nat.le_of_eq hw_.symm)
  have wm0_ := Int.emod_nonneg (w_ : Int) (b := (t_ : Int)) (by omega)
  have wm1_ := Int.emod_lt_of_pos (w_ : Int) (b := (t_ : Int)) (by omega)
  by_cases a_ : zj_ad j n rest w s
  rotate_left
  · 
    refine hs 0 _ rfl _ _ _ _ _ _ _ rfl ?_
    refine hs 1 _ rfl _ _ _ _ _ _ _ rfl ?_
    refine hs 2 _ rfl _ _ _ _ _ _ _ rfl ?_
    refine hs 3 _ rfl _ _ _ _ _ _ _ rfl ?_
    refine zw_c (hs 4 _ rfl) (a := [.ref q, .int (Int32.ofInt rest), .int (Int32.ofInt (s : Int))]) (st := [.ref q]) rfl rfl (Nat.le_of_ble_eq_true rfl) ⟨_, _, _, rfl, hg, rfl⟩ (Nat.zero_le _) (Nat.zero_le _) (zj_admits_M g hg hj hw1 (by omega) hn hn2 hs1 hs2 (by omega) (by omega) (fun y_ => absurd y_ a_) (fun _ => ?_))
    show S 7 [some (.ref q), some (.int (Int32.ofInt rest)), some (.int (Int32.ofInt (s : Int))), none, none, none, none, none, none] [.int (Int32.ofInt (0 : Int)), .ref q] _ _ _
    refine zw_U (hs 5 _ rfl) (by omega) (hg) rfl ⟨_, rfl, by decide, by decide⟩ fun hz85 wz86 => ?_
    have wz86 : hd_w G h hz85 q (1011, [.int (Int32.ofInt (0 : Int)), .long (Int64.ofInt n), .long (Int64.ofInt (w : Int))]) := wz86
    refine hs 6 _ rfl _ _ _ _ _ _ _ rfl ?_
    refine hs 7 _ rfl _ _ _ _ _ _ (fun _ => ?_) (fun zq => absurd (hd_c1t (c := 4) (by omega) (by omega) (by omega : 0 < (s : Int))) zq)
    refine hs 9 _ rfl _ _ _ _ _ _ _ rfl ?_
    refine hs 10 _ rfl _ _ _ _ _ _ _ _ _ (wz86.at) rfl rfl ?_
    refine hs 11 _ rfl _ _ _ _ _ _ _ rfl ?_
    refine hs 12 _ rfl _ _ _ _ _ _ _ (hd_i2l (by omega) (by omega)) ?_
    refine hs 13 _ rfl _ _ _ _ _ _ _ (hd_lrem (by omega) (by omega) (by omega) (by omega)) ?_
    refine hs 14 _ rfl _ _ _ _ _ _ _ (hd_l2i (by omega) (by omega)) ?_
    refine hs 15 _ rfl _ _ _ _ _ _ _ rfl ?_
    refine zw_c (hs 16 _ rfl) (a := [.int (Int32.ofInt ((w : Int) % (s : Int))), .int (Int32.ofInt (s : Int))]) (st := []) rfl rfl (Nat.le_of_ble_eq_true rfl) trivial (Nat.zero_le _) (Nat.zero_le _) (zj_com_M g (by omega) (by omega) ?_)
    show S 27 [some (.ref q), some (.int (Int32.ofInt rest)), some (.int (Int32.ofInt (s : Int))), none, none, none, none, none, none] [.int (Int32.ofInt ((Nat.gcd w s : Nat) : Int))] _ _ _
    refine hs 17 _ rfl _ _ _ _ _ _ _ rfl ?_
    refine hs 18 _ rfl _ _ _ _ _ _ _ rfl ?_
    refine hs 19 _ rfl _ _ _ _ _ _ (fun zq => absurd (hd_c1z (c := 5) (by omega) (by omega) zq) (by omega : ¬ (((Nat.gcd w s : Nat) : Int) ≤ 0))) (fun _ => ?_)
    refine hs 20 _ rfl _ _ _ _ _ _ _ rfl ?_
    refine hs 21 _ rfl _ _ _ _ _ _ _ rfl ?_
    refine hs 22 _ rfl _ _ _ _ _ _ _ (zj_idivE (by omega) (by omega) (by omega) (by omega) e2_) ?_
    refine hs 23 _ rfl _ _ _ _ _ ?_
    refine hs 25 _ rfl _ _ _ _ _ _ _ rfl ?_
    refine hs 26 _ rfl _ _ _ _ _ _ _ rfl ?_
    refine hs 27 _ rfl _ _ _ _ _ _ (fun _ => ?_) (fun zq => absurd (hd_c1t (c := 4) (by omega) (by omega) (by omega : 0 < (t_ : Int))) zq)
    refine hs 29 _ rfl _ _ _ _ _ _ _ rfl ?_
    refine hs 30 _ rfl _ _ _ _ _ _ _ _ _ (wz86.at) rfl rfl ?_
    refine hs 31 _ rfl _ _ _ _ _ _ (fun _ => ?_) (fun zq => absurd (hd_c1t (c := 0) (by omega) (by omega) (by omega : (0 : Int) = 0)) zq)
    refine hs 71 _ rfl _ _ _ _ _ _ _ rfl ?_
    refine hs 72 _ rfl _ _ _ _ _ _ _ rfl ?_
    refine hs 73 _ rfl _ _ _ _ _ _ _ _ _ (wz86.at) rfl rfl ?_
    refine hs 74 _ rfl _ _ _ _ _ _ _ rfl ?_
    refine hs 75 _ rfl _ _ _ _ _ _ _ (hd_i2l (by omega) (by omega)) ?_
    refine hs 76 _ rfl _ _ _ _ _ _ _ hd_lmul ?_
    refine zw_U (hs 77 _ rfl) (by omega) (wz86.at) rfl ⟨_, rfl⟩ fun hz87 wz88 => ?_
    have wz88 : hd_w G hz85 hz87 q (1011, [.int (Int32.ofInt (0 : Int)), .long (Int64.ofInt n), .long (Int64.ofInt ((w : Int) * (t_ : Int)))]) := wz88
    exact hs 78 _ rfl _ _ _ _ (Nat.zero_le _) (Nat.zero_le _) (hP0 a_ _ t_ ht_ ((zw_f.w (lo := q) (n := 1) wz86 (by omega) (by omega)).tr (zw_f.w (lo := q) (n := 1) wz88 (by omega) (by omega))) wz88.at)
  · obtain rfl := a_.1
    obtain ⟨q_, hq_⟩ := a_.2
    have sm0_ := Int.emod_nonneg (rest - n) (b := (s : Int)) (by omega)
    have sm1_ := Int.emod_lt_of_pos (rest - n) (b := (s : Int)) (by omega)
    obtain ⟨gap_, hgap_⟩ : ∃ gap_ : Int, (rest - n) % (s : Int) / ((Nat.gcd w s : Nat) : Int) = gap_ := ⟨_, rfl⟩
    have gq_ : gap_ = q_ % (t_ : Int) := hgap_.symm.trans (zj_gap g0_ ht_ hq_)
    have gp0_ : 0 ≤ gap_ := by rw [gq_]; exact Int.emod_nonneg _ (by omega)
    have gp1_ : gap_ < (t_ : Int) := by rw [gq_]; exact Int.emod_lt_of_pos _ (by omega)
    refine hs 0 _ rfl _ _ _ _ _ _ _ rfl ?_
    refine hs 1 _ rfl _ _ _ _ _ _ _ rfl ?_
    refine hs 2 _ rfl _ _ _ _ _ _ _ rfl ?_
    refine hs 3 _ rfl _ _ _ _ _ _ _ rfl ?_
    refine zw_c (hs 4 _ rfl) (a := [.ref q, .int (Int32.ofInt rest), .int (Int32.ofInt (s : Int))]) (st := [.ref q]) rfl rfl (Nat.le_of_ble_eq_true rfl) ⟨_, _, _, rfl, hg, rfl⟩ (Nat.zero_le _) (Nat.zero_le _) (zj_admits_M g hg hj hw1 (by omega) hn hn2 hs1 hs2 (by omega) (by omega) (fun _ => ?_) (fun y_ => absurd a_ y_))
    show S 7 [some (.ref q), some (.int (Int32.ofInt rest)), some (.int (Int32.ofInt (s : Int))), none, none, none, none, none, none] [.int (Int32.ofInt (1 : Int)), .ref q] _ _ _
    refine zw_U (hs 5 _ rfl) (by omega) (hg) rfl ⟨_, rfl, by decide, by decide⟩ fun hz89 wz90 => ?_
    have wz90 : hd_w G h hz89 q (1011, [.int (Int32.ofInt (1 : Int)), .long (Int64.ofInt n), .long (Int64.ofInt (w : Int))]) := wz90
    refine hs 6 _ rfl _ _ _ _ _ _ _ rfl ?_
    refine hs 7 _ rfl _ _ _ _ _ _ (fun _ => ?_) (fun zq => absurd (hd_c1t (c := 4) (by omega) (by omega) (by omega : 0 < (s : Int))) zq)
    refine hs 9 _ rfl _ _ _ _ _ _ _ rfl ?_
    refine hs 10 _ rfl _ _ _ _ _ _ _ _ _ (wz90.at) rfl rfl ?_
    refine hs 11 _ rfl _ _ _ _ _ _ _ rfl ?_
    refine hs 12 _ rfl _ _ _ _ _ _ _ (hd_i2l (by omega) (by omega)) ?_
    refine hs 13 _ rfl _ _ _ _ _ _ _ (hd_lrem (by omega) (by omega) (by omega) (by omega)) ?_
    refine hs 14 _ rfl _ _ _ _ _ _ _ (hd_l2i (by omega) (by omega)) ?_
    refine hs 15 _ rfl _ _ _ _ _ _ _ rfl ?_
    refine zw_c (hs 16 _ rfl) (a := [.int (Int32.ofInt ((w : Int) % (s : Int))), .int (Int32.ofInt (s : Int))]) (st := []) rfl rfl (Nat.le_of_ble_eq_true rfl) trivial (Nat.zero_le _) (Nat.zero_le _) (zj_com_M g (by omega) (by omega) ?_)
    show S 27 [some (.ref q), some (.int (Int32.ofInt rest)), some (.int (Int32.ofInt (s : Int))), none, none, none, none, none, none] [.int (Int32.ofInt ((Nat.gcd w s : Nat) : Int))] _ _ _
    refine hs 17 _ rfl _ _ _ _ _ _ _ rfl ?_
    refine hs 18 _ rfl _ _ _ _ _ _ _ rfl ?_
    refine hs 19 _ rfl _ _ _ _ _ _ (fun zq => absurd (hd_c1z (c := 5) (by omega) (by omega) zq) (by omega : ¬ (((Nat.gcd w s : Nat) : Int) ≤ 0))) (fun _ => ?_)
    refine hs 20 _ rfl _ _ _ _ _ _ _ rfl ?_
    refine hs 21 _ rfl _ _ _ _ _ _ _ rfl ?_
    refine hs 22 _ rfl _ _ _ _ _ _ _ (zj_idivE (by omega) (by omega) (by omega) (by omega) e2_) ?_
    refine hs 23 _ rfl _ _ _ _ _ ?_
    refine hs 25 _ rfl _ _ _ _ _ _ _ rfl ?_
    refine hs 26 _ rfl _ _ _ _ _ _ _ rfl ?_
    refine hs 27 _ rfl _ _ _ _ _ _ (fun _ => ?_) (fun zq => absurd (hd_c1t (c := 4) (by omega) (by omega) (by omega : 0 < (t_ : Int))) zq)
    refine hs 29 _ rfl _ _ _ _ _ _ _ rfl ?_
    refine hs 30 _ rfl _ _ _ _ _ _ _ _ _ (wz90.at) rfl rfl ?_
    refine hs 31 _ rfl _ _ _ _ _ _ (fun zq => absurd (hd_c1z (c := 0) (by omega) (by omega) zq) (by omega : ¬ ((1 : Int) = 0))) (fun _ => ?_)
    refine hs 32 _ rfl _ _ _ _ _ _ _ rfl ?_
    refine hs 33 _ rfl _ _ _ _ _ _ _ (hd_i2l (by omega) (by omega)) ?_
    refine hs 34 _ rfl _ _ _ _ _ _ _ rfl ?_
    refine hs 35 _ rfl _ _ _ _ _ _ _ _ _ (wz90.at) rfl rfl ?_
    refine hs 36 _ rfl _ _ _ _ _ _ _ sb_lsub ?_
    refine hs 37 _ rfl _ _ _ _ _ _ _ rfl ?_
    refine hs 38 _ rfl _ _ _ _ _ _ _ (hd_i2l (by omega) (by omega)) ?_
    refine zw_c (hs 39 _ rfl) (a := [.long (Int64.ofInt (rest - n)), .long (Int64.ofInt (s : Int))]) (st := []) rfl rfl (Nat.le_of_ble_eq_true rfl) trivial (Nat.zero_le _) (Nat.zero_le _) (zj_fmod_M g (by omega) (by omega) (by omega) (by omega) ?_)
    show S 66 [some (.ref q), some (.int (Int32.ofInt rest)), some (.int (Int32.ofInt (s : Int))), some (.int (Int32.ofInt ((Nat.gcd w s : Nat) : Int))), some (.int (Int32.ofInt (t_ : Int))), none, none, none, none] [.long (Int64.ofInt ((rest - n) % (s : Int)))] _ _ _
    refine hs 40 _ rfl _ _ _ _ _ _ _ rfl ?_
    refine hs 41 _ rfl _ _ _ _ _ _ _ (hd_i2l (by omega) (by omega)) ?_
    refine hs 42 _ rfl _ _ _ _ _ _ _ (zj_ldivE (by omega) (by omega) (by omega) (by omega) hgap_) ?_
    refine hs 43 _ rfl _ _ _ _ _ _ _ rfl ?_
    refine hs 44 _ rfl _ _ _ _ _ _ _ rfl ?_
    refine hs 45 _ rfl _ _ _ _ _ _ _ _ _ (wz90.at) rfl rfl ?_
    refine hs 46 _ rfl _ _ _ _ _ _ _ rfl ?_
    refine hs 47 _ rfl _ _ _ _ _ _ _ (hd_i2l (by omega) (by omega)) ?_
    refine hs 48 _ rfl _ _ _ _ _ _ _ (zj_ldivE (by omega) (by omega) (by omega) (by omega) e1_) ?_
    refine hs 49 _ rfl _ _ _ _ _ _ _ rfl ?_
    refine hs 50 _ rfl _ _ _ _ _ _ _ (hd_i2l (by omega) (by omega)) ?_
    refine hs 51 _ rfl _ _ _ _ _ _ _ (hd_lrem (by omega) (by omega) (by omega) (by omega)) ?_
    refine hs 52 _ rfl _ _ _ _ _ _ _ (hd_l2i (by omega) (by omega)) ?_
    refine hs 53 _ rfl _ _ _ _ _ _ _ rfl ?_
    refine zw_c (hs 54 _ rfl) (a := [.int (Int32.ofInt ((w_ : Int) % (t_ : Int))), .int (Int32.ofInt (t_ : Int))]) (st := []) rfl rfl (Nat.le_of_ble_eq_true rfl) trivial (Nat.zero_le _) (Nat.zero_le _) (sm_invertE_M g wm0_ wm1_ (by omega) fun v_ hv_ => ?_)
    show S 88 [some (.ref q), some (.int (Int32.ofInt rest)), some (.int (Int32.ofInt (s : Int))), some (.int (Int32.ofInt ((Nat.gcd w s : Nat) : Int))), some (.int (Int32.ofInt (t_ : Int))), some (.long (Int64.ofInt gap_)), none, none, none] [.int (Int32.ofInt v_)] _ _ _
    obtain ⟨v0_, v1_, v2_⟩ := zj_inv hc_ hv_
    have gv0_ := Int.mul_nonneg gp0_ v0_
    have gv1_ : gap_ * v_ ≤ 999 * 999 := Int.mul_le_mul (by omega) (by omega) v0_ (by decide)
    obtain ⟨u_, hu_⟩ : ∃ u_ : Int, (gap_ * v_) % (t_ : Int) = u_ := ⟨_, rfl⟩
    refine hs 55 _ rfl _ _ _ _ _ _ _ (hd_i2l (by omega) (by omega)) ?_
    refine hs 56 _ rfl _ _ _ _ _ _ _ rfl ?_
    refine hs 57 _ rfl _ _ _ _ _ _ _ rfl ?_
    refine hs 58 _ rfl _ _ _ _ _ _ _ rfl ?_
    refine hs 59 _ rfl _ _ _ _ _ _ _ _ _ (wz90.at) rfl rfl ?_
    refine hs 60 _ rfl _ _ _ _ _ _ _ rfl ?_
    refine hs 61 _ rfl _ _ _ _ _ _ _ _ _ (wz90.at) rfl rfl ?_
    refine hs 62 _ rfl _ _ _ _ _ _ _ rfl ?_
    refine hs 63 _ rfl _ _ _ _ _ _ _ rfl ?_
    refine hs 64 _ rfl _ _ _ _ _ _ _ hd_lmul ?_
    refine hs 65 _ rfl _ _ _ _ _ _ _ rfl ?_
    refine hs 66 _ rfl _ _ _ _ _ _ _ (hd_i2l (by omega) (by omega)) ?_
    refine hs 67 _ rfl _ _ _ _ _ _ _ (zj_lremE gv0_ (by omega) (by omega) (by omega) hu_) ?_
    refine hs 68 _ rfl _ _ _ _ _ _ _ hd_lmul ?_
    refine hs 69 _ rfl _ _ _ _ _ _ _ hd_ladd ?_
    refine zw_U (hs 70 _ rfl) (by omega) (wz90.at) rfl ⟨_, rfl⟩ fun hz91 wz92 => ?_
    have wz92 : hd_w G hz89 hz91 q (1011, [.int (Int32.ofInt (1 : Int)), .long (Int64.ofInt (n + ((w : Int) * u_))), .long (Int64.ofInt (w : Int))]) := wz92
    refine hs 71 _ rfl _ _ _ _ _ _ _ rfl ?_
    refine hs 72 _ rfl _ _ _ _ _ _ _ rfl ?_
    refine hs 73 _ rfl _ _ _ _ _ _ _ _ _ (wz92.at) rfl rfl ?_
    refine hs 74 _ rfl _ _ _ _ _ _ _ rfl ?_
    refine hs 75 _ rfl _ _ _ _ _ _ _ (hd_i2l (by omega) (by omega)) ?_
    refine hs 76 _ rfl _ _ _ _ _ _ _ hd_lmul ?_
    refine zw_U (hs 77 _ rfl) (by omega) (wz92.at) rfl ⟨_, rfl⟩ fun hz93 wz94 => ?_
    have wz94 : hd_w G hz91 hz93 q (1011, [.int (Int32.ofInt (1 : Int)), .long (Int64.ofInt (n + ((w : Int) * u_))), .long (Int64.ofInt ((w : Int) * (t_ : Int)))]) := wz94
    have u0_ : 0 ≤ u_ := by rw [← hu_]; exact Int.emod_nonneg _ (by omega)
    have u1_ : u_ < (t_ : Int) := by rw [← hu_]; exact Int.emod_lt_of_pos _ (by omega)
    have b_ := zj_lt hn hn2 u0_ u1_
    have k_ : (t_ : Int) ∣ (w_ : Int) * u_ - q_ := zj_dv (Int.dvd_sub_self_of_emod_eq hu_) v2_ (Int.dvd_sub_self_of_emod_eq gq_.symm)
    exact hs 78 _ rfl _ _ _ _ (Nat.zero_le _) (Nat.zero_le _) (hP1 a_ _ t_ (n + (w : Int) * u_) ht_ (((zw_f.w (lo := q) (n := 1) wz90 (by omega) (by omega)).tr (zw_f.w (lo := q) (n := 1) wz92 (by omega) (by omega))).tr (zw_f.w (lo := q) (n := 1) wz94 (by omega) (by omega))) wz94.at b_.1 b_.2 ⟨u_, by omega⟩ (zj_key hw_ ht_ hq_ k_))
theorem zc_x.jn {G : am_G} {h h' : List am_C} {x : Nat} {r : Nat → Nat} {j m k : Int} {c : sp_S} {R : Nat → sp_S} {old cnt : Nat} (a : zc_x G h x r j m k c R old cnt) (f : zw_f G h h' (r 4) 1) {y : Int32} {b d : Int64} (e : am_g G h' (r 4) = some (1011, [.int y, .long b, .long d])) : zc_x G h' x r j m k c R old cnt := by
  obtain ⟨a1_, a2_, a3_, a4_, ⟨a5_, a6_⟩, -, a8_, a9_⟩ := a
  exact ⟨(f.2 _ (by omega)).trans a1_, a2_.fr f (by omega), a3_, a4_.fr f (by omega), ⟨a5_.fr f (by omega), a6_.fr f (by omega)⟩, ⟨_, _, _, e⟩, a8_, a9_⟩
theorem zc_fr.jn {G : am_G} {h h' : List am_C} {x : Nat} {r : Nat → Nat} (f : zw_f G h h' (r 4) 1) : zc_fr G h h' x r := ⟨f.1, fun p _ h2 => f.2 p (by omega)⟩
theorem zj_p6 : (999 : Nat) ^ 6 = 994014980014994001 := by decide
theorem zj_p5 : (999 : Nat) ^ 5 = 995009990004999 := by decide
theorem zj_I.big {L : List (Int × Int)} {j n : Int} {w : Nat} (h : zj_I L j n w) (hl : L.length ≤ 6) : w ≤ 994014980014994001 := by
  have a_ := Nat.pow_le_pow_right (show 0 < 999 by decide) hl
  rw [zj_p6] at a_
  exact Nat.le_trans h.2.1 a_
theorem zj_I.big5 {L : List (Int × Int)} {j n : Int} {w : Nat} (h : zj_I L j n w) (hl : L.length ≤ 5) : w ≤ 995009990004999 := by
  have a_ := Nat.pow_le_pow_right (show 0 < 999 by decide) hl
  rw [zj_p5] at a_
  exact Nat.le_trans h.2.1 a_
theorem zj_I.flag {L : List (Int × Int)} {j n : Int} {w : Nat} (h : zj_I L j n w) : j = 0 ∨ j = 1 := by
  rcases h.2.2.2.2.2 with ⟨a_, -⟩ | ⟨a_, -⟩
  · exact Or.inr a_
  · exact Or.inl a_
set_option maxHeartbeats 4000000 in
theorem zc_join_M {l : Launch} {G : am_G} {X : ck_XT} (g : gM l G X) {x : Nat} {r : Nat → Nat} {jj mm kk : Int} {c : sp_S} {R : Nat → sp_S} {old cnt : Nat} {h : List am_C} (hX : zc_x G h x r jj mm kk c R old cnt) {mc ms : Nat} {Post : am_O → List am_C → Prop}
    (hP : ∀ (h' : List am_C) (j n : Int) (w : Nat), zw_f G h h' (r 4) 1 → am_g G h' (r 4) = some (zj_c j n (w : Int)) → zj_I c.2.2.1 j n w → Post (.inl none) h') :
    am_M l G yX10_joinRows (.code yX10_joinRows prog_1_method_71_code 2 none) 4 96 mc ms [.ref x] h Post := by
  refine gh_yX10_joinRows_X g (Nat.le_of_ble_eq_true rfl) fun S SX hs hr hw hx => ?_
  have rv : ∀ x : Int32, ck_fv 0 (.int x) := fun x => ⟨_, rfl⟩
  have hx9_ := hX.2.2.2.2.2.2.2
  have hx8_ := hX.2.2.2.2.2.2.1
  obtain ⟨y0_, yb_, yd_, y3_⟩ := hX.2.2.2.2.2.1
  obtain ⟨rs_, zs_, bs_, d1_, d2_, d3_, d4_, d5_, d6_, d7_⟩ := hX.2.1
  obtain ⟨hl6_, hok_⟩ := hX.2.2.1.2.2.1
  obtain ⟨⟨p4_, p5_, p6_⟩, -, hro_, -⟩ := id d6_
  have hx1_ := hX.1
  have loop_ : ∀ (m_ i_ : Nat) (h1_ : List am_C) (j n : Int) (w : Nat), i_ + m_ = c.2.2.1.length → zw_f G h h1_ (r 4) 1 → am_g G h1_ (r 4) = some (zj_c j n (w : Int)) → zj_I (c.2.2.1.take i_) j n w → S 9 [some (.ref x), some (.int (Int32.ofInt (i_ : Int)))] [] h1_ 0 0 := by
    intro m_
    induction m_ with
    | zero =>
      intro i_ h1_ j n w him_ f1_ jg_ ji_
      have x1_ := (f1_.2 x (by omega)).trans hx1_
      have x2_ := (f1_.2 (x + 1) (by omega)).trans d1_
      rw [List.take_of_length_le (by omega)] at ji_
      refine hs 5 _ rfl _ _ _ _ _ _ _ rfl ?_
      refine hs 6 _ rfl _ _ _ _ _ _ _ rfl ?_
      refine hs 7 _ rfl _ _ _ _ _ _ _ _ _ (x1_) rfl rfl ?_
      refine hs 8 _ rfl _ _ _ _ _ _ _ _ _ (x2_) rfl rfl ?_
      refine hs 9 _ rfl _ _ _ _ _ _ _ (fun _ => ?_) (fun zq => absurd (hd_c2t (c := 3) (by omega) (by omega) (by omega) (by omega) (by omega : 0 ≤ ((i_ : Int) - (c.2.2.1.length : Int)))) zq)
      exact hs 25 _ rfl _ _ _ _ (Nat.zero_le _) (Nat.zero_le _) (hP _ _ _ _ f1_ jg_ ji_)
    | succ m_ ih_ =>
      intro i_ h1_ j n w him_ f1_ jg_ ji_
      have x1_ := (f1_.2 x (by omega)).trans hx1_
      have x2_ := (f1_.2 (x + 1) (by omega)).trans d1_
      have x3_ := (f1_.2 (x + 1 + 2) (by omega)).trans d3_
      have x4_ := (f1_.2 (x + 1 + 3) (by omega)).trans d4_
      have hi_ : i_ < c.2.2.1.length := by omega
      obtain ⟨⟨a_, b_⟩, hp_⟩ : ∃ p : Int × Int, c.2.2.1[i_]? = some p := ⟨_, List.getElem?_eq_getElem hi_⟩
      obtain ⟨o1_, o2_, o3_, o4_⟩ : 1 ≤ b_ ∧ b_ ≤ 999 ∧ 0 ≤ a_ ∧ a_ < b_ := hok_ _ (List.mem_of_getElem? hp_)
      obtain ⟨s_, rfl⟩ : ∃ s_ : Nat, b_ = (s_ : Int) := ⟨b_.toNat, by omega⟩
      have y1_ : rs_[i_]? = some a_ := (hro_ i_ _ hp_).1
      have y2_ : zs_[i_]? = some (s_ : Int) := (hro_ i_ _ hp_).2
      have w5_ : w ≤ 995009990004999 := ji_.big5 (by rw [List.length_take]; omega)
      have tk_ : c.2.2.1.take (i_ + 1) = c.2.2.1.take i_ ++ [(a_, (s_ : Int))] := by
        rw [List.take_add_one, hp_]
        rfl
      refine hs 5 _ rfl _ _ _ _ _ _ _ rfl ?_
      refine hs 6 _ rfl _ _ _ _ _ _ _ rfl ?_
      refine hs 7 _ rfl _ _ _ _ _ _ _ _ _ (x1_) rfl rfl ?_
      refine hs 8 _ rfl _ _ _ _ _ _ _ _ _ (x2_) rfl rfl ?_
      refine hs 9 _ rfl _ _ _ _ _ _ _ (fun zq => absurd (hd_c2z (c := 3) (by omega) (by omega) (by omega) (by omega) zq) (by omega : ¬ (0 ≤ ((i_ : Int) - (c.2.2.1.length : Int))))) (fun _ => ?_)
      refine hs 10 _ rfl _ _ _ _ _ _ _ rfl ?_
      refine hs 11 _ rfl _ _ _ _ _ _ _ _ _ (x1_) rfl rfl ?_
      refine hs 12 _ rfl _ _ _ _ _ _ _ rfl ?_
      refine hs 13 _ rfl _ _ _ _ _ _ _ _ _ (x1_) rfl rfl ?_
      refine hs 14 _ rfl _ _ _ _ _ _ _ _ _ (x2_) rfl rfl ?_
      refine hs 15 _ rfl _ _ _ _ _ _ _ rfl ?_
      refine hd_A (hs 16 _ rfl) (by decide) (by decide) (x3_) rfl (j := i_) (by omega) (by omega) y1_ ?_
      refine hs 17 _ rfl _ _ _ _ _ _ _ rfl ?_
      refine hs 18 _ rfl _ _ _ _ _ _ _ _ _ (x1_) rfl rfl ?_
      refine hs 19 _ rfl _ _ _ _ _ _ _ _ _ (x2_) rfl rfl ?_
      refine hs 20 _ rfl _ _ _ _ _ _ _ rfl ?_
      refine hd_A (hs 21 _ rfl) (by decide) (by decide) (x4_) rfl (j := i_) (by omega) (by omega) y2_ ?_
      refine zw_c (hs 22 _ rfl) (a := [.ref (r 4), .int (Int32.ofInt a_), .int (Int32.ofInt (s_ : Int))]) (st := []) rfl rfl (Nat.le_of_ble_eq_true rfl) ⟨_, _, _, rfl, jg_, rfl⟩ (Nat.zero_le _) (Nat.zero_le _) (zj_join_M g jg_ ji_.flag ji_.1 w5_ ji_.2.2.1.1 ji_.2.2.1.2 (by omega) (by omega) (by omega) (by omega) (by omega) (fun ad_ h2_ t_ n2_ ht_ f2_ g2_ n0_ n1_ d1_ d2_ => ?_) (fun ad_ h2_ t_ ht_ f2_ g2_ => ?_))
      · show S 45 [some (.ref x), some (.int (Int32.ofInt (i_ : Int)))] [] _ _ _
        rw [← Int.natCast_mul] at g2_ n1_
        refine hs 23 _ rfl _ _ _ _ _ _ _ (hd_inc rfl) ?_
        refine hs 24 _ rfl _ _ _ _ _ ?_
        rw [show ((i_ : Int) + (1 : Int)) = ((i_ + 1 : Nat) : Int) by omega]
        exact ih_ (i_ + 1) h2_ 1 n2_ (w * t_) (by omega) (f1_.tr f2_) g2_ (by rw [tk_]; exact ji_.one ht_ (by omega) (by omega) ad_.1 n0_ n1_ d1_ d2_)
      · show S 45 [some (.ref x), some (.int (Int32.ofInt (i_ : Int)))] [] _ _ _
        rw [← Int.natCast_mul] at g2_
        refine hs 23 _ rfl _ _ _ _ _ _ _ (hd_inc rfl) ?_
        refine hs 24 _ rfl _ _ _ _ _ ?_
        rw [show ((i_ : Int) + (1 : Int)) = ((i_ + 1 : Nat) : Int) by omega]
        exact ih_ (i_ + 1) h2_ 0 n (w * t_) (by omega) (f1_.tr f2_) g2_ (by rw [tk_]; exact ji_.none ht_ (by omega) (by omega) (fun y_ => ad_ ((ji_.fit (by omega) (by rw [Int.sub_self]; exact Int.dvd_zero _)).mpr y_)))
  refine hs 0 _ rfl _ _ _ _ _ _ _ rfl ?_
  refine hs 1 _ rfl _ _ _ _ _ _ _ _ _ (hX.1) rfl rfl ?_
  refine zw_c (hs 2 _ rfl) (a := [.ref (r 4)]) (st := []) rfl rfl (Nat.le_of_ble_eq_true rfl) ⟨_, _, _, rfl, y3_, rfl⟩ (Nat.zero_le _) (Nat.zero_le _) (zj_clear_M g (by omega) y3_ fun h1_ f1_ jg_ => ?_)
  show S 7 [some (.ref x), none] [] _ _ _
  refine hs 3 _ rfl _ _ _ _ _ _ _ rfl ?_
  refine hs 4 _ rfl _ _ _ _ _ _ _ rfl ?_
  exact loop_ c.2.2.1.length 0 h1_ 1 0 1 (by omega) f1_ jg_ (by rw [List.take_zero]; exact zj_I.nil)
set_option maxHeartbeats 4000000 in
theorem zc_tellIf_M {l : Launch} {G : am_G} {X : ck_XT} (g : gM l G X) {x : Nat} {r : Nat → Nat} {jj mm kk : Int} {c : sp_S} {R : Nat → sp_S} {old cnt : Nat} {h : List am_C} (hX : zc_x G h x r jj mm kk c R old cnt) {e : Int} (he1 : -2147483648 ≤ e) (he2 : e ≤ 2147483647) {e2 : Int} (hf1 : -2147483648 ≤ e2) (hf2 : e2 ≤ 2147483647) {mc ms : Nat} {Post : am_O → List am_C → Prop} (hmc : 1 ≤ mc) (hms : 6 ≤ ms)
    (hP : (-9999 ≤ e ∧ e ≤ 9999 ∧ 1 ≤ e2 ∧ e2 ≤ 999) → c.2.2.1.length < 6 → sp_fit (c.2.2.1 ++ [(e % e2, e2)]) → ∀ h', zc_fr G h h' x r → zc_X G h' x r jj mm kk (c.1, c.2.1, c.2.2.1 ++ [(e % e2, e2)], c.2.2.2) (sp_keep (zc_l R old cnt) c) → Post (.inl (some (.int (Int32.ofInt 1)))) h')
    (hP0 : (-9999 ≤ e ∧ e ≤ 9999 ∧ 1 ≤ e2 ∧ e2 ≤ 999) → c.2.2.1.length < 6 → ¬ sp_fit (c.2.2.1 ++ [(e % e2, e2)]) → ∀ h', zc_fr G h h' x r → zc_x G h' x r jj mm kk c R old cnt → Post (.inl (some (.int (Int32.ofInt 0)))) h')
    (hX1 : ¬ (-9999 ≤ e ∧ e ≤ 9999 ∧ 1 ≤ e2 ∧ e2 ≤ 999) → Post (.inr "java/lang/IllegalArgumentException") (h ++ [(99, [])]))
    (hX3 : (-9999 ≤ e ∧ e ≤ 9999 ∧ 1 ≤ e2 ∧ e2 ≤ 999) → ¬ c.2.2.1.length < 6 → Post (.inr "java/lang/IllegalStateException") (h ++ [(99, [])])) :
    am_M l G yX10_tellIf (.code yX10_tellIf prog_1_method_14_code 3 (some .boolean)) 7 145 mc ms [.ref x, .int (Int32.ofInt e), .int (Int32.ofInt e2)] h Post := by
  refine gh_yX10_tellIf_X g (Nat.le_of_ble_eq_true rfl) fun S SX hs hr hw hx => ?_
  have rv : ∀ x : Int32, ck_fv 0 (.int x) := fun x => ⟨_, rfl⟩
  have hx9_ := hX.2.2.2.2.2.2.2
  have hl_ := hX.2.2.1.2.2.1.1
  have hx8_ := hX.2.2.2.2.2.2.1
  by_cases c1_ : (-9999 ≤ e ∧ e ≤ 9999 ∧ 1 ≤ e2 ∧ e2 ≤ 999)
  rotate_left
  · 
    refine hs 0 _ rfl _ _ _ _ _ _ _ rfl ?_
    refine hs 1 _ rfl _ _ _ _ _ _ _ rfl ?_
    exact zw_cm (hs 2 _ rfl) (a := [.int (Int32.ofInt e), .int (Int32.ofInt e2)]) (st := []) 1 6 rfl rfl (Nat.le_of_ble_eq_true rfl) trivial (by omega) (by omega) (zc_needCX_M g he1 he2 hf1 hf2 c1_ (by decide) (by decide) (hx _ _ _ _ _ _ (by omega) (by omega) (hX1 c1_)))
  · by_cases c2_ : c.2.2.1.length < 6
    rotate_left
    · 
      refine hs 0 _ rfl _ _ _ _ _ _ _ rfl ?_
      refine hs 1 _ rfl _ _ _ _ _ _ _ rfl ?_
      refine zw_c (hs 2 _ rfl) (a := [.int (Int32.ofInt e), .int (Int32.ofInt e2)]) (st := []) rfl rfl (Nat.le_of_ble_eq_true rfl) trivial (Nat.zero_le _) (Nat.zero_le _) (zc_needC_M g he1 he2 hf1 hf2 c1_ ?_)
      show S 5 [some (.ref x), some (.int (Int32.ofInt e)), some (.int (Int32.ofInt e2))] [] _ _ _
      refine hs 3 _ rfl _ _ _ _ _ _ _ rfl ?_
      exact zw_cm (hs 4 _ rfl) (a := [.ref x]) (st := []) 1 6 rfl rfl (Nat.le_of_ble_eq_true rfl) ⟨_, _, _, rfl, hX.1, rfl⟩ (by omega) (by omega) (zc_needFX_M g hX (by omega) (by decide) (by decide) (hx _ _ _ _ _ _ (by omega) (by omega) (hX3 c1_ c2_)))
    · obtain ⟨s_, rfl⟩ : ∃ s_ : Nat, e2 = (s_ : Int) := ⟨e2.toNat, by omega⟩
      refine hs 0 _ rfl _ _ _ _ _ _ _ rfl ?_
      refine hs 1 _ rfl _ _ _ _ _ _ _ rfl ?_
      refine zw_c (hs 2 _ rfl) (a := [.int (Int32.ofInt e), .int (Int32.ofInt (s_ : Int))]) (st := []) rfl rfl (Nat.le_of_ble_eq_true rfl) trivial (Nat.zero_le _) (Nat.zero_le _) (zc_needC_M g he1 he2 hf1 hf2 c1_ ?_)
      show S 5 [some (.ref x), some (.int (Int32.ofInt e)), some (.int (Int32.ofInt (s_ : Int)))] [] _ _ _
      refine hs 3 _ rfl _ _ _ _ _ _ _ rfl ?_
      refine zw_c (hs 4 _ rfl) (a := [.ref x]) (st := []) rfl rfl (Nat.le_of_ble_eq_true rfl) ⟨_, _, _, rfl, hX.1, rfl⟩ (Nat.zero_le _) (Nat.zero_le _) (zc_needF_M g hX (by omega) ?_)
      show S 9 [some (.ref x), some (.int (Int32.ofInt e)), some (.int (Int32.ofInt (s_ : Int)))] [] _ _ _
      refine hs 5 _ rfl _ _ _ _ _ _ _ rfl ?_
      refine zw_c (hs 6 _ rfl) (a := [.ref x]) (st := []) rfl rfl (Nat.le_of_ble_eq_true rfl) ⟨_, _, _, rfl, hX.1, rfl⟩ (Nat.zero_le _) (Nat.zero_le _) (zc_join_M g hX fun h1_ j_ n_ w_ f1_ jg_ ji_ => ?_)
      have xj_ := hX.jn f1_ jg_
      have w6_ := ji_.big hl_
      have fi_ := ji_.fit (s := s_) (by omega) (Int.dvd_self_sub_emod (x := e) (m := (s_ : Int)))
      show S 13 [some (.ref x), some (.int (Int32.ofInt e)), some (.int (Int32.ofInt (s_ : Int)))] [] _ _ _
      by_cases sf_ : sp_fit (c.2.2.1 ++ [(e % (s_ : Int), (s_ : Int))])
      rotate_left
      · 
        refine hs 7 _ rfl _ _ _ _ _ _ _ rfl ?_
        refine hs 8 _ rfl _ _ _ _ _ _ _ _ _ (xj_.1) rfl rfl ?_
        refine hs 9 _ rfl _ _ _ _ _ _ _ rfl ?_
        refine hs 10 _ rfl _ _ _ _ _ _ _ rfl ?_
        refine zw_c (hs 11 _ rfl) (a := [.ref (r 4), .int (Int32.ofInt e), .int (Int32.ofInt (s_ : Int))]) (st := []) rfl rfl (Nat.le_of_ble_eq_true rfl) ⟨_, _, _, rfl, jg_, rfl⟩ (Nat.zero_le _) (Nat.zero_le _) (zj_admits_M g jg_ ji_.flag ji_.1 w6_ ji_.2.2.1.1 ji_.2.2.1.2 (by omega) (by omega) (by omega) (by omega) (fun y_ => absurd (fi_.mp y_) sf_) (fun _ => ?_))
        show S 22 [some (.ref x), some (.int (Int32.ofInt e)), some (.int (Int32.ofInt (s_ : Int)))] [.int (Int32.ofInt (0 : Int))] _ _ _
        refine hs 12 _ rfl _ _ _ _ _ _ (fun zq => absurd (hd_c1z (c := 1) (by omega) (by omega) zq) (by omega : ¬ ((0 : Int) ≠ 0))) (fun _ => ?_)
        refine hs 13 _ rfl _ _ _ _ _ _ _ rfl ?_
        exact hs 14 _ rfl _ _ _ _ _ ⟨_, rfl, by decide, by decide⟩ (Nat.zero_le _) (Nat.zero_le _) (hP0 c1_ c2_ sf_ _ (zc_fr.jn f1_) xj_)
      · 
        refine hs 7 _ rfl _ _ _ _ _ _ _ rfl ?_
        refine hs 8 _ rfl _ _ _ _ _ _ _ _ _ (xj_.1) rfl rfl ?_
        refine hs 9 _ rfl _ _ _ _ _ _ _ rfl ?_
        refine hs 10 _ rfl _ _ _ _ _ _ _ rfl ?_
        refine zw_c (hs 11 _ rfl) (a := [.ref (r 4), .int (Int32.ofInt e), .int (Int32.ofInt (s_ : Int))]) (st := []) rfl rfl (Nat.le_of_ble_eq_true rfl) ⟨_, _, _, rfl, jg_, rfl⟩ (Nat.zero_le _) (Nat.zero_le _) (zj_admits_M g jg_ ji_.flag ji_.1 w6_ ji_.2.2.1.1 ji_.2.2.1.2 (by omega) (by omega) (by omega) (by omega) (fun _ => ?_) (fun y_ => absurd (fi_.mpr sf_) y_))
        show S 22 [some (.ref x), some (.int (Int32.ofInt e)), some (.int (Int32.ofInt (s_ : Int)))] [.int (Int32.ofInt (1 : Int))] _ _ _
        refine hs 12 _ rfl _ _ _ _ _ _ (fun _ => ?_) (fun zq => absurd (hd_c1t (c := 1) (by omega) (by omega) (by omega : (1 : Int) ≠ 0)) zq)
        refine hs 15 _ rfl _ _ _ _ _ _ _ rfl ?_
        refine hs 16 _ rfl _ _ _ _ _ _ _ rfl ?_
        refine hs 17 _ rfl _ _ _ _ _ _ _ rfl ?_
        refine zw_c (hs 18 _ rfl) (a := [.ref x, .int (Int32.ofInt e), .int (Int32.ofInt (s_ : Int))]) (st := []) rfl rfl (Nat.le_of_ble_eq_true rfl) ⟨_, _, _, rfl, xj_.1, rfl⟩ (Nat.zero_le _) (Nat.zero_le _) (zc_addRowX_M g xj_ c1_.1 c1_.2.1 c1_.2.2 c2_ fun h9_ f9_ x9_ => ?_)
        show S 33 [some (.ref x), some (.int (Int32.ofInt e)), some (.int (Int32.ofInt (s_ : Int)))] [.int (Int32.ofInt (c.2.2.1.length : Int))] _ _ _
        refine hs 19 _ rfl _ _ _ _ _ _ _ rfl ?_
        refine hs 20 _ rfl _ _ _ _ _ _ _ rfl ?_
        exact hs 21 _ rfl _ _ _ _ _ ⟨_, rfl, by decide, by decide⟩ (Nat.zero_le _) (Nat.zero_le _) (hP c1_ c2_ sf_ _ ((zc_fr.jn f1_).tr f9_) x9_)
