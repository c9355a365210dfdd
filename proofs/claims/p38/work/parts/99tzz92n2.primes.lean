/-! PRIMES -/
/-- how many divide; a prime; the same by trial -/
def sk_dv (m k : Nat) : Bool := Nat.beq (m % (k + 1)) 0
def sk_pr (m : Nat) : Bool := Nat.beq (sk_n (sk_dv m) m) 2
def sk_tr (m : Nat) : Bool := Nat.blt 1 m && (List.range 21).all fun p => Nat.blt p 2 || (Nat.blt m (p * p) || !(Nat.beq (m % p) 0))
theorem sk_pt : ((List.range 401).all fun m => bif sk_pr m then sk_tr m else !(sk_tr m)) = true := by decide +kernel
section SKP
variable {m p n x : Nat} {v : Int}
theorem sk_pr.eq (h : m ≤ 400) : sk_pr m = sk_tr m := by
  have z_ : (bif sk_pr m then sk_tr m else !(sk_tr m)) = true := List.all_eq_true.mp sk_pt m (List.mem_range.mpr (by omega))
  cases h1_ : sk_pr m
  · rw [h1_, cond_false] at z_
    cases h2_ : sk_tr m
    · rfl
    · rw [h2_] at z_
      exact absurd z_ (by decide)
  · rw [h1_, cond_true] at z_
    exact z_.symm
theorem sk_pr.no (hm : m ≤ 400) (h2 : 2 ≤ p) (hp : p * p ≤ m) (h : m % p = 0) : sk_pr m = false := by
  rw [sk_pr.eq hm]
  have p_ : p ≤ 20 := by
    apply Classical.byContradiction
    intro y_
    have z_ := Nat.mul_le_mul (show 21 ≤ p by omega) (show 21 ≤ p by omega)
    omega
  cases h1_ : sk_tr m
  · rfl
  · exfalso
    unfold sk_tr at h1_
    obtain ⟨-, a_⟩ := Bool.and_eq_true_iff.mp h1_
    have b_ : (Nat.blt p 2 || (Nat.blt m (p * p) || !(Nat.beq (m % p) 0))) = true := List.all_eq_true.mp a_ p (List.mem_range.mpr (by omega))
    rw [h] at b_
    rcases Bool.or_eq_true_iff.mp b_ with y_ | y_
    · have := Nat.blt_eq.mp y_
      omega
    · rcases Bool.or_eq_true_iff.mp y_ with w_ | w_
      · have := Nat.blt_eq.mp w_
        omega
      · exact absurd w_ (by decide)
theorem sk_pr.yes (hm : m ≤ 400) (h1 : 1 < m) (h : ∀ p : Nat, 2 ≤ p → p * p ≤ m → ¬ m % p = 0) : sk_pr m = true := by
  rw [sk_pr.eq hm]
  unfold sk_tr
  refine Bool.and_eq_true_iff.mpr ⟨Nat.blt_eq.mpr h1, List.all_eq_true.mpr fun p_ _ => ?_⟩
  show (Nat.blt p_ 2 || (Nat.blt m (p_ * p_) || !(Nat.beq (m % p_) 0))) = true
  by_cases c1_ : p_ < 2
  · exact Bool.or_eq_true_iff.mpr (Or.inl (Nat.blt_eq.mpr c1_))
  · by_cases c2_ : m < p_ * p_
    · exact Bool.or_eq_true_iff.mpr (Or.inr (Bool.or_eq_true_iff.mpr (Or.inl (Nat.blt_eq.mpr c2_))))
    · exact Bool.or_eq_true_iff.mpr (Or.inr (Bool.or_eq_true_iff.mpr (Or.inr (congrArg (fun b : Bool => !b) (sk_bn (h p_ (by omega) (by omega)))))))
def sk_pv (m : Int) : Int := if m ≤ 1 then 0 else bif sk_pr m.toNat then 1 else 0
theorem sk_pv.y (h : 1 < v ∧ sk_pr v.toNat = true) : sk_pv v = 1 := by
  unfold sk_pv
  rw [if_neg (show ¬ v ≤ 1 by omega), h.2, cond_true]
theorem sk_pv.no (h : ¬ (1 < v ∧ sk_pr v.toNat = true)) : sk_pv v = 0 := by
  unfold sk_pv
  by_cases c_ : v ≤ 1
  · rw [if_pos c_]
  · rw [if_neg c_]
    cases hh_ : sk_pr v.toNat
    · rfl
    · exact absurd ⟨by omega, hh_⟩ h
theorem zt_mulq {L : List (Option Value)} {st : List Value} {v : Int} {a b q : Nat} (h : a * b = q) : ck_cf 15 2 v L (.int (Int32.ofInt (b : Int)) :: .int (Int32.ofInt (a : Int)) :: st) = some (L, .int (Int32.ofInt (q : Int)) :: st) := by
  have e_ : (q : Int) = (a : Int) * (b : Int) := by
    rw [← h]
    exact Int.natCast_mul a b
  rw [e_]
  exact hd_mul
theorem zt_remq {L : List (Option Value)} {st : List Value} {v : Int} {a M q : Nat} (h : a % M = q) (ha : a ≤ 2000000000) (hM : 1 ≤ M) (hM2 : M ≤ 1000) : ck_cf 15 4 v L (.int (Int32.ofInt (M : Int)) :: .int (Int32.ofInt (a : Int)) :: st) = some (L, .int (Int32.ofInt (q : Int)) :: st) := by
  rw [← h, Int.natCast_emod]
  exact hd_rem (by omega) (by omega) (by omega) (by omega)
theorem sk_n.first {q : Nat → Bool} : ∀ n : Nat, ¬ sk_n q n = 0 → ∃ x : Nat, x < n ∧ q x = true ∧ sk_n q x = 0 := by
  intro n
  induction n with
  | zero =>
    intro h
    exact absurd rfl h
  | succ n_ ih =>
    intro h
    by_cases c_ : sk_n q n_ = 0
    · cases hh_ : q n_
      · rw [sk_n.no hh_] at h
        exact absurd c_ h
      · exact ⟨n_, by omega, hh_, c_⟩
    · obtain ⟨x_, a1_, a2_, a3_⟩ := ih c_
      exact ⟨x_, by omega, a2_, a3_⟩
theorem sk_at.z {q : Nat → Bool} (h : sk_at q n 0 v) : v = -1 ↔ sk_n q n = 0 := by
  rcases h with ⟨x_, a1_, a2_, a3_, a4_⟩ | ⟨a1_, a2_⟩
  · have l_ := sk_n.lt a2_ a1_
    constructor
    · intro y_
      omega
    · intro y_
      omega
  · constructor
    · intro _
      apply Classical.byContradiction
      intro c_
      obtain ⟨x_, b1_, b2_, b3_⟩ := sk_n.first n c_
      exact a1_ x_ b1_ b2_ (by omega)
    · intro _
      exact a2_
/-- Legendre's sign -/
def sk_lv (a m : Nat) : Int := if a = 0 then 0 else if sk_n (sk_r a m) m = 0 then -1 else 1
def sk_lg (a : Nat) (m : Int) : Int := if 2 < m ∧ sk_pr m.toNat = true then sk_lv a m.toNat else -8
theorem sk_lv.bd (a m : Nat) : -1 ≤ sk_lv a m ∧ sk_lv a m ≤ 1 := by
  unfold sk_lv
  by_cases c1_ : a = 0
  · rw [if_pos c1_]
    decide
  · rw [if_neg c1_]
    by_cases c2_ : sk_n (sk_r a m) m = 0
    · rw [if_pos c2_]
      decide
    · rw [if_neg c2_]
      decide
theorem sk_lg.bd (a : Nat) (m : Int) : -9 ≤ sk_lg a m ∧ sk_lg a m ≤ 1000 := by
  unfold sk_lg
  by_cases c1_ : 2 < m ∧ sk_pr m.toNat = true
  · rw [if_pos c1_]
    have l_ := sk_lv.bd a m.toNat
    omega
  · rw [if_neg c1_]
    decide
end SKP
set_option maxHeartbeats 4000000 in
theorem sk_prime_M {l : Launch} {G : am_G} {X : ck_XT} (g : gM l G X) {m : Int} {h : List am_C} (hm1 : -9 ≤ m) (hm2 : m ≤ 400) {mc ms : Nat} {Post : am_O → List am_C → Prop} (hY : 1 < m ∧ sk_pr m.toNat = true → Post (.inl (some (.int (Int32.ofInt 1)))) h) (hN : ¬ (1 < m ∧ sk_pr m.toNat = true) → Post (.inl (some (.int (Int32.ofInt 0)))) h) :
    am_M l G yX7_primeHolds (.code yX7_primeHolds prog_9_method_12_code 2 (some .boolean)) 1 20 mc ms [.int (Int32.ofInt m)] h Post := by
  refine gh_yX7_primeHolds_X g (Nat.le_of_ble_eq_true rfl) fun S SX hs hr hw hx => ?_
  have rv : ∀ x : Int32, ck_fv 0 (.int x) := fun x => ⟨_, rfl⟩
  by_cases c1_ : m ≤ 1
  · 
    refine hs 0 _ rfl _ _ _ _ _ _ _ rfl ?_
    refine hs 1 _ rfl _ _ _ _ _ _ _ rfl ?_
    refine hs 2 _ rfl _ _ _ _ _ _ _ rfl ?_
    refine hs 3 _ rfl _ _ _ _ _ _ _ rfl ?_
    refine hs 4 _ rfl _ _ _ _ _ _ _ hd_mul ?_
    refine hs 5 _ rfl _ _ _ _ _ _ _ rfl ?_
    refine hs 6 _ rfl _ _ _ _ _ _ _ (fun _ => ?_) (fun zq => absurd (hd_c2t (c := 4) (by omega) (by omega) (by omega) (by omega) (by omega : 0 < (((2 : Int) * (2 : Int)) - m))) zq)
    refine hs 15 _ rfl _ _ _ _ _ _ _ rfl ?_
    refine hs 16 _ rfl _ _ _ _ _ _ _ rfl ?_
    refine hs 17 _ rfl _ _ _ _ _ _ _ (fun _ => ?_) (fun zq => absurd (hd_c2t (c := 5) (by omega) (by omega) (by omega) (by omega) (by omega : (m - (1 : Int)) ≤ 0)) zq)
    refine hs 20 _ rfl _ _ _ _ _ _ _ rfl ?_
    exact hs 21 _ rfl _ _ _ _ _ ⟨_, rfl, by decide, by decide⟩ (Nat.zero_le _) (Nat.zero_le _) (hN fun y_ => by have := y_.1; omega)
  · obtain ⟨M_, rfl⟩ : ∃ x_ : Nat, m = (x_ : Int) := ⟨m.toNat, by omega⟩
    rw [Int.toNat_natCast] at hY hN
    have loop : ∀ (n_ p_ : Nat), p_ + n_ = 22 → 2 ≤ p_ → (∀ j_ : Nat, 2 ≤ j_ → j_ < p_ → ¬ M_ % j_ = 0) → S 2 [some (.int (Int32.ofInt (M_ : Int))), some (.int (Int32.ofInt (p_ : Int)))] [] h 0 0 := by
      intro n_
      induction n_ with
      | zero =>
        intro p_ hp_ hp2_ hn_
        have e_ : p_ = 22 := by omega
        obtain ⟨q_, hq_⟩ : ∃ q_ : Nat, p_ * p_ = q_ := ⟨_, rfl⟩
        have q2_ : q_ ≤ 484 := by
          rw [← hq_]
          exact Nat.mul_le_mul (show p_ ≤ 22 by omega) (show p_ ≤ 22 by omega)
        have q3_ : 484 ≤ q_ := by
          rw [← hq_]
          exact Nat.mul_le_mul (show 22 ≤ p_ by omega) (show 22 ≤ p_ by omega)
        have y_ : ∀ p : Nat, 2 ≤ p → p * p ≤ M_ → ¬ M_ % p = 0 := fun p hp hpp => hn_ p hp (by
          apply Classical.byContradiction
          intro w_
          have := Nat.mul_le_mul (show p_ ≤ p by omega) (show p_ ≤ p by omega)
          omega)
        · 
          refine hs 2 _ rfl _ _ _ _ _ _ _ rfl ?_
          refine hs 3 _ rfl _ _ _ _ _ _ _ rfl ?_
          refine hs 4 _ rfl _ _ _ _ _ _ _ (zt_mulq hq_) ?_
          refine hs 5 _ rfl _ _ _ _ _ _ _ rfl ?_
          refine hs 6 _ rfl _ _ _ _ _ _ _ (fun _ => ?_) (fun zq => absurd (hd_c2t (c := 4) (by omega) (by omega) (by omega) (by omega) (by omega : 0 < ((q_ : Int) - (M_ : Int)))) zq)
          refine hs 15 _ rfl _ _ _ _ _ _ _ rfl ?_
          refine hs 16 _ rfl _ _ _ _ _ _ _ rfl ?_
          refine hs 17 _ rfl _ _ _ _ _ _ _ (fun zq => absurd (hd_c2z (c := 5) (by omega) (by omega) (by omega) (by omega) zq) (by omega : ¬ (((M_ : Int) - (1 : Int)) ≤ 0))) (fun _ => ?_)
          refine hs 18 _ rfl _ _ _ _ _ _ _ rfl ?_
          refine hs 19 _ rfl _ _ _ _ _ ?_
          exact hs 21 _ rfl _ _ _ _ _ ⟨_, rfl, by decide, by decide⟩ (Nat.zero_le _) (Nat.zero_le _) (hY ⟨by omega, sk_pr.yes (by omega) (by omega) y_⟩)
      | succ n_ ih =>
        intro p_ hp_ hp2_ hn_
        obtain ⟨q_, hq_⟩ : ∃ q_ : Nat, p_ * p_ = q_ := ⟨_, rfl⟩
        have q2_ : q_ ≤ 484 := by
          rw [← hq_]
          exact Nat.mul_le_mul (show p_ ≤ 22 by omega) (show p_ ≤ 22 by omega)
        by_cases c2_ : M_ < q_
        · have y_ : ∀ p : Nat, 2 ≤ p → p * p ≤ M_ → ¬ M_ % p = 0 := fun p hp hpp => hn_ p hp (by
            apply Classical.byContradiction
            intro w_
            have := Nat.mul_le_mul (show p_ ≤ p by omega) (show p_ ≤ p by omega)
            omega)
          refine hs 2 _ rfl _ _ _ _ _ _ _ rfl ?_
          refine hs 3 _ rfl _ _ _ _ _ _ _ rfl ?_
          refine hs 4 _ rfl _ _ _ _ _ _ _ (zt_mulq hq_) ?_
          refine hs 5 _ rfl _ _ _ _ _ _ _ rfl ?_
          refine hs 6 _ rfl _ _ _ _ _ _ _ (fun _ => ?_) (fun zq => absurd (hd_c2t (c := 4) (by omega) (by omega) (by omega) (by omega) (by omega : 0 < ((q_ : Int) - (M_ : Int)))) zq)
          refine hs 15 _ rfl _ _ _ _ _ _ _ rfl ?_
          refine hs 16 _ rfl _ _ _ _ _ _ _ rfl ?_
          refine hs 17 _ rfl _ _ _ _ _ _ _ (fun zq => absurd (hd_c2z (c := 5) (by omega) (by omega) (by omega) (by omega) zq) (by omega : ¬ (((M_ : Int) - (1 : Int)) ≤ 0))) (fun _ => ?_)
          refine hs 18 _ rfl _ _ _ _ _ _ _ rfl ?_
          refine hs 19 _ rfl _ _ _ _ _ ?_
          exact hs 21 _ rfl _ _ _ _ _ ⟨_, rfl, by decide, by decide⟩ (Nat.zero_le _) (Nat.zero_le _) (hY ⟨by omega, sk_pr.yes (by omega) (by omega) y_⟩)
        · obtain ⟨r_, hr_⟩ : ∃ r_ : Nat, M_ % p_ = r_ := ⟨_, rfl⟩
          have r2_ : r_ < p_ := by
            rw [← hr_]
            exact Nat.mod_lt _ (by omega)
          by_cases e0_ : r_ = 0
          · 
            refine hs 2 _ rfl _ _ _ _ _ _ _ rfl ?_
            refine hs 3 _ rfl _ _ _ _ _ _ _ rfl ?_
            refine hs 4 _ rfl _ _ _ _ _ _ _ (zt_mulq hq_) ?_
            refine hs 5 _ rfl _ _ _ _ _ _ _ rfl ?_
            refine hs 6 _ rfl _ _ _ _ _ _ _ (fun zq => absurd (hd_c2z (c := 4) (by omega) (by omega) (by omega) (by omega) zq) (by omega : ¬ (0 < ((q_ : Int) - (M_ : Int))))) (fun _ => ?_)
            refine hs 7 _ rfl _ _ _ _ _ _ _ rfl ?_
            refine hs 8 _ rfl _ _ _ _ _ _ _ rfl ?_
            refine hs 9 _ rfl _ _ _ _ _ _ _ (zt_remq hr_ (by omega) (by omega) (by omega)) ?_
            refine hs 10 _ rfl _ _ _ _ _ _ (fun zq => absurd (hd_c1z (c := 1) (by omega) (by omega) zq) (by omega : ¬ ((r_ : Int) ≠ 0))) (fun _ => ?_)
            refine hs 11 _ rfl _ _ _ _ _ _ _ rfl ?_
            exact hs 12 _ rfl _ _ _ _ _ ⟨_, rfl, by decide, by decide⟩ (Nat.zero_le _) (Nat.zero_le _) (hN fun y_ => by rw [sk_pr.no (by omega) hp2_ (by omega) (hr_.trans e0_)] at y_; exact absurd y_.2 (by decide))
          · have z_ := ih (p_ + 1) (by omega) (by omega) fun j_ hj_ hj2_ => by
              by_cases q3_ : j_ = p_
              · rw [q3_, hr_]
                exact e0_
              · exact hn_ j_ hj_ (by omega)
            refine hs 2 _ rfl _ _ _ _ _ _ _ rfl ?_
            refine hs 3 _ rfl _ _ _ _ _ _ _ rfl ?_
            refine hs 4 _ rfl _ _ _ _ _ _ _ (zt_mulq hq_) ?_
            refine hs 5 _ rfl _ _ _ _ _ _ _ rfl ?_
            refine hs 6 _ rfl _ _ _ _ _ _ _ (fun zq => absurd (hd_c2z (c := 4) (by omega) (by omega) (by omega) (by omega) zq) (by omega : ¬ (0 < ((q_ : Int) - (M_ : Int))))) (fun _ => ?_)
            refine hs 7 _ rfl _ _ _ _ _ _ _ rfl ?_
            refine hs 8 _ rfl _ _ _ _ _ _ _ rfl ?_
            refine hs 9 _ rfl _ _ _ _ _ _ _ (zt_remq hr_ (by omega) (by omega) (by omega)) ?_
            refine hs 10 _ rfl _ _ _ _ _ _ (fun _ => ?_) (fun zq => absurd (hd_c1t (c := 1) (by omega) (by omega) (by omega : (r_ : Int) ≠ 0)) zq)
            refine hs 13 _ rfl _ _ _ _ _ _ _ (hd_inc rfl) ?_
            refine hs 14 _ rfl _ _ _ _ _ ?_
            exact z_
    refine hs 0 _ rfl _ _ _ _ _ _ _ rfl ?_
    refine hs 1 _ rfl _ _ _ _ _ _ _ rfl ?_
    exact loop 20 2 (by omega) (by omega) (fun j_ hj_ hj2_ => absurd hj2_ (by omega))
set_option maxHeartbeats 4000000 in
theorem zk_prime_M {l : Launch} {G : am_G} {X : ck_XT} (g : gM l G X) {m : Int} {h : List am_C} (hm1 : -9 ≤ m) (hm2 : m ≤ 400) {mc ms : Nat} {Post : am_O → List am_C → Prop} (hY : 1 < m ∧ sk_pr m.toNat = true → Post (.inl (some (.int (Int32.ofInt 1)))) h) (hN : ¬ (1 < m ∧ sk_pr m.toNat = true) → Post (.inl (some (.int (Int32.ofInt 0)))) h) :
    am_M l G yX14_isPrime (.code yX14_isPrime prog_14_method_75_code 3 (some .boolean)) 1 20 mc ms [.int (Int32.ofInt m)] h Post := by
  refine gh_yX14_isPrime_X g (Nat.le_of_ble_eq_true rfl) fun S SX hs hr hw hx => ?_
  have rv : ∀ x : Int32, ck_fv 0 (.int x) := fun x => ⟨_, rfl⟩
  by_cases c1_ : m ≤ 0
  · 
    refine hs 0 _ rfl _ _ _ _ _ _ _ rfl ?_
    refine hs 1 _ rfl _ _ _ _ _ _ _ rfl ?_
    refine hs 2 _ rfl _ _ _ _ _ _ _ rfl ?_
    refine hs 3 _ rfl _ _ _ _ _ _ _ rfl ?_
    refine hs 4 _ rfl _ _ _ _ _ _ _ rfl ?_
    refine hs 5 _ rfl _ _ _ _ _ _ _ rfl ?_
    refine hs 6 _ rfl _ _ _ _ _ _ _ (fun _ => ?_) (fun zq => absurd (hd_c2t (c := 4) (by omega) (by omega) (by omega) (by omega) (by omega : 0 < ((1 : Int) - m))) zq)
    refine hs 14 _ rfl _ _ _ _ _ _ _ rfl ?_
    refine hs 15 _ rfl _ _ _ _ _ _ _ rfl ?_
    refine hs 16 _ rfl _ _ _ _ _ _ _ (fun _ => ?_) (fun zq => absurd (hd_c2t (c := 1) (by omega) (by omega) (by omega) (by omega) (by omega : ((0 : Int) - (2 : Int)) ≠ 0)) zq)
    refine hs 19 _ rfl _ _ _ _ _ _ _ rfl ?_
    exact hs 20 _ rfl _ _ _ _ _ ⟨_, rfl, by decide, by decide⟩ (Nat.zero_le _) (Nat.zero_le _) (hN fun y_ => by have := y_.1; omega)
  · obtain ⟨M_, rfl⟩ : ∃ x_ : Nat, m = (x_ : Int) := ⟨m.toNat, by omega⟩
    rw [Int.toNat_natCast] at hY hN
    have loop : ∀ (n_ x_ : Nat), x_ + n_ = M_ → S 4 [some (.int (Int32.ofInt (M_ : Int))), some (.int (Int32.ofInt ((sk_n (sk_dv M_) x_ : Nat) : Int))), some (.int (Int32.ofInt ((x_ + 1 : Nat) : Int)))] [] h 0 0 := by
      intro n_
      induction n_ with
      | zero =>
        intro x_ hx_
        have e_ : x_ = M_ := by omega
        subst e_
        have c0_ := sk_n.le (sk_dv x_) x_
        by_cases e2_ : sk_n (sk_dv x_) x_ = 2
        · 
          refine hs 4 _ rfl _ _ _ _ _ _ _ rfl ?_
          refine hs 5 _ rfl _ _ _ _ _ _ _ rfl ?_
          refine hs 6 _ rfl _ _ _ _ _ _ _ (fun _ => ?_) (fun zq => absurd (hd_c2t (c := 4) (by omega) (by omega) (by omega) (by omega) (by omega : 0 < (((x_ + 1 : Nat) : Int) - (x_ : Int)))) zq)
          refine hs 14 _ rfl _ _ _ _ _ _ _ rfl ?_
          refine hs 15 _ rfl _ _ _ _ _ _ _ rfl ?_
          refine hs 16 _ rfl _ _ _ _ _ _ _ (fun zq => absurd (hd_c2z (c := 1) (by omega) (by omega) (by omega) (by omega) zq) (by omega : ¬ ((((sk_n (sk_dv x_) x_ : Nat) : Int) - (2 : Int)) ≠ 0))) (fun _ => ?_)
          refine hs 17 _ rfl _ _ _ _ _ _ _ rfl ?_
          refine hs 18 _ rfl _ _ _ _ _ ?_
          exact hs 20 _ rfl _ _ _ _ _ ⟨_, rfl, by decide, by decide⟩ (Nat.zero_le _) (Nat.zero_le _) (hY ⟨by omega, sk_b e2_⟩)
        · 
          refine hs 4 _ rfl _ _ _ _ _ _ _ rfl ?_
          refine hs 5 _ rfl _ _ _ _ _ _ _ rfl ?_
          refine hs 6 _ rfl _ _ _ _ _ _ _ (fun _ => ?_) (fun zq => absurd (hd_c2t (c := 4) (by omega) (by omega) (by omega) (by omega) (by omega : 0 < (((x_ + 1 : Nat) : Int) - (x_ : Int)))) zq)
          refine hs 14 _ rfl _ _ _ _ _ _ _ rfl ?_
          refine hs 15 _ rfl _ _ _ _ _ _ _ rfl ?_
          refine hs 16 _ rfl _ _ _ _ _ _ _ (fun _ => ?_) (fun zq => absurd (hd_c2t (c := 1) (by omega) (by omega) (by omega) (by omega) (by omega : (((sk_n (sk_dv x_) x_ : Nat) : Int) - (2 : Int)) ≠ 0)) zq)
          refine hs 19 _ rfl _ _ _ _ _ _ _ rfl ?_
          exact hs 20 _ rfl _ _ _ _ _ ⟨_, rfl, by decide, by decide⟩ (Nat.zero_le _) (Nat.zero_le _) (hN fun y_ => e2_ (ck_beq y_.2))
      | succ n_ ih =>
        intro x_ hx_
        have c0_ := sk_n.le (sk_dv M_) x_
        obtain ⟨r_, hr_⟩ : ∃ r_ : Nat, M_ % (x_ + 1) = r_ := ⟨_, rfl⟩
        have r2_ : r_ < x_ + 1 := by
          rw [← hr_]
          exact Nat.mod_lt _ (by omega)
        have z_ := ih (x_ + 1) (by omega)
        by_cases e0_ : r_ = 0
        · rw [sk_n.yes (p := sk_dv M_) (n := x_) (sk_b (hr_.trans e0_))] at z_
          refine hs 4 _ rfl _ _ _ _ _ _ _ rfl ?_
          refine hs 5 _ rfl _ _ _ _ _ _ _ rfl ?_
          refine hs 6 _ rfl _ _ _ _ _ _ _ (fun zq => absurd (hd_c2z (c := 4) (by omega) (by omega) (by omega) (by omega) zq) (by omega : ¬ (0 < (((x_ + 1 : Nat) : Int) - (M_ : Int))))) (fun _ => ?_)
          refine hs 7 _ rfl _ _ _ _ _ _ _ rfl ?_
          refine hs 8 _ rfl _ _ _ _ _ _ _ rfl ?_
          refine hs 9 _ rfl _ _ _ _ _ _ _ (zt_remq hr_ (by omega) (by omega) (by omega)) ?_
          refine hs 10 _ rfl _ _ _ _ _ _ (fun zq => absurd (hd_c1z (c := 1) (by omega) (by omega) zq) (by omega : ¬ ((r_ : Int) ≠ 0))) (fun _ => ?_)
          refine hs 11 _ rfl _ _ _ _ _ _ _ (hd_inc rfl) ?_
          refine hs 12 _ rfl _ _ _ _ _ _ _ (hd_inc rfl) ?_
          refine hs 13 _ rfl _ _ _ _ _ ?_
          exact z_
        · rw [sk_n.no (p := sk_dv M_) (n := x_) (sk_bn (fun y_ => e0_ (hr_.symm.trans y_)))] at z_
          refine hs 4 _ rfl _ _ _ _ _ _ _ rfl ?_
          refine hs 5 _ rfl _ _ _ _ _ _ _ rfl ?_
          refine hs 6 _ rfl _ _ _ _ _ _ _ (fun zq => absurd (hd_c2z (c := 4) (by omega) (by omega) (by omega) (by omega) zq) (by omega : ¬ (0 < (((x_ + 1 : Nat) : Int) - (M_ : Int))))) (fun _ => ?_)
          refine hs 7 _ rfl _ _ _ _ _ _ _ rfl ?_
          refine hs 8 _ rfl _ _ _ _ _ _ _ rfl ?_
          refine hs 9 _ rfl _ _ _ _ _ _ _ (zt_remq hr_ (by omega) (by omega) (by omega)) ?_
          refine hs 10 _ rfl _ _ _ _ _ _ (fun _ => ?_) (fun zq => absurd (hd_c1t (c := 1) (by omega) (by omega) (by omega : (r_ : Int) ≠ 0)) zq)
          refine hs 12 _ rfl _ _ _ _ _ _ _ (hd_inc rfl) ?_
          refine hs 13 _ rfl _ _ _ _ _ ?_
          exact z_
    refine hs 0 _ rfl _ _ _ _ _ _ _ rfl ?_
    refine hs 1 _ rfl _ _ _ _ _ _ _ rfl ?_
    refine hs 2 _ rfl _ _ _ _ _ _ _ rfl ?_
    refine hs 3 _ rfl _ _ _ _ _ _ _ rfl ?_
    exact loop M_ 0 (by omega)
set_option maxHeartbeats 4000000 in
theorem zc_isPrime9_M {l : Launch} {G : am_G} {X : ck_XT} (g : gM l G X) {x : Nat} {r : Nat → Nat} {jj mm kk : Int} {c : sp_S} {R : Nat → sp_S} {old cnt : Nat} {h : List am_C} (hX : zc_x G h x r jj mm kk c R old cnt){mc ms : Nat} {Post : am_O → List am_C → Prop}
    (hP : Post (.inl (some (.int (Int32.ofInt (sk_pv c.1))))) h) :
    am_M l G yX10_isPrime (.code yX10_isPrime prog_1_method_41_code 1 (some .boolean)) 2 41 mc ms [.ref x] h Post := by
  refine gh_yX10_isPrime_X g (Nat.le_of_ble_eq_true rfl) fun S SX hs hr hw hx => ?_
  have rv : ∀ x : Int32, ck_fv 0 (.int x) := fun x => ⟨_, rfl⟩
  have hb_ := hX.2.2.1.1
  by_cases y_ : 1 < c.1 ∧ sk_pr c.1.toNat = true
  · rw [sk_pv.y y_] at hP
    refine hs 0 _ rfl _ _ _ _ _ _ _ rfl ?_
    refine hs 1 _ rfl _ _ _ _ _ _ _ _ _ (hX.1) rfl rfl ?_
    refine hs 2 _ rfl _ _ _ _ _ _ _ _ _ (hX.2.1.d) rfl rfl ?_
    refine zw_c (hs 3 _ rfl) (a := [.int (Int32.ofInt c.1)]) (st := []) rfl rfl (Nat.le_of_ble_eq_true rfl) trivial (by omega) (by omega) (sk_prime_M g hb_.1 hb_.2 (fun _ => ?_) (fun w_ => absurd y_ w_))
    show S 10 [some (.ref x)] [.int (Int32.ofInt (1 : Int))] _ _ _
    exact hs 4 _ rfl _ _ _ _ _ ⟨_, rfl, by decide, by decide⟩ (Nat.zero_le _) (Nat.zero_le _) (hP)
  · rw [sk_pv.no y_] at hP
    refine hs 0 _ rfl _ _ _ _ _ _ _ rfl ?_
    refine hs 1 _ rfl _ _ _ _ _ _ _ _ _ (hX.1) rfl rfl ?_
    refine hs 2 _ rfl _ _ _ _ _ _ _ _ _ (hX.2.1.d) rfl rfl ?_
    refine zw_c (hs 3 _ rfl) (a := [.int (Int32.ofInt c.1)]) (st := []) rfl rfl (Nat.le_of_ble_eq_true rfl) trivial (by omega) (by omega) (sk_prime_M g hb_.1 hb_.2 (fun w_ => absurd w_ y_) (fun _ => ?_))
    show S 10 [some (.ref x)] [.int (Int32.ofInt (0 : Int))] _ _ _
    exact hs 4 _ rfl _ _ _ _ _ ⟨_, rfl, by decide, by decide⟩ (Nat.zero_le _) (Nat.zero_le _) (hP)
set_option maxHeartbeats 4000000 in
theorem zm_isPrime9_M {l : Launch} {G : am_G} {X : ck_XT} (g : gM l G X) {o : Nat → Nat} {x tx now qw : Nat} {th j m k : Int} {c : sp_S} {P : List sp_S} {h : List am_C} (hX : zm_x G h o x tx now qw th j m k c P) (hok : sp_ok c) {mc ms : Nat} {Post : am_O → List am_C → Prop}
    (hP : ∀ h', zm_fr G h h' → zm_Y G h' x 0 (c, P, j, m, k) → Post (.inl (some (.int (Int32.ofInt (sk_pv c.1))))) h') :
    am_M l G yX14_isPrime_ (.code yX14_isPrime_ prog_14_method_76_code 1 (some .boolean)) 2 42 mc ms [.ref x] h Post := by
  refine gh_yX14_isPrime__X g (Nat.le_of_ble_eq_true rfl) fun S SX hs hr hw hx => ?_
  have rv : ∀ x : Int32, ck_fv 0 (.int x) := fun x => ⟨_, rfl⟩
  obtain ⟨a1_, a2_, a3_, a4_⟩ := id hX
  have okd_ := hok.1
  refine hs 0 _ rfl _ _ _ _ _ _ _ rfl ?_
  refine hs 1 _ rfl _ _ _ _ _ _ _ rfl ?_
  refine zw_U (hs 2 _ rfl) (by omega) (a1_) a2_.1 ⟨_, rfl⟩ fun hz703 wz704 => ?_
  have wz704 : hd_w G h hz703 x (tx, [.int (Int32.ofInt (0 : Int)), .ref now, .ref qw, .int (Int32.ofInt j), .int (Int32.ofInt m), .int (Int32.ofInt k)]) := wz704
  have lwz704 := wz704.1
  have x2_ := hX.own wz704
  obtain ⟨t_, qn_, ql_, qb_, s1_, up_⟩ := x2_.dialL
  show S 5 [some (.ref x)] [] _ _ _
  by_cases y_ : 1 < c.1 ∧ sk_pr c.1.toNat = true
  · rw [sk_pv.y y_] at hP
    refine hs 3 _ rfl _ _ _ _ _ _ _ rfl ?_
    refine hs 4 _ rfl _ _ _ _ _ _ _ _ _ (x2_.1) a2_.1 rfl ?_
    refine hs 5 _ rfl _ _ _ _ _ _ _ _ _ (s1_.1) s1_.2 rfl ?_
    refine zw_c (hs 6 _ rfl) (a := [.int (Int32.ofInt c.1)]) (st := []) rfl rfl (Nat.le_of_ble_eq_true rfl) trivial (by omega) (by omega) (zk_prime_M g okd_.1 okd_.2 (fun _ => ?_) (fun w_ => absurd y_ w_))
    show S 15 [some (.ref x)] [.int (Int32.ofInt (1 : Int))] _ _ _
    exact hs 7 _ rfl _ _ _ _ _ ⟨_, rfl, by decide, by decide⟩ (Nat.zero_le _) (Nat.zero_le _) (hP _ (zm_fr.w wz704 a1_ (Or.inl a2_.1)) ⟨_, _, _, _, x2_⟩)
  · rw [sk_pv.no y_] at hP
    refine hs 3 _ rfl _ _ _ _ _ _ _ rfl ?_
    refine hs 4 _ rfl _ _ _ _ _ _ _ _ _ (x2_.1) a2_.1 rfl ?_
    refine hs 5 _ rfl _ _ _ _ _ _ _ _ _ (s1_.1) s1_.2 rfl ?_
    refine zw_c (hs 6 _ rfl) (a := [.int (Int32.ofInt c.1)]) (st := []) rfl rfl (Nat.le_of_ble_eq_true rfl) trivial (by omega) (by omega) (zk_prime_M g okd_.1 okd_.2 (fun w_ => absurd w_ y_) (fun _ => ?_))
    show S 15 [some (.ref x)] [.int (Int32.ofInt (0 : Int))] _ _ _
    exact hs 7 _ rfl _ _ _ _ _ ⟨_, rfl, by decide, by decide⟩ (Nat.zero_le _) (Nat.zero_le _) (hP _ (zm_fr.w wz704 a1_ (Or.inl a2_.1)) ⟨_, _, _, _, x2_⟩)
