/-! JACOBI'S SIGN -/
/-- with so much fuel: what is tried, what is left, the product -/
def sk_jf (a : Nat) : Nat → Nat → Nat → Int → Int
  | 0, _, _, v => v
  | f + 1, p, q, v => if q ≤ 1 then v else if q % p = 0 then sk_jf a f p (q / p) (v * sk_lv (a % p) p) else sk_jf a f (p + 1) q v
def sk_jc (a m : Nat) : Int := sk_jf a 999 3 m 1
def sk_jb (a : Nat) (m : Int) : Int := if m % 2 = 0 then -8 else sk_jc a m.toNat
section SKJ
variable {a f p q m : Nat} {v : Int}
theorem sk_jf.z (h : q ≤ 1) : sk_jf a (f + 1) p q v = v := by
  show (if q ≤ 1 then v else _) = v
  exact if_pos h
theorem sk_jf.y (h1 : ¬ q ≤ 1) (h2 : q % p = 0) : sk_jf a (f + 1) p q v = sk_jf a f p (q / p) (v * sk_lv (a % p) p) := by
  show (if q ≤ 1 then v else if q % p = 0 then sk_jf a f p (q / p) (v * sk_lv (a % p) p) else sk_jf a f (p + 1) q v) = _
  rw [if_neg h1, if_pos h2]
theorem sk_jf.n (h1 : ¬ q ≤ 1) (h2 : ¬ q % p = 0) : sk_jf a (f + 1) p q v = sk_jf a f (p + 1) q v := by
  show (if q ≤ 1 then v else if q % p = 0 then sk_jf a f p (q / p) (v * sk_lv (a % p) p) else sk_jf a f (p + 1) q v) = _
  rw [if_neg h1, if_neg h2]
theorem sk_jm {v w : Int} (h1 : -1 ≤ v ∧ v ≤ 1) (h2 : -1 ≤ w ∧ w ≤ 1) : -1 ≤ v * w ∧ v * w ≤ 1 := by
  have c_ : v = -1 ∨ v = 0 ∨ v = 1 := by omega
  rcases c_ with e_ | e_ | e_
  · rw [e_]
    omega
  · rw [e_]
    omega
  · rw [e_]
    omega
theorem sk_jf.bd (a : Nat) : ∀ (f p q : Nat) (v : Int), -1 ≤ v ∧ v ≤ 1 → -1 ≤ sk_jf a f p q v ∧ sk_jf a f p q v ≤ 1 := by
  intro f
  induction f with
  | zero =>
    intro p q v h
    exact h
  | succ f_ ih =>
    intro p q v h
    by_cases c1_ : q ≤ 1
    · rw [sk_jf.z c1_]
      exact h
    · by_cases c2_ : q % p = 0
      · rw [sk_jf.y c1_ c2_]
        exact ih _ _ _ (sk_jm h (sk_lv.bd _ _))
      · rw [sk_jf.n c1_ c2_]
        exact ih _ _ _ h
theorem sk_jc.eq (ho : m % 2 = 1) : sk_jf a 1000 2 m 1 = sk_jc a m := by
  unfold sk_jc
  by_cases c1_ : m ≤ 1
  · exact (sk_jf.z (f := 999) c1_).trans (sk_jf.z (f := 998) c1_).symm
  · exact sk_jf.n (f := 999) c1_ (by omega)
theorem sk_jb.bd (a : Nat) (m : Int) : -9 ≤ sk_jb a m ∧ sk_jb a m ≤ 1000 := by
  unfold sk_jb
  by_cases c1_ : m % 2 = 0
  · rw [if_pos c1_]
    decide
  · rw [if_neg c1_]
    have l_ := sk_jf.bd a 999 3 m.toNat 1 (by decide)
    unfold sk_jc
    omega
theorem sk_jl (hp : 2 ≤ p) (h1 : ¬ q ≤ 1) (nd : ∀ d : Nat, 2 ≤ d → d < p → ¬ q % d = 0) : p ≤ q := by
  apply Classical.byContradiction
  intro c_
  exact nd q (by omega) (by omega) (Nat.mod_self q)
theorem sk_jn (h2 : ¬ q % p = 0) (nd : ∀ d : Nat, 2 ≤ d → d < p → ¬ q % d = 0) : ∀ d : Nat, 2 ≤ d → d < p + 1 → ¬ q % d = 0 := fun d h3 h4 => by
  by_cases e_ : d = p
  · rw [e_]
    exact h2
  · exact nd d h3 (by omega)
theorem zt_divq {L : List (Option Value)} {st : List Value} {v : Int} {a M q : Nat} (h : a / M = q) (ha : a ≤ 2000000000) (hM : 1 ≤ M) (hM2 : M ≤ 1000) : ck_cf 15 3 v L (.int (Int32.ofInt (M : Int)) :: .int (Int32.ofInt (a : Int)) :: st) = some (L, .int (Int32.ofInt (q : Int)) :: st) := by
  rw [← h, Int.natCast_ediv]
  exact hd_div (by omega) (by omega) (by omega) (by omega)
end SKJ
def sp_r43 (e e2 : Int) (T : sp_T) (a : Int) : Prop := sp_jm T (fun v => v = sk_jb (sp_md T e).toNat T.1.1) a
def sp_q43 (e e2 : Int) (T : sp_T) (a th : Int) (T' : sp_T) : Prop := sp_q T (sp_s1 e) (sp_r43 e e2 T) a th T'
theorem sp_q43.fn {e e2 a th a2 th2 : Int} {T T' T2 : sp_T} (h1 : sp_q43 e e2 T a th T') (h2 : sp_q43 e e2 T a2 th2 T2) : sp_al a th T' a2 th2 T2 := sp_q.fn (fun v w y_ z_ => sp_jm.fn (fun v w y_ z_ => y_.trans z_.symm) y_ z_) h1 h2
theorem sp_r43.bd {e e2 a : Int} {T : sp_T} (hk : sp_ok T.1) (h : sp_r43 e e2 T a) : -9 ≤ a ∧ a ≤ 1000 := sp_jm.bd hk (fun hp hr => by
  have hr_ : a = sk_jb (sp_md T e).toNat T.1.1 := hr
  rw [hr_]
  exact sk_jb.bd _ _) h
set_option maxHeartbeats 4000000 in
theorem zk_legG_M {l : Launch} {G : am_G} {X : ck_XT} (g : gM l G X) {A_ M_ r_ : Nat} (hr_ : A_ % M_ = r_) (ha : A_ ≤ 400) (hm1 : 1 ≤ M_) (hm : M_ ≤ 400) {h : List am_C} {mc ms : Nat} {Post : am_O → List am_C → Prop} (hP : Post (.inl (some (.int (Int32.ofInt (sk_lv r_ M_))))) h) :
    am_M l G yX14_legendreOf (.code yX14_legendreOf prog_14_method_77_code 2 (some .int)) 2 43 mc ms [.int (Int32.ofInt (A_ : Int)), .int (Int32.ofInt (M_ : Int))] h Post := by
  refine gh_yX14_legendreOf_X g (Nat.le_of_ble_eq_true rfl) fun S SX hs hr hw hx => ?_
  have rv : ∀ x : Int32, ck_fv 0 (.int x) := fun x => ⟨_, rfl⟩
  have hl_ : r_ < M_ := by
    rw [← hr_]
    exact Nat.mod_lt _ (by omega)
  have l9_ := sk_n.le (sk_r r_ M_) M_
  by_cases c1_ : r_ = 0
  · rw [show sk_lv r_ M_ = 0 by unfold sk_lv; rw [if_pos c1_]] at hP
    refine hs 0 _ rfl _ _ _ _ _ _ _ rfl ?_
    refine hs 1 _ rfl _ _ _ _ _ _ _ rfl ?_
    refine hs 2 _ rfl _ _ _ _ _ _ _ (zt_remq hr_ (by omega) (by omega) (by omega)) ?_
    refine hs 3 _ rfl _ _ _ _ _ _ (fun zq => absurd (hd_c1z (c := 1) (by omega) (by omega) zq) (by omega : ¬ ((r_ : Int) ≠ 0))) (fun _ => ?_)
    refine hs 4 _ rfl _ _ _ _ _ _ _ rfl ?_
    refine hs 5 _ rfl _ _ _ _ _ ?_
    exact hs 15 _ rfl _ _ _ _ _ (rv _) (Nat.zero_le _) (Nat.zero_le _) hP
  · by_cases c2_ : sk_n (sk_r r_ M_) M_ = 0
    · rw [show sk_lv r_ M_ = -1 by unfold sk_lv; rw [if_neg c1_, if_pos c2_]] at hP
      refine hs 0 _ rfl _ _ _ _ _ _ _ rfl ?_
      refine hs 1 _ rfl _ _ _ _ _ _ _ rfl ?_
      refine hs 2 _ rfl _ _ _ _ _ _ _ (zt_remq hr_ (by omega) (by omega) (by omega)) ?_
      refine hs 3 _ rfl _ _ _ _ _ _ (fun _ => ?_) (fun zq => absurd (hd_c1t (c := 1) (by omega) (by omega) (by omega : (r_ : Int) ≠ 0)) zq)
      refine hs 6 _ rfl _ _ _ _ _ _ _ rfl ?_
      refine hs 7 _ rfl _ _ _ _ _ _ _ rfl ?_
      refine hs 8 _ rfl _ _ _ _ _ _ _ (zt_remq hr_ (by omega) (by omega) (by omega)) ?_
      refine hs 9 _ rfl _ _ _ _ _ _ _ rfl ?_
      refine zw_c (hs 10 _ rfl) (a := [.int (Int32.ofInt (r_ : Int)), .int (Int32.ofInt (M_ : Int))]) (st := []) rfl rfl (Nat.le_of_ble_eq_true rfl) trivial (by omega) (by omega) (zk_roots_M g (A_ := r_) hl_ (by omega) ?_)
      show S 17 [some (.int (Int32.ofInt (A_ : Int))), some (.int (Int32.ofInt (M_ : Int)))] [.int (Int32.ofInt ((sk_n (sk_r r_ M_) M_ : Nat) : Int))] _ _ _
      refine hs 11 _ rfl _ _ _ _ _ _ (fun zq => absurd (hd_c1z (c := 1) (by omega) (by omega) zq) (by omega : ¬ (((sk_n (sk_r r_ M_) M_ : Nat) : Int) ≠ 0))) (fun _ => ?_)
      refine hs 12 _ rfl _ _ _ _ _ _ _ rfl ?_
      refine hs 13 _ rfl _ _ _ _ _ ?_
      exact hs 15 _ rfl _ _ _ _ _ (rv _) (Nat.zero_le _) (Nat.zero_le _) hP
    · rw [show sk_lv r_ M_ = 1 by unfold sk_lv; rw [if_neg c1_, if_neg c2_]] at hP
      refine hs 0 _ rfl _ _ _ _ _ _ _ rfl ?_
      refine hs 1 _ rfl _ _ _ _ _ _ _ rfl ?_
      refine hs 2 _ rfl _ _ _ _ _ _ _ (zt_remq hr_ (by omega) (by omega) (by omega)) ?_
      refine hs 3 _ rfl _ _ _ _ _ _ (fun _ => ?_) (fun zq => absurd (hd_c1t (c := 1) (by omega) (by omega) (by omega : (r_ : Int) ≠ 0)) zq)
      refine hs 6 _ rfl _ _ _ _ _ _ _ rfl ?_
      refine hs 7 _ rfl _ _ _ _ _ _ _ rfl ?_
      refine hs 8 _ rfl _ _ _ _ _ _ _ (zt_remq hr_ (by omega) (by omega) (by omega)) ?_
      refine hs 9 _ rfl _ _ _ _ _ _ _ rfl ?_
      refine zw_c (hs 10 _ rfl) (a := [.int (Int32.ofInt (r_ : Int)), .int (Int32.ofInt (M_ : Int))]) (st := []) rfl rfl (Nat.le_of_ble_eq_true rfl) trivial (by omega) (by omega) (zk_roots_M g (A_ := r_) hl_ (by omega) ?_)
      show S 17 [some (.int (Int32.ofInt (A_ : Int))), some (.int (Int32.ofInt (M_ : Int)))] [.int (Int32.ofInt ((sk_n (sk_r r_ M_) M_ : Nat) : Int))] _ _ _
      refine hs 11 _ rfl _ _ _ _ _ _ (fun _ => ?_) (fun zq => absurd (hd_c1t (c := 1) (by omega) (by omega) (by omega : ((sk_n (sk_r r_ M_) M_ : Nat) : Int) ≠ 0)) zq)
      refine hs 14 _ rfl _ _ _ _ _ _ _ rfl ?_
      exact hs 15 _ rfl _ _ _ _ _ (rv _) (Nat.zero_le _) (Nat.zero_le _) hP
set_option maxHeartbeats 4000000 in
theorem sk_jac_M {l : Launch} {G : am_G} {X : ck_XT} (g : gM l G X) {A_ M_ : Nat} (ha : A_ < M_) (hm : M_ ≤ 400) {h : List am_C} {mc ms : Nat} {Post : am_O → List am_C → Prop} (hP : Post (.inl (some (.int (Int32.ofInt (sk_jf A_ 1000 2 M_ 1))))) h) :
    am_M l G yX7_jacobiOf (.code yX7_jacobiOf prog_9_method_15_code 6 (some .int)) 3 65 mc ms [.int (Int32.ofInt (A_ : Int)), .int (Int32.ofInt (M_ : Int))] h Post := by
  refine gh_yX7_jacobiOf_X g (Nat.le_of_ble_eq_true rfl) fun S SX hs hr hw hx => ?_
  have rv : ∀ x : Int32, ck_fv 0 (.int x) := fun x => ⟨_, rfl⟩
  have hV : ∀ {w : Int}, w = sk_jf A_ 1000 2 M_ 1 → Post (.inl (some (.int (Int32.ofInt w)))) h := fun hw => by
    rw [hw]
    exact hP
  by_cases c0_ : M_ ≤ 1
  · have m1_ : M_ = 1 := by omega
    refine hs 0 _ rfl _ _ _ _ _ _ _ rfl ?_
    refine hs 1 _ rfl _ _ _ _ _ _ _ rfl ?_
    refine hs 2 _ rfl _ _ _ _ _ _ _ rfl ?_
    refine hs 3 _ rfl _ _ _ _ _ _ _ rfl ?_
    refine hs 4 _ rfl _ _ _ _ _ _ _ rfl ?_
    refine hs 5 _ rfl _ _ _ _ _ _ _ rfl ?_
    refine hs 6 _ rfl _ _ _ _ _ _ _ rfl ?_
    refine hs 7 _ rfl _ _ _ _ _ _ _ rfl ?_
    refine hs 8 _ rfl _ _ _ _ _ _ _ (fun _ => ?_) (fun zq => absurd (hd_c2t (c := 4) (by omega) (by omega) (by omega) (by omega) (by omega : 0 < ((2 : Int) - (M_ : Int)))) zq)
    refine hs 37 _ rfl _ _ _ _ _ _ _ rfl ?_
    exact hs 38 _ rfl _ _ _ _ _ (rv _) (Nat.zero_le _) (Nat.zero_le _) (hV (sk_jf.z (f := 999) (by omega)).symm)
  · 
    have loop : ∀ (f_ p_ q_ i_ : Nat) (v_ : Int), q_ + (M_ + 1 - p_) ≤ f_ → 2 ≤ p_ → p_ ≤ M_ + 1 → 1 ≤ q_ → q_ + i_ ≤ M_ → (∀ d : Nat, 2 ≤ d → d < p_ → ¬ q_ % d = 0) → -1 ≤ v_ ∧ v_ ≤ 1 → sk_jf A_ f_ p_ q_ v_ = sk_jf A_ 1000 2 M_ 1 → S 21 [some (.int (Int32.ofInt (A_ : Int))), some (.int (Int32.ofInt (M_ : Int))), some (.int (Int32.ofInt v_)), some (.int (Int32.ofInt (q_ : Int))), some (.int (Int32.ofInt (p_ : Int))), some (.int (Int32.ofInt (i_ : Int)))] [] h 0 0 := by
      intro f_
      induction f_ with
      | zero =>
        intro p_ q_ i_ v_ hf_ hp_ hp9_ hq_ hi_ nd_ hv_ he_
        omega
      | succ f_ ih =>
        intro p_ q_ i_ v_ hf_ hp_ hp9_ hq_ hi_ nd_ hv_ he_
        obtain ⟨r_, hr_⟩ : ∃ r_ : Nat, q_ % p_ = r_ := ⟨_, rfl⟩
        by_cases c1_ : q_ ≤ 1
        · rw [sk_jf.z c1_] at he_
          have r1_ : r_ = 1 := by
            rw [← hr_, show q_ = 1 by omega]
            exact Nat.mod_eq_of_lt (by omega)
          by_cases c2_ : M_ < p_ + 1
          · 
            refine hs 14 _ rfl _ _ _ _ _ _ _ rfl ?_
            refine hs 15 _ rfl _ _ _ _ _ _ _ rfl ?_
            refine hs 16 _ rfl _ _ _ _ _ _ _ (fun zq => absurd (hd_c2z (c := 3) (by omega) (by omega) (by omega) (by omega) zq) (by omega : ¬ (0 ≤ ((i_ : Int) - (M_ : Int))))) (fun _ => ?_)
            refine hs 17 _ rfl _ _ _ _ _ _ _ rfl ?_
            refine hs 18 _ rfl _ _ _ _ _ _ _ rfl ?_
            refine hs 19 _ rfl _ _ _ _ _ _ _ (zt_remq hr_ (by omega) (by omega) (by omega)) ?_
            refine hs 20 _ rfl _ _ _ _ _ _ (fun _ => ?_) (fun zq => absurd (hd_c1t (c := 1) (by omega) (by omega) (by omega : (r_ : Int) ≠ 0)) zq)
            refine hs 35 _ rfl _ _ _ _ _ _ _ (hd_inc rfl) ?_
            refine hs 36 _ rfl _ _ _ _ _ ?_
            refine hs 6 _ rfl _ _ _ _ _ _ _ rfl ?_
            refine hs 7 _ rfl _ _ _ _ _ _ _ rfl ?_
            refine hs 8 _ rfl _ _ _ _ _ _ _ (fun _ => ?_) (fun zq => absurd (hd_c2t (c := 4) (by omega) (by omega) (by omega) (by omega) (by omega : 0 < (((p_ : Int) + (1 : Int)) - (M_ : Int)))) zq)
            refine hs 37 _ rfl _ _ _ _ _ _ _ rfl ?_
            exact hs 38 _ rfl _ _ _ _ _ (rv _) (Nat.zero_le _) (Nat.zero_le _) (hV he_)
          · 
            refine hs 14 _ rfl _ _ _ _ _ _ _ rfl ?_
            refine hs 15 _ rfl _ _ _ _ _ _ _ rfl ?_
            refine hs 16 _ rfl _ _ _ _ _ _ _ (fun zq => absurd (hd_c2z (c := 3) (by omega) (by omega) (by omega) (by omega) zq) (by omega : ¬ (0 ≤ ((i_ : Int) - (M_ : Int))))) (fun _ => ?_)
            refine hs 17 _ rfl _ _ _ _ _ _ _ rfl ?_
            refine hs 18 _ rfl _ _ _ _ _ _ _ rfl ?_
            refine hs 19 _ rfl _ _ _ _ _ _ _ (zt_remq hr_ (by omega) (by omega) (by omega)) ?_
            refine hs 20 _ rfl _ _ _ _ _ _ (fun _ => ?_) (fun zq => absurd (hd_c1t (c := 1) (by omega) (by omega) (by omega : (r_ : Int) ≠ 0)) zq)
            refine hs 35 _ rfl _ _ _ _ _ _ _ (hd_inc rfl) ?_
            refine hs 36 _ rfl _ _ _ _ _ ?_
            refine hs 6 _ rfl _ _ _ _ _ _ _ rfl ?_
            refine hs 7 _ rfl _ _ _ _ _ _ _ rfl ?_
            refine hs 8 _ rfl _ _ _ _ _ _ _ (fun zq => absurd (hd_c2z (c := 4) (by omega) (by omega) (by omega) (by omega) zq) (by omega : ¬ (0 < (((p_ : Int) + (1 : Int)) - (M_ : Int))))) (fun _ => ?_)
            refine hs 9 _ rfl _ _ _ _ _ _ _ rfl ?_
            refine hs 10 _ rfl _ _ _ _ _ _ _ rfl ?_
            refine hs 11 _ rfl _ _ _ _ _ _ _ (fun _ => ?_) (fun zq => absurd (hd_c2t (c := 5) (by omega) (by omega) (by omega) (by omega) (by omega : ((q_ : Int) - (1 : Int)) ≤ 0)) zq)
            refine hs 37 _ rfl _ _ _ _ _ _ _ rfl ?_
            exact hs 38 _ rfl _ _ _ _ _ (rv _) (Nat.zero_le _) (Nat.zero_le _) (hV he_)
        · have pq_ := sk_jl hp_ c1_ nd_
          have r2_ : r_ < p_ := by
            rw [← hr_]
            exact Nat.mod_lt _ (by omega)
          by_cases c2_ : r_ = 0
          · obtain ⟨d_, hd_⟩ : ∃ d_ : Nat, q_ / p_ = d_ := ⟨_, rfl⟩
            obtain ⟨b_, hb_⟩ : ∃ b_ : Nat, A_ % p_ = b_ := ⟨_, rfl⟩
            have b2_ : b_ < p_ := by
              rw [← hb_]
              exact Nat.mod_lt _ (by omega)
            rw [sk_jf.y c1_ (hr_.trans c2_), hd_, hb_] at he_
            obtain ⟨d1_, d2_, d3_⟩ := jb_div hq_ hp_ (hr_.trans c2_) nd_
            rw [hd_] at d1_ d2_ d3_
            have lv_ := sk_lv.bd b_ p_
            have z_ := ih p_ d_ (i_ + 1) (v_ * sk_lv b_ p_) (by omega) hp_ hp9_ d1_ (by omega) d3_ (sk_jm hv_ lv_) he_
            refine hs 14 _ rfl _ _ _ _ _ _ _ rfl ?_
            refine hs 15 _ rfl _ _ _ _ _ _ _ rfl ?_
            refine hs 16 _ rfl _ _ _ _ _ _ _ (fun zq => absurd (hd_c2z (c := 3) (by omega) (by omega) (by omega) (by omega) zq) (by omega : ¬ (0 ≤ ((i_ : Int) - (M_ : Int))))) (fun _ => ?_)
            refine hs 17 _ rfl _ _ _ _ _ _ _ rfl ?_
            refine hs 18 _ rfl _ _ _ _ _ _ _ rfl ?_
            refine hs 19 _ rfl _ _ _ _ _ _ _ (zt_remq hr_ (by omega) (by omega) (by omega)) ?_
            refine hs 20 _ rfl _ _ _ _ _ _ (fun zq => absurd (hd_c1z (c := 1) (by omega) (by omega) zq) (by omega : ¬ ((r_ : Int) ≠ 0))) (fun _ => ?_)
            refine hs 21 _ rfl _ _ _ _ _ _ _ rfl ?_
            refine hs 22 _ rfl _ _ _ _ _ _ _ rfl ?_
            refine hs 23 _ rfl _ _ _ _ _ _ _ rfl ?_
            refine hs 24 _ rfl _ _ _ _ _ _ _ (zt_remq hb_ (by omega) (by omega) (by omega)) ?_
            refine hs 25 _ rfl _ _ _ _ _ _ _ rfl ?_
            refine zw_c (hs 26 _ rfl) (a := [.int (Int32.ofInt (b_ : Int)), .int (Int32.ofInt (p_ : Int))]) (st := [.int (Int32.ofInt v_)]) rfl rfl (Nat.le_of_ble_eq_true rfl) trivial (by omega) (by omega) (sk_leg_M g (A_ := b_) b2_ (by omega) ?_)
            show S 44 [some (.int (Int32.ofInt (A_ : Int))), some (.int (Int32.ofInt (M_ : Int))), some (.int (Int32.ofInt v_)), some (.int (Int32.ofInt (q_ : Int))), some (.int (Int32.ofInt (p_ : Int))), some (.int (Int32.ofInt (i_ : Int)))] [.int (Int32.ofInt (sk_lv b_ p_)), .int (Int32.ofInt v_)] _ _ _
            refine hs 27 _ rfl _ _ _ _ _ _ _ hd_mul ?_
            refine hs 28 _ rfl _ _ _ _ _ _ _ rfl ?_
            refine hs 29 _ rfl _ _ _ _ _ _ _ rfl ?_
            refine hs 30 _ rfl _ _ _ _ _ _ _ rfl ?_
            refine hs 31 _ rfl _ _ _ _ _ _ _ (zt_divq hd_ (by omega) (by omega) (by omega)) ?_
            refine hs 32 _ rfl _ _ _ _ _ _ _ rfl ?_
            refine hs 33 _ rfl _ _ _ _ _ _ _ (hd_inc rfl) ?_
            refine hs 34 _ rfl _ _ _ _ _ ?_
            exact z_
          · have ne_ : ¬ q_ = p_ := fun y_ => by
              rw [y_, Nat.mod_self] at hr_
              exact c2_ hr_.symm
            rw [sk_jf.n c1_ (fun y_ => c2_ (hr_.symm.trans y_))] at he_
            have z_ := ih (p_ + 1) q_ 0 v_ (by omega) (by omega) (by omega) hq_ (by omega) (sk_jn (fun y_ => c2_ (hr_.symm.trans y_)) nd_) hv_ he_
            refine hs 14 _ rfl _ _ _ _ _ _ _ rfl ?_
            refine hs 15 _ rfl _ _ _ _ _ _ _ rfl ?_
            refine hs 16 _ rfl _ _ _ _ _ _ _ (fun zq => absurd (hd_c2z (c := 3) (by omega) (by omega) (by omega) (by omega) zq) (by omega : ¬ (0 ≤ ((i_ : Int) - (M_ : Int))))) (fun _ => ?_)
            refine hs 17 _ rfl _ _ _ _ _ _ _ rfl ?_
            refine hs 18 _ rfl _ _ _ _ _ _ _ rfl ?_
            refine hs 19 _ rfl _ _ _ _ _ _ _ (zt_remq hr_ (by omega) (by omega) (by omega)) ?_
            refine hs 20 _ rfl _ _ _ _ _ _ (fun _ => ?_) (fun zq => absurd (hd_c1t (c := 1) (by omega) (by omega) (by omega : (r_ : Int) ≠ 0)) zq)
            refine hs 35 _ rfl _ _ _ _ _ _ _ (hd_inc rfl) ?_
            refine hs 36 _ rfl _ _ _ _ _ ?_
            refine hs 6 _ rfl _ _ _ _ _ _ _ rfl ?_
            refine hs 7 _ rfl _ _ _ _ _ _ _ rfl ?_
            refine hs 8 _ rfl _ _ _ _ _ _ _ (fun zq => absurd (hd_c2z (c := 4) (by omega) (by omega) (by omega) (by omega) zq) (by omega : ¬ (0 < (((p_ : Int) + (1 : Int)) - (M_ : Int))))) (fun _ => ?_)
            refine hs 9 _ rfl _ _ _ _ _ _ _ rfl ?_
            refine hs 10 _ rfl _ _ _ _ _ _ _ rfl ?_
            refine hs 11 _ rfl _ _ _ _ _ _ _ (fun zq => absurd (hd_c2z (c := 5) (by omega) (by omega) (by omega) (by omega) zq) (by omega : ¬ (((q_ : Int) - (1 : Int)) ≤ 0))) (fun _ => ?_)
            refine hs 12 _ rfl _ _ _ _ _ _ _ rfl ?_
            refine hs 13 _ rfl _ _ _ _ _ _ _ rfl ?_
            exact z_
    refine hs 0 _ rfl _ _ _ _ _ _ _ rfl ?_
    refine hs 1 _ rfl _ _ _ _ _ _ _ rfl ?_
    refine hs 2 _ rfl _ _ _ _ _ _ _ rfl ?_
    refine hs 3 _ rfl _ _ _ _ _ _ _ rfl ?_
    refine hs 4 _ rfl _ _ _ _ _ _ _ rfl ?_
    refine hs 5 _ rfl _ _ _ _ _ _ _ rfl ?_
    refine hs 6 _ rfl _ _ _ _ _ _ _ rfl ?_
    refine hs 7 _ rfl _ _ _ _ _ _ _ rfl ?_
    refine hs 8 _ rfl _ _ _ _ _ _ _ (fun zq => absurd (hd_c2z (c := 4) (by omega) (by omega) (by omega) (by omega) zq) (by omega : ¬ (0 < ((2 : Int) - (M_ : Int))))) (fun _ => ?_)
    refine hs 9 _ rfl _ _ _ _ _ _ _ rfl ?_
    refine hs 10 _ rfl _ _ _ _ _ _ _ rfl ?_
    refine hs 11 _ rfl _ _ _ _ _ _ _ (fun zq => absurd (hd_c2z (c := 5) (by omega) (by omega) (by omega) (by omega) zq) (by omega : ¬ (((M_ : Int) - (1 : Int)) ≤ 0))) (fun _ => ?_)
    refine hs 12 _ rfl _ _ _ _ _ _ _ rfl ?_
    refine hs 13 _ rfl _ _ _ _ _ _ _ rfl ?_
    show S 21 [some (.int (Int32.ofInt (A_ : Int))), some (.int (Int32.ofInt (M_ : Int))), some (.int (Int32.ofInt (1 : Int))), some (.int (Int32.ofInt (M_ : Int))), some (.int (Int32.ofInt (2 : Int))), some (.int (Int32.ofInt (0 : Int)))] [] _ _ _
    exact loop 1000 2 M_ 0 1 (by omega) (by decide) (by omega) (by omega) (by omega) (fun d h1 h2 => absurd h2 (by omega)) (by decide) rfl
theorem sk_jacE_M {l : Launch} {G : am_G} {X : ck_XT} (g : gM l G X) {a m : Int} {h : List am_C} (ha : 0 ≤ a) (ka : a < m) (hm : m ≤ 400) (ho : ¬ m % 2 = 0) {mc ms : Nat} {Post : am_O → List am_C → Prop} (hP : Post (.inl (some (.int (Int32.ofInt (sk_jc a.toNat m.toNat))))) h) :
    am_M l G yX7_jacobiOf (.code yX7_jacobiOf prog_9_method_15_code 6 (some .int)) 3 65 mc ms [.int (Int32.ofInt a), .int (Int32.ofInt m)] h Post := by
  obtain ⟨A_, rfl⟩ : ∃ x_ : Nat, a = (x_ : Int) := ⟨a.toNat, by omega⟩
  obtain ⟨M_, rfl⟩ : ∃ x_ : Nat, m = (x_ : Int) := ⟨m.toNat, by omega⟩
  rw [Int.toNat_natCast, Int.toNat_natCast, ← sk_jc.eq (by omega)] at hP
  exact sk_jac_M g (by omega) (by omega) hP
set_option maxHeartbeats 4000000 in
theorem zc_qjacobi_M {l : Launch} {G : am_G} {X : ck_XT} (g : gM l G X) {x : Nat} {r : Nat → Nat} {jj mm kk : Int} {c : sp_S} {R : Nat → sp_S} {old cnt : Nat} {h : List am_C} (hX : zc_x G h x r jj mm kk c R old cnt) {e : Int} (he1 : -2147483648 ≤ e) (he2 : e ≤ 2147483647) {e2 : Int} {mc ms : Nat} {Post : am_O → List am_C → Prop} (hmc : 1 ≤ mc) (hms : 6 ≤ ms)
    (hP : (0 ≤ e ∧ e < 6) → ∀ a : Int, sp_r43 e e2 (c, zc_l R old cnt, jj, mm, kk) a → Post (.inl (some (.int (Int32.ofInt a)))) h)
    (hX2 : ¬ ((0 ≤ e ∧ e < 6)) → Post (.inr "java/lang/IndexOutOfBoundsException") (h ++ [(99, [])])) :
    am_M l G yX10_jacobi (.code yX10_jacobi prog_1_method_43_code 3 (some .int)) 7 111 mc ms [.ref x, .int (Int32.ofInt e)] h Post := by
  have hx9_ := hX.2.2.2.2.2.2.2
  by_cases c1_ : 0 ≤ e ∧ e < 6
  rotate_left
  · 
    refine gh_yX10_jacobi_X g (Nat.le_of_ble_eq_true rfl) fun S SX hs hr hw hx => ?_
    have rv : ∀ x : Int32, ck_fv 0 (.int x) := fun x => ⟨_, rfl⟩
    refine hs 0 _ rfl _ _ _ _ _ _ _ rfl ?_
    refine hs 1 _ rfl _ _ _ _ _ _ _ rfl ?_
    exact zw_cm (hs 2 _ rfl) (a := [.ref x, .int (Int32.ofInt e)]) (st := []) 1 6 rfl rfl (Nat.le_of_ble_eq_true rfl) ⟨_, _, _, rfl, (hX.1), rfl⟩ (by omega) (by omega) (zc_numAtX_M g hX he1 he2 (by omega) (by decide) (by decide) (hx _ _ _ _ _ _ (by omega) (by omega) (hX2 c1_)))
  · have hP_ := hP c1_
    obtain ⟨i, rfl⟩ : ∃ i : Nat, e = (i : Int) := ⟨e.toNat, by omega⟩
    have hi : i < 6 := by omega
    obtain ⟨ny_, sy_, ly_, y1_, y2_, y3_⟩ := hX.2.1.n hi
    refine gh_yX10_jacobi_X g (Nat.le_of_ble_eq_true rfl) fun S SX hs hr hw hx => ?_
    have rv : ∀ x : Int32, ck_fv 0 (.int x) := fun x => ⟨_, rfl⟩
    have hb_ := hX.2.2.1.1
    by_cases cj_ : c.1 ≤ 0
    · 
      refine hs 0 _ rfl _ _ _ _ _ _ _ rfl ?_
      refine hs 1 _ rfl _ _ _ _ _ _ _ rfl ?_
      refine zw_c (hs 2 _ rfl) (a := [.ref x, .int (Int32.ofInt (i : Int))]) (st := []) rfl rfl (Nat.le_of_ble_eq_true rfl) ⟨_, _, _, rfl, hX.1, rfl⟩ (by omega) (by omega) (zc_numAt_M g hX (i := i) rfl hi ?_)
      show S 5 [some (.ref x), some (.int (Int32.ofInt (i : Int))), none] [.ref (x + 1 + 5 + 2 * i)] _ _ _
      refine hs 3 _ rfl _ _ _ _ _ _ _ rfl ?_
      refine hs 4 _ rfl _ _ _ _ _ _ _ rfl ?_
      refine zw_c (hs 5 _ rfl) (a := [.ref x]) (st := []) rfl rfl (Nat.le_of_ble_eq_true rfl) ⟨_, _, _, rfl, hX.1, rfl⟩ (by omega) (by omega) (zc_jam_M g hX (fun _ => ?_) (fun y_ => absurd y_ (by omega)))
      show S 10 [some (.ref x), some (.int (Int32.ofInt (i : Int))), some (.ref (x + 1 + 5 + 2 * i))] [.int (Int32.ofInt (1 : Int))] _ _ _
      refine hs 6 _ rfl _ _ _ _ _ _ (fun zq => absurd (hd_c1z (c := 0) (by omega) (by omega) zq) (by omega : ¬ ((1 : Int) = 0))) (fun _ => ?_)
      refine hs 7 _ rfl _ _ _ _ _ _ _ rfl ?_
      exact hs 8 _ rfl _ _ _ _ _ (rv _) (Nat.zero_le _) (Nat.zero_le _) (hP_ _ (Or.inl ⟨cj_, rfl⟩))
    · have r1_ := Int.emod_nonneg (c.2.1.getD i 0) (b := c.1) (by omega)
      have r2_ := Int.emod_lt_of_pos (c.2.1.getD i 0) (b := c.1) (by omega)
      by_cases y_ : c.1 % 2 = 0
      · have jb_ : (-8 : Int) = sk_jb (c.2.1.getD i 0 % c.1).toNat c.1 := by unfold sk_jb; rw [if_pos y_]
        refine hs 0 _ rfl _ _ _ _ _ _ _ rfl ?_
        refine hs 1 _ rfl _ _ _ _ _ _ _ rfl ?_
        refine zw_c (hs 2 _ rfl) (a := [.ref x, .int (Int32.ofInt (i : Int))]) (st := []) rfl rfl (Nat.le_of_ble_eq_true rfl) ⟨_, _, _, rfl, hX.1, rfl⟩ (by omega) (by omega) (zc_numAt_M g hX (i := i) rfl hi ?_)
        show S 5 [some (.ref x), some (.int (Int32.ofInt (i : Int))), none] [.ref (x + 1 + 5 + 2 * i)] _ _ _
        refine hs 3 _ rfl _ _ _ _ _ _ _ rfl ?_
        refine hs 4 _ rfl _ _ _ _ _ _ _ rfl ?_
        refine zw_c (hs 5 _ rfl) (a := [.ref x]) (st := []) rfl rfl (Nat.le_of_ble_eq_true rfl) ⟨_, _, _, rfl, hX.1, rfl⟩ (by omega) (by omega) (zc_jam_M g hX (fun y_ => absurd y_ (by omega)) (fun _ => ?_))
        show S 10 [some (.ref x), some (.int (Int32.ofInt (i : Int))), some (.ref (x + 1 + 5 + 2 * i))] [.int (Int32.ofInt (0 : Int))] _ _ _
        refine hs 6 _ rfl _ _ _ _ _ _ (fun _ => ?_) (fun zq => absurd (hd_c1t (c := 0) (by omega) (by omega) (by omega : (0 : Int) = 0)) zq)
        refine hs 9 _ rfl _ _ _ _ _ _ _ rfl ?_
        refine hs 10 _ rfl _ _ _ _ _ _ _ _ _ (hX.1) rfl rfl ?_
        refine hs 11 _ rfl _ _ _ _ _ _ _ _ _ (hX.2.1.d) rfl rfl ?_
        refine hs 12 _ rfl _ _ _ _ _ _ _ rfl ?_
        refine hs 13 _ rfl _ _ _ _ _ _ _ (hd_rem (by omega) (by omega) (by omega) (by omega)) ?_
        refine hs 14 _ rfl _ _ _ _ _ _ (fun zq => absurd (hd_c1z (c := 1) (by omega) (by omega) zq) (by omega : ¬ ((c.1 % (2 : Int)) ≠ 0))) (fun _ => ?_)
        refine hs 15 _ rfl _ _ _ _ _ _ _ rfl ?_
        exact hs 16 _ rfl _ _ _ _ _ (rv _) (Nat.zero_le _) (Nat.zero_le _) (hP_ _ (Or.inr ⟨by show 0 < c.1; omega, jb_⟩))
      · have jb_ : sk_jc (c.2.1.getD i 0 % c.1).toNat c.1.toNat = sk_jb (c.2.1.getD i 0 % c.1).toNat c.1 := by unfold sk_jb; rw [if_neg y_]
        refine hs 0 _ rfl _ _ _ _ _ _ _ rfl ?_
        refine hs 1 _ rfl _ _ _ _ _ _ _ rfl ?_
        refine zw_c (hs 2 _ rfl) (a := [.ref x, .int (Int32.ofInt (i : Int))]) (st := []) rfl rfl (Nat.le_of_ble_eq_true rfl) ⟨_, _, _, rfl, hX.1, rfl⟩ (by omega) (by omega) (zc_numAt_M g hX (i := i) rfl hi ?_)
        show S 5 [some (.ref x), some (.int (Int32.ofInt (i : Int))), none] [.ref (x + 1 + 5 + 2 * i)] _ _ _
        refine hs 3 _ rfl _ _ _ _ _ _ _ rfl ?_
        refine hs 4 _ rfl _ _ _ _ _ _ _ rfl ?_
        refine zw_c (hs 5 _ rfl) (a := [.ref x]) (st := []) rfl rfl (Nat.le_of_ble_eq_true rfl) ⟨_, _, _, rfl, hX.1, rfl⟩ (by omega) (by omega) (zc_jam_M g hX (fun y_ => absurd y_ (by omega)) (fun _ => ?_))
        show S 10 [some (.ref x), some (.int (Int32.ofInt (i : Int))), some (.ref (x + 1 + 5 + 2 * i))] [.int (Int32.ofInt (0 : Int))] _ _ _
        refine hs 6 _ rfl _ _ _ _ _ _ (fun _ => ?_) (fun zq => absurd (hd_c1t (c := 0) (by omega) (by omega) (by omega : (0 : Int) = 0)) zq)
        refine hs 9 _ rfl _ _ _ _ _ _ _ rfl ?_
        refine hs 10 _ rfl _ _ _ _ _ _ _ _ _ (hX.1) rfl rfl ?_
        refine hs 11 _ rfl _ _ _ _ _ _ _ _ _ (hX.2.1.d) rfl rfl ?_
        refine hs 12 _ rfl _ _ _ _ _ _ _ rfl ?_
        refine hs 13 _ rfl _ _ _ _ _ _ _ (hd_rem (by omega) (by omega) (by omega) (by omega)) ?_
        refine hs 14 _ rfl _ _ _ _ _ _ (fun _ => ?_) (fun zq => absurd (hd_c1t (c := 1) (by omega) (by omega) (by omega : (c.1 % (2 : Int)) ≠ 0)) zq)
        refine hs 17 _ rfl _ _ _ _ _ _ _ rfl ?_
        refine hs 18 _ rfl _ _ _ _ _ _ _ rfl ?_
        refine hs 19 _ rfl _ _ _ _ _ _ _ _ _ (hX.1) rfl rfl ?_
        refine hs 20 _ rfl _ _ _ _ _ _ _ _ _ (hX.2.1.d) rfl rfl ?_
        refine zw_c (hs 21 _ rfl) (a := [.ref (x + 1 + 5 + 2 * i), .int (Int32.ofInt c.1)]) (st := []) rfl rfl (Nat.le_of_ble_eq_true rfl) ⟨_, _, _, rfl, y1_, rfl⟩ (by omega) (by omega) (sb_restE_M g y1_ rfl y2_ rfl y3_ (by omega) (by omega) ?_)
        show S 42 [some (.ref x), some (.int (Int32.ofInt (i : Int))), some (.ref (x + 1 + 5 + 2 * i))] [.int (Int32.ofInt ((c.2.1.getD i 0) % c.1))] _ _ _
        refine hs 22 _ rfl _ _ _ _ _ _ _ rfl ?_
        refine hs 23 _ rfl _ _ _ _ _ _ _ _ _ (hX.1) rfl rfl ?_
        refine hs 24 _ rfl _ _ _ _ _ _ _ _ _ (hX.2.1.d) rfl rfl ?_
        refine zw_c (hs 25 _ rfl) (a := [.int (Int32.ofInt ((c.2.1.getD i 0) % c.1)), .int (Int32.ofInt c.1)]) (st := []) rfl rfl (Nat.le_of_ble_eq_true rfl) trivial (by omega) (by omega) (sk_jacE_M g r1_ r2_ (by omega) y_ ?_)
        show S 52 [some (.ref x), some (.int (Int32.ofInt (i : Int))), some (.ref (x + 1 + 5 + 2 * i))] [.int (Int32.ofInt (sk_jc (c.2.1.getD i 0 % c.1).toNat c.1.toNat))] _ _ _
        exact hs 26 _ rfl _ _ _ _ _ (rv _) (Nat.zero_le _) (Nat.zero_le _) (hP_ _ (Or.inr ⟨by show 0 < c.1; omega, jb_⟩))
set_option maxHeartbeats 4000000 in
theorem zm_jacAt_M {l : Launch} {G : am_G} {X : ck_XT} (g : gM l G X) {o : Nat → Nat} {x tx now qw : Nat} {th j m k : Int} {c : sp_S} {P : List sp_S} {h : List am_C} (hX : zm_x G h o x tx now qw th j m k c P) (hok : sp_ok c) {i : Nat} (hi : i < 6) {mc ms : Nat} {Post : am_O → List am_C → Prop}
    (hJ : c.1 ≤ 0 → Post (.inl (some (.int (Int32.ofInt (-9))))) h) (hP : 0 < c.1 → Post (.inl (some (.int (Int32.ofInt (sk_jb (c.2.1.getD i 0 % c.1).toNat c.1)))) ) h) :
    am_M l G yX14_jacobiAt (.code yX14_jacobiAt prog_14_method_80_code 6 (some .int)) 3 64 mc ms [.ref x, .int (Int32.ofInt (i : Int))] h Post := by
  refine gh_yX14_jacobiAt_X g (Nat.le_of_ble_eq_true rfl) fun S SX hs hr hw hx => ?_
  have rv : ∀ x : Int32, ck_fv 0 (.int x) := fun x => ⟨_, rfl⟩
  obtain ⟨a1_, a2_, a3_, a4_⟩ := id hX
  obtain ⟨t_, qn_, ql_, qb_, s1_, up_⟩ := hX.dialL
  have okd_ := hok.1
  by_cases cj_ : c.1 ≤ 0
  · 
    refine hs 0 _ rfl _ _ _ _ _ _ _ rfl ?_
    refine zw_c (hs 1 _ rfl) (a := [.ref x]) (st := []) rfl rfl (Nat.le_of_ble_eq_true rfl) ⟨_, _, _, rfl, a1_, a2_.1⟩ (by omega) (by omega) (zm_jam_M g hX hok (fun y_ => ?_) (fun y_ => absurd y_ (by omega)))
    show S 4 [some (.ref x), some (.int (Int32.ofInt (i : Int))), none, none, none, none] [.int (Int32.ofInt (1 : Int))] _ _ _
    refine hs 2 _ rfl _ _ _ _ _ _ (fun zq => absurd (hd_c1z (c := 0) (by omega) (by omega) zq) (by omega : ¬ ((1 : Int) = 0))) (fun _ => ?_)
    refine hs 3 _ rfl _ _ _ _ _ _ _ rfl ?_
    exact hs 4 _ rfl _ _ _ _ _ (rv _) (Nat.zero_le _) (Nat.zero_le _) (hJ cj_)
  · have r1_ := Int.emod_nonneg (c.2.1.getD i 0) (b := c.1) (by omega)
    have r2_ := Int.emod_lt_of_pos (c.2.1.getD i 0) (b := c.1) (by omega)
    have hP := hP (by omega)
    by_cases y_ : c.1 % 2 = 0
    · rw [show sk_jb (c.2.1.getD i 0 % c.1).toNat c.1 = -8 by unfold sk_jb; rw [if_pos y_]] at hP
      refine hs 0 _ rfl _ _ _ _ _ _ _ rfl ?_
      refine zw_c (hs 1 _ rfl) (a := [.ref x]) (st := []) rfl rfl (Nat.le_of_ble_eq_true rfl) ⟨_, _, _, rfl, a1_, a2_.1⟩ (by omega) (by omega) (zm_jam_M g hX hok (fun y_ => absurd y_ (by omega)) (fun y_ => ?_))
      show S 4 [some (.ref x), some (.int (Int32.ofInt (i : Int))), none, none, none, none] [.int (Int32.ofInt (0 : Int))] _ _ _
      refine hs 2 _ rfl _ _ _ _ _ _ (fun _ => ?_) (fun zq => absurd (hd_c1t (c := 0) (by omega) (by omega) (by omega : (0 : Int) = 0)) zq)
      refine hs 5 _ rfl _ _ _ _ _ _ _ rfl ?_
      refine hs 6 _ rfl _ _ _ _ _ _ _ _ _ (a1_) a2_.1 rfl ?_
      refine hs 7 _ rfl _ _ _ _ _ _ _ _ _ (s1_.1) s1_.2 rfl ?_
      refine hs 8 _ rfl _ _ _ _ _ _ _ rfl ?_
      refine hs 9 _ rfl _ _ _ _ _ _ _ (hd_rem (by omega) (by omega) (by omega) (by omega)) ?_
      refine hs 10 _ rfl _ _ _ _ _ _ (fun zq => absurd (hd_c1z (c := 1) (by omega) (by omega) zq) (by omega : ¬ ((c.1 % (2 : Int)) ≠ 0))) (fun _ => ?_)
      refine hs 11 _ rfl _ _ _ _ _ _ _ rfl ?_
      exact hs 12 _ rfl _ _ _ _ _ (rv _) (Nat.zero_le _) (Nat.zero_le _) hP
    · rw [show sk_jb (c.2.1.getD i 0 % c.1).toNat c.1 = sk_jc (c.2.1.getD i 0 % c.1).toNat c.1.toNat by unfold sk_jb; rw [if_neg y_]] at hP
      obtain ⟨M_, hM_⟩ : ∃ M_ : Nat, c.1 = (M_ : Int) := ⟨c.1.toNat, by omega⟩
      obtain ⟨A_, hA_⟩ : ∃ A_ : Nat, c.2.1.getD i 0 % c.1 = (A_ : Int) := ⟨(c.2.1.getD i 0 % c.1).toNat, by omega⟩
      rw [hA_, show c.1.toNat = M_ by omega, Int.toNat_natCast] at hP
      have s1_ := s1_
      rw [hM_] at s1_
      have ha_ : A_ < M_ := by omega
      have hV : ∀ {w : Int}, w = sk_jf A_ 999 3 M_ 1 → Post (.inl (some (.int (Int32.ofInt w)))) h := fun hw => by
        rw [hw]
        exact hP
      have loop : ∀ (f_ p_ q_ : Nat) (v_ : Int), q_ + (M_ + 1 - p_) ≤ f_ → 2 ≤ p_ → p_ ≤ M_ + 1 → 1 ≤ q_ → q_ ≤ M_ → (∀ d : Nat, 2 ≤ d → d < p_ → ¬ q_ % d = 0) → -1 ≤ v_ ∧ v_ ≤ 1 → sk_jf A_ f_ p_ q_ v_ = sk_jf A_ 999 3 M_ 1 → S 51 [some (.ref x), some (.int (Int32.ofInt (i : Int))), some (.int (Int32.ofInt (A_ : Int))), some (.int (Int32.ofInt v_)), some (.int (Int32.ofInt (q_ : Int))), some (.int (Int32.ofInt (p_ : Int)))] [] h 0 0 := by
        intro f_
        induction f_ with
        | zero =>
          intro p_ q_ v_ hf_ hp_ hp9_ hq_ hi_ nd_ hv_ he_
          omega
        | succ f_ ih =>
          intro p_ q_ v_ hf_ hp_ hp9_ hq_ hi_ nd_ hv_ he_
          obtain ⟨r_, hr_⟩ : ∃ r_ : Nat, q_ % p_ = r_ := ⟨_, rfl⟩
          by_cases c1_ : q_ ≤ 1
          · rw [sk_jf.z c1_] at he_
            have r1_ : r_ = 1 := by
              rw [← hr_, show q_ = 1 by omega]
              exact Nat.mod_eq_of_lt (by omega)
            refine hs 28 _ rfl _ _ _ _ _ _ _ rfl ?_
            refine hs 29 _ rfl _ _ _ _ _ _ _ rfl ?_
            refine hs 30 _ rfl _ _ _ _ _ _ _ (zt_remq hr_ (by omega) (by omega) (by omega)) ?_
            refine hs 31 _ rfl _ _ _ _ _ _ (fun _ => ?_) (fun zq => absurd (hd_c1t (c := 1) (by omega) (by omega) (by omega : (r_ : Int) ≠ 0)) zq)
            refine hs 43 _ rfl _ _ _ _ _ _ _ (hd_inc rfl) ?_
            refine hs 44 _ rfl _ _ _ _ _ ?_
            refine hs 25 _ rfl _ _ _ _ _ _ _ rfl ?_
            refine hs 26 _ rfl _ _ _ _ _ _ _ rfl ?_
            refine hs 27 _ rfl _ _ _ _ _ _ _ (fun _ => ?_) (fun zq => absurd (hd_c2t (c := 5) (by omega) (by omega) (by omega) (by omega) (by omega : ((q_ : Int) - (1 : Int)) ≤ 0)) zq)
            refine hs 45 _ rfl _ _ _ _ _ _ _ rfl ?_
            exact hs 46 _ rfl _ _ _ _ _ (rv _) (Nat.zero_le _) (Nat.zero_le _) (hV he_)
          · have pq_ := sk_jl hp_ c1_ nd_
            have r2_ : r_ < p_ := by
              rw [← hr_]
              exact Nat.mod_lt _ (by omega)
            by_cases c2_ : r_ = 0
            · obtain ⟨d_, hd_⟩ : ∃ d_ : Nat, q_ / p_ = d_ := ⟨_, rfl⟩
              obtain ⟨b_, hb_⟩ : ∃ b_ : Nat, A_ % p_ = b_ := ⟨_, rfl⟩
              have b2_ : b_ < p_ := by
                rw [← hb_]
                exact Nat.mod_lt _ (by omega)
              rw [sk_jf.y c1_ (hr_.trans c2_), hd_, hb_] at he_
              obtain ⟨d1_, d2_, d3_⟩ := jb_div hq_ hp_ (hr_.trans c2_) nd_
              rw [hd_] at d1_ d2_ d3_
              have lv_ := sk_lv.bd b_ p_
              have z_ := ih p_ d_ (v_ * sk_lv b_ p_) (by omega) hp_ hp9_ d1_ (by omega) d3_ (sk_jm hv_ lv_) he_
              refine hs 28 _ rfl _ _ _ _ _ _ _ rfl ?_
              refine hs 29 _ rfl _ _ _ _ _ _ _ rfl ?_
              refine hs 30 _ rfl _ _ _ _ _ _ _ (zt_remq hr_ (by omega) (by omega) (by omega)) ?_
              refine hs 31 _ rfl _ _ _ _ _ _ (fun zq => absurd (hd_c1z (c := 1) (by omega) (by omega) zq) (by omega : ¬ ((r_ : Int) ≠ 0))) (fun _ => ?_)
              refine hs 32 _ rfl _ _ _ _ _ _ _ rfl ?_
              refine hs 33 _ rfl _ _ _ _ _ _ _ rfl ?_
              refine hs 34 _ rfl _ _ _ _ _ _ _ rfl ?_
              refine zw_c (hs 35 _ rfl) (a := [.int (Int32.ofInt (A_ : Int)), .int (Int32.ofInt (p_ : Int))]) (st := [.int (Int32.ofInt v_)]) rfl rfl (Nat.le_of_ble_eq_true rfl) trivial (by omega) (by omega) (zk_legG_M g hb_ (by omega) (by omega) (by omega) ?_)
              show S 66 [some (.ref x), some (.int (Int32.ofInt (i : Int))), some (.int (Int32.ofInt (A_ : Int))), some (.int (Int32.ofInt v_)), some (.int (Int32.ofInt (q_ : Int))), some (.int (Int32.ofInt (p_ : Int)))] [.int (Int32.ofInt (sk_lv b_ p_)), .int (Int32.ofInt v_)] _ _ _
              refine hs 36 _ rfl _ _ _ _ _ _ _ hd_mul ?_
              refine hs 37 _ rfl _ _ _ _ _ _ _ rfl ?_
              refine hs 38 _ rfl _ _ _ _ _ _ _ rfl ?_
              refine hs 39 _ rfl _ _ _ _ _ _ _ rfl ?_
              refine hs 40 _ rfl _ _ _ _ _ _ _ (zt_divq hd_ (by omega) (by omega) (by omega)) ?_
              refine hs 41 _ rfl _ _ _ _ _ _ _ rfl ?_
              refine hs 42 _ rfl _ _ _ _ _ ?_
              exact z_
            · have ne_ : ¬ q_ = p_ := fun y_ => by
                rw [y_, Nat.mod_self] at hr_
                exact c2_ hr_.symm
              rw [sk_jf.n c1_ (fun y_ => c2_ (hr_.symm.trans y_))] at he_
              have z_ := ih (p_ + 1) q_ v_ (by omega) (by omega) (by omega) hq_ (by omega) (sk_jn (fun y_ => c2_ (hr_.symm.trans y_)) nd_) hv_ he_
              refine hs 28 _ rfl _ _ _ _ _ _ _ rfl ?_
              refine hs 29 _ rfl _ _ _ _ _ _ _ rfl ?_
              refine hs 30 _ rfl _ _ _ _ _ _ _ (zt_remq hr_ (by omega) (by omega) (by omega)) ?_
              refine hs 31 _ rfl _ _ _ _ _ _ (fun _ => ?_) (fun zq => absurd (hd_c1t (c := 1) (by omega) (by omega) (by omega : (r_ : Int) ≠ 0)) zq)
              refine hs 43 _ rfl _ _ _ _ _ _ _ (hd_inc rfl) ?_
              refine hs 44 _ rfl _ _ _ _ _ ?_
              refine hs 25 _ rfl _ _ _ _ _ _ _ rfl ?_
              refine hs 26 _ rfl _ _ _ _ _ _ _ rfl ?_
              refine hs 27 _ rfl _ _ _ _ _ _ _ (fun zq => absurd (hd_c2z (c := 5) (by omega) (by omega) (by omega) (by omega) zq) (by omega : ¬ (((q_ : Int) - (1 : Int)) ≤ 0))) (fun _ => ?_)
              exact z_
      by_cases c0_ : M_ ≤ 1
      · have m1_ : M_ = 1 := by omega
        refine hs 0 _ rfl _ _ _ _ _ _ _ rfl ?_
        refine zw_c (hs 1 _ rfl) (a := [.ref x]) (st := []) rfl rfl (Nat.le_of_ble_eq_true rfl) ⟨_, _, _, rfl, a1_, a2_.1⟩ (by omega) (by omega) (zm_jam_M g hX hok (fun y_ => absurd y_ (by omega)) (fun y_ => ?_))
        show S 4 [some (.ref x), some (.int (Int32.ofInt (i : Int))), none, none, none, none] [.int (Int32.ofInt (0 : Int))] _ _ _
        refine hs 2 _ rfl _ _ _ _ _ _ (fun _ => ?_) (fun zq => absurd (hd_c1t (c := 0) (by omega) (by omega) (by omega : (0 : Int) = 0)) zq)
        refine hs 5 _ rfl _ _ _ _ _ _ _ rfl ?_
        refine hs 6 _ rfl _ _ _ _ _ _ _ _ _ (a1_) a2_.1 rfl ?_
        refine hs 7 _ rfl _ _ _ _ _ _ _ _ _ (s1_.1) s1_.2 rfl ?_
        refine hs 8 _ rfl _ _ _ _ _ _ _ rfl ?_
        refine hs 9 _ rfl _ _ _ _ _ _ _ (hd_rem (by omega) (by omega) (by omega) (by omega)) ?_
        refine hs 10 _ rfl _ _ _ _ _ _ (fun _ => ?_) (fun zq => absurd (hd_c1t (c := 1) (by omega) (by omega) (by omega : ((M_ : Int) % (2 : Int)) ≠ 0)) zq)
        refine hs 13 _ rfl _ _ _ _ _ _ _ rfl ?_
        refine hs 14 _ rfl _ _ _ _ _ _ _ rfl ?_
        refine zw_c (hs 15 _ rfl) (a := [.ref x, .int (Int32.ofInt (i : Int))]) (st := []) rfl rfl (Nat.le_of_ble_eq_true rfl) ⟨_, _, _, rfl, a1_, a2_.1⟩ (by omega) (by omega) (zm_modAt_M g hX hok rfl hi (fun y_ => absurd y_ (by omega)) (fun y_ => ?_))
        rw [hA_]
        show S 30 [some (.ref x), some (.int (Int32.ofInt (i : Int))), none, none, none, none] [.int (Int32.ofInt (A_ : Int))] _ _ _
        refine hs 16 _ rfl _ _ _ _ _ _ _ rfl ?_
        refine hs 17 _ rfl _ _ _ _ _ _ _ rfl ?_
        refine hs 18 _ rfl _ _ _ _ _ _ _ rfl ?_
        refine hs 19 _ rfl _ _ _ _ _ _ _ rfl ?_
        refine hs 20 _ rfl _ _ _ _ _ _ _ _ _ (a1_) a2_.1 rfl ?_
        refine hs 21 _ rfl _ _ _ _ _ _ _ _ _ (s1_.1) s1_.2 rfl ?_
        refine hs 22 _ rfl _ _ _ _ _ _ _ rfl ?_
        refine hs 23 _ rfl _ _ _ _ _ _ _ rfl ?_
        refine hs 24 _ rfl _ _ _ _ _ _ _ rfl ?_
        show S 45 [some (.ref x), some (.int (Int32.ofInt (i : Int))), some (.int (Int32.ofInt (A_ : Int))), some (.int (Int32.ofInt (1 : Int))), some (.int (Int32.ofInt (M_ : Int))), some (.int (Int32.ofInt (3 : Int)))] [] _ _ _
        refine hs 25 _ rfl _ _ _ _ _ _ _ rfl ?_
        refine hs 26 _ rfl _ _ _ _ _ _ _ rfl ?_
        refine hs 27 _ rfl _ _ _ _ _ _ _ (fun _ => ?_) (fun zq => absurd (hd_c2t (c := 5) (by omega) (by omega) (by omega) (by omega) (by omega : ((M_ : Int) - (1 : Int)) ≤ 0)) zq)
        refine hs 45 _ rfl _ _ _ _ _ _ _ rfl ?_
        exact hs 46 _ rfl _ _ _ _ _ (rv _) (Nat.zero_le _) (Nat.zero_le _) (hV (sk_jf.z (f := 998) (by omega)).symm)
      · 
        refine hs 0 _ rfl _ _ _ _ _ _ _ rfl ?_
        refine zw_c (hs 1 _ rfl) (a := [.ref x]) (st := []) rfl rfl (Nat.le_of_ble_eq_true rfl) ⟨_, _, _, rfl, a1_, a2_.1⟩ (by omega) (by omega) (zm_jam_M g hX hok (fun y_ => absurd y_ (by omega)) (fun y_ => ?_))
        show S 4 [some (.ref x), some (.int (Int32.ofInt (i : Int))), none, none, none, none] [.int (Int32.ofInt (0 : Int))] _ _ _
        refine hs 2 _ rfl _ _ _ _ _ _ (fun _ => ?_) (fun zq => absurd (hd_c1t (c := 0) (by omega) (by omega) (by omega : (0 : Int) = 0)) zq)
        refine hs 5 _ rfl _ _ _ _ _ _ _ rfl ?_
        refine hs 6 _ rfl _ _ _ _ _ _ _ _ _ (a1_) a2_.1 rfl ?_
        refine hs 7 _ rfl _ _ _ _ _ _ _ _ _ (s1_.1) s1_.2 rfl ?_
        refine hs 8 _ rfl _ _ _ _ _ _ _ rfl ?_
        refine hs 9 _ rfl _ _ _ _ _ _ _ (hd_rem (by omega) (by omega) (by omega) (by omega)) ?_
        refine hs 10 _ rfl _ _ _ _ _ _ (fun _ => ?_) (fun zq => absurd (hd_c1t (c := 1) (by omega) (by omega) (by omega : ((M_ : Int) % (2 : Int)) ≠ 0)) zq)
        refine hs 13 _ rfl _ _ _ _ _ _ _ rfl ?_
        refine hs 14 _ rfl _ _ _ _ _ _ _ rfl ?_
        refine zw_c (hs 15 _ rfl) (a := [.ref x, .int (Int32.ofInt (i : Int))]) (st := []) rfl rfl (Nat.le_of_ble_eq_true rfl) ⟨_, _, _, rfl, a1_, a2_.1⟩ (by omega) (by omega) (zm_modAt_M g hX hok rfl hi (fun y_ => absurd y_ (by omega)) (fun y_ => ?_))
        rw [hA_]
        show S 30 [some (.ref x), some (.int (Int32.ofInt (i : Int))), none, none, none, none] [.int (Int32.ofInt (A_ : Int))] _ _ _
        refine hs 16 _ rfl _ _ _ _ _ _ _ rfl ?_
        refine hs 17 _ rfl _ _ _ _ _ _ _ rfl ?_
        refine hs 18 _ rfl _ _ _ _ _ _ _ rfl ?_
        refine hs 19 _ rfl _ _ _ _ _ _ _ rfl ?_
        refine hs 20 _ rfl _ _ _ _ _ _ _ _ _ (a1_) a2_.1 rfl ?_
        refine hs 21 _ rfl _ _ _ _ _ _ _ _ _ (s1_.1) s1_.2 rfl ?_
        refine hs 22 _ rfl _ _ _ _ _ _ _ rfl ?_
        refine hs 23 _ rfl _ _ _ _ _ _ _ rfl ?_
        refine hs 24 _ rfl _ _ _ _ _ _ _ rfl ?_
        show S 45 [some (.ref x), some (.int (Int32.ofInt (i : Int))), some (.int (Int32.ofInt (A_ : Int))), some (.int (Int32.ofInt (1 : Int))), some (.int (Int32.ofInt (M_ : Int))), some (.int (Int32.ofInt (3 : Int)))] [] _ _ _
        refine hs 25 _ rfl _ _ _ _ _ _ _ rfl ?_
        refine hs 26 _ rfl _ _ _ _ _ _ _ rfl ?_
        refine hs 27 _ rfl _ _ _ _ _ _ _ (fun zq => absurd (hd_c2z (c := 5) (by omega) (by omega) (by omega) (by omega) zq) (by omega : ¬ (((M_ : Int) - (1 : Int)) ≤ 0))) (fun _ => ?_)
        exact loop 999 3 M_ 1 (by omega) (by decide) (by omega) (by omega) (Nat.le_refl _) (fun d h1 h2 => by
          have d_ : d = 2 := by omega
          rw [d_]
          omega) (by decide) rfl
set_option maxHeartbeats 4000000 in
theorem zm_qjacobi_M {l : Launch} {G : am_G} {X : ck_XT} (g : gM l G X) {o : Nat → Nat} {x tx now qw : Nat} {th j m k : Int} {c : sp_S} {P : List sp_S} {h : List am_C} (hX : zm_x G h o x tx now qw th j m k c P) (hok : sp_ok c) {e e2 : Int} (he1 : -2147483648 ≤ e) (he2 : e ≤ 2147483647) {mc ms : Nat} {Post : am_O → List am_C → Prop}
    (hP : ∀ (a th : Int) (T' : sp_T) (h' : List am_C), sp_q43 e e2 (c, P, j, m, k) a th T' → zm_fr G h h' → zm_Y G h' x th T' → Post (.inl (some (.int (Int32.ofInt a)))) h') :
    am_M l G yX14_jacobi (.code yX14_jacobi prog_14_method_81_code 2 (some .int)) 4 89 mc ms [.ref x, .int (Int32.ofInt e)] h Post := by
  refine gh_yX14_jacobi_X g (Nat.le_of_ble_eq_true rfl) fun S SX hs hr hw hx => ?_
  have rv : ∀ x : Int32, ck_fv 0 (.int x) := fun x => ⟨_, rfl⟩
  obtain ⟨a1_, a2_, a3_, a4_⟩ := id hX
  by_cases c1_ : sp_s1 e
  rotate_left
  · have c1b_ : ¬ (0 ≤ e ∧ e < 6) := c1_
    refine hs 0 _ rfl _ _ _ _ _ _ _ rfl ?_
    refine hs 1 _ rfl _ _ _ _ _ _ _ rfl ?_
    refine zw_c (hs 2 _ rfl) (a := [.int (Int32.ofInt e)]) (st := [.ref x]) rfl rfl (Nat.le_of_ble_eq_true rfl) trivial (by omega) (by omega) (zm_noSlot_M g (e := e) (by omega) (by omega) (fun y_ => ?_) (fun y_ => absurd y_ (by omega)))
    show S 5 [some (.ref x), some (.int (Int32.ofInt e))] [.int (Int32.ofInt (1 : Int)), .ref x] _ _ _
    refine hs 3 _ rfl _ _ _ _ _ _ _ rfl ?_
    refine zw_c (hs 4 _ rfl) (a := [.ref x, .int (Int32.ofInt (1 : Int)), .int (Int32.ofInt (1 : Int))]) (st := []) rfl rfl (Nat.le_of_ble_eq_true rfl) ⟨_, _, _, rfl, a1_, a2_.1⟩ (by omega) (by omega) (zm_start_M g hX (i_ := 1) (w_ := 1) (Or.inr rfl) (by decide) (fun y_ h2_ f2_ x2_ => ?_) (fun y_ => absurd y_ (by decide)))
    show S 9 [some (.ref x), some (.int (Int32.ofInt e))] [.int (Int32.ofInt (1 : Int))] _ _ _
    refine hs 5 _ rfl _ _ _ _ _ _ (fun zq => absurd (hd_c1z (c := 0) (by omega) (by omega) zq) (by omega : ¬ ((1 : Int) = 0))) (fun _ => ?_)
    refine hs 6 _ rfl _ _ _ _ _ _ _ rfl ?_
    refine hs 7 _ rfl _ _ _ _ _ ?_
    exact hs 11 _ rfl _ _ _ _ _ (rv _) (by omega) (by omega) (hP 0 _ _ _ ⟨rfl, Or.inr ⟨c1_, rfl⟩⟩ f2_ ⟨_, _, _, _, x2_⟩)
  · 
    obtain ⟨i, rfl⟩ : ∃ i : Nat, e = (i : Int) := ⟨e.toNat, by have := c1_.1; omega⟩
    have hi : i < 6 := by have := c1_.2; omega
    have c1b_ := c1_.1
    have c1c_ := c1_.2
    have okd_ := hok.1
    by_cases cj_ : c.1 ≤ 0
    · 
      refine hs 0 _ rfl _ _ _ _ _ _ _ rfl ?_
      refine hs 1 _ rfl _ _ _ _ _ _ _ rfl ?_
      refine zw_c (hs 2 _ rfl) (a := [.int (Int32.ofInt (i : Int))]) (st := [.ref x]) rfl rfl (Nat.le_of_ble_eq_true rfl) trivial (by omega) (by omega) (zm_noSlot_M g (e := (i : Int)) (by omega) (by omega) (fun y_ => absurd (by omega) y_) (fun y_ => ?_))
      show S 5 [some (.ref x), some (.int (Int32.ofInt (i : Int)))] [.int (Int32.ofInt (0 : Int)), .ref x] _ _ _
      refine hs 3 _ rfl _ _ _ _ _ _ _ rfl ?_
      refine zw_c (hs 4 _ rfl) (a := [.ref x, .int (Int32.ofInt (0 : Int)), .int (Int32.ofInt (1 : Int))]) (st := []) rfl rfl (Nat.le_of_ble_eq_true rfl) ⟨_, _, _, rfl, a1_, a2_.1⟩ (by omega) (by omega) (zm_start_M g hX (i_ := 0) (w_ := 1) (Or.inl rfl) (by decide) (fun y_ => absurd y_ (by decide)) (fun y_ h2_ f2_ x2_ => ?_))
      show S 9 [some (.ref x), some (.int (Int32.ofInt (i : Int)))] [.int (Int32.ofInt (0 : Int))] _ _ _
      refine hs 5 _ rfl _ _ _ _ _ _ (fun _ => ?_) (fun zq => absurd (hd_c1t (c := 0) (by omega) (by omega) (by omega : (0 : Int) = 0)) zq)
      refine hs 8 _ rfl _ _ _ _ _ _ _ rfl ?_
      refine hs 9 _ rfl _ _ _ _ _ _ _ rfl ?_
      refine zw_c (hs 10 _ rfl) (a := [.ref x, .int (Int32.ofInt (i : Int))]) (st := []) rfl rfl (Nat.le_of_ble_eq_true rfl) (zm_rc x2_) (by omega) (by omega) (zm_jacAt_M g x2_ hok hi (fun y_ => ?_) (fun y_ => absurd y_ (by omega)))
      show S 21 [some (.ref x), some (.int (Int32.ofInt (i : Int)))] [.int (Int32.ofInt (-9 : Int))] _ _ _
      exact hs 11 _ rfl _ _ _ _ _ (rv _) (by omega) (by omega) (hP (-9) 0 _ _ ⟨rfl, Or.inl ⟨c1_, rfl, Or.inl ⟨cj_, rfl⟩⟩⟩ f2_ ⟨_, _, _, _, x2_⟩)
    · have cp_ : 0 < c.1 := by omega
      refine hs 0 _ rfl _ _ _ _ _ _ _ rfl ?_
      refine hs 1 _ rfl _ _ _ _ _ _ _ rfl ?_
      refine zw_c (hs 2 _ rfl) (a := [.int (Int32.ofInt (i : Int))]) (st := [.ref x]) rfl rfl (Nat.le_of_ble_eq_true rfl) trivial (by omega) (by omega) (zm_noSlot_M g (e := (i : Int)) (by omega) (by omega) (fun y_ => absurd (by omega) y_) (fun y_ => ?_))
      show S 5 [some (.ref x), some (.int (Int32.ofInt (i : Int)))] [.int (Int32.ofInt (0 : Int)), .ref x] _ _ _
      refine hs 3 _ rfl _ _ _ _ _ _ _ rfl ?_
      refine zw_c (hs 4 _ rfl) (a := [.ref x, .int (Int32.ofInt (0 : Int)), .int (Int32.ofInt (1 : Int))]) (st := []) rfl rfl (Nat.le_of_ble_eq_true rfl) ⟨_, _, _, rfl, a1_, a2_.1⟩ (by omega) (by omega) (zm_start_M g hX (i_ := 0) (w_ := 1) (Or.inl rfl) (by decide) (fun y_ => absurd y_ (by decide)) (fun y_ h2_ f2_ x2_ => ?_))
      show S 9 [some (.ref x), some (.int (Int32.ofInt (i : Int)))] [.int (Int32.ofInt (0 : Int))] _ _ _
      refine hs 5 _ rfl _ _ _ _ _ _ (fun _ => ?_) (fun zq => absurd (hd_c1t (c := 0) (by omega) (by omega) (by omega : (0 : Int) = 0)) zq)
      refine hs 8 _ rfl _ _ _ _ _ _ _ rfl ?_
      refine hs 9 _ rfl _ _ _ _ _ _ _ rfl ?_
      refine zw_c (hs 10 _ rfl) (a := [.ref x, .int (Int32.ofInt (i : Int))]) (st := []) rfl rfl (Nat.le_of_ble_eq_true rfl) (zm_rc x2_) (by omega) (by omega) (zm_jacAt_M g x2_ hok hi (fun y_ => absurd y_ (by omega)) (fun y_ => ?_))
      show S 21 [some (.ref x), some (.int (Int32.ofInt (i : Int)))] [.int (Int32.ofInt (sk_jb (c.2.1.getD i 0 % c.1).toNat c.1))] _ _ _
      exact hs 11 _ rfl _ _ _ _ _ (rv _) (by omega) (by omega) (hP _ 0 _ _ ⟨rfl, Or.inl ⟨c1_, rfl, Or.inr ⟨cp_, rfl⟩⟩⟩ f2_ ⟨_, _, _, _, x2_⟩)
set_option maxHeartbeats 4000000 in
theorem zc_wqjacobi_M {l : Launch} {G : am_G} {X : ck_XT} (g : gM l G X) {x : Nat} {r : Nat → Nat} {jj mm kk : Int} {c : sp_S} {R : Nat → sp_S} {old cnt : Nat} {h : List am_C} (hX : zc_x G h x r jj mm kk c R old cnt){o : Nat} {n0 : Int64} {s0 : Value} (hO : am_g G h o = some (1016, [.long n0, s0])) (ho1 : o < x ∨ x + 228 ≤ o) (ho2 : o ≠ r 4) (ho3 : 1000 ≤ o) {e e2 : Int} (he1 : -2147483648 ≤ e) (he2 : e ≤ 2147483647) {mc ms : Nat} {Post : am_O → List am_C → Prop} (hmc : 1 ≤ mc) (hms : 6 ≤ ms)
    (hP : ∀ (a th : Int) (T' : sp_T) (h' : List am_C), sp_q43 e e2 (c, zc_l R old cnt, jj, mm, kk) a th T' → zc_of G h h' x r o → zc_Y G h' x r T' → (th = 0 → am_g G h' o = some (1016, [.long (Int64.ofInt a), s0])) → Post (.inl (some (.int (Int32.ofInt th)))) h') :
    am_M l G yL_jacobi (.codeWith yL_jacobi method_39_code 4 (some .int) [(0, 10, 13, 25)]) 8 133 mc ms [.ref x, .int (Int32.ofInt e), .ref o] h Post := by
  refine gh_yL_jacobi_X g (Nat.le_of_ble_eq_true rfl) fun S SX hs hr hw hx => ?_
  have rv : ∀ x : Int32, ck_fv 0 (.int x) := fun x => ⟨_, rfl⟩
  have ok_ := hX.2.2.1
  have okd_ := ok_.1
  have okn_ := ok_.2.1.1
  have okr_ := ok_.2.2.1.1
  have okb_ := ok_.2.2.2.1
  have px_ := hX.2.2.2.2.2.2.2
  refine hs 0 _ rfl _ _ _ _ _ _ _ rfl ?_
  refine hs 1 _ rfl _ _ _ _ _ _ _ rfl ?_
  refine hs 2 _ rfl _ _ _ _ _ _ _ rfl ?_
  refine zw_cm (hs 3 _ rfl) (a := [.ref x, .int (Int32.ofInt e)]) (st := [.ref o]) 1 6 rfl rfl (Nat.le_of_ble_eq_true rfl) ⟨_, _, _, rfl, hX.1, rfl⟩ (by omega) (by omega) (zc_qjacobi_M g hX he1 he2 (e2 := e2) (by omega) (by omega) (fun y_ a_ r_ => ?_) (fun hn_ => ?_))
  · show S 6 [some (.ref x), some (.int (Int32.ofInt e)), some (.ref o), none] [.int (Int32.ofInt a_), .ref o] _ _ _
    have bd_ : -9 ≤ a_ ∧ a_ ≤ 1000 := sp_r43.bd (T := (c, zc_l R old cnt, jj, mm, kk)) ok_ r_
    refine hs 4 _ rfl _ _ _ _ _ _ _ (hd_i2l (by omega) (by omega)) ?_
    refine zw_U (hs 5 _ rfl) (by omega) (hO) rfl ⟨_, rfl⟩ fun hz725 wz726 => ?_
    have wz726 : hd_w G _ hz725 o (1016, [.long (Int64.ofInt a_), s0]) := wz726
    have lwz726 := wz726.1
    refine hs 6 _ rfl _ _ _ _ _ ?_
    refine hs 10 _ rfl _ _ _ _ _ _ _ rfl ?_
    exact hs 11 _ rfl _ _ _ _ _ (rv _) (by omega) (by omega) (hP a_ 0 _ _ ⟨rfl, Or.inl ⟨y_, rfl, r_⟩⟩ (zc_of.w wz726) (zc_X.out ⟨_, _, _, hX, rfl⟩ wz726 ho1 ho2) fun _ => wz726.at)
  · refine hx (_, _) (List.mem_cons.mpr (Or.inl rfl)) _ _ _ _ rfl ?_
    show S 14 _ [] _ _ _
    refine hs 8 _ rfl _ _ _ _ _ _ _ rfl ?_
    exact hs 9 _ rfl _ _ _ _ _ (rv _) (by omega) (by omega) (hP 0 1 _ _ ⟨rfl, Or.inr ⟨hn_, rfl⟩⟩ (zc_of.g zg.app1) ⟨_, _, _, hX.app, rfl⟩ fun z_ => absurd z_ (by decide))
