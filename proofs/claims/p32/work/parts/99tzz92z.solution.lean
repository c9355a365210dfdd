/-! THE SOLUTION AT A PLACE -/
def sp_r32 (e e2 e3 : Int) (T : sp_T) (a : Int) : Prop := sp_jm T (fun v => sk_at (sk_s (sp_md T e).toNat (sp_md T e2).toNat T.1.1.toNat) T.1.1.toNat e3 v) a
def sp_q32 (e e2 e3 : Int) (T : sp_T) (a th : Int) (T' : sp_T) : Prop := T' = T ∧ (((sp_s1 e ∧ sp_s1 e2) ∧ 0 ≤ e3 ∧ th = 0 ∧ sp_r32 e e2 e3 T a) ∨ ((sp_s1 e ∧ sp_s1 e2) ∧ e3 < 0 ∧ th = 2) ∨ (¬ (sp_s1 e ∧ sp_s1 e2) ∧ th = 1))
section SPR32
variable {e e2 e3 a th a2 th2 : Int} {T T' T2 : sp_T}
theorem sp_q32.fn (h1 : sp_q32 e e2 e3 T a th T') (h2 : sp_q32 e e2 e3 T a2 th2 T2) : sp_al a th T' a2 th2 T2 := by
  obtain ⟨e1_, c1_⟩ := h1
  obtain ⟨e2_, c2_⟩ := h2
  have t_ : T' = T2 := e1_.trans e2_.symm
  rcases c1_ with ⟨a1_, a2_, a3_, a4_⟩ | ⟨a1_, a2_, a3_⟩ | ⟨a1_, a2_⟩
  · rcases c2_ with ⟨b1_, b2_, b3_, b4_⟩ | ⟨b1_, b2_, b3_⟩ | ⟨b1_, b2_⟩
    · exact ⟨a3_.trans b3_.symm, t_, fun _ => sp_jm.fn (fun v w y_ z_ => sk_at.fn y_ z_) a4_ b4_⟩
    · omega
    · exact absurd a1_ b1_
  · rcases c2_ with ⟨b1_, b2_, b3_, b4_⟩ | ⟨b1_, b2_, b3_⟩ | ⟨b1_, b2_⟩
    · omega
    · exact ⟨a3_.trans b3_.symm, t_, fun z_ => by omega⟩
    · exact absurd a1_ b1_
  · rcases c2_ with ⟨b1_, b2_, b3_, b4_⟩ | ⟨b1_, b2_, b3_⟩ | ⟨b1_, b2_⟩
    · exact absurd b1_ a1_
    · exact absurd b1_ a1_
    · exact ⟨a2_.trans b2_.symm, t_, fun z_ => by omega⟩
theorem sp_r32.bd (hk : sp_ok T.1) (h : sp_r32 e e2 e3 T a) : -9 ≤ a ∧ a ≤ 1000 := sp_jm.bd hk (fun hp hr => by
  have d_ := hk.1
  have l_ := sk_at.bd hr
  omega) h
end SPR32
theorem sk_solAtE_M {l : Launch} {G : am_G} {X : ck_XT} (g : gM l G X) {a b m pl_ : Int} {h : List am_C} (ha : 0 ≤ a) (ka : a < m) (hb : 0 ≤ b) (kb : b < m) (hm : m ≤ 400) (hpl : 0 ≤ pl_) (hpl2 : pl_ ≤ 2147483647) {mc ms : Nat} {Post : am_O → List am_C → Prop} (hP : ∀ v : Int, sk_at (sk_s a.toNat b.toNat m.toNat) m.toNat pl_ v → Post (.inl (some (.int (Int32.ofInt v)))) h) :
    am_M l G yX7_solutionAt (.code yX7_solutionAt prog_9_method_7_code 6 (some .int)) 1 20 mc ms [.int (Int32.ofInt a), .int (Int32.ofInt b), .int (Int32.ofInt m), .int (Int32.ofInt pl_)] h Post := by
  obtain ⟨A_, rfl⟩ : ∃ x_ : Nat, a = (x_ : Int) := ⟨a.toNat, by omega⟩
  obtain ⟨B_, rfl⟩ : ∃ x_ : Nat, b = (x_ : Int) := ⟨b.toNat, by omega⟩
  obtain ⟨M_, rfl⟩ : ∃ x_ : Nat, m = (x_ : Int) := ⟨m.toNat, by omega⟩
  exact sk_solAt_M g (by omega) (by omega) (by omega) hpl hpl2 hP
theorem zk_solAtE_M {l : Launch} {G : am_G} {X : ck_XT} (g : gM l G X) {o : Nat → Nat} {x tx now qw : Nat} {th j m k : Int} {c : sp_S} {P : List sp_S} {h : List am_C} (hX : zm_x G h o x tx now qw th j m k c P) (hok : sp_ok c) {a b pl_ : Int} (ha : 0 ≤ a) (ka : a < c.1) (hb : 0 ≤ b) (kb : b < c.1) (hpl : 0 ≤ pl_) (hpl2 : pl_ ≤ 2147483647) {mc ms : Nat} {Post : am_O → List am_C → Prop} (hP : ∀ v : Int, sk_at (sk_s a.toNat b.toNat c.1.toNat) c.1.toNat pl_ v → Post (.inl (some (.int (Int32.ofInt v)))) h) :
    am_M l G yX14_solutionAt (.code yX14_solutionAt prog_14_method_56_code 6 (some .int)) 1 20 mc ms [.ref x, .int (Int32.ofInt a), .int (Int32.ofInt b), .int (Int32.ofInt pl_)] h Post := by
  obtain ⟨A_, rfl⟩ : ∃ x_ : Nat, a = (x_ : Int) := ⟨a.toNat, by omega⟩
  obtain ⟨B_, rfl⟩ : ∃ x_ : Nat, b = (x_ : Int) := ⟨b.toNat, by omega⟩
  have okd_ := hok.1
  exact zk_solAt_M g hX (M_ := c.1.toNat) (by omega) (by omega) (by omega) (by omega) hpl hpl2 hP
set_option maxHeartbeats 4000000 in
theorem zc_qsolution_M {l : Launch} {G : am_G} {X : ck_XT} (g : gM l G X) {x : Nat} {r : Nat → Nat} {jj mm kk : Int} {c : sp_S} {R : Nat → sp_S} {old cnt : Nat} {h : List am_C} (hX : zc_x G h x r jj mm kk c R old cnt) {e : Int} (he1 : -2147483648 ≤ e) (he2 : e ≤ 2147483647) {e2 : Int} (hf1 : -2147483648 ≤ e2) (hf2 : e2 ≤ 2147483647) {e3 : Int} (hg1 : -2147483648 ≤ e3) (hg2 : e3 ≤ 2147483647) {mc ms : Nat} {Post : am_O → List am_C → Prop} (hmc : 1 ≤ mc) (hms : 6 ≤ ms)
    (hP : ((0 ≤ e ∧ e < 6) ∧ (0 ≤ e2 ∧ e2 < 6)) → 0 ≤ e3 → ∀ a : Int, sp_r32 e e2 e3 (c, zc_l R old cnt, jj, mm, kk) a → Post (.inl (some (.int (Int32.ofInt a)))) h)
    (hX3 : ((0 ≤ e ∧ e < 6) ∧ (0 ≤ e2 ∧ e2 < 6)) → e3 < 0 → Post (.inr "java/lang/IllegalArgumentException") (h ++ [(99, [])]))
    (hX2 : ¬ ((0 ≤ e ∧ e < 6) ∧ (0 ≤ e2 ∧ e2 < 6)) → Post (.inr "java/lang/IndexOutOfBoundsException") (h ++ [(99, [])])) :
    am_M l G yX10_solution (.code yX10_solution prog_1_method_32_code 7 (some .int)) 7 111 mc ms [.ref x, .int (Int32.ofInt e), .int (Int32.ofInt e2), .int (Int32.ofInt e3)] h Post := by
  have hx9_ := hX.2.2.2.2.2.2.2
  by_cases c1_ : (0 ≤ e ∧ e < 6) ∧ (0 ≤ e2 ∧ e2 < 6)
  rotate_left
  · by_cases c2_ : 0 ≤ e ∧ e < 6
    · obtain ⟨i, rfl⟩ : ∃ i : Nat, e = (i : Int) := ⟨e.toNat, by omega⟩
      have hi : i < 6 := by omega
      refine gh_yX10_solution_X g (Nat.le_of_ble_eq_true rfl) fun S SX hs hr hw hx => ?_
      have rv : ∀ x : Int32, ck_fv 0 (.int x) := fun x => ⟨_, rfl⟩
      refine hs 0 _ rfl _ _ _ _ _ _ _ rfl ?_
      refine hs 1 _ rfl _ _ _ _ _ _ _ rfl ?_
      refine zw_c (hs 2 _ rfl) (a := [.ref x, .int (Int32.ofInt (i : Int))]) (st := []) rfl rfl (Nat.le_of_ble_eq_true rfl) ⟨_, _, _, rfl, hX.1, rfl⟩ (by omega) (by omega) (zc_numAt_M g hX (i := i) rfl hi ?_)
      show S 5 [some (.ref x), some (.int (Int32.ofInt (i : Int))), some (.int (Int32.ofInt e2)), some (.int (Int32.ofInt e3)), none, none, none] [.ref (x + 1 + 5 + 2 * i)] _ _ _
      refine hs 3 _ rfl _ _ _ _ _ _ _ rfl ?_
      refine hs 4 _ rfl _ _ _ _ _ _ _ rfl ?_
      refine hs 5 _ rfl _ _ _ _ _ _ _ rfl ?_
      exact zw_cm (hs 6 _ rfl) (a := [.ref x, .int (Int32.ofInt e2)]) (st := []) 1 6 rfl rfl (Nat.le_of_ble_eq_true rfl) ⟨_, _, _, rfl, (hX.1), rfl⟩ (by omega) (by omega) (zc_numAtX_M g hX hf1 hf2 (by omega) (by decide) (by decide) (hx _ _ _ _ _ _ (by omega) (by omega) (hX2 c1_)))
    · 
      refine gh_yX10_solution_X g (Nat.le_of_ble_eq_true rfl) fun S SX hs hr hw hx => ?_
      have rv : ∀ x : Int32, ck_fv 0 (.int x) := fun x => ⟨_, rfl⟩
      refine hs 0 _ rfl _ _ _ _ _ _ _ rfl ?_
      refine hs 1 _ rfl _ _ _ _ _ _ _ rfl ?_
      exact zw_cm (hs 2 _ rfl) (a := [.ref x, .int (Int32.ofInt e)]) (st := []) 1 6 rfl rfl (Nat.le_of_ble_eq_true rfl) ⟨_, _, _, rfl, (hX.1), rfl⟩ (by omega) (by omega) (zc_numAtX_M g hX he1 he2 (by omega) (by decide) (by decide) (hx _ _ _ _ _ _ (by omega) (by omega) (hX2 c1_)))
  · obtain ⟨i, rfl⟩ : ∃ i : Nat, e = (i : Int) := ⟨e.toNat, by omega⟩
    obtain ⟨i2, rfl⟩ : ∃ i : Nat, e2 = (i : Int) := ⟨e2.toNat, by omega⟩
    have hi : i < 6 := by omega
    have hi2 : i2 < 6 := by omega
    by_cases y3_ : 0 ≤ e3
    rotate_left
    · 
      refine gh_yX10_solution_X g (Nat.le_of_ble_eq_true rfl) fun S SX hs hr hw hx => ?_
      have rv : ∀ x : Int32, ck_fv 0 (.int x) := fun x => ⟨_, rfl⟩
      refine hs 0 _ rfl _ _ _ _ _ _ _ rfl ?_
      refine hs 1 _ rfl _ _ _ _ _ _ _ rfl ?_
      refine zw_c (hs 2 _ rfl) (a := [.ref x, .int (Int32.ofInt (i : Int))]) (st := []) rfl rfl (Nat.le_of_ble_eq_true rfl) ⟨_, _, _, rfl, hX.1, rfl⟩ (by omega) (by omega) (zc_numAt_M g hX (i := i) rfl hi ?_)
      show S 5 [some (.ref x), some (.int (Int32.ofInt (i : Int))), some (.int (Int32.ofInt (i2 : Int))), some (.int (Int32.ofInt e3)), none, none, none] [.ref (x + 1 + 5 + 2 * i)] _ _ _
      refine hs 3 _ rfl _ _ _ _ _ _ _ rfl ?_
      refine hs 4 _ rfl _ _ _ _ _ _ _ rfl ?_
      refine hs 5 _ rfl _ _ _ _ _ _ _ rfl ?_
      refine zw_c (hs 6 _ rfl) (a := [.ref x, .int (Int32.ofInt (i2 : Int))]) (st := []) rfl rfl (Nat.le_of_ble_eq_true rfl) ⟨_, _, _, rfl, hX.1, rfl⟩ (by omega) (by omega) (zc_numAt_M g hX (i := i2) rfl hi2 ?_)
      show S 12 [some (.ref x), some (.int (Int32.ofInt (i : Int))), some (.int (Int32.ofInt (i2 : Int))), some (.int (Int32.ofInt e3)), some (.ref (x + 1 + 5 + 2 * i)), none, none] [.ref (x + 1 + 5 + 2 * i2)] _ _ _
      refine hs 7 _ rfl _ _ _ _ _ _ _ rfl ?_
      refine hs 8 _ rfl _ _ _ _ _ _ _ rfl ?_
      exact zw_cm (hs 9 _ rfl) (a := [.int (Int32.ofInt e3)]) (st := []) 1 6 rfl rfl (Nat.le_of_ble_eq_true rfl) trivial (by omega) (by omega) (zc_npX_M g hg1 hg2 (by omega) (by decide) (by decide) (hx _ _ _ _ _ _ (by omega) (by omega) (hX3 c1_ (by omega))))
    · have hP_ := hP c1_ y3_
      obtain ⟨ny_, sy_, ly_, w1_, w2_, w3_⟩ := hX.2.1.n hi
      obtain ⟨nz_, sz_, lz_, z1_, z2_, z3_⟩ := hX.2.1.n hi2
      have hb_ := hX.2.2.1.1
      refine gh_yX10_solution_X g (Nat.le_of_ble_eq_true rfl) fun S SX hs hr hw hx => ?_
      have rv : ∀ x : Int32, ck_fv 0 (.int x) := fun x => ⟨_, rfl⟩
      by_cases cj_ : c.1 ≤ 0
      · 
        refine hs 0 _ rfl _ _ _ _ _ _ _ rfl ?_
        refine hs 1 _ rfl _ _ _ _ _ _ _ rfl ?_
        refine zw_c (hs 2 _ rfl) (a := [.ref x, .int (Int32.ofInt (i : Int))]) (st := []) rfl rfl (Nat.le_of_ble_eq_true rfl) ⟨_, _, _, rfl, hX.1, rfl⟩ (by omega) (by omega) (zc_numAt_M g hX (i := i) rfl hi ?_)
        show S 5 [some (.ref x), some (.int (Int32.ofInt (i : Int))), some (.int (Int32.ofInt (i2 : Int))), some (.int (Int32.ofInt e3)), none, none, none] [.ref (x + 1 + 5 + 2 * i)] _ _ _
        refine hs 3 _ rfl _ _ _ _ _ _ _ rfl ?_
        refine hs 4 _ rfl _ _ _ _ _ _ _ rfl ?_
        refine hs 5 _ rfl _ _ _ _ _ _ _ rfl ?_
        refine zw_c (hs 6 _ rfl) (a := [.ref x, .int (Int32.ofInt (i2 : Int))]) (st := []) rfl rfl (Nat.le_of_ble_eq_true rfl) ⟨_, _, _, rfl, hX.1, rfl⟩ (by omega) (by omega) (zc_numAt_M g hX (i := i2) rfl hi2 ?_)
        show S 12 [some (.ref x), some (.int (Int32.ofInt (i : Int))), some (.int (Int32.ofInt (i2 : Int))), some (.int (Int32.ofInt e3)), some (.ref (x + 1 + 5 + 2 * i)), none, none] [.ref (x + 1 + 5 + 2 * i2)] _ _ _
        refine hs 7 _ rfl _ _ _ _ _ _ _ rfl ?_
        refine hs 8 _ rfl _ _ _ _ _ _ _ rfl ?_
        refine zw_c (hs 9 _ rfl) (a := [.int (Int32.ofInt e3)]) (st := []) rfl rfl (Nat.le_of_ble_eq_true rfl) trivial (by omega) (by omega) (zc_np_M g (e := e3) hg1 hg2 y3_ ?_)
        show S 18 [some (.ref x), some (.int (Int32.ofInt (i : Int))), some (.int (Int32.ofInt (i2 : Int))), some (.int (Int32.ofInt e3)), some (.ref (x + 1 + 5 + 2 * i)), some (.ref (x + 1 + 5 + 2 * i2)), none] [] _ _ _
        refine hs 10 _ rfl _ _ _ _ _ _ _ rfl ?_
        refine hs 11 _ rfl _ _ _ _ _ _ _ _ _ (hX.1) rfl rfl ?_
        refine hs 12 _ rfl _ _ _ _ _ _ _ _ _ (hX.2.1.d) rfl rfl ?_
        refine hs 13 _ rfl _ _ _ _ _ _ _ rfl ?_
        refine hs 14 _ rfl _ _ _ _ _ _ _ rfl ?_
        refine zw_c (hs 15 _ rfl) (a := [.ref x]) (st := []) rfl rfl (Nat.le_of_ble_eq_true rfl) ⟨_, _, _, rfl, hX.1, rfl⟩ (by omega) (by omega) (zc_jam_M g hX (fun _ => ?_) (fun y_ => absurd y_ (by omega)))
        show S 31 [some (.ref x), some (.int (Int32.ofInt (i : Int))), some (.int (Int32.ofInt (i2 : Int))), some (.int (Int32.ofInt e3)), some (.ref (x + 1 + 5 + 2 * i)), some (.ref (x + 1 + 5 + 2 * i2)), some (.int (Int32.ofInt c.1))] [.int (Int32.ofInt (1 : Int))] _ _ _
        refine hs 16 _ rfl _ _ _ _ _ _ (fun zq => absurd (hd_c1z (c := 0) (by omega) (by omega) zq) (by omega : ¬ ((1 : Int) = 0))) (fun _ => ?_)
        refine hs 17 _ rfl _ _ _ _ _ _ _ rfl ?_
        refine hs 18 _ rfl _ _ _ _ _ ?_
        exact hs 28 _ rfl _ _ _ _ _ (rv _) (Nat.zero_le _) (Nat.zero_le _) (hP_ _ (Or.inl ⟨cj_, rfl⟩))
      · have r1_ := Int.emod_nonneg (c.2.1.getD i 0) (b := c.1) (by omega)
        have r2_ := Int.emod_lt_of_pos (c.2.1.getD i 0) (b := c.1) (by omega)
        have q1_ := Int.emod_nonneg (c.2.1.getD i2 0) (b := c.1) (by omega)
        have q2_ := Int.emod_lt_of_pos (c.2.1.getD i2 0) (b := c.1) (by omega)
        refine hs 0 _ rfl _ _ _ _ _ _ _ rfl ?_
        refine hs 1 _ rfl _ _ _ _ _ _ _ rfl ?_
        refine zw_c (hs 2 _ rfl) (a := [.ref x, .int (Int32.ofInt (i : Int))]) (st := []) rfl rfl (Nat.le_of_ble_eq_true rfl) ⟨_, _, _, rfl, hX.1, rfl⟩ (by omega) (by omega) (zc_numAt_M g hX (i := i) rfl hi ?_)
        show S 5 [some (.ref x), some (.int (Int32.ofInt (i : Int))), some (.int (Int32.ofInt (i2 : Int))), some (.int (Int32.ofInt e3)), none, none, none] [.ref (x + 1 + 5 + 2 * i)] _ _ _
        refine hs 3 _ rfl _ _ _ _ _ _ _ rfl ?_
        refine hs 4 _ rfl _ _ _ _ _ _ _ rfl ?_
        refine hs 5 _ rfl _ _ _ _ _ _ _ rfl ?_
        refine zw_c (hs 6 _ rfl) (a := [.ref x, .int (Int32.ofInt (i2 : Int))]) (st := []) rfl rfl (Nat.le_of_ble_eq_true rfl) ⟨_, _, _, rfl, hX.1, rfl⟩ (by omega) (by omega) (zc_numAt_M g hX (i := i2) rfl hi2 ?_)
        show S 12 [some (.ref x), some (.int (Int32.ofInt (i : Int))), some (.int (Int32.ofInt (i2 : Int))), some (.int (Int32.ofInt e3)), some (.ref (x + 1 + 5 + 2 * i)), none, none] [.ref (x + 1 + 5 + 2 * i2)] _ _ _
        refine hs 7 _ rfl _ _ _ _ _ _ _ rfl ?_
        refine hs 8 _ rfl _ _ _ _ _ _ _ rfl ?_
        refine zw_c (hs 9 _ rfl) (a := [.int (Int32.ofInt e3)]) (st := []) rfl rfl (Nat.le_of_ble_eq_true rfl) trivial (by omega) (by omega) (zc_np_M g (e := e3) hg1 hg2 y3_ ?_)
        show S 18 [some (.ref x), some (.int (Int32.ofInt (i : Int))), some (.int (Int32.ofInt (i2 : Int))), some (.int (Int32.ofInt e3)), some (.ref (x + 1 + 5 + 2 * i)), some (.ref (x + 1 + 5 + 2 * i2)), none] [] _ _ _
        refine hs 10 _ rfl _ _ _ _ _ _ _ rfl ?_
        refine hs 11 _ rfl _ _ _ _ _ _ _ _ _ (hX.1) rfl rfl ?_
        refine hs 12 _ rfl _ _ _ _ _ _ _ _ _ (hX.2.1.d) rfl rfl ?_
        refine hs 13 _ rfl _ _ _ _ _ _ _ rfl ?_
        refine hs 14 _ rfl _ _ _ _ _ _ _ rfl ?_
        refine zw_c (hs 15 _ rfl) (a := [.ref x]) (st := []) rfl rfl (Nat.le_of_ble_eq_true rfl) ⟨_, _, _, rfl, hX.1, rfl⟩ (by omega) (by omega) (zc_jam_M g hX (fun y_ => absurd y_ (by omega)) (fun _ => ?_))
        show S 31 [some (.ref x), some (.int (Int32.ofInt (i : Int))), some (.int (Int32.ofInt (i2 : Int))), some (.int (Int32.ofInt e3)), some (.ref (x + 1 + 5 + 2 * i)), some (.ref (x + 1 + 5 + 2 * i2)), some (.int (Int32.ofInt c.1))] [.int (Int32.ofInt (0 : Int))] _ _ _
        refine hs 16 _ rfl _ _ _ _ _ _ (fun _ => ?_) (fun zq => absurd (hd_c1t (c := 0) (by omega) (by omega) (by omega : (0 : Int) = 0)) zq)
        refine hs 19 _ rfl _ _ _ _ _ _ _ rfl ?_
        refine hs 20 _ rfl _ _ _ _ _ _ _ rfl ?_
        refine zw_c (hs 21 _ rfl) (a := [.ref (x + 1 + 5 + 2 * i), .int (Int32.ofInt c.1)]) (st := []) rfl rfl (Nat.le_of_ble_eq_true rfl) ⟨_, _, _, rfl, w1_, rfl⟩ (by omega) (by omega) (sb_restE_M g w1_ rfl w2_ rfl w3_ (by omega) (by omega) ?_)
        show S 46 [some (.ref x), some (.int (Int32.ofInt (i : Int))), some (.int (Int32.ofInt (i2 : Int))), some (.int (Int32.ofInt e3)), some (.ref (x + 1 + 5 + 2 * i)), some (.ref (x + 1 + 5 + 2 * i2)), some (.int (Int32.ofInt c.1))] [.int (Int32.ofInt (c.2.1.getD i 0 % c.1))] _ _ _
        refine hs 22 _ rfl _ _ _ _ _ _ _ rfl ?_
        refine hs 23 _ rfl _ _ _ _ _ _ _ rfl ?_
        refine zw_c (hs 24 _ rfl) (a := [.ref (x + 1 + 5 + 2 * i2), .int (Int32.ofInt c.1)]) (st := [.int (Int32.ofInt (c.2.1.getD i 0 % c.1))]) rfl rfl (Nat.le_of_ble_eq_true rfl) ⟨_, _, _, rfl, z1_, rfl⟩ (by omega) (by omega) (sb_restE_M g z1_ rfl z2_ rfl z3_ (by omega) (by omega) ?_)
        show S 53 [some (.ref x), some (.int (Int32.ofInt (i : Int))), some (.int (Int32.ofInt (i2 : Int))), some (.int (Int32.ofInt e3)), some (.ref (x + 1 + 5 + 2 * i)), some (.ref (x + 1 + 5 + 2 * i2)), some (.int (Int32.ofInt c.1))] [.int (Int32.ofInt (c.2.1.getD i2 0 % c.1)), .int (Int32.ofInt (c.2.1.getD i 0 % c.1))] _ _ _
        refine hs 25 _ rfl _ _ _ _ _ _ _ rfl ?_
        refine hs 26 _ rfl _ _ _ _ _ _ _ rfl ?_
        refine zw_c (hs 27 _ rfl) (a := [.int (Int32.ofInt (c.2.1.getD i 0 % c.1)), .int (Int32.ofInt (c.2.1.getD i2 0 % c.1)), .int (Int32.ofInt c.1), .int (Int32.ofInt e3)]) (st := []) rfl rfl (Nat.le_of_ble_eq_true rfl) trivial (by omega) (by omega) (sk_solAtE_M g r1_ r2_ q1_ q2_ (by omega) y3_ hg2 (fun v_ hv_ => ?_))
        show S 59 [some (.ref x), some (.int (Int32.ofInt (i : Int))), some (.int (Int32.ofInt (i2 : Int))), some (.int (Int32.ofInt e3)), some (.ref (x + 1 + 5 + 2 * i)), some (.ref (x + 1 + 5 + 2 * i2)), some (.int (Int32.ofInt c.1))] [.int (Int32.ofInt v_)] _ _ _
        exact hs 28 _ rfl _ _ _ _ _ (rv _) (Nat.zero_le _) (Nat.zero_le _) (hP_ _ (Or.inr ⟨by show 0 < c.1; omega, hv_⟩))
set_option maxHeartbeats 4000000 in
theorem zm_qsolution_M {l : Launch} {G : am_G} {X : ck_XT} (g : gM l G X) {o : Nat → Nat} {x tx now qw : Nat} {th j m k : Int} {c : sp_S} {P : List sp_S} {h : List am_C} (hX : zm_x G h o x tx now qw th j m k c P) (hok : sp_ok c) {e e2 e3 : Int} (he1 : -2147483648 ≤ e) (he2 : e ≤ 2147483647) (hf1 : -2147483648 ≤ e2) (hf2 : e2 ≤ 2147483647) (hg1 : -2147483648 ≤ e3) (hg2 : e3 ≤ 2147483647) {mc ms : Nat} {Post : am_O → List am_C → Prop}
    (hP : ∀ (a th : Int) (T' : sp_T) (h' : List am_C), sp_q32 e e2 e3 (c, P, j, m, k) a th T' → zm_fr G h h' → zm_Y G h' x th T' → Post (.inl (some (.int (Int32.ofInt a)))) h') :
    am_M l G yX14_solution (.code yX14_solution prog_14_method_58_code 4 (some .int)) 3 64 mc ms [.ref x, .int (Int32.ofInt e), .int (Int32.ofInt e2), .int (Int32.ofInt e3)] h Post := by
  refine gh_yX14_solution_X g (Nat.le_of_ble_eq_true rfl) fun S SX hs hr hw hx => ?_
  have rv : ∀ x : Int32, ck_fv 0 (.int x) := fun x => ⟨_, rfl⟩
  obtain ⟨a1_, a2_, a3_, a4_⟩ := id hX
  by_cases c1_ : sp_s1 e ∧ sp_s1 e2
  rotate_left
  · by_cases c2_ : 0 ≤ e ∧ e < 6
    · have c4_ : ¬ (0 ≤ e2 ∧ e2 < 6) := fun y_ => c1_ ⟨c2_, y_⟩
      refine hs 0 _ rfl _ _ _ _ _ _ _ rfl ?_
      refine hs 1 _ rfl _ _ _ _ _ _ _ rfl ?_
      refine zw_c (hs 2 _ rfl) (a := [.int (Int32.ofInt e)]) (st := [.ref x]) rfl rfl (Nat.le_of_ble_eq_true rfl) trivial (by omega) (by omega) (zm_noSlot_M g (e := e) (by omega) (by omega) (fun y_ => absurd (by omega) y_) (fun y_ => ?_))
      show S 5 [some (.ref x), some (.int (Int32.ofInt e)), some (.int (Int32.ofInt e2)), some (.int (Int32.ofInt e3))] [.int (Int32.ofInt (0 : Int)), .ref x] _ _ _
      refine hs 3 _ rfl _ _ _ _ _ _ (fun zq => absurd (hd_c1z (c := 1) (by omega) (by omega) zq) (by omega : ¬ ((0 : Int) ≠ 0))) (fun _ => ?_)
      refine hs 4 _ rfl _ _ _ _ _ _ _ rfl ?_
      refine zw_c (hs 5 _ rfl) (a := [.int (Int32.ofInt e2)]) (st := [.ref x]) rfl rfl (Nat.le_of_ble_eq_true rfl) trivial (by omega) (by omega) (zm_noSlot_M g (e := e2) (by omega) (by omega) (fun y_ => ?_) (fun y_ => absurd y_ (by omega)))
      show S 12 [some (.ref x), some (.int (Int32.ofInt e)), some (.int (Int32.ofInt e2)), some (.int (Int32.ofInt e3))] [.int (Int32.ofInt (1 : Int)), .ref x] _ _ _
      refine hs 6 _ rfl _ _ _ _ _ _ (fun zq => absurd (hd_c1z (c := 0) (by omega) (by omega) zq) (by omega : ¬ ((1 : Int) = 0))) (fun _ => ?_)
      refine hs 7 _ rfl _ _ _ _ _ _ _ rfl ?_
      refine hs 8 _ rfl _ _ _ _ _ ?_
      refine hs 10 _ rfl _ _ _ _ _ _ _ rfl ?_
      refine zw_c (hs 11 _ rfl) (a := [.ref x, .int (Int32.ofInt (1 : Int)), .int (Int32.ofInt (1 : Int))]) (st := []) rfl rfl (Nat.le_of_ble_eq_true rfl) ⟨_, _, _, rfl, a1_, a2_.1⟩ (by omega) (by omega) (zm_start_M g hX (i_ := 1) (w_ := 1) (Or.inr rfl) (by decide) (fun y_ h2_ f2_ x2_ => ?_) (fun y_ => absurd y_ (by decide)))
      show S 24 [some (.ref x), some (.int (Int32.ofInt e)), some (.int (Int32.ofInt e2)), some (.int (Int32.ofInt e3))] [.int (Int32.ofInt (1 : Int))] _ _ _
      refine hs 12 _ rfl _ _ _ _ _ _ (fun _ => ?_) (fun zq => absurd (hd_c1t (c := 1) (by omega) (by omega) (by omega : (1 : Int) ≠ 0)) zq)
      refine hs 22 _ rfl _ _ _ _ _ _ _ rfl ?_
      exact hs 23 _ rfl _ _ _ _ _ (rv _) (by omega) (by omega) (hP 0 _ _ _ ⟨rfl, Or.inr (Or.inr ⟨c1_, rfl⟩)⟩ (f2_) ⟨_, _, _, _, x2_⟩)
    · 
      refine hs 0 _ rfl _ _ _ _ _ _ _ rfl ?_
      refine hs 1 _ rfl _ _ _ _ _ _ _ rfl ?_
      refine zw_c (hs 2 _ rfl) (a := [.int (Int32.ofInt e)]) (st := [.ref x]) rfl rfl (Nat.le_of_ble_eq_true rfl) trivial (by omega) (by omega) (zm_noSlot_M g (e := e) (by omega) (by omega) (fun y_ => ?_) (fun y_ => absurd y_ (by omega)))
      show S 5 [some (.ref x), some (.int (Int32.ofInt e)), some (.int (Int32.ofInt e2)), some (.int (Int32.ofInt e3))] [.int (Int32.ofInt (1 : Int)), .ref x] _ _ _
      refine hs 3 _ rfl _ _ _ _ _ _ (fun _ => ?_) (fun zq => absurd (hd_c1t (c := 1) (by omega) (by omega) (by omega : (1 : Int) ≠ 0)) zq)
      refine hs 7 _ rfl _ _ _ _ _ _ _ rfl ?_
      refine hs 8 _ rfl _ _ _ _ _ ?_
      refine hs 10 _ rfl _ _ _ _ _ _ _ rfl ?_
      refine zw_c (hs 11 _ rfl) (a := [.ref x, .int (Int32.ofInt (1 : Int)), .int (Int32.ofInt (1 : Int))]) (st := []) rfl rfl (Nat.le_of_ble_eq_true rfl) ⟨_, _, _, rfl, a1_, a2_.1⟩ (by omega) (by omega) (zm_start_M g hX (i_ := 1) (w_ := 1) (Or.inr rfl) (by decide) (fun y_ h2_ f2_ x2_ => ?_) (fun y_ => absurd y_ (by decide)))
      show S 24 [some (.ref x), some (.int (Int32.ofInt e)), some (.int (Int32.ofInt e2)), some (.int (Int32.ofInt e3))] [.int (Int32.ofInt (1 : Int))] _ _ _
      refine hs 12 _ rfl _ _ _ _ _ _ (fun _ => ?_) (fun zq => absurd (hd_c1t (c := 1) (by omega) (by omega) (by omega : (1 : Int) ≠ 0)) zq)
      refine hs 22 _ rfl _ _ _ _ _ _ _ rfl ?_
      exact hs 23 _ rfl _ _ _ _ _ (rv _) (by omega) (by omega) (hP 0 _ _ _ ⟨rfl, Or.inr (Or.inr ⟨c1_, rfl⟩)⟩ (f2_) ⟨_, _, _, _, x2_⟩)
  · obtain ⟨i, rfl⟩ : ∃ i : Nat, e = (i : Int) := ⟨e.toNat, by have := c1_.1.1; omega⟩
    obtain ⟨i2, rfl⟩ : ∃ i2 : Nat, e2 = (i2 : Int) := ⟨e2.toNat, by have := c1_.2.1; omega⟩
    have hi : i < 6 := by have := c1_.1.2; omega
    have hi2 : i2 < 6 := by have := c1_.2.2; omega
    by_cases c3_ : 0 ≤ e3
    rotate_left
    · 
      refine hs 0 _ rfl _ _ _ _ _ _ _ rfl ?_
      refine hs 1 _ rfl _ _ _ _ _ _ _ rfl ?_
      refine zw_c (hs 2 _ rfl) (a := [.int (Int32.ofInt (i : Int))]) (st := [.ref x]) rfl rfl (Nat.le_of_ble_eq_true rfl) trivial (by omega) (by omega) (zm_noSlot_M g (e := (i : Int)) (by omega) (by omega) (fun y_ => absurd (by omega) y_) (fun y_ => ?_))
      show S 5 [some (.ref x), some (.int (Int32.ofInt (i : Int))), some (.int (Int32.ofInt (i2 : Int))), some (.int (Int32.ofInt e3))] [.int (Int32.ofInt (0 : Int)), .ref x] _ _ _
      refine hs 3 _ rfl _ _ _ _ _ _ (fun zq => absurd (hd_c1z (c := 1) (by omega) (by omega) zq) (by omega : ¬ ((0 : Int) ≠ 0))) (fun _ => ?_)
      refine hs 4 _ rfl _ _ _ _ _ _ _ rfl ?_
      refine zw_c (hs 5 _ rfl) (a := [.int (Int32.ofInt (i2 : Int))]) (st := [.ref x]) rfl rfl (Nat.le_of_ble_eq_true rfl) trivial (by omega) (by omega) (zm_noSlot_M g (e := (i2 : Int)) (by omega) (by omega) (fun y_ => absurd (by omega) y_) (fun y_ => ?_))
      show S 12 [some (.ref x), some (.int (Int32.ofInt (i : Int))), some (.int (Int32.ofInt (i2 : Int))), some (.int (Int32.ofInt e3))] [.int (Int32.ofInt (0 : Int)), .ref x] _ _ _
      refine hs 6 _ rfl _ _ _ _ _ _ (fun _ => ?_) (fun zq => absurd (hd_c1t (c := 0) (by omega) (by omega) (by omega : (0 : Int) = 0)) zq)
      refine hs 9 _ rfl _ _ _ _ _ _ _ rfl ?_
      refine hs 10 _ rfl _ _ _ _ _ _ _ rfl ?_
      refine zw_c (hs 11 _ rfl) (a := [.ref x, .int (Int32.ofInt (0 : Int)), .int (Int32.ofInt (1 : Int))]) (st := []) rfl rfl (Nat.le_of_ble_eq_true rfl) ⟨_, _, _, rfl, a1_, a2_.1⟩ (by omega) (by omega) (zm_start_M g hX (i_ := 0) (w_ := 1) (Or.inl rfl) (by decide) (fun y_ => absurd y_ (by decide)) (fun y_ h2_ f2_ x2_ => ?_))
      show S 24 [some (.ref x), some (.int (Int32.ofInt (i : Int))), some (.int (Int32.ofInt (i2 : Int))), some (.int (Int32.ofInt e3))] [.int (Int32.ofInt (0 : Int))] _ _ _
      refine hs 12 _ rfl _ _ _ _ _ _ (fun zq => absurd (hd_c1z (c := 1) (by omega) (by omega) zq) (by omega : ¬ ((0 : Int) ≠ 0))) (fun _ => ?_)
      refine hs 13 _ rfl _ _ _ _ _ _ _ rfl ?_
      refine hs 14 _ rfl _ _ _ _ _ _ _ rfl ?_
      refine hs 15 _ rfl _ _ _ _ _ _ (fun zq => absurd (hd_c1z (c := 3) (by omega) (by omega) zq) (by omega : ¬ (0 ≤ e3))) (fun _ => ?_)
      refine hs 16 _ rfl _ _ _ _ _ _ _ rfl ?_
      refine hs 17 _ rfl _ _ _ _ _ ?_
      refine hs 19 _ rfl _ _ _ _ _ _ _ rfl ?_
      refine zw_c (hs 20 _ rfl) (a := [.ref x, .int (Int32.ofInt (1 : Int)), .int (Int32.ofInt (2 : Int))]) (st := []) rfl rfl (Nat.le_of_ble_eq_true rfl) ⟨_, _, _, rfl, x2_.1, a2_.1⟩ (by omega) (by omega) (zm_refuse_M g x2_ (i_ := 1) (w_ := 2) (Or.inr rfl) (by decide) (fun y_ h3_ f3_ x3_ => ?_) (fun y_ => absurd y_ (by decide)))
      show S 41 [some (.ref x), some (.int (Int32.ofInt (i : Int))), some (.int (Int32.ofInt (i2 : Int))), some (.int (Int32.ofInt e3))] [.int (Int32.ofInt (1 : Int))] _ _ _
      refine hs 21 _ rfl _ _ _ _ _ _ (fun zq => absurd (hd_c1z (c := 0) (by omega) (by omega) zq) (by omega : ¬ ((1 : Int) = 0))) (fun _ => ?_)
      refine hs 22 _ rfl _ _ _ _ _ _ _ rfl ?_
      exact hs 23 _ rfl _ _ _ _ _ (rv _) (by omega) (by omega) (hP 0 _ _ _ ⟨rfl, Or.inr (Or.inl ⟨c1_, by omega, rfl⟩)⟩ (f2_.tr f3_) ⟨_, _, _, _, x3_⟩)
    · have okd_ := hok.1
      by_cases cj_ : c.1 ≤ 0
      · 
        refine hs 0 _ rfl _ _ _ _ _ _ _ rfl ?_
        refine hs 1 _ rfl _ _ _ _ _ _ _ rfl ?_
        refine zw_c (hs 2 _ rfl) (a := [.int (Int32.ofInt (i : Int))]) (st := [.ref x]) rfl rfl (Nat.le_of_ble_eq_true rfl) trivial (by omega) (by omega) (zm_noSlot_M g (e := (i : Int)) (by omega) (by omega) (fun y_ => absurd (by omega) y_) (fun y_ => ?_))
        show S 5 [some (.ref x), some (.int (Int32.ofInt (i : Int))), some (.int (Int32.ofInt (i2 : Int))), some (.int (Int32.ofInt e3))] [.int (Int32.ofInt (0 : Int)), .ref x] _ _ _
        refine hs 3 _ rfl _ _ _ _ _ _ (fun zq => absurd (hd_c1z (c := 1) (by omega) (by omega) zq) (by omega : ¬ ((0 : Int) ≠ 0))) (fun _ => ?_)
        refine hs 4 _ rfl _ _ _ _ _ _ _ rfl ?_
        refine zw_c (hs 5 _ rfl) (a := [.int (Int32.ofInt (i2 : Int))]) (st := [.ref x]) rfl rfl (Nat.le_of_ble_eq_true rfl) trivial (by omega) (by omega) (zm_noSlot_M g (e := (i2 : Int)) (by omega) (by omega) (fun y_ => absurd (by omega) y_) (fun y_ => ?_))
        show S 12 [some (.ref x), some (.int (Int32.ofInt (i : Int))), some (.int (Int32.ofInt (i2 : Int))), some (.int (Int32.ofInt e3))] [.int (Int32.ofInt (0 : Int)), .ref x] _ _ _
        refine hs 6 _ rfl _ _ _ _ _ _ (fun _ => ?_) (fun zq => absurd (hd_c1t (c := 0) (by omega) (by omega) (by omega : (0 : Int) = 0)) zq)
        refine hs 9 _ rfl _ _ _ _ _ _ _ rfl ?_
        refine hs 10 _ rfl _ _ _ _ _ _ _ rfl ?_
        refine zw_c (hs 11 _ rfl) (a := [.ref x, .int (Int32.ofInt (0 : Int)), .int (Int32.ofInt (1 : Int))]) (st := []) rfl rfl (Nat.le_of_ble_eq_true rfl) ⟨_, _, _, rfl, a1_, a2_.1⟩ (by omega) (by omega) (zm_start_M g hX (i_ := 0) (w_ := 1) (Or.inl rfl) (by decide) (fun y_ => absurd y_ (by decide)) (fun y_ h2_ f2_ x2_ => ?_))
        show S 24 [some (.ref x), some (.int (Int32.ofInt (i : Int))), some (.int (Int32.ofInt (i2 : Int))), some (.int (Int32.ofInt e3))] [.int (Int32.ofInt (0 : Int))] _ _ _
        refine hs 12 _ rfl _ _ _ _ _ _ (fun zq => absurd (hd_c1z (c := 1) (by omega) (by omega) zq) (by omega : ¬ ((0 : Int) ≠ 0))) (fun _ => ?_)
        refine hs 13 _ rfl _ _ _ _ _ _ _ rfl ?_
        refine hs 14 _ rfl _ _ _ _ _ _ _ rfl ?_
        refine hs 15 _ rfl _ _ _ _ _ _ (fun _ => ?_) (fun zq => absurd (hd_c1t (c := 3) (by omega) (by omega) (by omega : 0 ≤ e3)) zq)
        refine hs 18 _ rfl _ _ _ _ _ _ _ rfl ?_
        refine hs 19 _ rfl _ _ _ _ _ _ _ rfl ?_
        refine zw_c (hs 20 _ rfl) (a := [.ref x, .int (Int32.ofInt (0 : Int)), .int (Int32.ofInt (2 : Int))]) (st := []) rfl rfl (Nat.le_of_ble_eq_true rfl) ⟨_, _, _, rfl, x2_.1, a2_.1⟩ (by omega) (by omega) (zm_refuse_M g x2_ (i_ := 0) (w_ := 2) (Or.inl rfl) (by decide) (fun y_ => absurd y_ (by decide)) (fun y_ => ?_))
        show S 41 [some (.ref x), some (.int (Int32.ofInt (i : Int))), some (.int (Int32.ofInt (i2 : Int))), some (.int (Int32.ofInt e3))] [.int (Int32.ofInt (0 : Int))] _ _ _
        refine hs 21 _ rfl _ _ _ _ _ _ (fun _ => ?_) (fun zq => absurd (hd_c1t (c := 0) (by omega) (by omega) (by omega : (0 : Int) = 0)) zq)
        refine hs 24 _ rfl _ _ _ _ _ _ _ rfl ?_
        refine zw_c (hs 25 _ rfl) (a := [.ref x]) (st := []) rfl rfl (Nat.le_of_ble_eq_true rfl) (zm_rc x2_) (by omega) (by omega) (zm_jam_M g x2_ hok (fun y_ => ?_) (fun y_ => absurd y_ (by omega)))
        show S 50 [some (.ref x), some (.int (Int32.ofInt (i : Int))), some (.int (Int32.ofInt (i2 : Int))), some (.int (Int32.ofInt e3))] [.int (Int32.ofInt (1 : Int))] _ _ _
        refine hs 26 _ rfl _ _ _ _ _ _ (fun zq => absurd (hd_c1z (c := 0) (by omega) (by omega) zq) (by omega : ¬ ((1 : Int) = 0))) (fun _ => ?_)
        refine hs 27 _ rfl _ _ _ _ _ _ _ rfl ?_
        refine hs 28 _ rfl _ _ _ _ _ ?_
        exact hs 38 _ rfl _ _ _ _ _ (rv _) (by omega) (by omega) (hP (-9) _ _ _ ⟨rfl, Or.inl ⟨c1_, c3_, rfl, Or.inl ⟨cj_, rfl⟩⟩⟩ (f2_) ⟨_, _, _, _, x2_⟩)
      · have cp_ : 0 < c.1 := by omega
        have r1_ := Int.emod_nonneg (c.2.1.getD i 0) (b := c.1) (by omega)
        have r2_ := Int.emod_lt_of_pos (c.2.1.getD i 0) (b := c.1) (by omega)
        have q1_ := Int.emod_nonneg (c.2.1.getD i2 0) (b := c.1) (by omega)
        have q2_ := Int.emod_lt_of_pos (c.2.1.getD i2 0) (b := c.1) (by omega)
        refine hs 0 _ rfl _ _ _ _ _ _ _ rfl ?_
        refine hs 1 _ rfl _ _ _ _ _ _ _ rfl ?_
        refine zw_c (hs 2 _ rfl) (a := [.int (Int32.ofInt (i : Int))]) (st := [.ref x]) rfl rfl (Nat.le_of_ble_eq_true rfl) trivial (by omega) (by omega) (zm_noSlot_M g (e := (i : Int)) (by omega) (by omega) (fun y_ => absurd (by omega) y_) (fun y_ => ?_))
        show S 5 [some (.ref x), some (.int (Int32.ofInt (i : Int))), some (.int (Int32.ofInt (i2 : Int))), some (.int (Int32.ofInt e3))] [.int (Int32.ofInt (0 : Int)), .ref x] _ _ _
        refine hs 3 _ rfl _ _ _ _ _ _ (fun zq => absurd (hd_c1z (c := 1) (by omega) (by omega) zq) (by omega : ¬ ((0 : Int) ≠ 0))) (fun _ => ?_)
        refine hs 4 _ rfl _ _ _ _ _ _ _ rfl ?_
        refine zw_c (hs 5 _ rfl) (a := [.int (Int32.ofInt (i2 : Int))]) (st := [.ref x]) rfl rfl (Nat.le_of_ble_eq_true rfl) trivial (by omega) (by omega) (zm_noSlot_M g (e := (i2 : Int)) (by omega) (by omega) (fun y_ => absurd (by omega) y_) (fun y_ => ?_))
        show S 12 [some (.ref x), some (.int (Int32.ofInt (i : Int))), some (.int (Int32.ofInt (i2 : Int))), some (.int (Int32.ofInt e3))] [.int (Int32.ofInt (0 : Int)), .ref x] _ _ _
        refine hs 6 _ rfl _ _ _ _ _ _ (fun _ => ?_) (fun zq => absurd (hd_c1t (c := 0) (by omega) (by omega) (by omega : (0 : Int) = 0)) zq)
        refine hs 9 _ rfl _ _ _ _ _ _ _ rfl ?_
        refine hs 10 _ rfl _ _ _ _ _ _ _ rfl ?_
        refine zw_c (hs 11 _ rfl) (a := [.ref x, .int (Int32.ofInt (0 : Int)), .int (Int32.ofInt (1 : Int))]) (st := []) rfl rfl (Nat.le_of_ble_eq_true rfl) ⟨_, _, _, rfl, a1_, a2_.1⟩ (by omega) (by omega) (zm_start_M g hX (i_ := 0) (w_ := 1) (Or.inl rfl) (by decide) (fun y_ => absurd y_ (by decide)) (fun y_ h2_ f2_ x2_ => ?_))
        show S 24 [some (.ref x), some (.int (Int32.ofInt (i : Int))), some (.int (Int32.ofInt (i2 : Int))), some (.int (Int32.ofInt e3))] [.int (Int32.ofInt (0 : Int))] _ _ _
        refine hs 12 _ rfl _ _ _ _ _ _ (fun zq => absurd (hd_c1z (c := 1) (by omega) (by omega) zq) (by omega : ¬ ((0 : Int) ≠ 0))) (fun _ => ?_)
        refine hs 13 _ rfl _ _ _ _ _ _ _ rfl ?_
        refine hs 14 _ rfl _ _ _ _ _ _ _ rfl ?_
        refine hs 15 _ rfl _ _ _ _ _ _ (fun _ => ?_) (fun zq => absurd (hd_c1t (c := 3) (by omega) (by omega) (by omega : 0 ≤ e3)) zq)
        refine hs 18 _ rfl _ _ _ _ _ _ _ rfl ?_
        refine hs 19 _ rfl _ _ _ _ _ _ _ rfl ?_
        refine zw_c (hs 20 _ rfl) (a := [.ref x, .int (Int32.ofInt (0 : Int)), .int (Int32.ofInt (2 : Int))]) (st := []) rfl rfl (Nat.le_of_ble_eq_true rfl) ⟨_, _, _, rfl, x2_.1, a2_.1⟩ (by omega) (by omega) (zm_refuse_M g x2_ (i_ := 0) (w_ := 2) (Or.inl rfl) (by decide) (fun y_ => absurd y_ (by decide)) (fun y_ => ?_))
        show S 41 [some (.ref x), some (.int (Int32.ofInt (i : Int))), some (.int (Int32.ofInt (i2 : Int))), some (.int (Int32.ofInt e3))] [.int (Int32.ofInt (0 : Int))] _ _ _
        refine hs 21 _ rfl _ _ _ _ _ _ (fun _ => ?_) (fun zq => absurd (hd_c1t (c := 0) (by omega) (by omega) (by omega : (0 : Int) = 0)) zq)
        refine hs 24 _ rfl _ _ _ _ _ _ _ rfl ?_
        refine zw_c (hs 25 _ rfl) (a := [.ref x]) (st := []) rfl rfl (Nat.le_of_ble_eq_true rfl) (zm_rc x2_) (by omega) (by omega) (zm_jam_M g x2_ hok (fun y_ => absurd y_ (by omega)) (fun y_ => ?_))
        show S 50 [some (.ref x), some (.int (Int32.ofInt (i : Int))), some (.int (Int32.ofInt (i2 : Int))), some (.int (Int32.ofInt e3))] [.int (Int32.ofInt (0 : Int))] _ _ _
        refine hs 26 _ rfl _ _ _ _ _ _ (fun _ => ?_) (fun zq => absurd (hd_c1t (c := 0) (by omega) (by omega) (by omega : (0 : Int) = 0)) zq)
        refine hs 29 _ rfl _ _ _ _ _ _ _ rfl ?_
        refine hs 30 _ rfl _ _ _ _ _ _ _ rfl ?_
        refine hs 31 _ rfl _ _ _ _ _ _ _ rfl ?_
        refine zw_c (hs 32 _ rfl) (a := [.ref x, .int (Int32.ofInt (i : Int))]) (st := [.ref x]) rfl rfl (Nat.le_of_ble_eq_true rfl) (zm_rc x2_) (by omega) (by omega) (zm_modAt_M g x2_ hok rfl hi (fun y_ => absurd y_ (by omega)) (fun y_ => ?_))
        show S 64 [some (.ref x), some (.int (Int32.ofInt (i : Int))), some (.int (Int32.ofInt (i2 : Int))), some (.int (Int32.ofInt e3))] [.int (Int32.ofInt (c.2.1.getD i 0 % c.1)), .ref x] _ _ _
        refine hs 33 _ rfl _ _ _ _ _ _ _ rfl ?_
        refine hs 34 _ rfl _ _ _ _ _ _ _ rfl ?_
        refine zw_c (hs 35 _ rfl) (a := [.ref x, .int (Int32.ofInt (i2 : Int))]) (st := [.int (Int32.ofInt (c.2.1.getD i 0 % c.1)), .ref x]) rfl rfl (Nat.le_of_ble_eq_true rfl) (zm_rc x2_) (by omega) (by omega) (zm_modAt_M g x2_ hok rfl hi2 (fun y_ => absurd y_ (by omega)) (fun y_ => ?_))
        show S 69 [some (.ref x), some (.int (Int32.ofInt (i : Int))), some (.int (Int32.ofInt (i2 : Int))), some (.int (Int32.ofInt e3))] [.int (Int32.ofInt (c.2.1.getD i2 0 % c.1)), .int (Int32.ofInt (c.2.1.getD i 0 % c.1)), .ref x] _ _ _
        refine hs 36 _ rfl _ _ _ _ _ _ _ rfl ?_
        refine zw_c (hs 37 _ rfl) (a := [.ref x, .int (Int32.ofInt (c.2.1.getD i 0 % c.1)), .int (Int32.ofInt (c.2.1.getD i2 0 % c.1)), .int (Int32.ofInt e3)]) (st := []) rfl rfl (Nat.le_of_ble_eq_true rfl) (zm_rc x2_) (by omega) (by omega) (zk_solAtE_M g x2_ hok r1_ r2_ q1_ q2_ c3_ hg2 (fun v_ hv_ => ?_))
        show S 73 [some (.ref x), some (.int (Int32.ofInt (i : Int))), some (.int (Int32.ofInt (i2 : Int))), some (.int (Int32.ofInt e3))] [.int (Int32.ofInt v_)] _ _ _
        exact hs 38 _ rfl _ _ _ _ _ (rv _) (by omega) (by omega) (hP _ _ _ _ ⟨rfl, Or.inl ⟨c1_, c3_, rfl, Or.inr ⟨cp_, hv_⟩⟩⟩ (f2_) ⟨_, _, _, _, x2_⟩)
set_option maxHeartbeats 4000000 in
theorem zc_wqsolution_M {l : Launch} {G : am_G} {X : ck_XT} (g : gM l G X) {x : Nat} {r : Nat → Nat} {jj mm kk : Int} {c : sp_S} {R : Nat → sp_S} {old cnt : Nat} {h : List am_C} (hX : zc_x G h x r jj mm kk c R old cnt){o : Nat} {n0 : Int64} {s0 : Value} (hO : am_g G h o = some (1016, [.long n0, s0])) (ho1 : o < x ∨ x + 228 ≤ o) (ho2 : o ≠ r 4) (ho3 : 1000 ≤ o) {e e2 e3 : Int} (he1 : -2147483648 ≤ e) (he2 : e ≤ 2147483647) (hf1 : -2147483648 ≤ e2) (hf2 : e2 ≤ 2147483647) (hg1 : -2147483648 ≤ e3) (hg2 : e3 ≤ 2147483647) {mc ms : Nat} {Post : am_O → List am_C → Prop} (hmc : 1 ≤ mc) (hms : 6 ≤ ms)
    (hP : ∀ (a th : Int) (T' : sp_T) (h' : List am_C), sp_q32 e e2 e3 (c, zc_l R old cnt, jj, mm, kk) a th T' → zc_of G h h' x r o → zc_Y G h' x r T' → (th = 0 → am_g G h' o = some (1016, [.long (Int64.ofInt a), s0])) → Post (.inl (some (.int (Int32.ofInt th)))) h') :
    am_M l G yL_solution (.codeWith yL_solution method_30_code 6 (some .int) [(0, 13, 16, 25), (0, 13, 20, 19)]) 8 137 mc ms [.ref x, .int (Int32.ofInt e), .int (Int32.ofInt e2), .int (Int32.ofInt e3), .ref o] h Post := by
  refine gh_yL_solution_X g (Nat.le_of_ble_eq_true rfl) fun S SX hs hr hw hx => ?_
  have rv : ∀ x : Int32, ck_fv 0 (.int x) := fun x => ⟨_, rfl⟩
  have ok_ := hX.2.2.1
  have okd_ := ok_.1
  have okn_ := ok_.2.1.1
  have okr_ := ok_.2.2.1.1
  have okb_ := ok_.2.2.2.1
  have px_ := hX.2.2.2.2.2.2.2
  refine hs 0 _ rfl _ _ _ _ _ _ _ rfl ?_
  refine hs 1 _ rfl _ _ _ _ _ _ _ rfl ?_
  refine hs 2 _ rfl _ _ _ _ _ _ _ rfl ?_
  refine hs 3 _ rfl _ _ _ _ _ _ _ rfl ?_
  refine hs 4 _ rfl _ _ _ _ _ _ _ rfl ?_
  refine zw_cm (hs 5 _ rfl) (a := [.ref x, .int (Int32.ofInt e), .int (Int32.ofInt e2), .int (Int32.ofInt e3)]) (st := [.ref o]) 1 6 rfl rfl (Nat.le_of_ble_eq_true rfl) ⟨_, _, _, rfl, hX.1, rfl⟩ (by omega) (by omega) (zc_qsolution_M g hX he1 he2 hf1 hf2 hg1 hg2 (by omega) (by omega) (fun y_ y2_ a_ r_ => ?_) (fun y_ y2_ => ?_) (fun hn_ => ?_))
  · show S 9 [some (.ref x), some (.int (Int32.ofInt e)), some (.int (Int32.ofInt e2)), some (.int (Int32.ofInt e3)), some (.ref o), none] [.int (Int32.ofInt a_), .ref o] _ _ _
    have bd_ : -9 ≤ a_ ∧ a_ ≤ 1000 := sp_r32.bd (T := (c, zc_l R old cnt, jj, mm, kk)) ok_ r_
    refine hs 6 _ rfl _ _ _ _ _ _ _ (hd_i2l (by omega) (by omega)) ?_
    refine zw_U (hs 7 _ rfl) (by omega) (hO) rfl ⟨_, rfl⟩ fun hz727 wz728 => ?_
    have wz728 : hd_w G _ hz727 o (1016, [.long (Int64.ofInt a_), s0]) := wz728
    have lwz728 := wz728.1
    refine hs 8 _ rfl _ _ _ _ _ ?_
    refine hs 15 _ rfl _ _ _ _ _ _ _ rfl ?_
    exact hs 16 _ rfl _ _ _ _ _ (rv _) (by omega) (by omega) (hP a_ 0 _ _ ⟨rfl, Or.inl ⟨y_, y2_, rfl, r_⟩⟩ (zc_of.w wz728) (zc_X.out ⟨_, _, _, hX, rfl⟩ wz728 ho1 ho2) fun _ => wz728.at)
  · refine hx (_, _) (List.mem_cons.mpr (Or.inr (List.mem_cons.mpr (Or.inl rfl)))) _ _ _ _ rfl ?_
    show S 22 _ [] _ _ _
    refine hs 13 _ rfl _ _ _ _ _ _ _ rfl ?_
    exact hs 14 _ rfl _ _ _ _ _ (rv _) (by omega) (by omega) (hP 0 2 _ _ (⟨rfl, Or.inr (Or.inl ⟨y_, y2_, rfl⟩)⟩) (zc_of.g zg.app1) ⟨_, _, _, hX.app, rfl⟩ fun z_ => absurd z_ (by decide))
  · refine hx (_, _) (List.mem_cons.mpr (Or.inl rfl)) _ _ _ _ rfl ?_
    show S 18 _ [] _ _ _
    refine hs 10 _ rfl _ _ _ _ _ _ _ rfl ?_
    exact hs 11 _ rfl _ _ _ _ _ (rv _) (by omega) (by omega) (hP 0 1 _ _ (⟨rfl, Or.inr (Or.inr ⟨hn_, rfl⟩)⟩) (zc_of.g zg.app1) ⟨_, _, _, hX.app, rfl⟩ fun z_ => absurd z_ (by decide))
