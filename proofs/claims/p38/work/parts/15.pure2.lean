/-! the two numbers' results are right -/
theorem ck_dr_ok {B c : Nat} {Q : ck_Q} {a b : ck_L} {r : List Int} {x y z : Int} {R : ck_R} (h : ck_dr B c Q a b = some R) (hQ : ck_ok Q r) (ha : ck_Lv r a x) (hb : ck_Lv r b y) (h1 : -(B : Int) ≤ z) (h2 : z < (B : Int)) (hz : 1 ≤ y → z = bif Nat.beq c 3 then x.tdiv y else x.tmod y) : ck_rk R r z ∧ y ≠ 0 := by
  unfold ck_dr at h
  cases c1 : ck_ge Q.1 Q.2 (ck_sub b (ck_k 1))
  · rw [c1, cond_false] at h
    cases c2 : ck_ge Q.1 Q.2 (ck_sub (ck_k (-1)) b)
    · rw [c2] at h; cases h
    · rw [c2, cond_true] at h
      cases h
      have := ck_ge_ok c2 hQ.1 hQ.2 ((ck_Lv.k r (-1)).sub hb)
      exact ⟨ck_fu_ok h1 h2, by omega⟩
  · rw [c1, cond_true] at h
    have h3 := ck_ge_ok c1 hQ.1 hQ.2 (hb.sub (ck_Lv.k r 1))
    have h3 : 1 ≤ y := by omega
    have hz := hz h3
    refine ⟨?_, by omega⟩
    cases h
    rw [hz]
    cases Nat.beq c 3
    · exact ck_rm_ok hQ ha hb h3
    · exact ck_dv_ok hQ ha hb h3
theorem ck_td {B : Nat} {x y : Int} (h1 : -(B : Int) ≤ x) (h2 : x < (B : Int)) (hy : 1 ≤ y) : (x.tdiv y).bmod (2 * B) = x.tdiv y ∧ (x.tdiv y * y).bmod (2 * B) = x.tdiv y * y ∧ (x - x.tdiv y * y).bmod (2 * B) = x.tmod y := by
  obtain ⟨q1, q2, q3, q4⟩ := ck_tdiv_le (a := x) (b := y) (by omega)
  have e1 := Int.mul_tdiv_add_tmod x y
  rw [Int.mul_comm] at e1
  have e2 : x - x.tdiv y * y = x.tmod y := by omega
  rw [e2]
  rcases Int.le_total 0 x with h | h
  · have e3 := Int.tmod_nonneg y h
    have e4 : 0 ≤ x.tdiv y * y := Int.mul_nonneg (q3 h).1 (by omega)
    have := q3 h
    exact ⟨ck_bm_eq (by omega) (by omega), ck_bm_eq (by omega) (by omega), ck_bm_eq (by omega) (by omega)⟩
  · have e3 := Int.tmod_nonneg (a := -x) y (by omega)
    rw [Int.neg_tmod] at e3
    have e4 : x.tdiv y * y ≤ 0 := Int.mul_nonpos_of_nonpos_of_nonneg (q4 h).2 (by omega)
    have := q4 h
    exact ⟨ck_bm_eq (by omega) (by omega), ck_bm_eq (by omega) (by omega), ck_bm_eq (by omega) (by omega)⟩
theorem ck_add32 (x y : Int32) : (x + y).toInt = (x.toInt + y.toInt).bmod (2 * ck_M32) := Int32.toInt_add x y
theorem ck_sub32 (x y : Int32) : (x - y).toInt = (x.toInt - y.toInt).bmod (2 * ck_M32) := Int32.toInt_sub x y
theorem ck_mul32 (x y : Int32) : (x * y).toInt = (x.toInt * y.toInt).bmod (2 * ck_M32) := Int32.toInt_mul x y
theorem ck_div32 (x y : Int32) : (x / y).toInt = (x.toInt.tdiv y.toInt).bmod (2 * ck_M32) := Int32.toInt_div x y
theorem ck_add64 (x y : Int64) : (x + y).toInt = (x.toInt + y.toInt).bmod (2 * ck_M64) := Int64.toInt_add x y
theorem ck_sub64 (x y : Int64) : (x - y).toInt = (x.toInt - y.toInt).bmod (2 * ck_M64) := Int64.toInt_sub x y
theorem ck_mul64 (x y : Int64) : (x * y).toInt = (x.toInt * y.toInt).bmod (2 * ck_M64) := Int64.toInt_mul x y
theorem ck_div64 (x y : Int64) : (x / y).toInt = (x.toInt.tdiv y.toInt).bmod (2 * ck_M64) := Int64.toInt_div x y
theorem ck_B32 : 0 < ck_M32 := by decide
theorem ck_B64 : 0 < ck_M64 := by decide
theorem ck_neg_msb32 (x : Int32) : x.toInt < 0 ↔ x.toBitVec.msb = true := by
  rw [show x.toInt = x.toBitVec.toInt from rfl, BitVec.toInt_neg_iff, BitVec.msb_eq_decide]
  have := x.toBitVec.isLt
  simp
  omega
theorem ck_neg_msb64 (x : Int64) : x.toInt < 0 ↔ x.toBitVec.msb = true := by
  rw [show x.toInt = x.toBitVec.toInt from rfl, BitVec.toInt_neg_iff, BitVec.msb_eq_decide]
  have := x.toBitVec.isLt
  simp
  omega
theorem ck_xor32 (x y : Int32) : (x ^^^ y).toInt < 0 ↔ ¬ (x.toInt < 0 ↔ y.toInt < 0) := by
  rw [ck_neg_msb32, ck_neg_msb32, ck_neg_msb32, Int32.toBitVec_xor, BitVec.msb_xor]
  cases x.toBitVec.msb <;> cases y.toBitVec.msb <;> decide
theorem ck_xor64 (x y : Int64) : (x ^^^ y).toInt < 0 ↔ ¬ (x.toInt < 0 ↔ y.toInt < 0) := by
  rw [ck_neg_msb64, ck_neg_msb64, ck_neg_msb64, Int64.toBitVec_xor, BitVec.msb_xor]
  cases x.toBitVec.msb <;> cases y.toBitVec.msb <;> decide
theorem ck_ne32 {y : Int32} (h : y.toInt ≠ 0) : ¬ y = 0 := fun e => h (by rw [e]; rfl)
theorem ck_ne64 {y : Int64} (h : y.toInt ≠ 0) : ¬ y = 0 := fun e => h (by rw [e]; rfl)
theorem ck_bi64_ok {c : Nat} {Q : ck_Q} {a b : ck_L} {r : List Int} {x y : Int64} {R : ck_R} (h : ck_bi64 c Q a b = some R) (hQ : ck_ok Q r) (ha : ck_Lv r a x.toInt) (hb : ck_Lv r b y.toInt) : ck_rk R r (ck_c64 c x y).toInt ∧ ¬ (ck_dz c = true ∧ y = 0) := by
  have h1 : ck_bi ck_M64 c Q a b = some R ∧ c ≠ 5 ∧ c ≠ 6 := by
    unfold ck_bi64 at h
    split at h
    · cases h
    · cases h
    · exact ⟨h, by assumption, by assumption⟩
  obtain ⟨h1, n5, n6⟩ := h1
  have hx := ck_i64 x
  have hr := ck_i64 (ck_c64 c x y)
  unfold ck_bi at h1
  split at h1
  · cases h1
    refine ⟨?_, fun z => by cases z.1⟩
    show ck_rk _ r (x + y).toInt
    rw [ck_add64]
    exact ck_ex_ok ck_B64 hQ (ha.add hb)
  · cases h1
    refine ⟨?_, fun z => by cases z.1⟩
    show ck_rk _ r (x - y).toInt
    rw [ck_sub64]
    exact ck_ex_ok ck_B64 hQ (ha.sub hb)
  · cases h1
    refine ⟨?_, fun z => by cases z.1⟩
    show ck_rk _ r (x * y).toInt
    rw [ck_mul64]
    exact ck_ti_ok ck_B64 hQ ha hb
  · have := ck_dr_ok h1 hQ ha hb hr.1 hr.2 (fun hy => by
      show (x / y).toInt = x.toInt.tdiv y.toInt
      rw [ck_div64]
      exact (ck_td hx.1 hx.2 hy).1)
    exact ⟨this.1, fun z => ck_ne64 this.2 z.2⟩
  · have := ck_dr_ok h1 hQ ha hb hr.1 hr.2 (fun hy => by
      show (x - x / y * y).toInt = x.toInt.tmod y.toInt
      obtain ⟨t1, t2, t3⟩ := ck_td hx.1 hx.2 hy
      rw [ck_sub64, ck_mul64, ck_div64, t1, t2, t3])
    exact ⟨this.1, fun z => ck_ne64 this.2 z.2⟩
  · cases h1
    exact ⟨ck_xr_ok hQ ha hb hr.1 hr.2 (ck_xor64 x y), fun z => by cases z.1⟩
  · cases h1
theorem ck_and32 (x y : Int32) (h : 0 ≤ y.toInt) : 0 ≤ (x &&& y).toInt ∧ (x &&& y).toInt ≤ y.toInt := by
  have hy : ¬ y.toBitVec.msb = true := fun z => by have := (ck_neg_msb32 y).mpr z; omega
  have hy' : y.toBitVec.msb = false := by simpa using hy
  have hz : (x &&& y).toBitVec.msb = false := by rw [Int32.toBitVec_and, BitVec.msb_and, hy', Bool.and_false]
  rw [show (x &&& y).toInt = (x &&& y).toBitVec.toInt from rfl, show y.toInt = y.toBitVec.toInt from rfl, BitVec.toInt_eq_toNat_of_msb hz, BitVec.toInt_eq_toNat_of_msb hy', Int32.toBitVec_and, BitVec.toNat_and]
  have : x.toBitVec.toNat &&& y.toBitVec.toNat ≤ y.toBitVec.toNat := Nat.and_le_right
  omega
theorem ck_bit (x : Int32) (h0 : 0 ≤ x.toInt) (h1 : x.toInt ≤ 1) : x = 0 ∨ x = 1 := by
  rcases (show x.toInt = 0 ∨ x.toInt = 1 by omega) with h | h
  · left; exact Int32.toInt_inj.mp h
  · right; exact Int32.toInt_inj.mp h
theorem ck_sh0 (x : Int32) : x <<< ((0 : Int32) &&& 31) = x ∧ x >>> ((0 : Int32) &&& 31) = x := ⟨sb_shl0 x, sb_shr0 x⟩
theorem ck_shl1 (x : Int32) : (x <<< ((1 : Int32) &&& 31)).toInt = (2 * x.toInt).bmod (2 * ck_M32) := by
  have h : x <<< ((1 : Int32) &&& 31) = 2 * x := by
    apply Int32.toBitVec_inj.mp
    have e := pk_shl x ((1 : Int32) &&& 31) 1 (by decide)
    apply BitVec.eq_of_toNat_eq
    rw [e, Int32.toBitVec_mul, BitVec.toNat_mul]
    show _ = 2 * _ % 2 ^ 32
    rw [Nat.mul_comm]
  rw [h]
  exact Int32.toInt_mul 2 x
theorem ck_shr1 (x : Int32) (h : 0 ≤ x.toInt) : (x >>> ((1 : Int32) &&& 31)).toInt = x.toInt.tdiv 2 := by
  rw [pk_shr x ((1 : Int32) &&& 31) 1 (by decide), Int.shiftRight_eq_div_pow, Int.tdiv_eq_ediv_of_nonneg h]
  rfl
theorem ck_ushr8 (x : Int32) (h : 0 ≤ x.toInt) : ((x.toUInt32 >>> ((8:Int32).toUInt32 &&& Int32.toUInt32 31)).toInt32).toInt = x.toInt.tdiv 256 := by
  have e : ((8:Int32).toUInt32 &&& Int32.toUInt32 31) = 8 := by decide
  rw [e]
  have hm : x.toBitVec.msb = false := by
    cases hc : x.toBitVec.msb
    · rfl
    · have := BitVec.toInt_neg_of_msb_true hc
      have h2 : 0 ≤ x.toBitVec.toInt := h
      omega
  have e1 : x.toInt = (x.toBitVec.toNat : Int) := by
    show x.toBitVec.toInt = _
    rw [BitVec.toInt_eq_toNat_of_msb hm]
  have e2 : (x.toUInt32 >>> 8).toBitVec.toNat = x.toBitVec.toNat / 256 := by
    have := UInt32.toNat_shiftRight x.toUInt32 8
    rw [show (x.toUInt32 >>> 8).toBitVec.toNat = (x.toUInt32 >>> 8).toNat from rfl, this]
    show x.toBitVec.toNat >>> 8 = _
    rw [Nat.shiftRight_eq_div_pow]
  have e3 : x.toBitVec.toNat < 2 ^ 32 := x.toBitVec.isLt
  show (x.toUInt32 >>> 8).toBitVec.toInt = _
  rw [BitVec.toInt_eq_toNat_of_lt (by rw [e2]; omega), e2, e1, Int.tdiv_eq_ediv_of_nonneg (by omega)]
  omega
theorem ck_bi32_ok {c : Nat} {Q : ck_Q} {a b : ck_L} {r : List Int} {x y : Int32} {R : ck_R} (h : ck_bi32 c Q a b = some R) (hQ : ck_ok Q r) (ha : ck_Lv r a x.toInt) (hb : ck_Lv r b y.toInt) : ck_rk R r (ck_c32 c x y).toInt ∧ ¬ (ck_dz c = true ∧ y = 0) := by
  have hx := ck_i32 x
  have hr := ck_i32 (ck_c32 c x y)
  unfold ck_bi32 at h
  split at h
  · split at h
    · next m =>
      cases h
      refine ⟨?_, fun z => by cases z.1⟩
      have h1 : y.toInt = Int.ofNat m + 0 := hb.2
      have h2 := ck_and32 x y (by have : (0 : Int) ≤ Int.ofNat m := Int.natCast_nonneg m; omega)
      exact ⟨h2.1, by show (x &&& y).toInt ≤ Int.ofNat m; omega, ck_Co.nil⟩
    · cases h
  · refine ⟨?_, fun z => by cases z.1⟩
    cases hc : (ck_is Q 0 1 a && ck_is Q 0 1 b)
    · rw [hc, cond_false] at h
      cases h
      exact ck_fu_ok hr.1 hr.2
    · rw [hc, cond_true] at h
      cases h
      obtain ⟨h1, h2⟩ := Bool.and_eq_true_iff.mp hc
      have h1 := ck_is_ok h1 hQ ha
      have h2 := ck_is_ok h2 hQ hb
      have hz : ck_Lv (r ++ [(ck_c32 6 x y).toInt]) (ck_x Q.1.length) (ck_c32 6 x y).toInt := by rw [hQ.1.1]; exact ck_Lv.last r _
      have ha' := ha.app [(ck_c32 6 x y).toInt]
      have hb' := hb.app [(ck_c32 6 x y).toInt]
      have k : ∀ x y : Int32, (x = 0 ∨ x = 1) → (y = 0 ∨ y = 1) → ((0 : Int) ≤ (ck_c32 6 x y).toInt ∧ (ck_c32 6 x y).toInt ≤ 1) ∧ 0 ≤ (ck_c32 6 x y).toInt - x.toInt ∧ 0 ≤ (ck_c32 6 x y).toInt - y.toInt := by
        rintro x y (rfl | rfl) (rfl | rfl) <;> decide
      obtain ⟨⟨k1, k2⟩, k3, k4⟩ := k x y (ck_bit x h1.1 h1.2) (ck_bit y h2.1 h2.2)
      exact ⟨k1, k2, ck_Co.cons (hz.sub ha') k3 (ck_Co.cons (hz.sub hb') k4 ck_Co.nil)⟩
  · refine ⟨?_, fun z => by cases z.1⟩
    cases hc : ck_is Q 0 0 b
    · rw [hc, cond_false] at h
      cases hd : ck_is Q 1 1 b
      · rw [hd, cond_false] at h
        cases h
        exact ck_fu_ok hr.1 hr.2
      · rw [hd, cond_true] at h
        cases h
        have h2 := ck_is_ok hd hQ hb
        have h3 : y = 1 := Int32.toInt_inj.mp (show y.toInt = (1 : Int32).toInt from by have : (1 : Int32).toInt = 1 := rfl; omega)
        rw [h3]
        show ck_rk _ r (x <<< ((1 : Int32) &&& 31)).toInt
        rw [ck_shl1]
        exact ck_ex_ok ck_B32 hQ (ha.mul 2)
    · rw [hc, cond_true] at h
      cases h
      have h2 := ck_is_ok hc hQ hb
      have h3 : y = 0 := Int32.toInt_inj.mp (show y.toInt = (0 : Int32).toInt from by have : (0 : Int32).toInt = 0 := rfl; omega)
      rw [h3]
      show ck_Lv r a (x <<< ((0 : Int32) &&& 31)).toInt
      rw [(ck_sh0 x).1]
      exact ha
  · refine ⟨?_, fun z => by cases z.1⟩
    cases hc : ck_is Q 0 0 b
    · rw [hc, cond_false] at h
      cases hd : (ck_is Q 1 1 b && ck_nn (ck_lo Q.1 a))
      · rw [hd, cond_false] at h
        cases h
        exact ck_fu_ok hr.1 hr.2
      · rw [hd, cond_true] at h
        cases h
        obtain ⟨hd, he⟩ := Bool.and_eq_true_iff.mp hd
        have h2 := ck_is_ok hd hQ hb
        have he := ck_nn_ok he
        have hf := ck_lo_le hQ.1 ha
        have h3 : y = 1 := Int32.toInt_inj.mp (show y.toInt = (1 : Int32).toInt from by have : (1 : Int32).toInt = 1 := rfl; omega)
        rw [h3]
        show ck_rk _ r (x >>> ((1 : Int32) &&& 31)).toInt
        rw [ck_shr1 x (by omega)]
        exact ck_dv_ok hQ ha (ck_Lv.k r 2) (by omega)
    · rw [hc, cond_true] at h
      cases h
      have h2 := ck_is_ok hc hQ hb
      have h3 : y = 0 := Int32.toInt_inj.mp (show y.toInt = (0 : Int32).toInt from by have : (0 : Int32).toInt = 0 := rfl; omega)
      rw [h3]
      show ck_Lv r a (x >>> ((0 : Int32) &&& 31)).toInt
      rw [(ck_sh0 x).2]
      exact ha
  · refine ⟨?_, fun z => by cases z.1⟩
    cases hd : (ck_is Q 8 8 b && ck_nn (ck_lo Q.1 a))
    · rw [hd, cond_false] at h
      cases h
      exact ck_fu_ok hr.1 hr.2
    · rw [hd, cond_true] at h
      cases h
      obtain ⟨hd, he⟩ := Bool.and_eq_true_iff.mp hd
      have h2 := ck_is_ok hd hQ hb
      have he := ck_nn_ok he
      have hf := ck_lo_le hQ.1 ha
      have h3 : y = 8 := Int32.toInt_inj.mp (show y.toInt = (8 : Int32).toInt from by have : (8 : Int32).toInt = 8 := rfl; omega)
      rw [h3]
      show ck_rk _ r ((x.toUInt32 >>> ((8 : Int32).toUInt32 &&& Int32.toUInt32 31)).toInt32).toInt
      rw [ck_ushr8 x (by omega)]
      exact ck_dv_ok hQ ha (ck_Lv.k r 256) (by omega)
  · unfold ck_bi at h
    split at h
    · cases h
      refine ⟨?_, fun z => by cases z.1⟩
      show ck_rk _ r (x + y).toInt
      rw [ck_add32]
      exact ck_ex_ok ck_B32 hQ (ha.add hb)
    · cases h
      refine ⟨?_, fun z => by cases z.1⟩
      show ck_rk _ r (x - y).toInt
      rw [ck_sub32]
      exact ck_ex_ok ck_B32 hQ (ha.sub hb)
    · cases h
      refine ⟨?_, fun z => by cases z.1⟩
      show ck_rk _ r (x * y).toInt
      rw [ck_mul32]
      exact ck_ti_ok ck_B32 hQ ha hb
    · have := ck_dr_ok h hQ ha hb hr.1 hr.2 (fun hy => by
        show (x / y).toInt = x.toInt.tdiv y.toInt
        rw [ck_div32]
        exact (ck_td hx.1 hx.2 hy).1)
      exact ⟨this.1, fun z => ck_ne32 this.2 z.2⟩
    · have := ck_dr_ok h hQ ha hb hr.1 hr.2 (fun hy => by
        show (x - x / y * y).toInt = x.toInt.tmod y.toInt
        obtain ⟨t1, t2, t3⟩ := ck_td hx.1 hx.2 hy
        rw [ck_sub32, ck_mul32, ck_div32, t1, t2, t3])
      exact ⟨this.1, fun z => ck_ne32 this.2 z.2⟩
    · cases h
      exact ⟨ck_xr_ok hQ ha hb hr.1 hr.2 (ck_xor32 x y), fun z => by cases z.1⟩
    · cases h
