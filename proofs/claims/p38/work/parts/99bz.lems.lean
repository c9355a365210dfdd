/-! COPRIME ROWS -/
theorem nu_copm {a b m : Nat} (h1 : Nat.gcd a m = 1) (h2 : Nat.gcd b m = 1) : Nat.gcd (a * b) m = 1 := Nat.coprime_mul_iff_left.mpr ⟨h1, h2⟩
def li_g1K : ck_KK := (([(1, 999)], [], [(3, 0, 1, 2550, (1, 0, (0, [(1, 0)])))], 1, [(3, 0, (0, []))]), ((0, []), (0, [])), [], [], ([], [], [(4, 0, 1, 0, (0, 0, (1000, [(1, 0)])))], 0, []), [])
theorem li_g1_con {G : am_G} {X : ck_XT} : ck_Con (ck_lem G) G X gT li_g1K := by
  intro K r s a h hH hV hC hF hn hS mc ms hmc hms
  match r, hV.1 with
  | [x0], _ =>
    obtain ⟨i1, i2⟩ := li_in' hV
    refine ⟨h, ck_rh.rf _, hH, ck_Kp.rf, Nat.le_refl _, [], [], li_in0, (fun c hc => nomatch hc), List.forall_mem_cons.mpr ⟨?_, List.forall_mem_nil _⟩, rfl, trivial⟩
    refine ⟨1000 + x0, ⟨fun t ht => ?_, ?_⟩, 1, x0.toNat, by omega, by omega, Nat.gcd_one_left _⟩
    · simp at ht
      rw [ht]
      exact Nat.le_of_ble_eq_true rfl
    · show _ = (1000 : Int) + (1 * x0 + 0)
      omega
theorem nu_zz {d w : Int} (h : 10000000000000000000 * d = w) (h1 : -10000000000000000000 < w) (h2 : w < 10000000000000000000) : d = 0 := by omega
theorem nu_cp1 {x0 x1 x2 : Int} {P A B : Nat} (i1 : 1 ≤ x0) (i2 : x0 ≤ 995009990004999) (i3 : 1 ≤ x1) (i4 : x1 ≤ 999) (b1 : A < 10000000000000000) (b2 : B < 1000) (e : (0 : Int) + (1000 * x0 + (1 * x1 + (10000000000000000000 * x2 + 0))) = 10000000000000000000 * (P : Int) + (1000 * (A : Int) + (B : Int))) : x2 = (P : Int) ∧ x0 = (A : Int) ∧ x1 = (B : Int) := by
  have hd := nu_zz (d := x2 - (P : Int)) (w := (1000 * (A : Int) + (B : Int)) - (1000 * x0 + x1)) (by omega) (by omega) (by omega)
  have h2 : x2 = (P : Int) := by omega
  rw [h2] at e
  have e2 : 1000 * x0 + x1 = 1000 * (A : Int) + (B : Int) := by omega
  exact ⟨h2, by clear e hd h2; omega, by clear e hd h2; omega⟩
theorem nu_cp2 {x y : Int} {A B : Nat} (i3 : 0 ≤ y) (i4 : y ≤ 999) (b2 : B < 1000) (e : (0 : Int) + (1000 * x + (1 * y + 0)) = 1000 * (A : Int) + (B : Int)) : x = (A : Int) ∧ y = (B : Int) := by omega
def li_cprK : ck_KK := (([(1, 995009990004999), (1, 999), (1, 994014980014994001), (1, 999)], [], [(3, 0, 1, 2550, (1, 0, (0, [(1, 1)]))), (3, 1, 1, 2550, (1, 0, (0, [(1, 3)]))), (4, 0, 3, 0, (0, 0, (0, [(1000, 0), (1, 1), (10000000000000000000, 2)]))), (4, 0, 1, 0, (0, 0, (0, [(1000, 0), (1, 3)]))), (4, 0, 1, 0, (0, 0, (0, [(1000, 1), (1, 3)])))], 2, [(2, 0, (0, [(1, 2)])), (2, 0, (0, [(1, 0)])), (3, 0, (0, [])), (3, 1, (0, []))]), ((0, []), (0, [])), [], [], ([], [], [(4, 0, 1, 0, (0, 0, (0, [(1000, 2), (1, 3)])))], 0, []), [])
theorem li_cpr_con {G : am_G} {X : ck_XT} : ck_Con (ck_lem G) G X gT li_cprK := by
  intro K r s a h hH hV hC hF hn hS mc ms hmc hms
  match r, hV.1 with
  | [x0, x1, x2, x3], _ =>
    obtain ⟨i1, i2⟩ := li_in' hV
    obtain ⟨i3, i4⟩ := hV.2 1 _ _ x1 rfl rfl
    obtain ⟨i5, i6⟩ := hV.2 2 _ _ x2 rfl rfl
    obtain ⟨i7, i8⟩ := hV.2 3 _ _ x3 rfl rfl
    obtain ⟨xx, f1, P', A', B', b1, b2, b3, b4⟩ := hF (4, 0, 3, 0, (0, 0, (0, [(1000, 0), (1, 1), (10000000000000000000, 2)]))) (by unfold li_cprK; simp)
    have f2 : xx = (0 : Int) + (1000 * x0 + (1 * x1 + (10000000000000000000 * x2 + 0))) := f1.2
    rw [show (10 : Int) ^ 19 = 10000000000000000000 from by decide] at b3
    have b1 : A' < 10000000000000000 := b1
    obtain ⟨yy, g1, A2, B2, g2, g3, g4⟩ := hF (4, 0, 1, 0, (0, 0, (0, [(1000, 0), (1, 3)]))) (by unfold li_cprK; simp)
    have g5 : yy = (0 : Int) + (1000 * x0 + (1 * x3 + 0)) := g1.2
    obtain ⟨zz, k1, A3, B3, k2, k3, k4⟩ := hF (4, 0, 1, 0, (0, 0, (0, [(1000, 1), (1, 3)]))) (by unfold li_cprK; simp)
    have k5 : zz = (0 : Int) + (1000 * x1 + (1 * x3 + 0)) := k1.2
    obtain ⟨hP, m1, m2⟩ := nu_cp1 i1 i2 i3 i4 b1 b2 (f2.symm.trans b3)
    obtain ⟨m3, m4⟩ := nu_cp2 (by omega) i8 g2 (g5.symm.trans g3)
    obtain ⟨m5, m6⟩ := nu_cp2 (by omega) i8 k2 (k5.symm.trans k3)
    have h1 : A' = A2 := Int.ofNat.inj (m1.symm.trans m3)
    have h2 : B' = A3 := Int.ofNat.inj (m2.symm.trans m5)
    have h3 : B2 = B3 := Int.ofNat.inj (m4.symm.trans m6)
    subst h1 h2 h3
    clear f1 f2 b3 g1 g3 g5 k1 k3 k5 hF hC hS
    refine ⟨h, ck_rh.rf _, hH, ck_Kp.rf, Nat.le_refl _, [], [], li_in0, (fun c hc => nomatch hc), List.forall_mem_cons.mpr ⟨?_, List.forall_mem_nil _⟩, rfl, trivial⟩
    refine ⟨1000 * x2 + x3, ⟨fun t ht => ?_, ?_⟩, P', B2, g2, by rw [hP, m4], by rw [b4]; exact nu_copm g4 k4⟩
    · simp at ht
      rcases ht with rfl | rfl <;> exact Nat.le_of_ble_eq_true rfl
    · show _ = (0 : Int) + (1000 * x2 + (1 * x3 + 0))
      omega
def li_cpnK : ck_KK := (([(1, 995009990004999), (1, 994014980014994001)], [], [], 2, [(2, 0, (0, [(1, 1)])), (2, 0, (0, [(1, 0)])), (3, 0, (0, [])), (3, 1, (0, []))]), ((0, []), (0, [])), [], [], ([], [], [], 0, []), [])
theorem li_cpn_con {G : am_G} {X : ck_XT} : ck_Con (ck_lem G) G X gT li_cpnK := by
  intro K r s a h hH hV hC hF hn hS mc ms hmc hms
  exact ⟨h, ck_rh.rf _, hH, ck_Kp.rf, Nat.le_refl _, [], [], li_in0, (fun c hc => nomatch hc), List.forall_mem_nil _, rfl, trivial⟩
def nu_comB (B : Int) : ck_KK := (([(1, B), (1, 999)], [], [(4, 0, 1, 0, (0, 0, (0, [(1000, 0), (1, 1)])))], 0, [(2, 0, (0, [(1, 0)])), (1, 0, (0, [(1, 1)]))]), ((0, []), (0, [])), [], [], ([(1, 999 * B)], [], [(4, 0, 3, 0, (0, 0, (0, [(1000, 0), (1, 1), (10000000000000000000, 2)])))], 0, [(2, 0, (0, [(1, 2)]))]), [])
theorem nu_comB_con {l : Launch} {G : am_G} {X : ck_XT} (g : gE l G X) {B : Int} (hB0 : 1 ≤ B) (hB : B ≤ 995009990004999) : ck_Con (am_cm l G yX14_common (.code yX14_common prog_14_method_30_code 3 (some .long)) 2 43) G X gT (nu_comB B) := by
  intro K r s a h hH hV hC hF hn hS mc ms hmc hms
  match r, hV.1 with
  | [x0, x1], _ =>
    match a, hS with
    | [w1, w2], ⟨⟨y1, c1, c2⟩, ⟨y2, c3, c4⟩, _⟩ =>
      subst c1 c3
      have c2 := ck_lv1 c2
      have c4 := ck_lv1 c4
      cases c2; cases c4
      obtain ⟨i1, i2⟩ := li_in' hV
      obtain ⟨i3, i4⟩ := hV.2 1 1 999 y2.toInt rfl rfl
      obtain ⟨xx, f1, A', B', f2, f3, f4⟩ := hF (4, 0, 1, 0, (0, 0, (0, [(1000, 0), (1, 1)]))) (by unfold nu_comB; simp)
      have f5 : xx = (0 : Int) + (1000 * y1.toInt + (1 * y2.toInt + 0)) := f1.2
      have hA : y1.toInt = (A' : Int) := by omega
      have hB' : y2.toInt = (B' : Int) := by omega
      rw [nu_i64 hA, nu_i32 hB']
      have hmul : (A' : Int) * (B' : Int) ≤ B * 999 := Int.mul_le_mul (by omega) (by omega) (by omega) (by omega)
      have hmul1 : (1 : Int) * 1 ≤ (A' : Int) * (B' : Int) := Int.mul_le_mul (by omega) (by omega) (by omega) (by omega)
      refine nu_com_M g (by omega) (by omega) (by omega) (by omega) f4 ⟨hH, ck_Kp.rf, Nat.le_refl _, [(A' : Int) * (B' : Int)], [], li_in (by omega) (by omega) li_in0, (fun c hc => nomatch hc), List.forall_mem_cons.mpr ⟨?_, List.forall_mem_nil _⟩, rfl, ⟨⟨_, rfl, by rw [show (Int64.ofInt ((A' : Int) * (B' : Int))).toInt = (A' : Int) * (B' : Int) from hd_li (by omega) (by omega)]; exact ck_Lv.x rfl⟩, trivial⟩⟩
      refine ⟨10000000000000000000 * ((A' : Int) * (B' : Int)) + (1000 * (A' : Int) + (B' : Int)), ⟨fun t ht => ?_, ?_⟩, A' * B', A', B', by omega, by omega, by rw [Int.natCast_mul, show (10 : Int) ^ 19 = 10000000000000000000 from by decide], rfl⟩
      · simp at ht
        rcases ht with rfl | rfl | rfl <;> exact Nat.le_of_ble_eq_true rfl
      · show _ = (0 : Int) + (1000 * (Int64.ofInt (A' : Int)).toInt + (1 * (Int32.ofInt (B' : Int)).toInt + (10000000000000000000 * ((A' : Int) * (B' : Int)) + 0)))
        rw [hd_li (by omega) (by omega), hd_oi (by omega) (by omega)]
        omega
