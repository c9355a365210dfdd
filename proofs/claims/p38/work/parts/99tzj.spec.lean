/-! WHAT A CALL DOES TO THE STATE: of both sides -/
/-- state, what may come back, jams, misses, knocks -/
abbrev sp_T : Type := sp_S × List sp_S × Int × Int × Int
def sp_up (T : sp_T) (c : sp_S) : sp_T := (c, sp_keep T.2.1 T.1, T.2.2)
def sp_ja (T : sp_T) : sp_T := (T.1, T.2.1, T.2.2.1 + 1, T.2.2.2)
def sp_mi (T : sp_T) : sp_T := (T.1, T.2.1, T.2.2.1, T.2.2.2.1 + 1, T.2.2.2.2)
def sp_s1 (e : Int) : Prop := 0 ≤ e ∧ e < 6
def sp_at (T : sp_T) (e : Int) : Int := T.1.2.1.getD e.toNat 0
def sp_set (c : sp_S) (e z : Int) : sp_S := (c.1, c.2.1.set e.toNat z, c.2.2)
def sp_num (T : sp_T) (e z a th : Int) (T' : sp_T) (w : Int) : Prop := (sp_in z ∧ th = 0 ∧ T' = sp_up T (sp_set T.1 e z) ∧ ∃ d : Nat, a = (d : Int) ∧ zc_dg (z.natAbs : Int) d) ∨ (¬ sp_in z ∧ th = w ∧ T' = T)
def sp_rnd (T : sp_T) (e : Int) (R : Int → Prop) (a th : Int) (T' : sp_T) : Prop := th = 0 ∧ ((T.1.1 ≤ 0 ∧ a = -9 ∧ T' = sp_ja T) ∨ (0 < T.1.1 ∧ R a ∧ ((a = -8 ∧ T' = sp_mi T) ∨ (0 ≤ a ∧ T' = sp_up T (sp_set T.1 e a)))))
def sp_row (e e2 : Int) : Prop := -9999 ≤ e ∧ e ≤ 9999 ∧ 1 ≤ e2 ∧ e2 ≤ 999
def sp_md (T : sp_T) (e : Int) : Int := sp_at T e % T.1.1
def sp_d0 (e e2 : Int) (T : sp_T) (a th : Int) (T' : sp_T) : Prop := ((-9 ≤ e ∧ e ≤ 400) ∧ th = 0 ∧ a = T.1.1 ∧ T' = sp_up T (e, T.1.2)) ∨ (¬ (-9 ≤ e ∧ e ≤ 400) ∧ th = 1 ∧ T' = T)
def sp_d1 (e e2 : Int) (T : sp_T) (a th : Int) (T' : sp_T) : Prop := (sp_s1 e ∧ sp_num T e e2 a th T' 9) ∨ (¬ sp_s1 e ∧ th = 1 ∧ T' = T)
def sp_d2 (e e2 : Int) (T : sp_T) (a th : Int) (T' : sp_T) : Prop := (sp_s1 e ∧ (((0 ≤ e2 ∧ e2 < 1000000000) ∧ sp_num T e (sp_at T e * 1000000000 + e2) a th T' 3) ∨ (¬ (0 ≤ e2 ∧ e2 < 1000000000) ∧ th = 2 ∧ T' = T))) ∨ (¬ sp_s1 e ∧ th = 1 ∧ T' = T)
def sp_d3 (e e2 : Int) (T : sp_T) (a th : Int) (T' : sp_T) : Prop := ((sp_s1 e ∧ sp_s1 e2) ∧ sp_num T e (sp_at T e + sp_at T e2) a th T' 2) ∨ (¬ (sp_s1 e ∧ sp_s1 e2) ∧ th = 1 ∧ T' = T)
def sp_d4 (e e2 : Int) (T : sp_T) (a th : Int) (T' : sp_T) : Prop := ((sp_s1 e ∧ sp_s1 e2) ∧ sp_num T e (sp_at T e * sp_at T e2) a th T' 2) ∨ (¬ (sp_s1 e ∧ sp_s1 e2) ∧ th = 1 ∧ T' = T)
def sp_d5 (e e2 : Int) (T : sp_T) (a th : Int) (T' : sp_T) : Prop := (sp_s1 e ∧ th = 0 ∧ a = -(sp_at T e).sign ∧ T' = sp_up T (sp_set T.1 e (-(sp_at T e)))) ∨ (¬ sp_s1 e ∧ th = 1 ∧ T' = T)
def sp_d6 (e e2 : Int) (T : sp_T) (a th : Int) (T' : sp_T) : Prop := (sp_s1 e ∧ sp_rnd T e (fun v => v = sp_md T e) a th T') ∨ (¬ sp_s1 e ∧ th = 1 ∧ T' = T)
def sp_d7 (e e2 : Int) (T : sp_T) (a th : Int) (T' : sp_T) : Prop := ((sp_s1 e ∧ sp_s1 e2) ∧ sp_rnd T e (fun v => v = (sp_md T e + sp_md T e2) % T.1.1) a th T') ∨ (¬ (sp_s1 e ∧ sp_s1 e2) ∧ th = 1 ∧ T' = T)
def sp_d8 (e e2 : Int) (T : sp_T) (a th : Int) (T' : sp_T) : Prop := ((sp_s1 e ∧ sp_s1 e2) ∧ sp_rnd T e (fun v => v = sp_md T e * sp_md T e2 % T.1.1) a th T') ∨ (¬ (sp_s1 e ∧ sp_s1 e2) ∧ th = 1 ∧ T' = T)
def sp_d9 (e e2 : Int) (T : sp_T) (a th : Int) (T' : sp_T) : Prop := ((sp_s1 e ∧ sp_s1 e2) ∧ sp_rnd T e (fun v => zc_pw (sp_md T e).toNat T.1.1.toNat (sp_at T e2) v) a th T') ∨ (¬ (sp_s1 e ∧ sp_s1 e2) ∧ th = 1 ∧ T' = T)
def sp_d10 (e e2 : Int) (T : sp_T) (a th : Int) (T' : sp_T) : Prop := (sp_s1 e ∧ sp_rnd T e (fun v => sm_inv (sp_md T e).toNat T.1.1.toNat v) a th T') ∨ (¬ sp_s1 e ∧ th = 1 ∧ T' = T)
def sp_rw (T : sp_T) (e e2 : Int) : sp_S := (T.1.1, T.1.2.1, T.1.2.2.1 ++ [(e % e2, e2)], T.1.2.2.2)
def sp_d11 (e e2 : Int) (T : sp_T) (a th : Int) (T' : sp_T) : Prop := (sp_row e e2 ∧ ((T.1.2.2.1.length < 6 ∧ th = 0 ∧ a = (T.1.2.2.1.length : Int) ∧ T' = sp_up T (sp_rw T e e2)) ∨ (¬ T.1.2.2.1.length < 6 ∧ th = 2 ∧ T' = T))) ∨ (¬ sp_row e e2 ∧ th = 1 ∧ T' = T)
def sp_d12 (e e2 : Int) (T : sp_T) (a th : Int) (T' : sp_T) : Prop := (sp_row e e2 ∧ ((T.1.2.2.1.length < 6 ∧ th = 0 ∧ ((sp_fit (T.1.2.2.1 ++ [(e % e2, e2)]) ∧ a = 1 ∧ T' = sp_up T (sp_rw T e e2)) ∨ (¬ sp_fit (T.1.2.2.1 ++ [(e % e2, e2)]) ∧ a = 0 ∧ T' = T))) ∨ (¬ T.1.2.2.1.length < 6 ∧ th = 2 ∧ T' = T))) ∨ (¬ sp_row e e2 ∧ th = 1 ∧ T' = T)
def sp_d13 (e e2 : Int) (T : sp_T) (a th : Int) (T' : sp_T) : Prop := ((0 ≤ e ∧ e < (T.1.2.2.1.length : Int)) ∧ th = 0 ∧ a = ((T.1.2.2.1.eraseIdx e.toNat).length : Int) ∧ T' = sp_up T (T.1.1, T.1.2.1, T.1.2.2.1.eraseIdx e.toNat, T.1.2.2.2)) ∨ (¬ (0 ≤ e ∧ e < (T.1.2.2.1.length : Int)) ∧ th = 1 ∧ T' = T)
def sp_d14 (e e2 : Int) (T : sp_T) (a th : Int) (T' : sp_T) : Prop := ((2 ≤ e ∧ e ≤ 999) ∧ ((sp_tb T.1 e ∧ th = 0 ∧ a = (T.1.2.2.2.length : Int) ∧ T' = sp_up T (T.1.1, T.1.2.1, T.1.2.2.1, T.1.2.2.2 ++ [e])) ∨ (¬ sp_tb T.1 e ∧ th = 2 ∧ T' = T))) ∨ (¬ (2 ≤ e ∧ e ≤ 999) ∧ th = 1 ∧ T' = T)
def sp_d15 (e e2 : Int) (T : sp_T) (a th : Int) (T' : sp_T) : Prop := (∃ (B : List Int) (b : Int), T.1.2.2.2 = B ++ [b] ∧ th = 0 ∧ a = b ∧ T' = sp_up T (T.1.1, T.1.2.1, T.1.2.2.1, B)) ∨ (T.1.2.2.2 = [] ∧ th = 1 ∧ T' = T)
def sp_d16 (e e2 : Int) (T : sp_T) (a th : Int) (T' : sp_T) : Prop := (∃ (P : List sp_S) (s : sp_S), T.2.1 = P ++ [s] ∧ th = 0 ∧ a = (P.length : Int) ∧ T' = (s, P, T.2.2)) ∨ (T.2.1 = [] ∧ th = 1 ∧ T' = T)
def sp_d17 (e e2 : Int) (T : sp_T) (a th : Int) (T' : sp_T) : Prop := th = 0 ∧ a = T.2.2.2.2 + 1 ∧ T' = (T.1, T.2.1, T.2.2.1, T.2.2.2.1, T.2.2.2.2 + 1)
theorem sm_inv.fn {a m : Nat} {v w : Int} (h1 : sm_inv a m v) (h2 : sm_inv a m w) : v = w := by
  rcases h1 with ⟨a1_, a2_⟩ | ⟨a1_, a2_, a3_, a4_⟩
  · rcases h2 with ⟨b1_, b2_⟩ | ⟨b1_, -⟩
    · rw [a2_, b2_]
    · exact absurd b1_ a1_
  · rcases h2 with ⟨b1_, -⟩ | ⟨b1_, b2_, b3_, b4_⟩
    · exact absurd a1_ b1_
    · have d_ : (m : Int) ∣ (a : Int) * v - (a : Int) * w := zj_emd (a4_.trans b4_.symm)
      rw [← Int.mul_sub] at d_
      have d2_ : (m : Int) ∣ v - w := Int.ofNat_dvd_left.mpr ((Nat.Coprime.dvd_of_dvd_mul_left (show Nat.Coprime m a from (Nat.gcd_comm m a).trans a1_)) (by
        have := Int.ofNat_dvd_left.mp d_
        rw [Int.natAbs_mul, Int.natAbs_natCast] at this
        exact this))
      obtain ⟨q_, hq_⟩ := d2_
      have q0_ : q_ = 0 := by
        apply Classical.byContradiction
        intro c_
        rcases Int.lt_or_gt_of_ne c_ with l_ | l_
        · have := Int.mul_le_mul_of_nonneg_left (show q_ ≤ -1 by omega) (show 0 ≤ (m : Int) by omega)
          omega
        · have := Int.mul_le_mul_of_nonneg_left (show 1 ≤ q_ by omega) (show 0 ≤ (m : Int) by omega)
          omega
      rw [q0_, Int.mul_zero] at hq_
      omega
theorem zc_pw.fn {a m : Nat} {e v w : Int} (h1 : zc_pw a m e v) (h2 : zc_pw a m e w) : v = w := by
  rcases h1 with ⟨a1_, a2_, a3_⟩ | ⟨a1_, f_, a2_, a3_, a4_, a5_⟩
  · rcases h2 with ⟨b1_, b2_, b3_⟩ | ⟨b1_, -⟩
    · rw [a3_, b3_]
    · exact absurd (b1_ a1_) a2_
  · rcases h2 with ⟨b1_, b2_, b3_⟩ | ⟨b1_, g_, b2_, b3_, b4_, b5_⟩
    · exact absurd (a1_ b1_) b2_
    · have fg_ : f_ = g_ := by
        by_cases c_ : e < 0
        · have s1_ : sm_inv a m (f_ : Int) := Or.inr ⟨a1_ c_, by omega, by omega, a3_ c_⟩
          have s2_ : sm_inv a m (g_ : Int) := Or.inr ⟨a1_ c_, by omega, by omega, b3_ c_⟩
          have := s1_.fn s2_
          omega
        · rw [a4_ c_, b4_ c_]
      rw [a5_, b5_, fg_]
def sp_al (a th : Int) (T' : sp_T) (a2 th2 : Int) (T2 : sp_T) : Prop := th = th2 ∧ T' = T2 ∧ (th = 0 → a = a2)
theorem sp_al.re {a th a2 th2 w : Int} {T T' T2 : sp_T} (hw : w ≠ 0) (h1 : th = w ∧ T' = T) (h2 : th2 = w ∧ T2 = T) : sp_al a th T' a2 th2 T2 := ⟨by rw [h1.1, h2.1], by rw [h1.2, h2.2], fun z => absurd (h1.1.symm.trans z) hw⟩
theorem sp_num.fn {T T' T2 : sp_T} {e z a th a2 th2 w : Int} (hw : w ≠ 0) (h1 : sp_num T e z a th T' w) (h2 : sp_num T e z a2 th2 T2 w) : sp_al a th T' a2 th2 T2 := by
  rcases h1 with ⟨a1_, a2_, a3_, d_, a4_, a5_⟩ | ⟨a1_, a2_⟩
  · rcases h2 with ⟨b1_, b2_, b3_, d2_, b4_, b5_⟩ | ⟨b1_, -⟩
    · exact ⟨by rw [a2_, b2_], by rw [a3_, b3_], fun _ => by rw [a4_, b4_, a5_.fn b5_]⟩
    · exact absurd a1_ b1_
  · rcases h2 with ⟨b1_, -⟩ | ⟨b1_, b2_⟩
    · exact absurd b1_ a1_
    · exact sp_al.re hw a2_ b2_
theorem sp_rnd.fn {T T' T2 : sp_T} {e a th a2 th2 : Int} {R : Int → Prop} (hR : ∀ v w, R v → R w → v = w) (h1 : sp_rnd T e R a th T') (h2 : sp_rnd T e R a2 th2 T2) : sp_al a th T' a2 th2 T2 := by
  obtain ⟨t1_, h1⟩ := h1
  obtain ⟨t2_, h2⟩ := h2
  rcases h1 with ⟨c1_, a1_, a2_⟩ | ⟨c1_, r1_, a1_⟩
  · rcases h2 with ⟨c2_, b1_, b2_⟩ | ⟨c2_, -⟩
    · exact ⟨by rw [t1_, t2_], by rw [a2_, b2_], fun _ => by rw [a1_, b1_]⟩
    · omega
  · rcases h2 with ⟨c2_, -⟩ | ⟨c2_, r2_, b1_⟩
    · omega
    · have e_ := hR _ _ r1_ r2_
      subst e_
      rcases a1_ with ⟨a1_, a2_⟩ | ⟨a1_, a2_⟩
      · rcases b1_ with ⟨b1_, b2_⟩ | ⟨b1_, b2_⟩
        · exact ⟨by rw [t1_, t2_], by rw [a2_, b2_], fun _ => rfl⟩
        · omega
      · rcases b1_ with ⟨b1_, b2_⟩ | ⟨b1_, b2_⟩
        · omega
        · exact ⟨by rw [t1_, t2_], by rw [a2_, b2_], fun _ => rfl⟩
theorem sp_d0.fn {e e2 a th a2 th2 : Int} {T T' T2 : sp_T} (h1 : sp_d0 e e2 T a th T') (h2 : sp_d0 e e2 T a2 th2 T2) : sp_al a th T' a2 th2 T2 := by
  rcases h1 with ⟨x1_, h1⟩ | ⟨x1_, h1⟩
  · rcases h2 with ⟨x2_, h2⟩ | ⟨x2_, -⟩
    · exact ⟨by rw [h1.1, h2.1], by rw [h1.2.2, h2.2.2], fun _ => by rw [h1.2.1, h2.2.1]⟩
    · exact absurd x1_ x2_
  · rcases h2 with ⟨x2_, -⟩ | ⟨x2_, h2⟩
    · exact absurd x2_ x1_
    · exact sp_al.re (by decide) h1 h2
theorem sp_d1.fn {e e2 a th a2 th2 : Int} {T T' T2 : sp_T} (h1 : sp_d1 e e2 T a th T') (h2 : sp_d1 e e2 T a2 th2 T2) : sp_al a th T' a2 th2 T2 := by
  rcases h1 with ⟨x1_, h1⟩ | ⟨x1_, h1⟩
  · rcases h2 with ⟨x2_, h2⟩ | ⟨x2_, -⟩
    · exact sp_num.fn (by decide) h1 h2
    · exact absurd x1_ x2_
  · rcases h2 with ⟨x2_, -⟩ | ⟨x2_, h2⟩
    · exact absurd x2_ x1_
    · exact sp_al.re (by decide) h1 h2
theorem sp_d2.fn {e e2 a th a2 th2 : Int} {T T' T2 : sp_T} (h1 : sp_d2 e e2 T a th T') (h2 : sp_d2 e e2 T a2 th2 T2) : sp_al a th T' a2 th2 T2 := by
  rcases h1 with ⟨x1_, h1⟩ | ⟨x1_, h1⟩
  · rcases h2 with ⟨x2_, h2⟩ | ⟨x2_, -⟩
    · rcases h1 with ⟨y1_, h1⟩ | ⟨y1_, h1⟩
      · rcases h2 with ⟨y2_, h2⟩ | ⟨y2_, -⟩
        · exact sp_num.fn (by decide) h1 h2
        · exact absurd y1_ y2_
      · rcases h2 with ⟨y2_, -⟩ | ⟨y2_, h2⟩
        · exact absurd y2_ y1_
        · exact sp_al.re (by decide) h1 h2
    · exact absurd x1_ x2_
  · rcases h2 with ⟨x2_, -⟩ | ⟨x2_, h2⟩
    · exact absurd x2_ x1_
    · exact sp_al.re (by decide) h1 h2
theorem sp_d3.fn {e e2 a th a2 th2 : Int} {T T' T2 : sp_T} (h1 : sp_d3 e e2 T a th T') (h2 : sp_d3 e e2 T a2 th2 T2) : sp_al a th T' a2 th2 T2 := by
  rcases h1 with ⟨x1_, h1⟩ | ⟨x1_, h1⟩
  · rcases h2 with ⟨x2_, h2⟩ | ⟨x2_, -⟩
    · exact sp_num.fn (by decide) h1 h2
    · exact absurd x1_ x2_
  · rcases h2 with ⟨x2_, -⟩ | ⟨x2_, h2⟩
    · exact absurd x2_ x1_
    · exact sp_al.re (by decide) h1 h2
theorem sp_d4.fn {e e2 a th a2 th2 : Int} {T T' T2 : sp_T} (h1 : sp_d4 e e2 T a th T') (h2 : sp_d4 e e2 T a2 th2 T2) : sp_al a th T' a2 th2 T2 := by
  rcases h1 with ⟨x1_, h1⟩ | ⟨x1_, h1⟩
  · rcases h2 with ⟨x2_, h2⟩ | ⟨x2_, -⟩
    · exact sp_num.fn (by decide) h1 h2
    · exact absurd x1_ x2_
  · rcases h2 with ⟨x2_, -⟩ | ⟨x2_, h2⟩
    · exact absurd x2_ x1_
    · exact sp_al.re (by decide) h1 h2
theorem sp_d5.fn {e e2 a th a2 th2 : Int} {T T' T2 : sp_T} (h1 : sp_d5 e e2 T a th T') (h2 : sp_d5 e e2 T a2 th2 T2) : sp_al a th T' a2 th2 T2 := by
  rcases h1 with ⟨x1_, h1⟩ | ⟨x1_, h1⟩
  · rcases h2 with ⟨x2_, h2⟩ | ⟨x2_, -⟩
    · exact ⟨by rw [h1.1, h2.1], by rw [h1.2.2, h2.2.2], fun _ => by rw [h1.2.1, h2.2.1]⟩
    · exact absurd x1_ x2_
  · rcases h2 with ⟨x2_, -⟩ | ⟨x2_, h2⟩
    · exact absurd x2_ x1_
    · exact sp_al.re (by decide) h1 h2
theorem sp_d6.fn {e e2 a th a2 th2 : Int} {T T' T2 : sp_T} (h1 : sp_d6 e e2 T a th T') (h2 : sp_d6 e e2 T a2 th2 T2) : sp_al a th T' a2 th2 T2 := by
  rcases h1 with ⟨x1_, h1⟩ | ⟨x1_, h1⟩
  · rcases h2 with ⟨x2_, h2⟩ | ⟨x2_, -⟩
    · exact sp_rnd.fn (fun v w y1 y2 => y1.trans y2.symm) h1 h2
    · exact absurd x1_ x2_
  · rcases h2 with ⟨x2_, -⟩ | ⟨x2_, h2⟩
    · exact absurd x2_ x1_
    · exact sp_al.re (by decide) h1 h2
theorem sp_d7.fn {e e2 a th a2 th2 : Int} {T T' T2 : sp_T} (h1 : sp_d7 e e2 T a th T') (h2 : sp_d7 e e2 T a2 th2 T2) : sp_al a th T' a2 th2 T2 := by
  rcases h1 with ⟨x1_, h1⟩ | ⟨x1_, h1⟩
  · rcases h2 with ⟨x2_, h2⟩ | ⟨x2_, -⟩
    · exact sp_rnd.fn (fun v w y1 y2 => y1.trans y2.symm) h1 h2
    · exact absurd x1_ x2_
  · rcases h2 with ⟨x2_, -⟩ | ⟨x2_, h2⟩
    · exact absurd x2_ x1_
    · exact sp_al.re (by decide) h1 h2
theorem sp_d8.fn {e e2 a th a2 th2 : Int} {T T' T2 : sp_T} (h1 : sp_d8 e e2 T a th T') (h2 : sp_d8 e e2 T a2 th2 T2) : sp_al a th T' a2 th2 T2 := by
  rcases h1 with ⟨x1_, h1⟩ | ⟨x1_, h1⟩
  · rcases h2 with ⟨x2_, h2⟩ | ⟨x2_, -⟩
    · exact sp_rnd.fn (fun v w y1 y2 => y1.trans y2.symm) h1 h2
    · exact absurd x1_ x2_
  · rcases h2 with ⟨x2_, -⟩ | ⟨x2_, h2⟩
    · exact absurd x2_ x1_
    · exact sp_al.re (by decide) h1 h2
theorem sp_d9.fn {e e2 a th a2 th2 : Int} {T T' T2 : sp_T} (h1 : sp_d9 e e2 T a th T') (h2 : sp_d9 e e2 T a2 th2 T2) : sp_al a th T' a2 th2 T2 := by
  rcases h1 with ⟨x1_, h1⟩ | ⟨x1_, h1⟩
  · rcases h2 with ⟨x2_, h2⟩ | ⟨x2_, -⟩
    · exact sp_rnd.fn (fun v w y1 y2 => zc_pw.fn y1 y2) h1 h2
    · exact absurd x1_ x2_
  · rcases h2 with ⟨x2_, -⟩ | ⟨x2_, h2⟩
    · exact absurd x2_ x1_
    · exact sp_al.re (by decide) h1 h2
theorem sp_d10.fn {e e2 a th a2 th2 : Int} {T T' T2 : sp_T} (h1 : sp_d10 e e2 T a th T') (h2 : sp_d10 e e2 T a2 th2 T2) : sp_al a th T' a2 th2 T2 := by
  rcases h1 with ⟨x1_, h1⟩ | ⟨x1_, h1⟩
  · rcases h2 with ⟨x2_, h2⟩ | ⟨x2_, -⟩
    · exact sp_rnd.fn (fun v w y1 y2 => sm_inv.fn y1 y2) h1 h2
    · exact absurd x1_ x2_
  · rcases h2 with ⟨x2_, -⟩ | ⟨x2_, h2⟩
    · exact absurd x2_ x1_
    · exact sp_al.re (by decide) h1 h2
theorem sp_d11.fn {e e2 a th a2 th2 : Int} {T T' T2 : sp_T} (h1 : sp_d11 e e2 T a th T') (h2 : sp_d11 e e2 T a2 th2 T2) : sp_al a th T' a2 th2 T2 := by
  rcases h1 with ⟨x1_, h1⟩ | ⟨x1_, h1⟩
  · rcases h2 with ⟨x2_, h2⟩ | ⟨x2_, -⟩
    · rcases h1 with ⟨y1_, h1⟩ | ⟨y1_, h1⟩
      · rcases h2 with ⟨y2_, h2⟩ | ⟨y2_, -⟩
        · exact ⟨by rw [h1.1, h2.1], by rw [h1.2.2, h2.2.2], fun _ => by rw [h1.2.1, h2.2.1]⟩
        · exact absurd y1_ y2_
      · rcases h2 with ⟨y2_, -⟩ | ⟨y2_, h2⟩
        · exact absurd y2_ y1_
        · exact sp_al.re (by decide) h1 h2
    · exact absurd x1_ x2_
  · rcases h2 with ⟨x2_, -⟩ | ⟨x2_, h2⟩
    · exact absurd x2_ x1_
    · exact sp_al.re (by decide) h1 h2
theorem sp_d12.fn {e e2 a th a2 th2 : Int} {T T' T2 : sp_T} (h1 : sp_d12 e e2 T a th T') (h2 : sp_d12 e e2 T a2 th2 T2) : sp_al a th T' a2 th2 T2 := by
  rcases h1 with ⟨x1_, h1⟩ | ⟨x1_, h1⟩
  · rcases h2 with ⟨x2_, h2⟩ | ⟨x2_, -⟩
    · rcases h1 with ⟨y1_, h1⟩ | ⟨y1_, h1⟩
      · rcases h2 with ⟨y2_, h2⟩ | ⟨y2_, -⟩
        · obtain ⟨t1_, h1⟩ := h1
          obtain ⟨t2_, h2⟩ := h2
          rcases h1 with ⟨z1_, h1⟩ | ⟨z1_, h1⟩
          · rcases h2 with ⟨z2_, h2⟩ | ⟨z2_, -⟩
            · exact ⟨by rw [t1_, t2_], by rw [h1.2, h2.2], fun _ => by rw [h1.1, h2.1]⟩
            · exact absurd z1_ z2_
          · rcases h2 with ⟨z2_, -⟩ | ⟨z2_, h2⟩
            · exact absurd z2_ z1_
            · exact ⟨by rw [t1_, t2_], by rw [h1.2, h2.2], fun _ => by rw [h1.1, h2.1]⟩
        · exact absurd y1_ y2_
      · rcases h2 with ⟨y2_, -⟩ | ⟨y2_, h2⟩
        · exact absurd y2_ y1_
        · exact sp_al.re (by decide) h1 h2
    · exact absurd x1_ x2_
  · rcases h2 with ⟨x2_, -⟩ | ⟨x2_, h2⟩
    · exact absurd x2_ x1_
    · exact sp_al.re (by decide) h1 h2
theorem sp_d13.fn {e e2 a th a2 th2 : Int} {T T' T2 : sp_T} (h1 : sp_d13 e e2 T a th T') (h2 : sp_d13 e e2 T a2 th2 T2) : sp_al a th T' a2 th2 T2 := by
  rcases h1 with ⟨x1_, h1⟩ | ⟨x1_, h1⟩
  · rcases h2 with ⟨x2_, h2⟩ | ⟨x2_, -⟩
    · exact ⟨by rw [h1.1, h2.1], by rw [h1.2.2, h2.2.2], fun _ => by rw [h1.2.1, h2.2.1]⟩
    · exact absurd x1_ x2_
  · rcases h2 with ⟨x2_, -⟩ | ⟨x2_, h2⟩
    · exact absurd x2_ x1_
    · exact sp_al.re (by decide) h1 h2
theorem sp_d14.fn {e e2 a th a2 th2 : Int} {T T' T2 : sp_T} (h1 : sp_d14 e e2 T a th T') (h2 : sp_d14 e e2 T a2 th2 T2) : sp_al a th T' a2 th2 T2 := by
  rcases h1 with ⟨x1_, h1⟩ | ⟨x1_, h1⟩
  · rcases h2 with ⟨x2_, h2⟩ | ⟨x2_, -⟩
    · rcases h1 with ⟨y1_, h1⟩ | ⟨y1_, h1⟩
      · rcases h2 with ⟨y2_, h2⟩ | ⟨y2_, -⟩
        · exact ⟨by rw [h1.1, h2.1], by rw [h1.2.2, h2.2.2], fun _ => by rw [h1.2.1, h2.2.1]⟩
        · exact absurd y1_ y2_
      · rcases h2 with ⟨y2_, -⟩ | ⟨y2_, h2⟩
        · exact absurd y2_ y1_
        · exact sp_al.re (by decide) h1 h2
    · exact absurd x1_ x2_
  · rcases h2 with ⟨x2_, -⟩ | ⟨x2_, h2⟩
    · exact absurd x2_ x1_
    · exact sp_al.re (by decide) h1 h2
theorem sp_d15.fn {e e2 a th a2 th2 : Int} {T T' T2 : sp_T} (h1 : sp_d15 e e2 T a th T') (h2 : sp_d15 e e2 T a2 th2 T2) : sp_al a th T' a2 th2 T2 := by
  rcases h1 with ⟨A_, b_, x1_, h1⟩ | ⟨x1_, h1⟩
  · rcases h2 with ⟨A2_, b2_, x2_, h2⟩ | ⟨x2_, -⟩
    · have e_ := x1_.symm.trans x2_
      have e1_ := List.append_inj_left' e_ rfl
      have e2_ := List.append_inj_right' e_ rfl
      cases e1_
      cases e2_
      exact ⟨by rw [h1.1, h2.1], by rw [h1.2.2, h2.2.2], fun _ => by rw [h1.2.1, h2.2.1]⟩
    · rw [x1_] at x2_
      exact absurd x2_ (by simp)
  · rcases h2 with ⟨A2_, b2_, x2_, -⟩ | ⟨x2_, h2⟩
    · rw [x1_] at x2_
      exact absurd x2_.symm (by simp)
    · exact sp_al.re (by decide) h1 h2
theorem sp_d16.fn {e e2 a th a2 th2 : Int} {T T' T2 : sp_T} (h1 : sp_d16 e e2 T a th T') (h2 : sp_d16 e e2 T a2 th2 T2) : sp_al a th T' a2 th2 T2 := by
  rcases h1 with ⟨A_, b_, x1_, h1⟩ | ⟨x1_, h1⟩
  · rcases h2 with ⟨A2_, b2_, x2_, h2⟩ | ⟨x2_, -⟩
    · have e_ := x1_.symm.trans x2_
      have e1_ := List.append_inj_left' e_ rfl
      have e2_ := List.append_inj_right' e_ rfl
      cases e1_
      cases e2_
      exact ⟨by rw [h1.1, h2.1], by rw [h1.2.2, h2.2.2], fun _ => by rw [h1.2.1, h2.2.1]⟩
    · rw [x1_] at x2_
      exact absurd x2_ (by simp)
  · rcases h2 with ⟨A2_, b2_, x2_, -⟩ | ⟨x2_, h2⟩
    · rw [x1_] at x2_
      exact absurd x2_.symm (by simp)
    · exact sp_al.re (by decide) h1 h2
theorem sp_d17.fn {e e2 a th a2 th2 : Int} {T T' T2 : sp_T} (h1 : sp_d17 e e2 T a th T') (h2 : sp_d17 e e2 T a2 th2 T2) : sp_al a th T' a2 th2 T2 := by
  exact ⟨by rw [h1.1, h2.1], by rw [h1.2.2, h2.2.2], fun _ => by rw [h1.2.1, h2.2.1]⟩
