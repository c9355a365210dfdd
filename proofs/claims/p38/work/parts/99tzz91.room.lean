/-! A CONTRACT OF LITTLE ROOM IS ONE OF MORE -/
theorem am_room {l : Launch} {G : am_G} {y : MethodName} {cw : Cond} {fr lo mc ms mc2 ms2 : Nat} {a : List Value} {h : List am_C} {P : am_O → List am_C → Prop} (h1 : am_M l G y cw fr lo mc ms a h P) (hc : mc ≤ mc2) (hs : ms ≤ ms2) : am_M l G y cw fr lo mc2 ms2 a h P := by
  intro p e he hf hk s m args below hfr ha hP hK
  have ha2_ : (headSpec (cw :: lw_gw) { frames := fr, cells := mc, slots := ms, locals := lo }).appliesLoose y e.platform s = true := by
    unfold Spec.appliesLoose at ha ⊢
    rw [hfr] at ha ⊢
    dsimp only at ha ⊢
    rw [Bool.and_eq_true, Bool.and_eq_true] at ha ⊢
    refine ⟨⟨ha.1.1, ?_⟩, ha.2⟩
    have r_ := ha.1.2
    unfold headSpec at r_ ⊢
    simp only [State.hasRoom, Bool.and_eq_true, decide_eq_true_eq] at r_ ⊢
    obtain ⟨⟨⟨⟨y_, a_, b_, c_, d_, e_⟩, f_⟩, g_⟩, i_⟩ := r_
    exact ⟨⟨⟨⟨by omega, by omega, by omega, by omega, by omega, e_⟩, by omega⟩, by omega⟩, i_⟩
  obtain ⟨n_, o_, w1_, w2_, w3_, q_⟩ := h1 p e he hf hk s m args below hfr ha2_ hP hK
  refine ⟨n_, o_, w1_, w2_, w3_, ?_⟩
  rcases q_ with ⟨q1_, L_, f_, fr_⟩ | ⟨q2_, e1_, E_, ce_, L_, x1_, x2_, x3_, x4_, x5_, x6_, x7_⟩
  · obtain ⟨f1_, f2_, f3_⟩ := f_
    obtain ⟨z1_, z2_, z3_, z4_, z5_, z6_⟩ := f3_
    exact Or.inl ⟨q1_, L_, ⟨f1_, f2_, z1_, z2_, by omega, z4_, by omega, z6_⟩, fr_⟩
  · obtain ⟨z1_, z2_, z3_, z4_, z5_, z6_⟩ := x6_
    exact Or.inr ⟨q2_, e1_, E_, ce_, L_, x1_, x2_, x3_, x4_, x5_, ⟨z1_, z2_, by omega, z4_, by omega, z6_⟩, x7_⟩
/-- the same of a contract whose cost is raised -/
def cv_up (c : ck_KK) (C S : Nat) : ck_KK := (c.1, (ck_k C, ck_k S), c.2.2)
theorem cv_up_ok {l : Launch} {G : am_G} {y : MethodName} {cw : Cond} {fr lo : Nat} {X : ck_XT} {T : ck_TT} {c : ck_KK} {C S C2 S2 : Nat} (hc : ck_Con (am_cm l G y cw fr lo) G X T c) (hC1 : c.2.1.1 = ck_k C) (hC2 : c.2.1.2 = ck_k S) (h1 : C ≤ C2) (h2 : S ≤ S2) : ck_Con (am_cm l G y cw fr lo) G X T (cv_up c C2 S2) := by
  intro K r s a h hH hV hC hF hn hS mc ms hmc hms
  have f1_ := ck_Lv.fn hmc (ck_Lv.k r _)
  have f2_ := ck_Lv.fn hms (ck_Lv.k r _)
  have t_ := hc K r s a h hH hV hC hF hn hS C S (by rw [hC1]; exact ck_Lv.k r _) (by rw [hC2]; exact ck_Lv.k r _)
  exact am_room t_ (by omega) (by omega)
