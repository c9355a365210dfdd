/-! LISTS: FROM RAW ONES TO KEPT ONES -/
def ck_lift (G : am_G) (CM : ck_CM) : ck_CM := fun a h mc ms P => ∃ (h1 : List am_C) (mc' ms' : Nat) (P1 : am_O → List am_C → Prop), ck_rh G h h1 ∧ mc' ≤ mc ∧ ms' ≤ ms ∧ CM a h1 mc' ms' P1 ∧ ∀ (o : am_O) (h' : List am_C), P1 o h' → ∃ h'' : List am_C, ck_rh G h' h'' ∧ P o h''
theorem ck_rh.rf {G : am_G} (h : List am_C) : ck_rh G h h := ⟨[], rfl⟩
theorem ck_con_lift {G : am_G} {CM : ck_CM} {X : ck_XT} {T : ck_TT} {c : ck_KK} (h : ck_Con CM G X T c) : ck_Con (ck_lift G CM) G X T c :=
  fun K r s a h' h1 h2 h3 h4 h5 h6 mc ms h7 h8 => ⟨h', mc, ms, _, ck_rh.rf _, Nat.le_refl _, Nat.le_refl _, h K r s a h' h1 h2 h3 h4 h5 h6 mc ms h7 h8, fun o h'' hp => ⟨h'', ck_rh.rf _, hp⟩⟩
theorem ck_rh.kind {G : am_G} {h h' : List am_C} (H : ck_rh G h h') {b t : Nat} {vs : List Value} (e : am_g G h b = some (t, vs)) : ∃ t', am_g G h' b = some (t', vs) ∧ t' % 100 = t % 100 := by
  obtain ⟨l, H⟩ := H
  induction l generalizing h t with
  | nil =>
    have H : h' = h := H
    rw [H]; exact ⟨t, e, rfl⟩
  | cons x u ih =>
    obtain ⟨t0, vs0, e1, hq, ht, H⟩ := H
    have hlt := am_g_lt hq e1
    by_cases hb : b = x.1
    · rw [hb, e1] at e
      cases e
      obtain ⟨t', z1, z2⟩ := ih (t := x.2) (by rw [am_g_s hq hlt, if_pos hb]) H
      exact ⟨t', z1, z2.trans ht⟩
    · exact ih (by rw [am_g_s hq hlt, if_neg hb]; exact e) H
theorem ck_any_lift {l : Launch} {G : am_G} {own : String} {nL fr lo : Nat} {ins : Instr} {len : Nat} {rc : Option Nat} {na : Nat} {CM : ck_CM} (h : ck_any l G own nL fr lo ins len rc na CM) (hx : ∀ (a : List Value) (h : List am_C) (mc ms : Nat) (P : am_O → List am_C → Prop), CM a h mc ms P → ∀ (E : String) (h' : List am_C), ¬ P (.inr E) h') : ck_any l G own nL fr lo ins len rc na (ck_lift G CM) := by
  intro p e s m args below meth c mc ms Post cc ret pc X d a L st h' k n mc' ms' P hM hna hL hst hrc hk hn kr kx
  obtain ⟨h1, mc1, ms1, P1, z1, z2, z3, z4, z5⟩ := hM
  refine z1.S am_s_retag (h p e s m args below meth c mc ms Post cc ret pc X d a L st h1 k n mc1 ms1 P1 z4 hna hL hst ?_ (by omega) (by omega) (fun v h2 hp => ?_) (fun E h2 hp => absurd hp (hx _ _ _ _ _ z4 E h2)))
  · unfold ck_rcv at hrc ⊢
    cases rc with
    | none => trivial
    | some ci =>
      obtain ⟨b, tb, vb, b1, b2, b3⟩ := hrc
      obtain ⟨t', c1, c2⟩ := z1.kind b2
      exact ⟨b, t', vb, b1, c1, c2.trans b3⟩
  · obtain ⟨h3, y1, y2⟩ := z5 _ h2 hp
    exact y1.S am_s_retag (am_R.widen (by omega) (by omega) (kr v h3 y2))
theorem ck_cn_nx {l : Launch} {G : am_G} {y : MethodName} {cw : Jvm.Cond} {fr lo : Nat} (a : List Value) (h : List am_C) (mc ms : Nat) (P : am_O → List am_C → Prop) (H : am_cn l G y cw fr lo a h mc ms P) : ∀ (E : String) (h' : List am_C), ¬ P (.inr E) h' := H.2
/-- lemmas that are called like methods -/
def ck_lem (G : am_G) : ck_CM := fun _ h _ _ P => ∃ h' : List am_C, ck_rh G h h' ∧ P (.inl none) h'
theorem ck_lem_nop {G : am_G} : ck_nopP G (ck_lem G) := fun _ _ _ _ _ h => h
-- the lists' world
theorem li_lrows {t : Nat} {d : ck_D} (h : ck_lk gTl t = some d) : (t = 1018 ∧ d = (2, 4, 4, [(8, 0, 0, 0), (8, 0, 0, 0), (8, 0, 0, 0), (8, 0, 0, 0)])) ∨ (ck_lk gT t = some d ∧ ∀ y ∈ d.2.2.2, ∀ F ∈ li_Fs, y.2.1 ≠ F.1 ∧ y.2.1 ≠ F.2.1) := by
  have h := ck_lk_mem h
  unfold gTl at h
  repeat (rcases List.mem_cons.mp h with e | h; · (cases e; first | exact Or.inl ⟨rfl, rfl⟩ | exact Or.inr ⟨rfl, by decide⟩))
  cases h
theorem li_lwr {t : Nat} (h : ck_wr gTl t = true) : ck_wr gT t = true := by
  have key : (gT.all fun x => Nat.blt x.2.1 2 || !(ck_wr gTl x.1)) = true := by decide +kernel
  unfold ck_wr
  cases hd : ck_lk gT t with
  | none => rfl
  | some d =>
    have := List.all_eq_true.mp key _ (ck_lk_mem hd)
    rcases Bool.or_eq_true_iff.mp this with z | z
    · exact z
    · have z : (!(ck_wr gTl t)) = true := z
      rw [h] at z
      cases z
theorem ck_ty.ex1 {K : Int32} {g g' : ck_g} {y : ck_Y} {v : Value} (h : ck_ty K g y v) (e : ∀ (q : Nat) (vs : List Value), g q = some (y.2.1, vs) → ∃ vs' : List Value, g' q = some (y.2.1, vs')) : ck_ty K g' y v := by
  unfold ck_ty at h ⊢
  split at h
  · exact h
  · exact h
  · obtain ⟨h0, q, vs, h1, h2⟩ := h
    obtain ⟨vs', h3⟩ := e _ _ h2
    exact ⟨h0, q, vs', h1, h3⟩
  · obtain ⟨h0, h⟩ := h
    refine ⟨h0, h.imp id fun ⟨q, vs, h1, h2⟩ => ?_⟩
    obtain ⟨vs', h3⟩ := e _ _ h2
    exact ⟨q, vs', h1, h3⟩
  · exact h
  · trivial
  · exact h.elim
theorem li_lrow {F : li_F} (h : F ∈ li_Fs) : ck_lk gTl F.2.2.1 = some (1, 0, 80, [(5, F.2.2.2.1, 0, 0)]) ∧ ck_lk gTl 506 = none := by
  unfold li_Fs at h
  rcases List.mem_cons.mp h with rfl | h
  · exact ⟨rfl, rfl⟩
  rcases List.mem_cons.mp h with rfl | h
  · exact ⟨rfl, rfl⟩
  rcases List.mem_cons.mp h with rfl | h
  · exact ⟨rfl, rfl⟩
  cases h
theorem li_te {F : li_F} (h : F ∈ li_Fs) : (∀ F' ∈ li_Fs, F.2.2.2.1 ≠ F'.1 ∧ F.2.2.2.1 ≠ F'.2.1) ∧ F.2.2.2.1 ≠ 506 ∧ F.2.2.2.1 ≠ F.2.2.1 ∧ (∃ d, ck_lk gTl F.2.2.2.1 = some d ∧ d.2.1 = (F.2.2.2.2.1 : Int) ∧ d.2.2.1 = (F.2.2.2.2.1 : Int)) ∧ (∃ d, ck_lk gT F.2.2.2.1 = some d ∧ d.2.1 = (F.2.2.2.2.1 : Int) ∧ d.2.2.1 = (F.2.2.2.2.1 : Int)) := by
  unfold li_Fs at h
  rcases List.mem_cons.mp h with rfl | h
  · exact ⟨by decide, by decide, by decide, ⟨_, rfl, rfl, rfl⟩, ⟨_, rfl, rfl, rfl⟩⟩
  rcases List.mem_cons.mp h with rfl | h
  · exact ⟨by decide, by decide, by decide, ⟨_, rfl, rfl, rfl⟩, ⟨_, rfl, rfl, rfl⟩⟩
  rcases List.mem_cons.mp h with rfl | h
  · exact ⟨by decide, by decide, by decide, ⟨_, rfl, rfl, rfl⟩, ⟨_, rfl, rfl, rfl⟩⟩
  cases h
theorem li_down {K : Int32} {g g1 : ck_g} {F : li_F} (hF : F ∈ li_Fs) (hH : ck_HT li_X gT K g) {q p : Nat} {vq : List Value} (hq : g q = some (F.1, vq))
    (ha : ∀ (m t : Nat) (vs : List Value), g1 m = some (t, vs) → (m = q ∧ t = 506) ∨ (m = p ∧ t = F.2.2.1 ∧ g m = some (F.2.1, vs)) ∨ g m = some (t, vs))
    (hb : ∀ (m t : Nat) (vs : List Value), g m = some (t, vs) → t ≠ F.1 → t ≠ F.2.1 → g1 m = some (t, vs)) (h999 : g1 999 = none) : ck_HT li_XL gTl K g1 := by
  obtain ⟨⟨h0, hX1, hX2, hX3, hX4, -⟩, hT⟩ := hH
  obtain ⟨r1, r2, r3, r4⟩ := li_row hF
  obtain ⟨u1, u2, u3, u4, u5, u6, u7, u8, u9, u10, u11, u12, u13, u14, u15, u16⟩ := li_nums hF
  obtain ⟨l1, l2⟩ := li_lrow hF
  obtain ⟨e1, e2, e3, -, -⟩ := li_te hF
  refine ⟨⟨h999, ?_⟩, fun m t vs e => ?_⟩
  · intro t m m' vs vs' ht z1 z2
    have key : ∀ (m : Nat) (vs : List Value), g1 m = some (t, vs) → g m = some (t, vs) := by
      intro m vs e
      rcases ha m t vs e with ⟨-, z⟩ | ⟨-, z, -⟩ | z
      · rcases ht with rfl | rfl <;> omega
      · rcases ht with rfl | rfl <;> omega
      · exact z
    exact hX4 t m m' vs vs' ht (key m vs z1) (key m' vs' z2)
  · rcases ha m t vs e with ⟨rfl, rfl⟩ | ⟨rfl, rfl, z⟩ | z
    · refine ⟨fun d hd => ?_, trivial, fun _ => (hT m _ _ hq).2.2 (by unfold ck_wr; rw [r1]; rfl)⟩
      rw [l2] at hd
      cases hd
    · refine ⟨fun d hd => ?_, trivial, fun _ => (hT m _ _ z).2.2 (by unfold ck_wr; rw [r2]; rfl)⟩
      rw [l1] at hd
      cases hd
      obtain ⟨f1, f2⟩ := (hT m _ _ z).1 _ r2
      refine ⟨⟨Int.natCast_nonneg _, Int.le_trans f1.2 (show (24 : Int) ≤ 80 by decide)⟩, fun j v hv => ?_⟩
      obtain ⟨y, y1, y2⟩ := f2 j v hv
      have y1 : some ((5, F.2.2.2.1, 0, 0) : ck_Y) = some y := y1
      cases y1
      refine ⟨_, rfl, y2.ex1 fun a c ea => ⟨c, hb a _ c ea ?_ ?_⟩⟩
      · exact (e1 F hF).1
      · exact (e1 F hF).2
    · obtain ⟨f1, -, f3⟩ := hT m t vs z
      refine ⟨fun d hd => ?_, trivial, fun w => f3 (li_lwr w)⟩
      rcases li_lrows hd with ⟨rfl, rfl⟩ | ⟨hd2, hy⟩
      · obtain ⟨d0, d1, d2, d3⟩ := (li_te (F := li_fs) (by decide)).2.2.2.2
        have f4 := (f1 d0 d1).1
        have f5 : (4 : Int) ≤ vs.length := by have := f4.1; rw [d2] at this; exact this
        have f6 : (vs.length : Int) ≤ 4 := by have := f4.2; rw [d3] at this; exact this
        refine ⟨⟨f5, f6⟩, fun j v hv => ?_⟩
        have hj : j < 4 := by have := (List.getElem?_eq_some_iff.mp hv).1; omega
        match j, hj with
        | 0, _ => exact ⟨_, rfl, trivial⟩
        | 1, _ => exact ⟨_, rfl, trivial⟩
        | 2, _ => exact ⟨_, rfl, trivial⟩
        | 3, _ => exact ⟨_, rfl, trivial⟩
      · refine ⟨(f1 d hd2).1, fun j v hv => ?_⟩
        obtain ⟨y, y1, y2⟩ := (f1 d hd2).2 j v hv
        have hm : y ∈ d.2.2.2 := by
          unfold ck_yt at y1
          cases hc : Nat.beq (d.1 % 2) 0
          · rw [hc, cond_false] at y1; exact List.mem_of_getElem? y1
          · rw [hc, cond_true] at y1; exact List.mem_of_getElem? y1
        exact ⟨y, y1, y2.ex1 fun a c ea => ⟨c, hb a _ c ea (hy y hm F hF).1 (hy y hm F hF).2⟩⟩
/-- cells get their kinds back -/
theorem li_re {G : am_G} {F : li_F} (hF : F ∈ li_Fs) {h' : List am_C} {q p p2 : Nat} {vq w2 : List Value} (hq : am_g G h' q = some (506, vq)) (hq1 : 1000 ≤ q) (hp2 : am_g G h' p2 = some (F.2.2.1, w2)) (hp21 : 1000 ≤ p2) (hp : (∃ w, am_g G h' p = some (F.2.2.1, w) ∧ 1000 ≤ p) ∨ ∃ t w, am_g G h' p = some (t, w) ∧ t ≠ F.2.2.1) (hpq : p ≠ q) :
    ∃ h'' : List am_C, ck_rh G h' h'' ∧ h''.length = h'.length ∧ am_g G h'' q = some (F.1, vq) ∧
      (∀ (m : Nat) (w : List Value), (m = p ∨ m = p2) → am_g G h' m = some (F.2.2.1, w) → am_g G h'' m = some (F.2.1, w)) ∧
      (∀ (m t : Nat) (w : List Value), m ≠ q → ¬ ((m = p ∨ m = p2) ∧ t = F.2.2.1) → am_g G h' m = some (t, w) → am_g G h'' m = some (t, w)) ∧
      (∀ (m t : Nat) (w : List Value), am_g G h'' m = some (t, w) → (m = q ∧ t = F.1) ∨ (m ≠ q ∧ (m = p ∨ m = p2) ∧ t = F.2.1 ∧ am_g G h' m = some (F.2.2.1, w)) ∨ (m ≠ q ∧ am_g G h' m = some (t, w) ∧ ¬ ((m = p ∨ m = p2) ∧ t = F.2.2.1))) := by
  obtain ⟨u1, u2, u3, u4, u5, u6, u7, u8, u9, u10, u11, u12, u13, u14, u15, u16⟩ := li_nums hF
  have hp2q : p2 ≠ q := by rintro rfl; rw [hq] at hp2; exact u6 (Prod.mk.inj (Option.some.inj hp2)).1.symm
  have hlq := am_g_lt hq1 hq
  have g1 : ∀ m, am_g G (am_s h' q (F.1, vq)) m = if m = q then some (F.1, vq) else am_g G h' m := fun m => am_g_s hq1 hlq
  have hl2 : p2 - 1000 < (am_s h' q (F.1, vq)).length := by rw [am_s_len]; exact am_g_lt hp21 hp2
  have g2 : ∀ m, am_g G (am_s (am_s h' q (F.1, vq)) p2 (F.2.1, w2)) m = if m = p2 then some (F.2.1, w2) else am_g G (am_s h' q (F.1, vq)) m := fun m => am_g_s hp21 hl2
  by_cases hc : (∃ w, am_g G h' p = some (F.2.2.1, w) ∧ 1000 ≤ p) ∧ p ≠ p2
  · obtain ⟨⟨w, hp, hp1⟩, hne⟩ := hc
    have hl3 : p - 1000 < (am_s (am_s h' q (F.1, vq)) p2 (F.2.1, w2)).length := by rw [am_s_len, am_s_len]; exact am_g_lt hp1 hp
    have g3 : ∀ m, am_g G (am_s (am_s (am_s h' q (F.1, vq)) p2 (F.2.1, w2)) p (F.2.1, w)) m = if m = p then some (F.2.1, w) else am_g G (am_s (am_s h' q (F.1, vq)) p2 (F.2.1, w2)) m := fun m => am_g_s hp1 hl3
    refine ⟨_, ⟨[(q, F.1), (p2, F.2.1), (p, F.2.1)], 506, vq, hq, hq1, by show F.1 % 100 = 6; exact u1, F.2.2.1, w2, by rw [g1, if_neg hp2q]; exact hp2, hp21, by show F.2.1 % 100 = _; rw [u2, u3], F.2.2.1, w, by rw [g2, if_neg hne, g1, if_neg hpq]; exact hp, hp1, by show F.2.1 % 100 = _; rw [u2, u3], rfl⟩, by rw [am_s_len, am_s_len, am_s_len], ?_, ?_, ?_, ?_⟩
    · rw [g3, if_neg (Ne.symm hpq), g2, if_neg (Ne.symm hp2q), g1, if_pos rfl]
    · rintro m w' (rfl | rfl) e
      · rw [g3, if_pos rfl]; rw [hp] at e; cases e; rfl
      · rw [g3, if_neg (Ne.symm hne), g2, if_pos rfl]; rw [hp2] at e; cases e; rfl
    · intro m t w' m1 m2 e
      have n1 : m ≠ p := by rintro rfl; rw [hp] at e; cases e; exact m2 ⟨Or.inl rfl, rfl⟩
      have n2 : m ≠ p2 := by rintro rfl; rw [hp2] at e; cases e; exact m2 ⟨Or.inr rfl, rfl⟩
      rw [g3, if_neg n1, g2, if_neg n2, g1, if_neg m1]; exact e
    · intro m t w' e
      rw [g3] at e
      by_cases n1 : m = p
      · rw [if_pos n1] at e
        cases e
        exact Or.inr (Or.inl ⟨by rw [n1]; exact hpq, Or.inl n1, rfl, by rw [n1]; exact hp⟩)
      · rw [if_neg n1, g2] at e
        by_cases n2 : m = p2
        · rw [if_pos n2] at e
          cases e
          exact Or.inr (Or.inl ⟨by rw [n2]; exact hp2q, Or.inr n2, rfl, by rw [n2]; exact hp2⟩)
        · rw [if_neg n2, g1] at e
          by_cases n3 : m = q
          · rw [if_pos n3] at e; cases e; exact Or.inl ⟨n3, rfl⟩
          · rw [if_neg n3] at e
            exact Or.inr (Or.inr ⟨n3, e, fun z => z.1.elim n1 n2⟩)
  · have hpp : ∀ w, am_g G h' p = some (F.2.2.1, w) → p = p2 := by
      intro w e
      rcases hp with ⟨w', e1, e2⟩ | ⟨t, w', e1, e2⟩
      · by_cases z : p = p2
        · exact z
        · exact absurd ⟨⟨w', e1, e2⟩, z⟩ hc
      · rw [e] at e1; cases e1; exact absurd rfl e2
    refine ⟨_, ⟨[(q, F.1), (p2, F.2.1)], 506, vq, hq, hq1, by show F.1 % 100 = 6; exact u1, F.2.2.1, w2, by rw [g1, if_neg hp2q]; exact hp2, hp21, by show F.2.1 % 100 = _; rw [u2, u3], rfl⟩, by rw [am_s_len, am_s_len], ?_, ?_, ?_, ?_⟩
    · rw [g2, if_neg (Ne.symm hp2q), g1, if_pos rfl]
    · rintro m w' hm e
      have hm2 : m = p2 := by
        rcases hm with rfl | rfl
        · exact hpp w' e
        · rfl
      subst hm2
      rw [g2, if_pos rfl]; rw [hp2] at e; cases e; rfl
    · intro m t w' m1 m2 e
      have n2 : m ≠ p2 := by rintro rfl; rw [hp2] at e; cases e; exact m2 ⟨Or.inr rfl, rfl⟩
      rw [g2, if_neg n2, g1, if_neg m1]; exact e
    · intro m t w' e
      rw [g2] at e
      by_cases n2 : m = p2
      · rw [if_pos n2] at e
        cases e
        exact Or.inr (Or.inl ⟨by rw [n2]; exact hp2q, Or.inr n2, rfl, by rw [n2]; exact hp2⟩)
      · rw [if_neg n2, g1] at e
        by_cases n3 : m = q
        · rw [if_pos n3] at e; cases e; exact Or.inl ⟨n3, rfl⟩
        · rw [if_neg n3] at e
          refine Or.inr (Or.inr ⟨n3, e, fun z => ?_⟩)
          obtain ⟨z1, rfl⟩ := z
          rcases z1 with rfl | z1
          · exact n2 (hpp w' e)
          · exact n2 z1
def li_mods (F : li_F) : List (Nat × Nat) := [(F.1, 0), (F.1, 1), (F.1, 2), (F.2.1, 1000), (506, 1000), (F.2.2.1, 1000)]
set_option maxHeartbeats 4000000 in
/-- what a raw method left, as kept lists have it -/
theorem li_core {G : am_G} {K : Int32} {F : li_F} (hF : F ∈ li_Fs) {h h1 h' : List am_C} (hH : ck_HT li_X gT K (am_g G h)) {q p : Nat} {mc n : Int32} (hq : am_g G h q = some (F.1, [.int mc, .ref p, .int n]))
    (hrow : (∃ ws, am_g G h p = some (F.2.1, ws) ∧ am_g G h1 p = some (F.2.2.1, ws)) ∨ (am_g G h p = some (43056, []) ∧ am_g G h1 p = some (43056, [])))
    (hq1 : am_g G h1 q = some (506, [.int mc, .ref p, .int n])) (hsame : ∀ (m t : Nat) (vs : List Value), m ≠ q → ¬ (m = p ∧ t = F.2.1) → am_g G h m = some (t, vs) → am_g G h1 m = some (t, vs)) (hlen1 : h1.length = h.length)
    (hT : ck_HT li_XL gTl K (am_g G h')) {M : List (Nat × Nat)} (hM : ∀ (t j : Nat), t ≠ 506 → t ≠ F.2.2.1 → ck_inM M t j = false) (hKp : ck_Kp M [] (am_g G h1) (am_g G h')) {mc2 n2 : Int32} {p2 : Nat} {w2 : List Value} (hq2 : am_g G h' q = some (506, [.int mc2, .ref p2, .int n2]))
    (hp2 : am_g G h' p2 = some (F.2.2.1, w2)) (hn2 : 0 ≤ n2.toInt) (hm2 : n2.toInt ≤ F.2.2.2.2.2) (hl2 : 10 ≤ w2.length ∧ w2.length ≤ 24) (hk2 : n2.toInt ≤ (w2.length : Int) ∧ ∀ k : Nat, (k : Int) < n2.toInt → ∃ q : Nat, w2[k]? = some (.ref q))
    (hnew : (p2 = p ∧ h'.length = h.length) ∨ (p2 = 1000 + h.length ∧ h'.length = h.length + 1)) (hcop : F.1 = 41106 → ∀ g2 : ck_g, (∀ (a : Nat) (vs : List Value), am_g G h a = some (41002, vs) ↔ g2 a = some (41002, vs)) → li_cp g2 n2.toInt w2) :
    ∃ h'' : List am_C, ck_rh G h' h'' ∧ ck_HT li_X gT K (am_g G h'') ∧ ck_Kp (li_mods F) [] (am_g G h) (am_g G h'') ∧ h.length ≤ h''.length ∧ am_g G h'' q = some (F.1, [.int mc2, .ref p2, .int n2]) := by
  obtain ⟨u1, u2, u3, u4, u5, u6, u7, u8, u9, u10, u11, u12, u13, u14, u15, u16⟩ := li_nums hF
  obtain ⟨k1, k2, k3⟩ := li_Fs_ge hF
  obtain ⟨r1, r2, r3, r4⟩ := li_row hF
  obtain ⟨l1, l2⟩ := li_lrow hF
  obtain ⟨e1, e2, e3, -, -⟩ := li_te hF
  have hge : ∀ (m : Nat) (w : List Value), am_g G h' m = some (F.2.2.1, w) → 1000 ≤ m := fun m w e => (hT.2 m _ w e).2.2 (by unfold ck_wr; rw [l1]; rfl)
  have hq1000 : 1000 ≤ q := (hH.2 q _ _ hq).2.2 (by unfold ck_wr; rw [r1]; rfl)
  have hpq : p ≠ q := by
    rintro rfl
    rcases hrow with ⟨ws, z, -⟩ | ⟨z, -⟩
    · rw [hq] at z; exact u10 (Prod.mk.inj (Option.some.inj z)).1
    · rw [hq] at z; exact u14 (Prod.mk.inj (Option.some.inj z)).1
  -- from h1 to h'
  have hstep : ∀ (m t : Nat) (vs : List Value), am_g G h1 m = some (t, vs) → ∃ vs' : List Value, am_g G h' m = some (t, vs') ∧ vs'.length = vs.length ∧ (t ≠ 506 → t ≠ F.2.2.1 → vs' = vs) := by
    intro m t vs e
    rcases hKp m t vs e with ⟨z, -⟩ | ⟨vs', z1, z2, z3⟩
    · cases z
    · exact ⟨vs', z1, z2, fun t1 t2 => List.ext_getElem? fun j => z3 j (hM t j t1 t2)⟩
  have hp : (∃ w, am_g G h' p = some (F.2.2.1, w) ∧ 1000 ≤ p) ∨ ∃ t w, am_g G h' p = some (t, w) ∧ t ≠ F.2.2.1 := by
    rcases hrow with ⟨ws, -, z⟩ | ⟨-, z⟩
    · obtain ⟨vs', z1, -, -⟩ := hstep p _ ws z
      exact Or.inl ⟨vs', z1, hge p _ z1⟩
    · obtain ⟨vs', z1, -, -⟩ := hstep p _ _ z
      exact Or.inr ⟨43056, vs', z1, by omega⟩
  obtain ⟨h'', d0, d00, d1, d2, d3, d4⟩ := li_re hF hq2 hq1000 hp2 (hge p2 _ hp2) hp hpq
  have hlen : h.length ≤ h'.length := by rcases hnew with ⟨-, z⟩ | ⟨-, z⟩ <;> omega
  -- cells that were there
  have ho : ∀ (m t : Nat) (vs : List Value), am_g G h m = some (t, vs) → m ≠ q → ¬ (m = p ∧ t = F.2.1) → ∃ vs' : List Value, am_g G h'' m = some (t, vs') ∧ vs'.length = vs.length ∧ (t ≠ 506 → t ≠ F.2.2.1 → vs' = vs) := by
    intro m t vs e m1 m2
    obtain ⟨vs', z1, z2, z3⟩ := hstep m t vs (hsame m t vs m1 m2 e)
    refine ⟨vs', d3 m t vs' m1 (fun z => ?_) z1, z2, z3⟩
    obtain ⟨z4, rfl⟩ := z
    rcases z4 with rfl | rfl
    · rcases hrow with ⟨ws, y, -⟩ | ⟨y, -⟩
      · rw [y] at e; exact m2 ⟨rfl, (Prod.mk.inj (Option.some.inj e)).1.symm⟩
      · rw [y] at e; have := (Prod.mk.inj (Option.some.inj e)).1; omega
    · rcases hnew with ⟨rfl, -⟩ | ⟨y, -⟩
      · rcases hrow with ⟨ws, y, -⟩ | ⟨y, -⟩
        · rw [y] at e; exact m2 ⟨rfl, (Prod.mk.inj (Option.some.inj e)).1.symm⟩
        · rw [y] at e; have := (Prod.mk.inj (Option.some.inj e)).1; omega
      · have := am_g_lt (by omega) e
        omega
  have hpp : ∀ vs : List Value, am_g G h p = some (F.2.1, vs) → ∃ vs' : List Value, am_g G h'' p = some (F.2.1, vs') ∧ vs'.length = vs.length := by
    intro vs e
    rcases hrow with ⟨ws, y, z⟩ | ⟨y, -⟩
    · rw [y] at e
      cases e
      obtain ⟨vs', z1, z2, -⟩ := hstep p _ _ z
      exact ⟨vs', d2 p vs' (Or.inl rfl) z1, z2⟩
    · rw [y] at e
      exact absurd (Prod.mk.inj (Option.some.inj e)).1.symm k3
  have hback : ∀ (m t : Nat) (vs : List Value), am_g G h'' m = some (t, vs) → (∃ vs' : List Value, am_g G h m = some (t, vs')) ∨ m = p2 := by
    intro m t vs e
    by_cases hm2 : m = p2
    · exact Or.inr hm2
    left
    have hold : ∃ c, am_g G h m = some c := by
      by_cases hm : m < 1000
      · have : am_g G h'' m = am_g G h m := by unfold am_g; rw [if_pos hm, if_pos hm]
        exact ⟨_, this ▸ e⟩
      · have hl := am_g_lt (by omega) e
        rw [d00] at hl
        have hlt : m - 1000 < h.length := by rcases hnew with ⟨-, z⟩ | ⟨z1, z⟩ <;> omega
        refine ⟨h[m - 1000], ?_⟩
        unfold am_g
        rw [if_neg hm]
        exact List.getElem?_eq_getElem hlt
    obtain ⟨⟨t0, vs0⟩, e0⟩ := hold
    by_cases hmq : m = q
    · subst hmq
      rw [d1] at e
      cases e
      exact ⟨_, hq⟩
    · by_cases hpm : m = p ∧ t0 = F.2.1
      · obtain ⟨rfl, rfl⟩ := hpm
        obtain ⟨vs', z1, -⟩ := hpp vs0 e0
        rw [z1] at e
        cases e
        exact ⟨_, e0⟩
      · obtain ⟨vs', z1, -, -⟩ := ho m t0 vs0 e0 hmq hpm
        rw [z1] at e
        cases e
        exact ⟨_, e0⟩
  have hp2' : am_g G h'' p2 = some (F.2.1, w2) := d2 p2 w2 (Or.inr rfl) hp2
  have hnew' : p2 = p ∨ am_g G h p2 = none := by
    rcases hnew with ⟨z, -⟩ | ⟨z, -⟩
    · exact Or.inl z
    · right
      unfold am_g
      rw [if_neg (by omega)]
      exact List.getElem?_eq_none (by omega)
  have hte : ∀ (a : Nat) (c : List Value), am_g G h' a = some (F.2.2.2.1, c) → am_g G h'' a = some (F.2.2.2.1, c) := by
    intro a c e
    refine d3 a _ c (fun z => ?_) (fun z => e3 z.2) e
    subst z
    rw [hq2] at e
    exact e2 (Prod.mk.inj (Option.some.inj e)).1.symm
  have hty : ∀ (m t : Nat) (vs : List Value), am_g G h'' m = some (t, vs) → (t = F.2.1 ∧ (m = p ∨ m = p2)) ∨ t = F.2.2.1 → ∀ (j : Nat) (v : Value), vs[j]? = some v → ck_ty K (am_g G h'') (5, F.2.2.2.1, 0, 0) v := by
    intro m t vs e ht j v hv
    have hr : am_g G h' m = some (F.2.2.1, vs) := by
      rcases d4 m t vs e with ⟨z1, z2⟩ | ⟨z1, z2, z3, z4⟩ | ⟨z1, z2, z3⟩
      · exfalso
        rcases ht with ⟨y, -⟩ | y <;> omega
      · exact z4
      · rcases ht with ⟨rfl, y⟩ | rfl
        · exfalso
          rcases y with rfl | rfl
          · rcases hp with ⟨w, y1, -⟩ | ⟨t', w, y1, y2⟩
            · rw [y1] at z2; have := (Prod.mk.inj (Option.some.inj z2)).1; omega
            · rw [y1] at z2
              cases z2
              rcases hrow with ⟨ws, y3, y4⟩ | ⟨y3, y4⟩
              · obtain ⟨vs', x1, -, -⟩ := hstep _ _ _ y4
                rw [x1] at y1; exact y2 (Prod.mk.inj (Option.some.inj y1)).1.symm
              · obtain ⟨vs', x1, -, -⟩ := hstep _ _ _ y4
                rw [x1] at y1
                exact k3 (Prod.mk.inj (Option.some.inj y1)).1.symm
          · rw [hp2] at z2; have := (Prod.mk.inj (Option.some.inj z2)).1; omega
        · exact z2
    obtain ⟨y, y1, y2⟩ := ((hT.2 m _ vs hr).1 _ l1).2 j v hv
    have y1 : some ((5, F.2.2.2.1, 0, 0) : ck_Y) = some y := y1
    cases y1
    exact y2.ex1 fun a c ea => ⟨c, hte a c ea⟩
  have h999 : am_g G h'' 999 = none := by
    have : am_g G h'' 999 = am_g G h 999 := by unfold am_g; rw [if_pos (by decide), if_pos (by decide)]
    rw [this]
    exact hH.1.1
  have hint : ∀ (a : Nat) (vs : List Value), am_g G h a = some (41002, vs) ↔ am_g G h'' a = some (41002, vs) := by
    intro a vs
    constructor
    · intro e
      obtain ⟨vs', z1, -, z3⟩ := ho a 41002 vs e (fun z => by subst z; rw [hq] at e; exact u12 (Prod.mk.inj (Option.some.inj e)).1) (fun z => u13 z.2.symm)
      rw [z3 (by decide) (by omega)] at z1
      exact z1
    · intro e
      rcases hback a _ vs e with ⟨vs', z⟩ | z
      · obtain ⟨vs9, z1, -, z3⟩ := ho a 41002 vs' z (fun z' => by subst z'; rw [hq] at z; exact u12 (Prod.mk.inj (Option.some.inj z)).1) (fun z' => u13 z'.2.symm)
        rw [z3 (by decide) (by omega), e] at z1
        cases z1
        exact z
      · exfalso
        subst z
        rw [hp2'] at e
        exact u13 (Prod.mk.inj (Option.some.inj e)).1
  refine ⟨h'', d0, li_up hF hH hq d1 hn2 hm2 hp2' hl2 hk2 hnew' ho hpp hback hty h999 (hge p2 _ hp2) (fun z => hcop z _ hint), ?_, by omega, d1⟩
  intro m t vs e
  right
  have in1 : ∀ (x : Nat × Nat), x ∈ li_mods F → x.1 = t → x.2 = 1000 → ∀ j, ck_inM (li_mods F) t j = false → False := by
    intro x x1 x2 x3 j hj
    have : ck_inM (li_mods F) t j = true := List.any_eq_true.mpr ⟨x, x1, by rw [x2, x3]; simp⟩
    rw [this] at hj
    cases hj
  by_cases hmq : m = q
  · subst hmq
    rw [hq] at e
    cases e
    refine ⟨_, d1, rfl, fun j hj => ?_⟩
    have key : ∀ x ∈ li_mods F, x.1 = F.1 → x.2 = j → False := by
      intro x x1 x2 x3
      have : ck_inM (li_mods F) F.1 j = true := List.any_eq_true.mpr ⟨x, x1, by rw [x2, x3]; simp⟩
      rw [this] at hj
      cases hj
    match j, key with
    | 0, key => exact (key (F.1, 0) (by unfold li_mods; simp) rfl rfl).elim
    | 1, key => exact (key (F.1, 1) (by unfold li_mods; simp) rfl rfl).elim
    | 2, key => exact (key (F.1, 2) (by unfold li_mods; simp) rfl rfl).elim
    | j + 3, _ => rfl
  · by_cases hpm : m = p ∧ t = F.2.1
    · obtain ⟨rfl, rfl⟩ := hpm
      obtain ⟨vs', z1, z2⟩ := hpp vs e
      exact ⟨vs', z1, z2, fun j hj => (in1 (F.2.1, 1000) (by unfold li_mods; simp) rfl rfl j hj).elim⟩
    · obtain ⟨vs', z1, z2, z3⟩ := ho m t vs e hmq hpm
      refine ⟨vs', z1, z2, fun j hj => ?_⟩
      by_cases t1 : t = 506
      · exact (in1 (506, 1000) (by unfold li_mods; simp) t1.symm rfl j hj).elim
      · by_cases t2 : t = F.2.2.1
        · exact (in1 (F.2.2.1, 1000) (by unfold li_mods; simp) t2.symm rfl j hj).elim
        · rw [z3 t1 t2]
