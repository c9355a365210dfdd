/-! KEPT LISTS: WHAT IS TAKEN OUT -/
theorem li_outc {G : am_G} {F : li_F} (hF : F ∈ li_Fs) {h h1 h' h'' : List am_C} {q p : Nat} {mc n : Int32} {M : List (Nat × Nat)} (hq : am_g G h q = some (F.1, [.int mc, .ref p, .int n])) (hq1 : am_g G h1 q = some (506, [.int mc, .ref p, .int n]))
    (hsame : ∀ (m t : Nat) (vs : List Value), m ≠ q → ¬ (m = p ∧ t = F.2.1) → am_g G h m = some (t, vs) → am_g G h1 m = some (t, vs)) (hp1 : ∀ ws, am_g G h p = some (F.2.1, ws) → am_g G h1 p = some (F.2.2.1, ws)) (hl1 : h1.length = h.length) (hl2 : h'.length = h1.length)
    (hKp : ck_Kp M [] (am_g G h1) (am_g G h')) (hKp2 : ck_Kp (li_mods F) [] (am_g G h) (am_g G h'')) {o : am_O} (ho : li_out F G h' o) : li_out F G h'' o := by
  obtain ⟨t1, t2, t3, -, -⟩ := li_te hF
  obtain ⟨x, vx, e1, e2⟩ := ho
  have hold : ∃ c, am_g G h x = some c := by
    by_cases hm : x < 1000
    · have : am_g G h' x = am_g G h x := by unfold am_g; rw [if_pos hm, if_pos hm]
      exact ⟨_, this ▸ e2⟩
    · have hl := am_g_lt (by omega) e2
      refine ⟨h[x - 1000]'(by omega), ?_⟩
      unfold am_g
      rw [if_neg hm]
      exact List.getElem?_eq_getElem _
  obtain ⟨⟨t0, vs0⟩, e0⟩ := hold
  have key : ∀ (t : Nat) (vs : List Value), am_g G h1 x = some (t, vs) → t = F.2.2.2.1 := by
    intro t vs e
    rcases hKp x t vs e with ⟨z, -⟩ | ⟨vs', z1, -⟩
    · cases z
    · rw [e2] at z1
      exact (Prod.mk.inj (Option.some.inj z1)).1.symm
  have ht0 : t0 = F.2.2.2.1 := by
    by_cases hxq : x = q
    · subst hxq
      exact absurd (key _ _ hq1).symm t2
    · by_cases hxp : x = p ∧ t0 = F.2.1
      · obtain ⟨rfl, rfl⟩ := hxp
        exact absurd (key _ _ (hp1 vs0 e0)).symm t3
      · exact key _ _ (hsame x t0 vs0 hxq hxp e0)
  subst ht0
  rcases hKp2 x _ vs0 e0 with ⟨z, -⟩ | ⟨vs', z1, -⟩
  · cases z
  · exact ⟨x, vs', e1, z1⟩
set_option maxHeartbeats 2000000 in
theorem li_remc {G : am_G} {CM : ck_CM} {K : Int32} {F : li_F} (hF : F ∈ li_Fs) (hc : ck_Con (am_grow CM) G li_XL gTl (li_Kr F)) {h : List am_C} (hH : ck_HT li_X gT K (am_g G h)) {q p : Nat} {mc n i : Int32} (hq : am_g G h q = some (F.1, [.int mc, .ref p, .int n])) (hi : 0 ≤ i.toInt ∧ i.toInt < n.toInt) (hmax : F.2.2.2.2.2 ≤ 13) (hnb : F.1 ≠ 41106) :
    ck_lift G CM [.ref q, .int i] h 0 0 (fun o h'' => li_out F G h'' o ∧ li_end F G K h h'' q (n.toInt - 1)) := by
  obtain ⟨u1, u2, u3, u4, u5, u6, u7, u8, u9, u10, u11, u12, u13, u14, u15, u16⟩ := li_nums hF
  obtain ⟨r1, r2, r3, r4⟩ := li_row hF
  obtain ⟨k1, k2, k3⟩ := li_Fs_ge hF
  obtain ⟨hn0, h1, d1, d2, d3, d4, d5, d6⟩ := li_raw hF hH hq
  have hn : n.toInt ≤ F.2.2.2.2.2 := by
    obtain ⟨y, y1, y2⟩ := ((hH.2 q _ _ hq).1 _ r1).2 2 (.int n) rfl
    have y1 : some ((1, 0, 0, F.2.2.2.2.2) : ck_Y) = some y := y1
    cases y1
    obtain ⟨x, x1, x2, x3⟩ := y2
    cases x1
    exact x3
  rcases d6 with ⟨e1, e2, e3⟩ | ⟨ws, e1, e2, e3, e4, e5, e6⟩
  · omega
  · obtain ⟨P1, f1, f2⟩ := li_shr u6 hc d3 d4 ⟨by omega, by omega⟩ e2 ⟨e3, e4, e5⟩ e6 hi
    refine ⟨h1, 0, 0, P1, d1, Nat.le_refl _, Nat.le_refl _, f1, fun o h' hp => ?_⟩
    obtain ⟨y0, y2, mc2, n2, w2, y3, ⟨z1, z2, z3, z4, z5, z6, z7⟩⟩ := f2 o h' hp
    obtain ⟨w9, w1, w3⟩ := li_len (s := []) z2 e2
    rw [z4] at w1
    cases w1
    obtain ⟨h'', x1, x2, x3, x4, x5⟩ := li_core hF hH hq (Or.inl ⟨ws, e1, e2⟩) d4 d5 d2 z1 (li_inM_of (by intro x hx; simp at hx; rcases hx with rfl | rfl | rfl <;> simp)) z2 z3 z4 (by omega) (by omega) ⟨z5, z6⟩ ⟨by omega, z7⟩ (Or.inl ⟨rfl, by omega⟩) (fun z => absurd z hnb)
    refine ⟨h'', x1, li_outc hF hq d4 d5 (fun ws' hw => by rw [e1] at hw; cases hw; exact e2) d2 y2 z2 x3 y0, x2, x3, x4, mc2, n2, _, x5, y3⟩
set_option maxHeartbeats 2000000 in
theorem li_remb {G : am_G} {CM : ck_CM} {K : Int32} {k : Nat} (hc : ck_Con (am_grow CM) G li_XL gTl (li_Kb li_fb k)) {h : List am_C} (hH : ck_HT li_X gT K (am_g G h)) {q p : Nat} {mc n i : Int32} (hq : am_g G h q = some (41106, [.int mc, .ref p, .int n])) (hn : n.toInt = ((k + 1 : Nat) : Int)) (hi : i.toInt = (k : Int)) (hk : k < 10) :
    ck_lift G CM [.ref q, .int i] h 0 0 (fun o h'' => li_out li_fb G h'' o ∧ li_end li_fb G K h h'' q (k : Int)) := by
  have hF : li_fb ∈ li_Fs := by decide
  obtain ⟨u1, u2, u3, u4, u5, u6, u7, u8, u9, u10, u11, u12, u13, u14, u15, u16⟩ := li_nums hF
  obtain ⟨r1, r2, r3, r4⟩ := li_row hF
  obtain ⟨hn0, h1, d1, d2, d3, d4, d5, d6⟩ := li_raw hF hH hq
  have hn9 : n.toInt ≤ 5 := by
    obtain ⟨y, y1, y2⟩ := ((hH.2 q _ _ hq).1 _ r1).2 2 (.int n) rfl
    have y1 : some ((1, 0, 0, 5) : ck_Y) = some y := y1
    cases y1
    obtain ⟨x, x1, x2, x3⟩ := y2
    cases x1
    exact x3
  rcases d6 with ⟨e1, e2, e3⟩ | ⟨ws, e1, e2, e3, e4, e5, e6⟩
  · omega
  · obtain ⟨P1, f1, f2⟩ := li_shb u6 hc d3 d4 hn e2 ⟨e3, e4⟩ e6 hi (by omega)
    refine ⟨h1, 0, 0, P1, d1, Nat.le_refl _, Nat.le_refl _, f1, fun o h' hp => ?_⟩
    obtain ⟨y0, y2, mc2, n2, w2, y3, ⟨z1, z2, z3, z4, z5, z6, z7⟩, y6⟩ := f2 o h' hp
    obtain ⟨w9, w1, w3⟩ := li_len (s := []) z2 e2
    rw [z4] at w1
    cases w1
    obtain ⟨h'', x1, x2, x3, x4, x5⟩ := li_core hF hH hq (Or.inl ⟨ws, e1, e2⟩) d4 d5 d2 z1 (li_inM_of (by intro x hx; simp at hx; rcases hx with rfl | rfl | rfl <;> simp)) z2 z3 z4 (by omega) (by show _ ≤ (5 : Int); omega) ⟨z5, z6⟩ ⟨by omega, z7⟩ (Or.inl ⟨rfl, by omega⟩) (fun _ g2 hg2 => by
      have hold := hH.1.2.2.2.1 q p mc n ws hq e1
      have hval : ∀ (j : Nat) (y : Int), (j : Int) < n2.toInt → li_val g2 w2 j y → li_val (am_g G h) ws j y := by
        intro j y hj ⟨a, v, a1, a2, a3⟩
        exact ⟨a, v, by rw [← y6 j (by omega)]; exact a1, (hg2 _ _).mpr a2, a3⟩
      refine ⟨fun j hj => ?_, fun j j' y y' hjj hj' a1 a2 => hold.2 j j' y y' hjj (by omega) (hval j y (by omega) a1) (hval j' y' hj' a2)⟩
      obtain ⟨y, ⟨a, v, a1, a2, a3⟩, a4⟩ := hold.1 j (by omega)
      exact ⟨y, ⟨a, v, by rw [y6 j (by omega)]; exact a1, (hg2 _ _).mp a2, a3⟩, a4⟩)
    exact ⟨h'', x1, li_outc hF hq d4 d5 (fun ws' hw => by rw [e1] at hw; cases hw; exact e2) d2 y2 z2 x3 y0, x2, x3, x4, mc2, n2, _, x5, y3⟩
/-! THE CONTRACTS -/
def li_addK (F : li_F) : ck_KK := (([(0, F.2.2.2.2.2 - 1)], [], [(2, 0, 0, F.1, (0, 0, (3, []))), (3, 0, 2, F.1, (1, 0, (0, [(1, 0)]))), (2, 1, 0, F.2.2.2.1, (0, 0, ((F.2.2.2.2.1 : Int), [])))], 2, [(3, 0, (0, [])), (3, 1, (0, []))]), ((1, []), (20, [])), li_mods F, [], ([], [], [(3, 0, 2, F.1, (1, 0, (1, [(1, 0)])))], 0, [(1, 0, (1, []))]), [])
theorem li_got {G : am_G} {K : Int32} {F : li_F} (hF : F ∈ li_Fs) {h : List am_C} (hH : ck_HT li_X gT K (am_g G h)) {q : Nat} {vs : List Value} (hq : am_g G h q = some (F.1, vs)) {n : Int32} (hn : vs[2]? = some (.int n)) : ∃ (mc : Int32) (p : Nat), vs = [.int mc, .ref p, .int n] := by
  obtain ⟨mc, n9, p, e1, -⟩ := hH.1.2.1 F hF q vs hq
  subst e1
  cases hn
  exact ⟨mc, p, rfl⟩
section LIK
variable {G : am_G} {CM : ck_CM} {F : li_F}
/-- so the contract follows -/
theorem li_post {h : List am_C} {a : List Value} {mc ms : Nat} {P Q : am_O → List am_C → Prop} (H : ck_lift G CM a h mc ms P) {mc' ms' : Nat} (h1 : mc ≤ mc') (h2 : ms ≤ ms') (h3 : ∀ o h'', P o h'' → Q o h'') : ck_lift G CM a h mc' ms' Q := by
  obtain ⟨x1, x2, x3, x4, x5, x6, x7, x8, x9⟩ := H
  exact ⟨x1, x2, x3, x4, x5, by omega, by omega, x8, fun o h' hp => by obtain ⟨h'', y1, y2⟩ := x9 o h' hp; exact ⟨h'', y1, h3 _ _ y2⟩⟩
theorem li_add_con (hF : F ∈ li_Fs) (hnb : F.1 ≠ 41106) (hmax : F.2.2.2.2.2 ≤ 13) (hKe : ck_Con (am_grow CM) G li_XL gTl (li_Ke F)) (hKk : ∀ k : Nat, (k : Int) < F.2.2.2.2.2 → ∃ lo : Int, 10 ≤ lo ∧ lo ≤ max 10 ((k : Int) + 1) ∧ ck_Con (am_grow CM) G li_XL gTl (li_Kk F k lo)) (hKg : ∀ k : Nat, 10 ≤ k → (k : Int) < F.2.2.2.2.2 → ck_Con (am_grow CM) G li_XL gTl (li_Kg F k)) : ck_Con (ck_lift G CM) G li_X gT (li_addK F) := by
  intro K r s a h hH hV hC hFc hn hS mc ms hmc hms
  have hmc' : (mc : Int) = 1 := li_k hmc
  have hms' : (ms : Int) = 20 := li_k hms
  match r, hV.1 with
  | [n0], _ =>
    match s, hn with
    | [q, e], _ =>
      match a, hS with
      | [v1, v2], ⟨⟨q1, s1, s2⟩, ⟨q2, s3, s4⟩, _⟩ =>
        cases s1; cases s3; subst s2 s4
        obtain ⟨q3, vs, v, e1, e2, e3, n, e4, e5⟩ := hFc (3, 0, 2, F.1, (1, 0, (0, [(1, 0)]))) (by unfold li_addK; simp)
        obtain ⟨q4, ves, f1, f2, -⟩ := hFc (2, 1, 0, F.2.2.2.1, (0, 0, ((F.2.2.2.2.1 : Int), []))) (by unfold li_addK; simp)
        cases e1; cases f1; subst e4
        obtain ⟨mc9, p, rfl⟩ := li_got hF hH e2 e3
        have e5 := ck_lv1 e5
        cases e5
        obtain ⟨i1, i2⟩ := li_in' hV
        refine li_post (li_addc hF hKe hKk hKg hH e2 (by omega) f2 (fun z => absurd z hnb) hmax (fun z => absurd z hnb)) (by omega) (by omega) fun o h'' ⟨y1, y2, y3, y4, mc2, n9, p2, y5, y6⟩ => ?_
        subst y1
        refine ⟨y2, y3, y4, [], [], li_in0, (fun c hc => nomatch hc), List.forall_mem_cons.mpr ⟨?_, List.forall_mem_nil _⟩, rfl, ⟨⟨1, rfl, ck_Lv.k _ 1⟩, trivial⟩⟩
        exact ⟨q, _, _, rfl, y5, rfl, n9, rfl, ⟨by intro t ht; simp at ht; subst ht; simp, by show _ = (1 : Int) + (1 * n.toInt + 0); omega⟩⟩
def li_remK (F : li_F) : ck_KK := (([(1, F.2.2.2.2.2), (0, F.2.2.2.2.2 - 1)], [(-1, [(1, 0), (-1, 1)])], [(2, 0, 0, F.1, (0, 0, (3, []))), (3, 0, 2, F.1, (1, 0, (0, [(1, 0)])))], 1, [(3, 0, (0, [])), (1, 0, (0, [(1, 1)]))]), ((0, []), (0, [])), li_mods F, [], ([], [], [(2, 1, 0, F.2.2.2.1, (0, 0, ((F.2.2.2.2.1 : Int), []))), (3, 0, 2, F.1, (1, 0, (-1, [(1, 0)])))], 1, [(3, 1, (0, []))]), [])
theorem li_telen {K : Int32} (hF : F ∈ li_Fs) {h : List am_C} (hH : ck_HT li_X gT K (am_g G h)) {x : Nat} {vx : List Value} (hx : am_g G h x = some (F.2.2.2.1, vx)) : vx.length = F.2.2.2.2.1 := by
  obtain ⟨-, -, -, -, dd, td1, td2, td3⟩ := li_te hF
  have := ((hH.2 x _ vx hx).1 dd td1).1
  rw [td2, td3] at this
  omega
theorem li_rem_con (hF : F ∈ li_Fs) (hnb : F.1 ≠ 41106) (hmax : F.2.2.2.2.2 ≤ 13) (hc : ck_Con (am_grow CM) G li_XL gTl (li_Kr F)) : ck_Con (ck_lift G CM) G li_X gT (li_remK F) := by
  intro K r s a h hH hV hC hFc hn hS mc ms hmc hms
  have hmc' : (mc : Int) = 0 := li_k hmc
  have hms' : (ms : Int) = 0 := li_k hms
  match r, hV.1 with
  | [n0, i0], _ =>
    match s, hn with
    | [q], _ =>
      match a, hS with
      | [v1, v2], ⟨⟨q1, s1, s2⟩, ⟨i, s3, s4⟩, _⟩ =>
        cases s1; subst s2 s3
        obtain ⟨q3, vs, v, e1, e2, e3, n, e4, e5⟩ := hFc (3, 0, 2, F.1, (1, 0, (0, [(1, 0)]))) (by unfold li_remK; simp)
        cases e1; subst e4
        obtain ⟨mc9, p, rfl⟩ := li_got hF hH e2 e3
        have e5 := ck_lv1 e5
        cases e5
        have s4 := ck_lv1 s4
        cases s4
        have i1 := hV.2 1 0 (F.2.2.2.2.2 - 1) _ rfl rfl
        obtain ⟨z, ⟨-, z1⟩, z2⟩ := hC (-1, [(1, 0), (-1, 1)]) (by unfold li_remK; simp)
        have z1 : z = (-1 : Int) + (1 * n.toInt + (-1 * i.toInt + 0)) := z1
        refine li_post (li_remc hF hc hH e2 ⟨i1.1, by omega⟩ hmax hnb) (by omega) (by omega) fun o h'' ⟨⟨x, vx, y0, y1⟩, y2, y3, y4, mc2, n9, p2, y5, y6⟩ => ?_
        subst y0
        refine ⟨y2, y3, y4, [], [x], li_in0, (fun c hc => nomatch hc), List.forall_mem_cons.mpr ⟨?_, List.forall_mem_cons.mpr ⟨?_, List.forall_mem_nil _⟩⟩, rfl, ⟨⟨x, rfl, rfl⟩, trivial⟩⟩
        · exact ⟨x, vx, rfl, y1, by rw [li_telen hF y2 y1]; exact ck_Lv.k _ _⟩
        · exact ⟨q, _, _, rfl, y5, rfl, n9, rfl, ⟨by intro t ht; simp at ht; subst ht; simp, by show _ = (-1 : Int) + (1 * n.toInt + 0); omega⟩⟩
def li_rembK (k : Nat) : ck_KK := (([(((k + 1 : Nat) : Int), ((k + 1 : Nat) : Int))], [], [(2, 0, 0, 41106, (0, 0, (3, []))), (3, 0, 2, 41106, (1, 0, (0, [(1, 0)])))], 1, [(3, 0, (0, [])), (1, 0, (-1, [(1, 0)]))]), ((0, []), (0, [])), li_mods li_fb, [], ([], [], [(2, 1, 0, 41002, (0, 0, (1, []))), (3, 0, 2, 41106, (1, 0, (-1, [(1, 0)])))], 1, [(3, 1, (0, []))]), [])
theorem li_remb_con {k : Nat} (hk : k < 10) (hc : ck_Con (am_grow CM) G li_XL gTl (li_Kb li_fb k)) : ck_Con (ck_lift G CM) G li_X gT (li_rembK k) := by
  intro K r s a h hH hV hC hFc hn hS mc ms hmc hms
  have hmc' : (mc : Int) = 0 := li_k hmc
  have hms' : (ms : Int) = 0 := li_k hms
  have hF : li_fb ∈ li_Fs := by decide
  match r, hV.1 with
  | [n0], _ =>
    match s, hn with
    | [q], _ =>
      match a, hS with
      | [v1, v2], ⟨⟨q1, s1, s2⟩, ⟨i, s3, s4⟩, _⟩ =>
        cases s1; subst s2 s3
        obtain ⟨q3, vs, v, e1, e2, e3, n, e4, e5⟩ := hFc (3, 0, 2, 41106, (1, 0, (0, [(1, 0)]))) (by unfold li_rembK; simp)
        cases e1; subst e4
        obtain ⟨mc9, p, rfl⟩ := li_got hF hH e2 e3
        have e5 := ck_lv1 e5
        cases e5
        obtain ⟨i1, i2⟩ := li_in' hV
        have s5 : i.toInt = (-1 : Int) + (1 * n.toInt + 0) := s4.2
        refine li_post (li_remb hc hH e2 (by omega) (by omega) hk) (by omega) (by omega) fun o h'' ⟨⟨x, vx, y0, y1⟩, y2, y3, y4, mc2, n9, p2, y5, y6⟩ => ?_
        subst y0
        refine ⟨y2, y3, y4, [], [x], li_in0, (fun c hc => nomatch hc), List.forall_mem_cons.mpr ⟨?_, List.forall_mem_cons.mpr ⟨?_, List.forall_mem_nil _⟩⟩, rfl, ⟨⟨x, rfl, rfl⟩, trivial⟩⟩
        · exact ⟨x, vx, rfl, y1, by rw [li_telen hF y2 y1]; exact ck_Lv.k _ _⟩
        · exact ⟨q, _, _, rfl, y5, rfl, n9, rfl, ⟨by intro t ht; simp at ht; subst ht; simp, by show _ = (-1 : Int) + (1 * n.toInt + 0); omega⟩⟩
end LIK
