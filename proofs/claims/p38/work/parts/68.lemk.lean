/-! CONTRACTS OF THOSE LEMMAS -/
theorem li_lv {r : List Int} {e : ck_L} {x : Int} (h1 : (e.2.all fun t => Nat.blt t.2 r.length) = true) (h2 : x = e.1 + ck_ev r e.2) : ck_Lv r e x :=
  ⟨fun t ht => by have := List.all_eq_true.mp h1 t ht; simpa using this, h2⟩
def li_pubeK (F : li_F) (rl : Nat) : ck_KK := (([], [], [(2, 0, 0, rl, (0, 0, (3, []))), (3, 0, 1, rl, (3, 1, (0, []))), (2, 1, 0, 43056, (0, 0, (0, []))), (3, 0, 2, rl, (1, 0, (0, []))), (3, 0, 0, rl, (1, 0, (0, [])))], 2, [(3, 0, (0, [])), (3, 1, (0, []))]), ((0, []), (0, [])), [], [rl], ([], [], [(2, 0, 0, F.1, (0, 0, (3, []))), (3, 0, 2, F.1, (1, 0, (0, [])))], 0, []), [])
theorem li_pube_con {G : am_G} {F : li_F} {rl : Nat} (hF : F ∈ li_Fs) (hrl : rl = 506 ∨ rl = 606) : ck_Con (ck_lem G) G li_X gT (li_pubeK F rl) := by
  intro K r s a h hH hV hC hFc hn hS mc ms hmc hms
  have hmx : 0 ≤ F.2.2.2.2.2 := by
    have : ∀ F ∈ li_Fs, 0 ≤ F.2.2.2.2.2 := by decide
    exact this F hF
  obtain ⟨r1, r2, r3, r4⟩ := li_row hF
  obtain ⟨u1, u2, u3, u4, u5, u6, -⟩ := li_nums hF
  obtain ⟨v1, v2, v3, v4⟩ := li_rl hF hrl
  match s, hn with
  | [q, p], _ =>
    obtain ⟨q1, vs, a1, a2, a3⟩ := hFc (2, 0, 0, rl, (0, 0, (3, []))) (by unfold li_pubeK; simp)
    obtain ⟨q2, v2, w2, b1, b2, b3, z2, b4, b5⟩ := hFc (3, 0, 1, rl, (3, 1, (0, []))) (by unfold li_pubeK; simp)
    obtain ⟨q3, v3, c1, c2, c3⟩ := hFc (2, 1, 0, 43056, (0, 0, (0, []))) (by unfold li_pubeK; simp)
    obtain ⟨q4, v4, w4, d1, d2, d3, x4, d4, d5⟩ := hFc (3, 0, 2, rl, (1, 0, (0, []))) (by unfold li_pubeK; simp)
    obtain ⟨q5, v5, w5, e1, e2, e3, x5, e4, e5⟩ := hFc (3, 0, 0, rl, (1, 0, (0, []))) (by unfold li_pubeK; simp)
    cases a1; cases b1; cases c1; cases d1; cases e1; cases b4
    subst b5 d4 e4
    have a2 : am_g G h q = some (rl, vs) := a2
    have b2 : am_g G h q = some (rl, v2) := b2
    have d2 : am_g G h q = some (rl, v4) := d2
    have e2 : am_g G h q = some (rl, v5) := e2
    rw [a2] at b2 d2 e2
    cases b2; cases d2; cases e2
    have hl : vs.length = 3 := by have := li_k a3; omega
    have hvs := li_three hl e3 b3 d3
    subst hvs
    have hx4 := li_k d5
    have hv3 : v3 = [] := by have := li_k c3; exact List.length_eq_zero_iff.mp (by omega)
    subst hv3
    have c2 : am_g G h p = some (43056, []) := c2
    have hq1 : 1000 ≤ q := (hH.2 q _ _ a2).2.2 (by unfold ck_wr; rw [v1])
    have hg : ∀ m, am_g G (am_s h q (F.1, [.int x5, .ref p, .int x4])) m = if m = q then some (F.1, [.int x5, .ref p, .int x4]) else am_g G h m := fun m => am_g_s hq1 (am_g_lt hq1 a2)
    obtain ⟨k1, k2⟩ := li_new hF hrl hH (g2 := am_g G (am_s h q (F.1, [.int x5, .ref p, .int x4]))) a2 ⟨by omega, by omega⟩ (Or.inl ⟨c2, hx4⟩) (by rw [hg, if_pos rfl]) (fun ws z => by rw [c2] at z; have := (Prod.mk.inj (Option.some.inj z)).1; omega) (fun m hm _ => by rw [hg, if_neg hm])
    refine ⟨_, ⟨[(q, F.1)], rl, _, a2, hq1, by show F.1 % 100 = _; rw [u1, v2], rfl⟩, k1, fun m t vs e => ?_, by rw [am_s_len]; exact Nat.le_refl _, [], [], li_in0, (fun c hc => nomatch hc), List.forall_mem_cons.mpr ⟨?_, List.forall_mem_cons.mpr ⟨?_, List.forall_mem_nil _⟩⟩, rfl, trivial⟩
    · rcases k2 m t vs e with ⟨z1, z2⟩ | z
      · rcases List.mem_cons.mp z1 with z1 | z1
        · exact Or.inl ⟨by rw [z1]; exact List.mem_cons_self, z2⟩
        · exfalso
          rw [List.mem_singleton] at z1
          obtain ⟨rfl, rfl⟩ := Prod.mk.inj z1
          rw [c2] at e
          have := (Prod.mk.inj (Option.some.inj e)).1
          omega
      · exact Or.inr z
    · exact ⟨q, _, rfl, by rw [hg, if_pos rfl], ck_Lv.k _ 3⟩
    · exact ⟨q, _, _, rfl, by rw [hg, if_pos rfl], rfl, x4, rfl, by rw [hx4]; exact ck_Lv.k _ 0⟩
/-- what is asked of a raw list with a row -/
def li_rawF (rl rr : Nat) (n : ck_L) : List ck_F := [(2, 0, 0, rl, (0, 0, (3, []))), (3, 0, 0, rl, (1, 0, (0, [(1, 0)]))), (3, 0, 1, rl, (3, 1, (0, []))), (2, 1, 0, rr, (0, 0, (0, [(1, 1)]))), (3, 0, 2, rl, (1, 0, n)), (6, 1, 4, rr, (0, 0, n))]
theorem li_rawf {G : am_G} {h : List am_C} {r : List Int} {s : List Nat} {rl rr : Nat} {n : ck_L} (hFc : ∀ f ∈ li_rawF rl rr n, ck_fa (am_g G h) 0 r s f) {q p : Nat} (hq : s[0]? = some q) (hp : s[1]? = some p) : ∃ (mc n9 : Int32) (ws : List Value), am_g G h q = some (rl, [.int mc, .ref p, .int n9]) ∧ am_g G h p = some (rr, ws) ∧ ck_Lv r (0, [(1, 1)]) (ws.length : Int) ∧ ck_Lv r n n9.toInt ∧ ∀ k : Nat, (k : Int) < n9.toInt → ∃ q : Nat, ws[k]? = some (.ref q) := by
  obtain ⟨q1, vs, a1, a2, a3⟩ := hFc (2, 0, 0, rl, (0, 0, (3, []))) (by unfold li_rawF; simp)
  obtain ⟨q2, v2, w2, b1, b2, b3, z2, b4, b5⟩ := hFc (3, 0, 1, rl, (3, 1, (0, []))) (by unfold li_rawF; simp)
  obtain ⟨q3, v3, c1, c2, c3⟩ := hFc (2, 1, 0, rr, (0, 0, (0, [(1, 1)]))) (by unfold li_rawF; simp)
  obtain ⟨q4, v4, w4, d1, d2, d3, x4, d4, d5⟩ := hFc (3, 0, 2, rl, (1, 0, n)) (by unfold li_rawF; simp)
  obtain ⟨q5, v5, w5, e1, e2, e3, x5, e4, e5⟩ := hFc (3, 0, 0, rl, (1, 0, (0, [(1, 0)]))) (by unfold li_rawF; simp)
  obtain ⟨q6, v6, x6, f1, f2, f3, f4⟩ := hFc (6, 1, 4, rr, (0, 0, n)) (by unfold li_rawF; simp)
  have a1 : s[0]? = some q1 := a1
  have b1 : s[0]? = some q2 := b1
  have b4 : s[1]? = some z2 := b4
  have c1 : s[1]? = some q3 := c1
  have d1 : s[0]? = some q4 := d1
  have e1 : s[0]? = some q5 := e1
  have f1 : s[1]? = some q6 := f1
  rw [hq] at a1 b1 d1 e1
  rw [hp] at b4 c1 f1
  cases a1; cases b1; cases c1; cases d1; cases e1; cases b4; cases f1
  subst b5 d4 e4
  have a2 : am_g G h q = some (rl, vs) := a2
  have b2 : am_g G h q = some (rl, v2) := b2
  have d2 : am_g G h q = some (rl, v4) := d2
  have e2 : am_g G h q = some (rl, v5) := e2
  have c2 : am_g G h p = some (rr, v3) := c2
  have f2 : am_g G h p = some (rr, v6) := f2
  rw [a2] at b2 d2 e2
  cases b2; cases d2; cases e2
  rw [c2] at f2
  cases f2
  have hl : vs.length = 3 := by have := li_k a3; omega
  have hvs := li_three hl e3 b3 d3
  subst hvs
  refine ⟨x5, x4, v3, a2, c2, c3, d5, fun k hk => f4 k ?_⟩
  have := f3.fn d5
  omega
theorem li_pubc {G : am_G} {K : Int32} {F : li_F} (hF : F ∈ li_Fs) {rl : Nat} (hrl : rl = 506 ∨ rl = 606) {h : List am_C} (hH : ck_HT li_X gT K (am_g G h)) {q p : Nat} {mc n : Int32} {ws : List Value} (hq : am_g G h q = some (rl, [.int mc, .ref p, .int n])) (hp : am_g G h p = some (F.2.2.1, ws)) (hn : 0 ≤ n.toInt ∧ n.toInt ≤ F.2.2.2.2.2) (hl : 10 ≤ ws.length ∧ ws.length ≤ 24 ∧ n.toInt ≤ (ws.length : Int)) (hk : ∀ k : Nat, (k : Int) < n.toInt → ∃ q : Nat, ws[k]? = some (.ref q)) (hcp : F.1 = 41106 → li_cp (am_g G h) n.toInt ws) :
    ∃ h' : List am_C, ck_rh G h h' ∧ ck_HT li_X gT K (am_g G h') ∧ ck_Kp [] [(q, rl), (p, F.2.2.1)] (am_g G h) (am_g G h') ∧ h.length ≤ h'.length ∧ am_g G h' q = some (F.1, [.int mc, .ref p, .int n]) ∧ am_g G h' p = some (F.2.1, ws) := by
  obtain ⟨r1, r2, r3, r4⟩ := li_row hF
  obtain ⟨u1, u2, u3, u4, u5, u6, -⟩ := li_nums hF
  obtain ⟨v1, v2, v3, v4⟩ := li_rl hF hrl
  have hq1 : 1000 ≤ q := (hH.2 q _ _ hq).2.2 (by unfold ck_wr; rw [v1])
  have hp1 : 1000 ≤ p := (hH.2 p _ _ hp).2.2 (by unfold ck_wr; rw [r3]; rfl)
  have hpq : p ≠ q := by rintro rfl; rw [hq] at hp; exact v4 (Prod.mk.inj (Option.some.inj hp)).1.symm
  have g1 : ∀ m, am_g G (am_s h q (F.1, [.int mc, .ref p, .int n])) m = if m = q then some (F.1, [.int mc, .ref p, .int n]) else am_g G h m := fun m => am_g_s hq1 (am_g_lt hq1 hq)
  have g2 : ∀ m, am_g G (am_s (am_s h q (F.1, [.int mc, .ref p, .int n])) p (F.2.1, ws)) m = if m = p then some (F.2.1, ws) else am_g G (am_s h q (F.1, [.int mc, .ref p, .int n])) m := fun m => am_g_s hp1 (by rw [am_s_len]; exact am_g_lt hp1 hp)
  obtain ⟨k1, k2⟩ := li_new hF hrl hH (g2 := am_g G (am_s (am_s h q (F.1, [.int mc, .ref p, .int n])) p (F.2.1, ws))) hq hn (Or.inr ⟨ws, hp, hl.1, hl.2.1, hl.2.2, hk, hcp⟩) (by rw [g2, if_neg (Ne.symm hpq), g1, if_pos rfl]) (fun ws' z => by rw [hp] at z; cases z; rw [g2, if_pos rfl]) (fun m hm hz => by
    have : m ≠ p := by rintro rfl; exact hz ws ⟨rfl, hp⟩
    rw [g2, if_neg this, g1, if_neg hm])
  exact ⟨_, ⟨[(q, F.1), (p, F.2.1)], rl, _, hq, hq1, by show F.1 % 100 = _; rw [u1, v2], F.2.2.1, ws, by rw [g1, if_neg hpq]; exact hp, hp1, by show F.2.1 % 100 = _; rw [u2, u3], rfl⟩, k1, k2, by rw [am_s_len, am_s_len]; exact Nat.le_refl _, by rw [g2, if_neg (Ne.symm hpq), g1, if_pos rfl], by rw [g2, if_pos rfl]⟩
/-- of a family whose elements are of no account to each other -/
def li_pubK (F : li_F) (rl n : Nat) : ck_KK := (([(-2147483648, 2147483647), (10, 24)], [], li_rawF rl F.2.2.1 ((n : Int), []), 2, [(3, 0, (0, [])), (3, 1, (0, []))]), ((0, []), (0, [])), [], [rl, F.2.2.1], ([], [], [(2, 0, 0, F.1, (0, 0, (3, []))), (3, 0, 2, F.1, (1, 0, ((n : Int), [])))], 0, []), [])
theorem li_pub_con {G : am_G} {F : li_F} {rl n : Nat} (hF : F ∈ li_Fs) (hrl : rl = 506 ∨ rl = 606) (hnb : F.1 ≠ 41106) (hn9 : (n : Int) ≤ F.2.2.2.2.2) (hn10 : n ≤ 10) : ck_Con (ck_lem G) G li_X gT (li_pubK F rl n) := by
  intro K r s a h hH hV hC hFc hn hS mc ms hmc hms
  match s, hn with
  | [q, p], _ =>
    match r, hV.1 with
    | [m0, l0], _ =>
      obtain ⟨mc9, n9, ws, a1, a2, a3, a4, a5⟩ := li_rawf hFc (q := q) (p := p) rfl rfl
      have a3 := ck_lv1 a3
      cases a3
      have i1 := hV.2 1 10 24 _ rfl rfl
      have hx := li_k a4
      obtain ⟨h', k1, k2, k3, k4, k5, k6⟩ := li_pubc hF hrl hH a1 a2 ⟨by omega, by omega⟩ ⟨by omega, by omega, by omega⟩ a5 (fun z => absurd z hnb)
      refine ⟨h', k1, k2, k3, k4, [], [], li_in0, (fun c hc => nomatch hc), List.forall_mem_cons.mpr ⟨?_, List.forall_mem_cons.mpr ⟨?_, List.forall_mem_nil _⟩⟩, rfl, trivial⟩
      · exact ⟨q, _, rfl, k5, ck_Lv.k _ 3⟩
      · exact ⟨q, _, _, rfl, k5, rfl, n9, rfl, by rw [hx]; exact ck_Lv.k _ _⟩
/-- what a kept list is like inside -/
def li_expK (F : li_F) : ck_KK := (([(1, F.2.2.2.2.2)], [], [(2, 0, 0, F.1, (0, 0, (3, []))), (3, 0, 2, F.1, (1, 0, (0, [(1, 0)])))], 1, [(3, 0, (0, []))]), ((0, []), (0, [])), [], [], ([(-2147483648, 2147483647), (10, 24)], [(0, [(-1, 0), (1, 2)])], [(3, 0, 0, F.1, (1, 0, (0, [(1, 1)]))), (3, 0, 1, F.1, (3, 1, (0, []))), (2, 1, 0, F.2.1, (0, 0, (0, [(1, 2)]))), (6, 1, 4, F.2.1, (0, 0, (0, [(1, 0)])))], 1, []), [])
theorem li_expc {G : am_G} {K : Int32} {F : li_F} (hF : F ∈ li_Fs) {h : List am_C} (hH : ck_HT li_X gT K (am_g G h)) {q : Nat} {vs : List Value} {n : Int32} (hq : am_g G h q = some (F.1, vs)) (hn : vs[2]? = some (.int n)) (h1 : 1 ≤ n.toInt) : ∃ (mc : Int32) (p : Nat) (ws : List Value), vs = [.int mc, .ref p, .int n] ∧ am_g G h p = some (F.2.1, ws) ∧ 10 ≤ ws.length ∧ ws.length ≤ 24 ∧ n.toInt ≤ (ws.length : Int) ∧ ∀ k : Nat, (k : Int) < n.toInt → ∃ q : Nat, ws[k]? = some (.ref q) := by
  obtain ⟨r1, r2, r3, r4⟩ := li_row hF
  obtain ⟨mc, p, rfl⟩ := li_got hF hH hq hn
  obtain ⟨mc9, n9, p9, e1, e2, e3⟩ := hH.1.2.1 F hF q _ hq
  cases e1
  rcases e3 with ⟨-, e3⟩ | ⟨ws, e3, e4, e5⟩
  · omega
  · have hl := ((hH.2 p _ _ e3).1 _ r2).1
    have hl1 : (10 : Int) ≤ ws.length := hl.1
    have hl2 : (ws.length : Int) ≤ 24 := hl.2
    exact ⟨mc, p, ws, rfl, e3, by omega, by omega, e4, e5⟩
theorem li_exp_con {G : am_G} {F : li_F} (hF : F ∈ li_Fs) : ck_Con (ck_lem G) G li_X gT (li_expK F) := by
  intro K r s a h hH hV hC hFc hn hS mc ms hmc hms
  match s, hn with
  | [q], _ =>
    match r, hV.1 with
    | [n0], _ =>
      obtain ⟨q3, vs, v, e1, e2, e3, n, e4, e5⟩ := hFc (3, 0, 2, F.1, (1, 0, (0, [(1, 0)]))) (by unfold li_expK; simp)
      cases e1; subst e4
      have e5 := ck_lv1 e5
      cases e5
      obtain ⟨i1, i2⟩ := li_in' hV
      obtain ⟨mc9, p, ws, rfl, f1, f2, f3, f4, f5⟩ := li_expc hF hH e2 e3 i1
      refine ⟨h, ck_rh.rf _, hH, ck_Kp.rf, Nat.le_refl _, [mc9.toInt, (ws.length : Int)], [p], li_in (li_i32 mc9).1 (li_i32 mc9).2 (li_in (by omega) (by omega) li_in0), List.forall_mem_cons.mpr ⟨?_, List.forall_mem_nil _⟩, List.forall_mem_cons.mpr ⟨?_, List.forall_mem_cons.mpr ⟨?_, List.forall_mem_cons.mpr ⟨?_, List.forall_mem_cons.mpr ⟨?_, List.forall_mem_nil _⟩⟩⟩⟩, rfl, trivial⟩
      · exact ⟨ws.length - n.toInt, li_lv rfl (by show _ = (0 : Int) + (-1 * n.toInt + (1 * (ws.length : Int) + 0)); omega), by omega⟩
      · exact ⟨q, _, _, rfl, e2, rfl, mc9, rfl, ck_Lv.x rfl⟩
      · exact ⟨q, _, _, rfl, e2, rfl, p, rfl, rfl⟩
      · exact ⟨p, ws, rfl, f1, ck_Lv.x rfl⟩
      · exact ⟨p, ws, _, rfl, f1, ck_Lv.x rfl, f5⟩
