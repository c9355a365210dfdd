/-! LEMMAS OF KINDS AND OF NUMBERS -/
def w8_K : ck_KK := (([], [], [(2, 0, 0, 450, (0, 0, (38, [])))], 1, [(3, 0, (0, []))]), ((0, []), (0, [])), [], [450], ([], [], [(2, 0, 0, 850, (0, 0, (38, [])))], 0, []), [])
theorem w8_con {G : am_G} : ck_Con (ck_lem G) G li_X gT w8_K := by
  intro K r s a h hH hV hC hF hn hS mc ms hmc hms
  match s, hn with
  | [q], _ =>
    match r, hV.1 with
    | [], _ =>
      obtain ⟨q1, v1, a1, a2, a3⟩ := hF (2, 0, 0, 450, (0, 0, (38, []))) (by unfold w8_K; simp)
      have a1 : some q = some q1 := a1
      obtain rfl : q = q1 := Option.some.inj a1
      have a2 : am_g G h q = some (450, v1) := a2
      have hk : ck_lk gT 450 = some (1, 0, 90, [(1, 0, 0, 9)]) := rfl
      obtain ⟨c1, -, -⟩ := hd_rdy hH a2 hk
      obtain ⟨A, rfl, e1, -⟩ := hd_of c1
      have a3 := li_k a3
      rw [hd_r_len] at a3
      have a4 : A.length = 38 := by omega
      have hq1 : 1000 ≤ q := (hH.2 _ _ _ a2).2.2 (by unfold ck_wr; rw [hk]; rfl)
      have hp0 : ck_Hp (G, li_X, gT, K, h, [], [q], [], [(q, 450)]) [] [q] h := ⟨hH, ck_Kp.rf, Nat.le_refl _, ⟨[], rfl⟩, [], rfl⟩
      have hp1 := ck_Hp.put hp0 li_XO li_X0 (q := q) (t := 450) (t' := 850) (vs := hd_r A) (vs' := hd_r A) a2 hq1 (by decide) (by decide) rfl (Or.inr (by decide)) (fun g' _ => hd_cey e1 (lo := 0) (hi := 90) (by omega) (by omega) rfl) (Or.inr (Or.inr List.mem_cons_self))
      refine ⟨_, ⟨[(q, 850)], 450, _, a2, hq1, (by show 850 % 100 = 450 % 100; rfl), rfl⟩, hp1.1, hp1.2.1, hp1.2.2.1, [], [], li_in0, (fun c hc => nomatch hc), List.forall_mem_cons.mpr ⟨?_, List.forall_mem_nil _⟩, rfl, trivial⟩
      exact ⟨q, _, rfl, (am_g_s hq1 (am_g_lt hq1 a2)).trans (if_pos rfl), by rw [hd_r_len, a4]; exact ck_Lv.k _ 38⟩
def w4_K : ck_KK := (([], [], [(2, 0, 0, 850, (0, 0, (38, [])))], 1, [(3, 0, (0, []))]), ((0, []), (0, [])), [], [850], ([], [], [(2, 0, 0, 450, (0, 0, (38, [])))], 0, []), [])
theorem w4_con {G : am_G} : ck_Con (ck_lem G) G li_X gT w4_K := by
  intro K r s a h hH hV hC hF hn hS mc ms hmc hms
  match s, hn with
  | [q], _ =>
    match r, hV.1 with
    | [], _ =>
      obtain ⟨q1, v1, a1, a2, a3⟩ := hF (2, 0, 0, 850, (0, 0, (38, []))) (by unfold w4_K; simp)
      have a1 : some q = some q1 := a1
      obtain rfl : q = q1 := Option.some.inj a1
      have a2 : am_g G h q = some (850, v1) := a2
      have hk : ck_lk gT 850 = some (1, 0, 90, [(1, 0, 0, 9)]) := rfl
      obtain ⟨c1, -, -⟩ := hd_rdy hH a2 hk
      obtain ⟨A, rfl, e1, -⟩ := hd_of c1
      have a3 := li_k a3
      rw [hd_r_len] at a3
      have a4 : A.length = 38 := by omega
      have hq1 : 1000 ≤ q := (hH.2 _ _ _ a2).2.2 (by unfold ck_wr; rw [hk]; rfl)
      have hp0 : ck_Hp (G, li_X, gT, K, h, [], [q], [], [(q, 850)]) [] [q] h := ⟨hH, ck_Kp.rf, Nat.le_refl _, ⟨[], rfl⟩, [], rfl⟩
      have hp1 := ck_Hp.put hp0 li_XO li_X0 (q := q) (t := 850) (t' := 450) (vs := hd_r A) (vs' := hd_r A) a2 hq1 (by decide) (by decide) rfl (Or.inr (by decide)) (fun g' _ => hd_cey e1 (lo := 0) (hi := 90) (by omega) (by omega) rfl) (Or.inr (Or.inr List.mem_cons_self))
      refine ⟨_, ⟨[(q, 450)], 850, _, a2, hq1, (by show 450 % 100 = 850 % 100; rfl), rfl⟩, hp1.1, hp1.2.1, hp1.2.2.1, [], [], li_in0, (fun c hc => nomatch hc), List.forall_mem_cons.mpr ⟨?_, List.forall_mem_nil _⟩, rfl, trivial⟩
      exact ⟨q, _, rfl, (am_g_s hq1 (am_g_lt hq1 a2)).trans (if_pos rfl), by rw [hd_r_len, a4]; exact ck_Lv.k _ 38⟩
theorem hd_pubs {w : ck_W} {r : List Int} {s : List Nat} {h : List am_C} (H : ck_Hp w r s h) (hX : w.2.1 = li_X) (hT : w.2.2.1 = gT) {p : Nat} {ds : List Int} (hg : am_g w.1 h p = some (450, hd_r ds)) (hq : 1000 ≤ p) (hd : hd_d ds) (hl : (ds.length : Int) ≤ 36) (hz : ∀ v : Value, (hd_r ds).getLast? = some v → v ≠ .int 0) (hM : (p, 450) ∈ w.2.2.2.2.2.2.2.2) : ck_Hp w r s (am_s h p (42150, hd_r ds)) := by
  obtain ⟨⟨⟨h0, hXg⟩, h1⟩, h2, h3, h4, h5⟩ := H
  rw [hX] at hXg
  have hlk : ck_lk gT 42150 = some (1, 0, 36, [(1, 0, 0, 9)]) := rfl
  have hlt := am_g_lt hq hg
  have hgs : ∀ m, am_g w.1 (am_s h p (42150, hd_r ds)) m = if m = p then some (42150, hd_r ds) else am_g w.1 h m := fun m => am_g_s hq hlt
  have htop : li_top (am_g w.1 (am_s h p (42150, hd_r ds))) := by
    intro q1 t1 vs1 ht1 e v hv
    rw [hgs] at e
    by_cases z : q1 = p
    · rw [if_pos z] at e
      cases e
      exact hz v hv
    · rw [if_neg z] at e
      exact hXg.2.2.2.2 q1 t1 vs1 ht1 e v hv
  have hnew : li_X (am_g w.1 (am_s h p (42150, hd_r ds))) := by
    refine li_X.tr2 (fun q1 t1 vs1 e1 e2 e3 => ?_) htop hXg
    rw [hgs]
    by_cases e : q1 = p
    · rw [if_pos e, e, hg]
      refine ⟨fun z => ?_, fun z => ?_⟩
      · exact absurd (Prod.mk.inj (Option.some.inj z)).1.symm e2
      · have : (450 : Nat) = t1 := (Prod.mk.inj (Option.some.inj z)).1
        omega
    · rw [if_neg e]
  refine ⟨⟨⟨by rw [hgs, if_neg (by omega)]; exact h0, by rw [hX]; exact hnew⟩, fun q1 t1 vs1 e1 => ?_⟩, fun q1 t1 vs1 e1 => ?_, by rw [am_s_len]; exact h3, h4, h5⟩
  · rw [hgs] at e1
    by_cases e : q1 = p
    · rw [if_pos e] at e1
      cases e1
      refine ⟨?_, trivial, fun _ => by omega⟩
      rw [hT]
      exact hd_cey hd (by omega) hl hlk
    · rw [if_neg e] at e1
      obtain ⟨f1, f2, f3⟩ := h1 q1 t1 vs1 e1
      refine ⟨fun d hd => ⟨(f1 d hd).1, fun j v hv => ?_⟩, trivial, f3⟩
      obtain ⟨y, y1, y2⟩ := (f1 d hd).2 j v hv
      refine ⟨y, y1, y2.ex fun a b c d1 d2 => ⟨c, ?_, rfl⟩⟩
      have hne : a ≠ p := fun z => by
        rw [z, hg] at d1
        have : (450 : Nat) = b := (Prod.mk.inj (Option.some.inj d1)).1
        omega
      rw [hgs, if_neg hne]
      exact d1
  · rw [hgs]
    by_cases e : q1 = p
    · rw [if_pos e]
      rw [e] at e1 ⊢
      rcases h2 p t1 vs1 e1 with ⟨f1, t2, vs2, f2, f3⟩ | ⟨vs2, f2, f3, f4⟩
      · rw [hg] at f2
        cases f2
        exact Or.inl ⟨f1, 42150, _, rfl, f3⟩
      · rw [hg] at f2
        cases f2
        exact Or.inl ⟨hM, 42150, _, rfl, f3⟩
    · rw [if_neg e]
      exact h2 q1 t1 vs1 e1
def pubn_K : ck_KK := (([(0, 1), (0, 36)], [], [(2, 0, 0, 217, (0, 0, (2, []))), (3, 0, 0, 217, (1, 0, (0, [(1, 0)]))), (3, 0, 1, 217, (3, 1, (0, []))), (2, 1, 0, 450, (0, 0, (0, [(1, 1)]))), (6, 1, 9, 450, (0, 0, (0, [])))], 2, [(3, 0, (0, [])), (3, 1, (0, []))]), ((0, []), (0, [])), [], [217, 450], ([], [], [(2, 0, 0, 1017, (0, 0, (2, [])))], 0, []), [])
theorem pubn_con {G : am_G} : ck_Con (ck_lem G) G li_X gT pubn_K := by
  intro K r s a h hH hV hC hF hn hS mc ms hmc hms
  match s, hn with
  | [q, p], _ =>
    match r, hV.1 with
    | [b, n], _ =>
      obtain ⟨q1, v1, a1, a2, a3⟩ := hF (2, 0, 0, 217, (0, 0, (2, []))) (by unfold pubn_K; simp)
      obtain ⟨q2, v2, w2, b1, b2, b3, u, b4, b5⟩ := hF (3, 0, 0, 217, (1, 0, (0, [(1, 0)]))) (by unfold pubn_K; simp)
      obtain ⟨q3, v3, w3, c1, c2, c3, p3, c4, c5⟩ := hF (3, 0, 1, 217, (3, 1, (0, []))) (by unfold pubn_K; simp)
      obtain ⟨p1, ws, d1, d2, d3⟩ := hF (2, 1, 0, 450, (0, 0, (0, [(1, 1)]))) (by unfold pubn_K; simp)
      obtain ⟨p2, ws2, x9, g1, g2, g3, g4⟩ := hF (6, 1, 9, 450, (0, 0, (0, []))) (by unfold pubn_K; simp)
      obtain rfl : q = q1 := Option.some.inj (show some q = some q1 from a1)
      obtain rfl : q = q2 := Option.some.inj (show some q = some q2 from b1)
      obtain rfl : q = q3 := Option.some.inj (show some q = some q3 from c1)
      obtain rfl : p = p1 := Option.some.inj (show some p = some p1 from d1)
      obtain rfl : p = p2 := Option.some.inj (show some p = some p2 from g1)
      obtain rfl : p = p3 := Option.some.inj (show some p = some p3 from c4)
      have a2 : am_g G h q = some (217, v1) := a2
      have b2 : am_g G h q = some (217, v2) := b2
      have c2 : am_g G h q = some (217, v3) := c2
      have d2 : am_g G h p = some (450, ws) := d2
      have g2 : am_g G h p = some (450, ws2) := g2
      obtain rfl : v1 = v2 := (Prod.mk.inj (Option.some.inj (a2.symm.trans b2))).2
      obtain rfl : v1 = v3 := (Prod.mk.inj (Option.some.inj (a2.symm.trans c2))).2
      obtain rfl : ws = ws2 := (Prod.mk.inj (Option.some.inj (d2.symm.trans g2))).2
      have hl := li_k a3
      have hv : v1 = [.int u, .ref p] := by
        match v1, hl, b3, c3 with
        | [y, y'], _, b3, c3 =>
          have e1 : some y = some w2 := b3
          have e2 : some y' = some w3 := c3
          rw [Option.some.inj e1, Option.some.inj e2, b4, c5]
      subst hv
      have b5 := ck_lv1 b5
      have b6 : b = u.toInt := Option.some.inj (show some b = some u.toInt from b5)
      have d3 := ck_lv1 d3
      have d4 : n = (ws.length : Int) := Option.some.inj (show some n = some (ws.length : Int) from d3)
      obtain ⟨i1, i2⟩ := li_in' hV
      obtain ⟨i3, i4⟩ := hV.2 1 0 36 n rfl rfl
      have hk : ck_lk gT 450 = some (1, 0, 90, [(1, 0, 0, 9)]) := rfl
      obtain ⟨k1, -, -⟩ := hd_rdy hH d2 hk
      obtain ⟨A, rfl, e1, -⟩ := hd_of k1
      rw [hd_r_len] at d4
      have hk2 : ck_lk gT 217 = none := rfl
      have hq2 : 1000 ≤ p := (hH.2 _ _ _ d2).2.2 (by unfold ck_wr; rw [hk]; rfl)
      have hq1 : 1000 ≤ q := (hH.2 _ _ _ a2).2.2 (by unfold ck_wr; rw [hk2])
      have hne : q ≠ p := by
        intro z
        rw [z, d2] at a2
        exact absurd (Prod.mk.inj (Option.some.inj a2)).1 (by decide)
      have hp0 : ck_Hp (G, li_X, gT, K, h, [b, n], [q, p], [], [(q, 217), (p, 450)]) [b, n] [q, p] h := ⟨hH, ck_Kp.rf, Nat.le_refl _, ⟨[], rfl⟩, [], rfl⟩
      have hp1 := hd_pubs hp0 rfl rfl d2 hq2 e1 (by omega) g4 (List.mem_cons_of_mem _ List.mem_cons_self)
      have hs1 : ∀ m, am_g G (am_s h p (42150, hd_r A)) m = if m = p then some (42150, hd_r A) else am_g G h m := fun m => am_g_s hq2 (am_g_lt hq2 d2)
      have a4 : am_g G (am_s h p (42150, hd_r A)) q = some (217, [.int u, .ref p]) := by rw [hs1, if_neg hne]; exact a2
      have j1 : (0 : Int) ≤ u.toInt := by omega
      have j2 : u.toInt ≤ 1 := by omega
      have hp2 := ck_Hp.put hp1 li_XO li_X0 (q := q) (t := 217) (t' := 1017) (vs := [.int u, .ref p]) (vs' := [.int u, .ref p]) a4 hq1 (by decide) (by decide) rfl (Or.inr (by decide)) (fun g' hx d hd9 => by
        have hlk : ck_lk gT 1017 = some (0, 2, 2, [(1, 0, 0, 1), (3, 42150, 0, 0)]) := rfl
        have hd9 : ck_lk gT 1017 = some d := hd9
        rw [hlk] at hd9
        cases hd9
        refine ⟨⟨(by decide : (2 : Int) ≤ ((2 : Nat) : Int)), (by decide : ((2 : Nat) : Int) ≤ 2)⟩, fun j v hu => ?_⟩
        match j, hu with
        | 0, hu => cases hu; exact ⟨_, rfl, _, rfl, j1, j2⟩
        | 1, hu =>
          cases hu
          obtain ⟨w9, x1, -⟩ := hx p 42150 (hd_r A) (by show am_g G (am_s h p (42150, hd_r A)) p = _; rw [hs1, if_pos rfl]) (by decide)
          exact ⟨_, rfl, by decide, _, _, rfl, x1⟩
        | j + 2, hu => cases hu) (Or.inr (Or.inr List.mem_cons_self))
      refine ⟨_, ⟨[(p, 42150), (q, 1017)], 450, _, d2, hq2, (by show 42150 % 100 = 450 % 100; rfl), 217, _, a4, hq1, (by show 1017 % 100 = 217 % 100; rfl), rfl⟩, hp2.1, hp2.2.1, hp2.2.2.1, [], [], li_in0, (fun c hc => nomatch hc), List.forall_mem_cons.mpr ⟨?_, List.forall_mem_nil _⟩, rfl, trivial⟩
      exact ⟨q, _, rfl, (am_g_s hq1 (am_g_lt hq1 a4)).trans (if_pos rfl), ck_Lv.k _ 2⟩
def li_copK : ck_KK := (([(0, 999), (0, 999), (1, 999)], [(1, [((-1), 2)])], [(4, 0, 2, 0, (0, 0, (0, [(1000000, 0), (1, 1), (1000000000000, 2)])))], 0, [(1, 0, (0, [(1, 0)])), (1, 0, (0, [(1, 1)])), (1, 0, (0, [(1, 2)]))]), ((0, []), (0, [])), [], [], ([], [], [(4, 0, 1, 0, (0, 0, (0, [(1, 0), (1000, 1)])))], 0, []), [])
theorem li_cop_con {G : am_G} {X : ck_XT} : ck_Con (ck_lem G) G X gT li_copK := by
  intro K r s a h hH hV hC hF hn hS mc ms hmc hms
  match r, hV.1 with
  | [x0, x1, x2], _ =>
    obtain ⟨i1, i2⟩ := li_in' hV
    obtain ⟨i3, i4⟩ := hV.2 1 0 999 x1 rfl rfl
    obtain ⟨i5, i6⟩ := hV.2 2 1 999 x2 rfl rfl
    obtain ⟨y, c1, c2⟩ := hC (1, [(-1, 2)]) (by unfold li_copK; simp)
    have c3 : y = (1 : Int) + (-1 * x2 + 0) := c1.2
    obtain ⟨xx, f1, z, a', b', f2, f3, f4, f5⟩ := hF (4, 0, 2, 0, (0, 0, (0, [(1000000, 0), (1, 1), (1000000000000, 2)]))) (by unfold li_copK; simp)
    have f6 : xx = (0 : Int) + (1000000 * x0 + (1 * x1 + (1000000000000 * x2 + 0))) := f1.2
    have hz : z = 1 := by omega
    have ha : (a' : Int) = x0 := by omega
    have hb : (b' : Int) = x1 := by omega
    refine ⟨h, ck_rh.rf _, hH, ck_Kp.rf, Nat.le_refl _, [], [], li_in0, (fun c hc => nomatch hc), List.forall_mem_cons.mpr ⟨?_, List.forall_mem_nil _⟩, rfl, trivial⟩
    refine ⟨1000 * x1 + x0, ⟨fun t ht => ?_, ?_⟩, b', a', by omega, by omega, ?_⟩
    · simp at ht
      rcases ht with rfl | rfl <;> exact Nat.le_of_ble_eq_true rfl
    · show _ = (0 : Int) + (1 * x0 + (1000 * x1 + 0))
      omega
    · rw [Nat.gcd_comm, ← f5]
      exact hz
def li_nopK : ck_KK := (([((-2147483648), 2147483647), ((-2147483648), 2147483647), (1, 999)], [], [], 0, [(1, 0, (0, [(1, 0)])), (1, 0, (0, [(1, 1)])), (1, 0, (0, [(1, 2)]))]), ((0, []), (0, [])), [], [], ([], [], [], 0, []), [])
theorem li_nop_con {G : am_G} {X : ck_XT} : ck_Con (ck_lem G) G X gT li_nopK := by
  intro K r s a h hH hV hC hF hn hS mc ms hmc hms
  exact ⟨h, ck_rh.rf _, hH, ck_Kp.rf, Nat.le_refl _, [], [], li_in0, (fun c hc => nomatch hc), List.forall_mem_nil _, rfl, trivial⟩
def li_oneK : ck_KK := (([(0, 1)], [((-1), [(1, 0)])], [], 0, [(1, 0, (0, [(1, 0)]))]), ((0, []), (0, [])), [], [], ([], [((-1), [(1, 0)])], [], 0, []), [])
theorem li_one_con {G : am_G} {X : ck_XT} : ck_Con (ck_lem G) G X gT li_oneK := by
  intro K r s a h hH hV hC hF hn hS mc ms hmc hms
  obtain ⟨y, c1, c2⟩ := hC (-1, [(1, 0)]) (by unfold li_oneK; simp)
  refine ⟨h, ck_rh.rf _, hH, ck_Kp.rf, Nat.le_refl _, [], [], li_in0, List.forall_mem_cons.mpr ⟨⟨y, ?_, c2⟩, List.forall_mem_nil _⟩, List.forall_mem_nil _, rfl, trivial⟩
  rw [List.append_nil]
  exact c1
def li_nop1K : ck_KK := (([(0, 1)], [], [], 0, [(1, 0, (0, [(1, 0)]))]), ((0, []), (0, [])), [], [], ([], [], [], 0, []), [])
theorem li_nop1_con {G : am_G} {X : ck_XT} : ck_Con (ck_lem G) G X gT li_nop1K := by
  intro K r s a h hH hV hC hF hn hS mc ms hmc hms
  exact ⟨h, ck_rh.rf _, hH, ck_Kp.rf, Nat.le_refl _, [], [], li_in0, (fun c hc => nomatch hc), List.forall_mem_nil _, rfl, trivial⟩
def li_fourK : ck_KK := (([(0, 400), (0, 400)], [((-1), [(1, 0), ((-1), 1)])], [], 0, [(1, 0, (0, [(1, 0)])), (1, 0, (0, [(1, 1)]))]), ((0, []), (0, [])), [], [], ([], [((-4), [(4, 0), ((-4), 1)])], [], 0, []), [])
theorem li_four_con {G : am_G} {X : ck_XT} : ck_Con (ck_lem G) G X gT li_fourK := by
  intro K r s a h hH hV hC hF hn hS mc ms hmc hms
  match r, hV.1 with
  | [x0, x1], _ =>
    obtain ⟨y, c1, c2⟩ := hC (-1, [(1, 0), (-1, 1)]) (by unfold li_fourK; simp)
    have c3 : y = (-1 : Int) + (1 * x0 + (-1 * x1 + 0)) := c1.2
    refine ⟨h, ck_rh.rf _, hH, ck_Kp.rf, Nat.le_refl _, [], [], li_in0, List.forall_mem_cons.mpr ⟨⟨4 * x0 - 4 * x1 - 4, ⟨fun t ht => ?_, ?_⟩, by omega⟩, List.forall_mem_nil _⟩, List.forall_mem_nil _, rfl, trivial⟩
    · simp at ht
      rcases ht with rfl | rfl <;> exact Nat.le_of_ble_eq_true rfl
    · show _ = (-4 : Int) + (4 * x0 + (-4 * x1 + 0))
      omega
