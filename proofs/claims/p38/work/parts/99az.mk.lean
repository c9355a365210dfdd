/-! BUILDERS ARE PUBLISHED -/
def mkA_K : ck_KK := (([], [], [(2, 0, 0, 1, (0, 0, (4, []))), (3, 0, 0, 1, (3, 1, (0, []))), (2, 1, 0, 1051, (0, 0, (16, []))), (3, 0, 1, 1, (1, 0, (0, []))), (3, 0, 2, 1, (1, 0, (0, []))), (3, 0, 3, 1, (1, 0, (0, [])))], 2, [(3, 0, (0, []))]), ((0, []), (0, [])), [], [1], ([], [], [(2, 0, 0, 1001, (0, 0, (4, []))), (3, 0, 0, 1001, (3, 1, (0, []))), (3, 0, 3, 1001, (1, 0, (0, [])))], 0, []), [])
theorem mkA_con {G : am_G} : ck_Con (ck_lem G) G li_X gT mkA_K := by
  intro K r s a h hH hV hC hF hn hS mc ms hmc hms
  match s, hn with
  | [q, p], _ =>
    match r, hV.1 with
    | [], _ =>
      obtain ⟨q1, v1, a1, a2, a3⟩ := hF (2, 0, 0, 1, (0, 0, (4, []))) (by unfold mkA_K; simp)
      obtain ⟨q3, v3, w3, c1, c2, c3, p3, c4, c5⟩ := hF (3, 0, 0, 1, (3, 1, (0, []))) (by unfold mkA_K; simp)
      obtain ⟨p1, ws, d1, d2, d3⟩ := hF (2, 1, 0, 1051, (0, 0, (16, []))) (by unfold mkA_K; simp)
      obtain ⟨q4, v4, w4, e1, e2, e3, u4, e4, e5⟩ := hF (3, 0, 1, 1, (1, 0, (0, []))) (by unfold mkA_K; simp)
      obtain ⟨q5, v5, w5, f1, f2, f3, u5, f4, f5⟩ := hF (3, 0, 2, 1, (1, 0, (0, []))) (by unfold mkA_K; simp)
      obtain ⟨q6, v6, w6, g1, g2, g3, u6, g4, g5⟩ := hF (3, 0, 3, 1, (1, 0, (0, []))) (by unfold mkA_K; simp)
      obtain rfl : q = q1 := Option.some.inj (show some q = some q1 from a1)
      obtain rfl : q = q3 := Option.some.inj (show some q = some q3 from c1)
      obtain rfl : q = q4 := Option.some.inj (show some q = some q4 from e1)
      obtain rfl : q = q5 := Option.some.inj (show some q = some q5 from f1)
      obtain rfl : q = q6 := Option.some.inj (show some q = some q6 from g1)
      obtain rfl : p = p1 := Option.some.inj (show some p = some p1 from d1)
      obtain rfl : p = p3 := Option.some.inj (show some p = some p3 from c4)
      have a2 : am_g G h q = some (1, v1) := a2
      have c2 : am_g G h q = some (1, v3) := c2
      have e2 : am_g G h q = some (1, v4) := e2
      have f2 : am_g G h q = some (1, v5) := f2
      have g2 : am_g G h q = some (1, v6) := g2
      have d2 : am_g G h p = some (1051, ws) := d2
      obtain rfl : v1 = v3 := (Prod.mk.inj (Option.some.inj (a2.symm.trans c2))).2
      obtain rfl : v1 = v4 := (Prod.mk.inj (Option.some.inj (a2.symm.trans e2))).2
      obtain rfl : v1 = v5 := (Prod.mk.inj (Option.some.inj (a2.symm.trans f2))).2
      obtain rfl : v1 = v6 := (Prod.mk.inj (Option.some.inj (a2.symm.trans g2))).2
      have hl := li_k a3
      have e5 := li_k e5
      have f5 := li_k f5
      have g5 := li_k g5
      have hv : v1 = [.ref p, .int u4, .int u5, .int u6] := by
        match v1, hl, c3, e3, f3, g3 with
        | [y0, y1, y2, y3], _, c3, e3, f3, g3 =>
          have k0 : some y0 = some w3 := c3
          have k1 : some y1 = some w4 := e3
          have k2 : some y2 = some w5 := f3
          have k3 : some y3 = some w6 := g3
          rw [Option.some.inj k0, Option.some.inj k1, Option.some.inj k2, Option.some.inj k3, c5, e4, f4, g4]
      subst hv
      have k10 : (0 : Int) ≤ u4.toInt := by omega
      have k11 : u4.toInt ≤ (0 : Int) := by omega
      have k20 : (0 : Int) ≤ u5.toInt := by omega
      have k21 : u5.toInt ≤ (1 : Int) := by omega
      have k30 : (0 : Int) ≤ u6.toInt := by omega
      have k31 : u6.toInt ≤ (3400 : Int) := by omega
      have hk2 : ck_lk gT 1 = none := rfl
      have hq1 : 1000 ≤ q := (hH.2 _ _ _ a2).2.2 (by unfold ck_wr; rw [hk2])
      have hp0 : ck_Hp (G, li_X, gT, K, h, [], [q, p], [], [(q, 1)]) [] [q, p] h := ⟨hH, ck_Kp.rf, Nat.le_refl _, ⟨[], rfl⟩, [], rfl⟩
      have hp1 := ck_Hp.put hp0 li_XO li_X0 (q := q) (t := 1) (t' := 1001) (vs := [.ref p, .int u4, .int u5, .int u6]) (vs' := [.ref p, .int u4, .int u5, .int u6]) a2 hq1 (by decide) (by decide) rfl (Or.inr (by decide)) (fun g' hx d hd9 => by
        have hlk : ck_lk gT 1001 = some (0, 4, 4, [(3, 1051, 0, 0), (1, 0, 0, 0), (1, 0, 0, 1), (1, 0, 0, 3400)]) := rfl
        have hd9 : ck_lk gT 1001 = some d := hd9
        rw [hlk] at hd9
        cases hd9
        refine ⟨⟨(by decide : (4 : Int) ≤ ((4 : Nat) : Int)), (by decide : ((4 : Nat) : Int) ≤ 4)⟩, fun j v hu => ?_⟩
        match j, hu with
        | 0, hu =>
          cases hu
          obtain ⟨w9, x1, -⟩ := hx p 1051 ws (by show am_g G h p = _; exact d2) (by decide)
          exact ⟨_, rfl, by decide, _, _, rfl, x1⟩
        | 1, hu => cases hu; exact ⟨_, rfl, _, rfl, k10, k11⟩
        | 2, hu => cases hu; exact ⟨_, rfl, _, rfl, k20, k21⟩
        | 3, hu => cases hu; exact ⟨_, rfl, _, rfl, k30, k31⟩
        | j + 4, hu => cases hu) (Or.inr (Or.inr List.mem_cons_self))
      have hs1 : am_g G (am_s h q (1001, [.ref p, .int u4, .int u5, .int u6])) q = some (1001, [.ref p, .int u4, .int u5, .int u6]) := (am_g_s hq1 (am_g_lt hq1 a2)).trans (if_pos rfl)
      refine ⟨_, ⟨[(q, 1001)], 1, _, a2, hq1, (by show 1001 % 100 = 1 % 100; rfl), rfl⟩, hp1.1, hp1.2.1, hp1.2.2.1, [], [], li_in0, (fun c hc => nomatch hc), List.forall_mem_cons.mpr ⟨?_, List.forall_mem_cons.mpr ⟨?_, List.forall_mem_cons.mpr ⟨?_, List.forall_mem_nil _⟩⟩⟩, rfl, trivial⟩
      · exact ⟨q, _, rfl, hs1, ck_Lv.k _ 4⟩
      · exact ⟨q, _, _, rfl, hs1, rfl, p, rfl, rfl⟩
      · exact ⟨q, _, _, rfl, hs1, rfl, u6, rfl, by rw [g5]; exact ck_Lv.k _ 0⟩
def mkB_K : ck_KK := (([], [], [(2, 0, 0, 1, (0, 0, (4, []))), (3, 0, 0, 1, (3, 1, (0, []))), (2, 1, 0, 1051, (0, 0, (16, []))), (3, 0, 1, 1, (1, 0, (0, []))), (3, 0, 2, 1, (1, 0, (0, []))), (3, 0, 3, 1, (1, 0, (0, [])))], 2, [(3, 0, (0, []))]), ((0, []), (0, [])), [], [1], ([], [], [(2, 0, 0, 1201, (0, 0, (4, []))), (3, 0, 0, 1201, (3, 1, (0, []))), (3, 0, 3, 1201, (1, 0, (0, [])))], 0, []), [])
theorem mkB_con {G : am_G} : ck_Con (ck_lem G) G li_X gT mkB_K := by
  intro K r s a h hH hV hC hF hn hS mc ms hmc hms
  match s, hn with
  | [q, p], _ =>
    match r, hV.1 with
    | [], _ =>
      obtain ⟨q1, v1, a1, a2, a3⟩ := hF (2, 0, 0, 1, (0, 0, (4, []))) (by unfold mkB_K; simp)
      obtain ⟨q3, v3, w3, c1, c2, c3, p3, c4, c5⟩ := hF (3, 0, 0, 1, (3, 1, (0, []))) (by unfold mkB_K; simp)
      obtain ⟨p1, ws, d1, d2, d3⟩ := hF (2, 1, 0, 1051, (0, 0, (16, []))) (by unfold mkB_K; simp)
      obtain ⟨q4, v4, w4, e1, e2, e3, u4, e4, e5⟩ := hF (3, 0, 1, 1, (1, 0, (0, []))) (by unfold mkB_K; simp)
      obtain ⟨q5, v5, w5, f1, f2, f3, u5, f4, f5⟩ := hF (3, 0, 2, 1, (1, 0, (0, []))) (by unfold mkB_K; simp)
      obtain ⟨q6, v6, w6, g1, g2, g3, u6, g4, g5⟩ := hF (3, 0, 3, 1, (1, 0, (0, []))) (by unfold mkB_K; simp)
      obtain rfl : q = q1 := Option.some.inj (show some q = some q1 from a1)
      obtain rfl : q = q3 := Option.some.inj (show some q = some q3 from c1)
      obtain rfl : q = q4 := Option.some.inj (show some q = some q4 from e1)
      obtain rfl : q = q5 := Option.some.inj (show some q = some q5 from f1)
      obtain rfl : q = q6 := Option.some.inj (show some q = some q6 from g1)
      obtain rfl : p = p1 := Option.some.inj (show some p = some p1 from d1)
      obtain rfl : p = p3 := Option.some.inj (show some p = some p3 from c4)
      have a2 : am_g G h q = some (1, v1) := a2
      have c2 : am_g G h q = some (1, v3) := c2
      have e2 : am_g G h q = some (1, v4) := e2
      have f2 : am_g G h q = some (1, v5) := f2
      have g2 : am_g G h q = some (1, v6) := g2
      have d2 : am_g G h p = some (1051, ws) := d2
      obtain rfl : v1 = v3 := (Prod.mk.inj (Option.some.inj (a2.symm.trans c2))).2
      obtain rfl : v1 = v4 := (Prod.mk.inj (Option.some.inj (a2.symm.trans e2))).2
      obtain rfl : v1 = v5 := (Prod.mk.inj (Option.some.inj (a2.symm.trans f2))).2
      obtain rfl : v1 = v6 := (Prod.mk.inj (Option.some.inj (a2.symm.trans g2))).2
      have hl := li_k a3
      have e5 := li_k e5
      have f5 := li_k f5
      have g5 := li_k g5
      have hv : v1 = [.ref p, .int u4, .int u5, .int u6] := by
        match v1, hl, c3, e3, f3, g3 with
        | [y0, y1, y2, y3], _, c3, e3, f3, g3 =>
          have k0 : some y0 = some w3 := c3
          have k1 : some y1 = some w4 := e3
          have k2 : some y2 = some w5 := f3
          have k3 : some y3 = some w6 := g3
          rw [Option.some.inj k0, Option.some.inj k1, Option.some.inj k2, Option.some.inj k3, c5, e4, f4, g4]
      subst hv
      have k10 : (0 : Int) ≤ u4.toInt := by omega
      have k11 : u4.toInt ≤ (0 : Int) := by omega
      have k20 : (0 : Int) ≤ u5.toInt := by omega
      have k21 : u5.toInt ≤ (1 : Int) := by omega
      have k30 : (0 : Int) ≤ u6.toInt := by omega
      have k31 : u6.toInt ≤ (3400 : Int) := by omega
      have hk2 : ck_lk gT 1 = none := rfl
      have hq1 : 1000 ≤ q := (hH.2 _ _ _ a2).2.2 (by unfold ck_wr; rw [hk2])
      have hp0 : ck_Hp (G, li_X, gT, K, h, [], [q, p], [], [(q, 1)]) [] [q, p] h := ⟨hH, ck_Kp.rf, Nat.le_refl _, ⟨[], rfl⟩, [], rfl⟩
      have hp1 := ck_Hp.put hp0 li_XO li_X0 (q := q) (t := 1) (t' := 1201) (vs := [.ref p, .int u4, .int u5, .int u6]) (vs' := [.ref p, .int u4, .int u5, .int u6]) a2 hq1 (by decide) (by decide) rfl (Or.inr (by decide)) (fun g' hx d hd9 => by
        have hlk : ck_lk gT 1201 = some (0, 4, 4, [(3, 1051, 0, 0), (1, 0, 0, 0), (1, 0, 0, 1), (1, 0, 0, 3400)]) := rfl
        have hd9 : ck_lk gT 1201 = some d := hd9
        rw [hlk] at hd9
        cases hd9
        refine ⟨⟨(by decide : (4 : Int) ≤ ((4 : Nat) : Int)), (by decide : ((4 : Nat) : Int) ≤ 4)⟩, fun j v hu => ?_⟩
        match j, hu with
        | 0, hu =>
          cases hu
          obtain ⟨w9, x1, -⟩ := hx p 1051 ws (by show am_g G h p = _; exact d2) (by decide)
          exact ⟨_, rfl, by decide, _, _, rfl, x1⟩
        | 1, hu => cases hu; exact ⟨_, rfl, _, rfl, k10, k11⟩
        | 2, hu => cases hu; exact ⟨_, rfl, _, rfl, k20, k21⟩
        | 3, hu => cases hu; exact ⟨_, rfl, _, rfl, k30, k31⟩
        | j + 4, hu => cases hu) (Or.inr (Or.inr List.mem_cons_self))
      have hs1 : am_g G (am_s h q (1201, [.ref p, .int u4, .int u5, .int u6])) q = some (1201, [.ref p, .int u4, .int u5, .int u6]) := (am_g_s hq1 (am_g_lt hq1 a2)).trans (if_pos rfl)
      refine ⟨_, ⟨[(q, 1201)], 1, _, a2, hq1, (by show 1201 % 100 = 1 % 100; rfl), rfl⟩, hp1.1, hp1.2.1, hp1.2.2.1, [], [], li_in0, (fun c hc => nomatch hc), List.forall_mem_cons.mpr ⟨?_, List.forall_mem_cons.mpr ⟨?_, List.forall_mem_cons.mpr ⟨?_, List.forall_mem_nil _⟩⟩⟩, rfl, trivial⟩
      · exact ⟨q, _, rfl, hs1, ck_Lv.k _ 4⟩
      · exact ⟨q, _, _, rfl, hs1, rfl, p, rfl, rfl⟩
      · exact ⟨q, _, _, rfl, hs1, rfl, u6, rfl, by rw [g5]; exact ck_Lv.k _ 0⟩
