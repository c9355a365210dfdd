/-! EUCLID'S CONTRACT -/
def eu_K : ck_KK := (([], [], [(2, 0, 0, 450, (0, 0, (38, []))), (2, 1, 0, 850, (0, 0, (38, [])))], 2, [(3, 0, (0, [])), (3, 1, (0, []))]), ((4, []), (80, [])), [], [450, 850], ([((-2147483648), 2147483647)], [], [(2, 2, 0, 57, (0, 0, (3, []))), (5, 2, 0, 0, (0, 0, (0, []))), (3, 2, 0, 57, (3, 3, (0, []))), (3, 2, 1, 57, (3, 4, (0, []))), (3, 2, 2, 57, (3, 5, (0, []))), (2, 3, 0, 850, (0, 0, (38, []))), (2, 4, 0, 850, (0, 0, (38, []))), (2, 5, 0, 350, (0, 0, (1, []))), (3, 5, 0, 350, (1, 0, (0, [(1, 0)])))], 4, [(3, 2, (0, []))]), [])
theorem hd_noce {K : Int32} {g : ck_g} {t : Nat} {vs : List Value} (hk : ck_lk gT t = none) : ck_ce gT K g t vs := fun d hd => by rw [hk] at hd; cases hd
theorem eu_con {l : Launch} {G : am_G} {X : ck_XT} (g : gE l G X) : ck_Con (am_cm l G yX12_euclid (.code yX12_euclid prog_15_method_20_code 8 (some (.array (.array .int)))) 2 46) G X gT eu_K := by
  intro K r s a h hH hV hC hF hn hS mc ms hmc hms
  have hmc' : (mc : Int) = 4 := li_k hmc
  have hms' : (ms : Int) = 80 := li_k hms
  obtain ⟨q1, v1, a1, a2, a3⟩ := hF (2, 0, 0, 450, (0, 0, (38, []))) (by unfold eu_K; simp)
  obtain ⟨q2, v2, b1, b2, b3⟩ := hF (2, 1, 0, 850, (0, 0, (38, []))) (by unfold eu_K; simp)
  have a1 : s[0]? = some q1 := a1
  have b1 : s[1]? = some q2 := b1
  have a2 : am_g G h q1 = some (450, v1) := a2
  have b2 : am_g G h q2 = some (850, v2) := b2
  have hk450 : ck_lk gT 450 = some (1, 0, 90, [(1, 0, 0, 9)]) := rfl
  have hk850 : ck_lk gT 850 = some (1, 0, 90, [(1, 0, 0, 9)]) := rfl
  have hk850 : ck_lk gT 850 = some (1, 0, 90, [(1, 0, 0, 9)]) := rfl
  obtain ⟨c1, -, -⟩ := hd_rdy hH a2 hk450
  obtain ⟨d1, -, -⟩ := hd_rdy hH b2 hk850
  obtain ⟨A, rfl, e1, -⟩ := hd_of c1
  obtain ⟨B, rfl, f1, -⟩ := hd_of d1
  have a3 := li_k a3
  have b3 := li_k b3
  rw [hd_r_len] at a3 b3
  have hq1 : 1000 ≤ q1 := (hH.2 _ _ _ a2).2.2 (by unfold ck_wr; rw [hk450]; rfl)
  have hq2 : 1000 ≤ q2 := (hH.2 _ _ _ b2).2.2 (by unfold ck_wr; rw [hk850]; rfl)
  have hne : q1 ≠ q2 := by rintro rfl; rw [a2] at b2; exact absurd (Prod.mk.inj (Option.some.inj b2)).1 (by decide)
  match s, hn with
  | [p1, p2], _ =>
    cases a1; cases b1
    match a, hS with
    | [w1, w2], ⟨⟨p3, g1, g2⟩, ⟨p4, g3, g4⟩, _⟩ =>
      subst g2 g4
      cases g1; cases g3
      have hr : r = [] := List.length_eq_zero_iff.mp hV.1.symm
      subst hr
      have hl1 := am_g_lt hq1 a2
      have hl2 := am_g_lt hq2 b2
      refine eu_M g hq1 hq2 hne (by decide) (by decide) (by omega) (by omega) e1 f1 a2 b2 (by omega) (by omega) fun R1 R2 R3 R4 qo qc x ⟨y1, z1⟩ ⟨y2, z2⟩ ⟨y3, z3⟩ ⟨y4, z4⟩ ho hc => ?_
      have hp0 : ck_Hp (G, X, gT, K, h, [], [q1, q2], [], [(q1, 450), (q2, 850)]) [] [q1, q2] h := ⟨hH, ck_Kp.rf, Nat.le_refl _, ⟨[], rfl⟩, [], rfl⟩
      have hp1 := ck_Hp.make hp0 g.2.1 g.2.2.1 (t := 850) (vs := hd_r R3) (by decide) (fun g' => hd_cey y3 (lo := 0) (hi := 90) (by omega) (by omega) rfl)
      have hp2 := ck_Hp.make hp1 g.2.1 g.2.2.1 (t := 850) (vs := hd_r R4) (by decide) (fun g' => hd_cey y4 (lo := 0) (hi := 90) (by omega) (by omega) rfl)
      have hp3 := ck_Hp.make hp2 g.2.1 g.2.2.1 (t := 57) (vs := [.ref qo, .ref qc, .ref (1000 + (h.length + 3))]) (by decide) (fun g' => hd_noce rfl)
      have hp4 := ck_Hp.make hp3 g.2.1 g.2.2.1 (t := 350) (vs := [.int x]) (by decide) (fun g' => hd_noce rfl)
      have eH : h ++ [((850 : Nat), hd_r R3)] ++ [(850, hd_r R4)] ++ [(57, [.ref qo, .ref qc, .ref (1000 + (h.length + 3))])] ++ [(350, [.int x])] = h ++ [(850, hd_r R3), (850, hd_r R4), (57, [.ref qo, .ref qc, .ref (1000 + (h.length + 3))]), (350, [.int x])] := by simp
      have hnew : ∀ j : Nat, am_g G (h ++ [((850 : Nat), hd_r R3), (850, hd_r R4), (57, [.ref qo, .ref qc, .ref (1000 + (h.length + 3))]), (350, [.int x])]) (1000 + (h.length + j)) = [((850 : Nat), hd_r R3), (850, hd_r R4), (57, [.ref qo, .ref qc, .ref (1000 + (h.length + 3))]), (350, [.int x])][j]? := by
        intro j
        unfold am_g
        rw [if_neg (by omega), List.getElem?_append_right (by omega)]
        congr 1
        omega
      have hold : ∀ (q : Nat) (c : am_C), am_g G h q = some c → am_g G (h ++ [((850 : Nat), hd_r R3), (850, hd_r R4), (57, [.ref qo, .ref qc, .ref (1000 + (h.length + 3))]), (350, [.int x])]) q = some c := by
        intro q c e
        rw [← eH]
        exact hd_old (hd_old (hd_old (hd_old e)))
      rw [eH] at hp4
      generalize hH9 : h ++ [((850 : Nat), hd_r R3), (850, hd_r R4), (57, [.ref qo, .ref qc, .ref (1000 + (h.length + 3))]), (350, [.int x])] = H9 at hp4 hnew hold ⊢
      have hp5 := ck_Hp.put hp4 g.2.1 g.2.2.1 (q := q1) (t := 450) (t' := 850) (vs := hd_r A) (vs' := hd_r R1) (hold _ _ a2) hq1 (by decide) (by decide) (by rw [hd_r_len, hd_r_len]; omega) (Or.inr (by decide)) (fun g' _ => hd_cey y1 (lo := 0) (hi := 90) (by omega) (by omega) rfl) (Or.inr (Or.inr List.mem_cons_self))
      have hw1 := hd_w.s (c := (850, hd_r R1)) hq1 (hold _ _ a2)
      have g52 : am_g G (am_s H9 q1 (850, hd_r R1)) q2 = some (850, hd_r B) := (hw1.ne hne.symm).trans (hold _ _ b2)
      have hp6 := ck_Hp.put hp5 g.2.1 g.2.2.1 (q := q2) (t := 850) (t' := 850) (vs := hd_r B) (vs' := hd_r R2) g52 hq2 (by decide) (by decide) (by rw [hd_r_len, hd_r_len]; omega) (Or.inr (by decide)) (fun g' _ => hd_cey y2 (lo := 0) (hi := 90) (by omega) (by omega) rfl) (Or.inr (Or.inr (List.mem_cons_of_mem _ List.mem_cons_self)))
      have hw2 := hd_w.s (c := (850, hd_r R2)) hq2 g52
      have n1 : ∀ j : Nat, 1000 + (h.length + j) ≠ q1 := fun j => by omega
      have n2 : ∀ j : Nat, 1000 + (h.length + j) ≠ q2 := fun j => by omega
      have hat : ∀ j : Nat, am_g G (am_s (am_s H9 q1 (850, hd_r R1)) q2 (850, hd_r R2)) (1000 + (h.length + j)) = [((850 : Nat), hd_r R3), (850, hd_r R4), (57, [.ref qo, .ref qc, .ref (1000 + (h.length + 3))]), (350, [.int x])][j]? := fun j => (hw2.ne (n2 j)).trans ((hw1.ne (n1 j)).trans (hnew j))
      have hro : ∃ R : List Int, am_g G (am_s (am_s H9 q1 (850, hd_r R1)) q2 (850, hd_r R2)) qo = some (850, hd_r R) ∧ R.length = 38 := by
        rcases ho with rfl | rfl
        · exact ⟨R1, (hw2.ne hne).trans hw1.at, z1⟩
        · exact ⟨R2, hw2.at, z2⟩
      have hrc : ∃ R : List Int, am_g G (am_s (am_s H9 q1 (850, hd_r R1)) q2 (850, hd_r R2)) qc = some (850, hd_r R) ∧ R.length = 38 := by
        rcases hc with rfl | rfl
        · exact ⟨R3, hat 0, z3⟩
        · exact ⟨R4, hat 1, z4⟩
      obtain ⟨Ro, ro1, ro2⟩ := hro
      obtain ⟨Rc, rc1, rc2⟩ := hrc
      refine ⟨hp6.1, hp6.2.1, hp6.2.2.1, [x.toInt], [1000 + (h.length + 2), qo, qc, 1000 + (h.length + 3)], li_in (Int32.le_toInt x) (Int32.toInt_le x) li_in0, (fun c hc => nomatch hc), List.forall_mem_cons.mpr ⟨?_, List.forall_mem_cons.mpr ⟨?_, List.forall_mem_cons.mpr ⟨?_, List.forall_mem_cons.mpr ⟨?_, List.forall_mem_cons.mpr ⟨?_, List.forall_mem_cons.mpr ⟨?_, List.forall_mem_cons.mpr ⟨?_, List.forall_mem_cons.mpr ⟨?_, List.forall_mem_cons.mpr ⟨?_, List.forall_mem_nil _⟩⟩⟩⟩⟩⟩⟩⟩⟩, rfl, ⟨⟨_, rfl, rfl⟩, trivial⟩⟩
      · exact ⟨_, _, rfl, hat 2, ck_Lv.k _ 3⟩
      · exact ⟨_, rfl, by show 1000 + h.length ≤ _; omega⟩
      · exact ⟨_, _, _, rfl, hat 2, rfl, _, rfl, rfl⟩
      · exact ⟨_, _, _, rfl, hat 2, rfl, _, rfl, rfl⟩
      · exact ⟨_, _, _, rfl, hat 2, rfl, _, rfl, rfl⟩
      · exact ⟨_, _, rfl, ro1, by rw [hd_r_len, ro2]; exact ck_Lv.k _ 38⟩
      · exact ⟨_, _, rfl, rc1, by rw [hd_r_len, rc2]; exact ck_Lv.k _ 38⟩
      · exact ⟨_, _, rfl, hat 3, ck_Lv.k _ 1⟩
      · exact ⟨_, _, _, rfl, hat 3, rfl, _, rfl, ck_Lv.x rfl⟩
