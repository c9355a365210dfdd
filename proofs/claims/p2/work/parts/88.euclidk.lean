section
/-! EUCLID'S CONTRACT -/
def eu_K : ck_KK := (([], [], [(2, 0, 0, 450, (0, 0, (38, []))), (2, 1, 0, 850, (0, 0, (38, [])))], 2, [(3, 0, (0, [])), (3, 1, (0, []))]), ((4, []), (80, [])), [], [450, 850], ([((-2147483648), 2147483647)], [], [(2, 2, 0, 57, (0, 0, (3, []))), (5, 2, 0, 0, (0, 0, (0, []))), (3, 2, 0, 57, (3, 3, (0, []))), (3, 2, 1, 57, (3, 4, (0, []))), (3, 2, 2, 57, (3, 5, (0, []))), (2, 3, 0, 850, (0, 0, (38, []))), (2, 4, 0, 850, (0, 0, (38, []))), (2, 5, 0, 350, (0, 0, (1, []))), (3, 5, 0, 350, (1, 0, (0, [(1, 0)])))], 4, [(3, 2, (0, []))]), [])
theorem hd_noce {K : Int32} {g : ck_g} {t : Nat} {vs : List Value} (hk : ck_lk gT t = none) : ck_ce gT K g t vs := fun d hd => by rw [hk] at hd; cases hd
theorem eu_con {l : Launch} {G : am_G} {X : ck_XT} (g : gE l G X) : ck_Con (am_cm l G yX12_euclid (.code yX12_euclid prog_15_method_20_code 8 (some (.array (.array .int)))) 2 46) G X gT eu_K := by
  intro K r s a h hH hV hC hF hn hS mc ms hmc hms
  have hmc' : (mc : Int) = 4 := li_k hmc
  have hms' : (ms : Int) = 80 := li_k hms
  obtain ⟨q1, v1, a1, a2, a3⟩ := hF (2, 0, 0, 450, (0, 0, (38, []))) (by unfold eu_K; simp)
  obtain ⟨q2, v2, b1, b2, b3⟩ := hF (2, 1, 0, 850, (0, 0, (38, []))) (by unfold eu_K; simp)
  have a1 : s[0]? = some q1 := a1
  have b1 : s[1]? = some q2 := b1
  have a2 : am_g G h q1 = some (450, v1) := a2
  have b2 : am_g G h q2 = some (850, v2) := b2
  have hk450 : ck_lk gT 450 = some (1, 0, 90, [(1, 0, 0, 9)]) := rfl
  have hk850 : ck_lk gT 850 = some (1, 0, 90, [(1, 0, 0, 9)]) := rfl
  have hk850 : ck_lk gT 850 = some (1, 0, 90, [(1, 0, 0, 9)]) := rfl
  obtain ⟨c1, -, -⟩ := hd_rdy hH a2 hk450
  obtain ⟨d1, -, -⟩ := hd_rdy hH b2 hk850
  obtain ⟨A, rfl, e1, -⟩ := hd_of c1
  obtain ⟨B, rfl, f1, -⟩ := hd_of d1
  have a3 := li_k a3
  have b3 := li_k b3
  rw [hd_r_len] at a3 b3
  have hq1 : 1000 ≤ q1 := (hH.2 _ _ _ a2).2.2 (by unfold ck_wr; rw [hk450]; rfl)
  have hq2 : 1000 ≤ q2 := (hH.2 _ _ _ b2).2.2 (by unfold ck_wr; rw [hk850]; rfl)
  have hne : q1 ≠ q2 := by rintro rfl; rw [a2] at b2; exact absurd (Prod.mk.inj (Option.some.inj b2)).1 (by decide)
  match s, hn with
  | [p1, p2], _ =>
    cases a1; cases b1
    match a, hS with
    | [w1, w2], ⟨⟨p3, g1, g2⟩, ⟨p4, g3, g4⟩, _⟩ =>
      subst g2 g4
      cases g1; cases g3
      have hr : r = [] := List.length_eq_zero_iff.mp hV.1.symm
      subst hr
      have hl1 := am_g_lt hq1 a2
      have hl2 := am_g_lt hq2 b2
      refine eu_M g hq1 hq2 hne (by decide) (by decide) (by omega) (by omega) e1 f1 a2 b2 (by omega) (by omega) fun R1 R2 R3 R4 qo qc x ⟨y1, z1⟩ ⟨y2, z2⟩ ⟨y3, z3⟩ ⟨y4, z4⟩ ho hc => ?_
      have hp0 : ck_Hp (G, X, gT, K, h, [], [q1, q2], [], [(q1, 450), (q2, 850)]) [] [q1, q2] h := ⟨hH, ck_Kp.rf, Nat.le_refl _, ⟨[], rfl⟩, [], rfl⟩
      have hp1 := ck_Hp.make hp0 g.2.1 g.2.2.1 (t := 850) (vs := hd_r R3) (by decide) (fun g' => hd_cey y3 (lo := 0) (hi := 90) (by omega) (by omega) rfl)
      have hp2 := ck_Hp.make hp1 g.2.1 g.2.2.1 (t := 850) (vs := hd_r R4) (by decide) (fun g' => hd_cey y4 (lo := 0) (hi := 90) (by omega) (by omega) rfl)
      have hp3 := ck_Hp.make hp2 g.2.1 g.2.2.1 (t := 57) (vs := [.ref qo, .ref qc, .ref (1000 + (h.length + 3))]) (by decide) (fun g' => hd_noce rfl)
      have hp4 := ck_Hp.make hp3 g.2.1 g.2.2.1 (t := 350) (vs := [.int x]) (by decide) (fun g' => hd_noce rfl)
      have eH : h ++ [((850 : Nat), hd_r R3)] ++ [(850, hd_r R4)] ++ [(57, [.ref qo, .ref qc, .ref (1000 + (h.length + 3))])] ++ [(350, [.int x])] = h ++ [(850, hd_r R3), (850, hd_r R4), (57, [.ref qo, .ref qc, .ref (1000 + (h.length + 3))]), (350, [.int x])] := by simp
      have hnew : ∀ j : Nat, am_g G (h ++ [((850 : Nat), hd_r R3), (850, hd_r R4), (57, [.ref qo, .ref qc, .ref (1000 + (h.length + 3))]), (350, [.int x])]) (1000 + (h.length + j)) = [((850 : Nat), hd_r R3), (850, hd_r R4), (57, [.ref qo, .ref qc, .ref (1000 + (h.length + 3))]), (350, [.int x])][j]? := by
        intro j
        unfold am_g
        rw [if_neg (by omega), List.getElem?_append_right (by omega)]
        congr 1
        omega
      have hold : ∀ (q : Nat) (c : am_C), am_g G h q = some c → am_g G (h ++ [((850 : Nat), hd_r R3), (850, hd_r R4), (57, [.ref qo, .ref qc, .ref (1000 + (h.length + 3))]), (350, [.int x])]) q = some c := by
        intro q c e
        rw [← eH]
        exact hd_old (hd_old (hd_old (hd_old e)))
      rw [eH] at hp4
      generalize hH9 : h ++ [((850 : Nat), hd_r R3), (850, hd_r R4), (57, [.ref qo, .ref qc, .ref (1000 + (h.length + 3))]), (350, [.int x])] = H9 at hp4 hnew hold ⊢
      have hp5 := ck_Hp.put hp4 g.2.1 g.2.2.1 (q := q1) (t := 450) (t' := 850) (vs := hd_r A) (vs' := hd_r R1) (hold _ _ a2) hq1 (by decide) (by decide) (by rw [hd_r_len, hd_r_len]; omega) (Or.inr (by decide)) (fun g' _ => hd_cey y1 (lo := 0) (hi := 90) (by omega) (by omega) rfl) (Or.inr (Or.inr List.mem_cons_self))
      have hw1 := hd_w.s (c := (850, hd_r R1)) hq1 (hold _ _ a2)
      have g52 : am_g G (am_s H9 q1 (850, hd_r R1)) q2 = some (850, hd_r B) := (hw1.ne hne.symm).trans (hold _ _ b2)
      have hp6 := ck_Hp.put hp5 g.2.1 g.2.2.1 (q := q2) (t := 850) (t' := 850) (vs := hd_r B) (vs' := hd_r R2) g52 hq2 (by decide) (by decide) (by rw [hd_r_len, hd_r_len]; omega) (Or.inr (by decide)) (fun g' _ => hd_cey y2 (lo := 0) (hi := 90) (by omega) (by omega) rfl) (Or.inr (Or.inr (List.mem_cons_of_mem _ List.mem_cons_self)))
      have hw2 := hd_w.s (c := (850, hd_r R2)) hq2 g52
      have n1 : ∀ j : Nat, 1000 + (h.length + j) ≠ q1 := fun j => by omega
      have n2 : ∀ j : Nat, 1000 + (h.length + j) ≠ q2 := fun j => by omega
      have hat : ∀ j : Nat, am_g G (am_s (am_s H9 q1 (850, hd_r R1)) q2 (850, hd_r R2)) (1000 + (h.length + j)) = [((850 : Nat), hd_r R3), (850, hd_r R4), (57, [.ref qo, .ref qc, .ref (1000 + (h.length + 3))]), (350, [.int x])][j]? := fun j => (hw2.ne (n2 j)).trans ((hw1.ne (n1 j)).trans (hnew j))
      have hro : ∃ R : List Int, am_g G (am_s (am_s H9 q1 (850, hd_r R1)) q2 (850, hd_r R2)) qo = some (850, hd_r R) ∧ R.length = 38 := by
        rcases ho with rfl | rfl
        · exact ⟨R1, (hw2.ne hne).trans hw1.at, z1⟩
        · exact ⟨R2, hw2.at, z2⟩
      have hrc : ∃ R : List Int, am_g G (am_s (am_s H9 q1 (850, hd_r R1)) q2 (850, hd_r R2)) qc = some (850, hd_r R) ∧ R.length = 38 := by
        rcases hc with rfl | rfl
        · exact ⟨R3, hat 0, z3⟩
        · exact ⟨R4, hat 1, z4⟩
      obtain ⟨Ro, ro1, ro2⟩ := hro
      obtain ⟨Rc, rc1, rc2⟩ := hrc
      refine ⟨hp6.1, hp6.2.1, hp6.2.2.1, [x.toInt], [1000 + (h.length + 2), qo, qc, 1000 + (h.length + 3)], li_in (Int32.le_toInt x) (Int32.toInt_le x) li_in0, (fun c hc => nomatch hc), List.forall_mem_cons.mpr ⟨?_, List.forall_mem_cons.mpr ⟨?_, List.forall_mem_cons.mpr ⟨?_, List.forall_mem_cons.mpr ⟨?_, List.forall_mem_cons.mpr ⟨?_, List.forall_mem_cons.mpr ⟨?_, List.forall_mem_cons.mpr ⟨?_, List.forall_mem_cons.mpr ⟨?_, List.forall_mem_cons.mpr ⟨?_, List.forall_mem_nil _⟩⟩⟩⟩⟩⟩⟩⟩⟩, rfl, ⟨⟨_, rfl, rfl⟩, trivial⟩⟩
      · exact ⟨_, _, rfl, hat 2, ck_Lv.k _ 3⟩
      · exact ⟨_, rfl, by show 1000 + h.length ≤ _; omega⟩
      · exact ⟨_, _, _, rfl, hat 2, rfl, _, rfl, rfl⟩
      · exact ⟨_, _, _, rfl, hat 2, rfl, _, rfl, rfl⟩
      · exact ⟨_, _, _, rfl, hat 2, rfl, _, rfl, rfl⟩
      · exact ⟨_, _, rfl, ro1, by rw [hd_r_len, ro2]; exact ck_Lv.k _ 38⟩
      · exact ⟨_, _, rfl, rc1, by rw [hd_r_len, rc2]; exact ck_Lv.k _ 38⟩
      · exact ⟨_, _, rfl, hat 3, ck_Lv.k _ 1⟩
      · exact ⟨_, _, _, rfl, hat 3, rfl, _, rfl, ck_Lv.x rfl⟩
end
section
/-! ANOTHER METHOD WALKED BY HAND -/
theorem g_y_yX12_of : ck_y yX12_of prog_15_method_2_code 6 1 (some (.object "ClockhouseModel$Num")) := ⟨w1648, w96, by decide +kernel, by decide +kernel, by decide +kernel⟩
theorem g_nw17 : am_nw 17 2 ([0, 2].map ck_d0) := ⟨RX12, TX12, tyX12, rfl, g_in17, tyX12_ok, w1651, w96, rfl, fun j hj => by
  match j, hj with
  | 0, _ => rfl
  | 1, _ => rfl
⟩
def gt_yX12_of_H : ck_TB := ([], [(19, 10)], [], [], [], [(10, 17, [0, 2])], [], [], ([], [(21, 0)], [], []), [], [], [], 4)
def ge_yX12_of_H : ck_E := (gT, [], (([], [], [], 0, []), ((0, []), (0, [])), [], [], ([], [], [], 0, []), []), 6, [(0, (0, 0, 0, 20, 2, 0, [])), (2, (10, 50, 50, 0, 4, 0, [])), (4, (0, 8, 2, 0, 5, 0, [])), (5, (0, 4, 0, 0, 6, 0, [])), (6, (0, 7, 3, 0, 7, 0, [])), (7, (0, 0, 0, 0, 8, 0, [])), (8, (0, 6, 5, 0, 10, 0, [])), (10, (0, 3, 5, 0, 12, 0, [])), (12, (0, 0, 0, 20, 14, 0, [])), (14, (2, 3, 0, 0, 17, 55, [])), (17, (0, 5, 2, 0, 18, 0, [])), (18, (0, 3, 5, 0, 20, 0, [])), (20, (0, 4, 3, 0, 21, 0, [])), (21, (0, 1, 0, 10, 24, 0, [])), (24, (0, 16, 4, 0, 25, 0, [])), (25, (0, 20, 0, 0, 26, 0, [])), (26, (13, 50, 50, 0, 27, 0, [])), (27, (0, 5, 2, 0, 28, 0, [])), (28, (0, 3, 5, 0, 30, 0, [])), (30, (12, 50, 50, 0, 31, 0, [])), (31, (1, 3, 0, 0, 34, 43, [])), (34, (0, 5, 2, 0, 35, 0, [])), (35, (0, 3, 5, 0, 37, 0, [])), (37, (0, 5, 2, 0, 38, 0, [])), (38, (0, 3, 5, 0, 40, 0, [])), (40, (12, 50, 50, 0, 41, 0, [])), (41, (0, 17, 0, 0, 42, 0, [])), (42, (13, 50, 50, 0, 43, 0, [])), (43, (0, 4, 3, 0, 44, 0, [])), (44, (0, 1, 0, 10, 47, 0, [])), (47, (0, 16, 3, 0, 48, 0, [])), (48, (0, 7, 3, 0, 49, 0, [])), (49, (0, 9, 5, 1, 52, 0, [])), (52, (3, 0, 0, 0, 0, 10, [])), (55, (9, 17, 17, 0, 58, 0, [(0, 0), (0, 2)])), (58, (0, 12, 0, 0, 59, 0, [])), (59, (0, 4, 0, 0, 60, 0, [])), (60, (0, 1, 0, 0, 61, 0, [])), (61, (0, 21, 0, 0, 62, 0, [])), (62, (1, 3, 0, 0, 65, 69, [])), (65, (0, 0, 0, 1, 66, 0, [])), (66, (3, 0, 0, 0, 0, 70, [])), (69, (0, 0, 0, 0, 70, 0, [])), (70, (0, 5, 2, 0, 71, 0, [])), (71, (16, 0, 0, 0, 74, 0, [])), (74, (14, 0, 0, 4, 0, 0, []))], [(some 17, 3, [(hd_initP 42150 36), (hd_initP 750 36), (hd_initQ 850 80), (hd_initQ 750 80), (hd_initR 750 90)])], [], [], [])
theorem gd_yX12_of_H : ck_dec prog_15_method_2_code gt_yX12_of_H ge_yX12_of_H.2.2.2.2.1 = true := by decide +kernel
theorem gh_yX12_of_H {l : Launch} {G : am_G} {X : ck_XT} (g : gM l G X) {a : List Value} {h : List am_C} {mc ms : Nat} {Post : am_O → List am_C → Prop} (hay : (am_lay a).length ≤ 6) (H : ∀ (S : ck_SS) (SX : Nat → ck_SX), ck_hs G S SX Post mc ms (ck_cms [am_cn l G yX12_init (.code yX12_init prog_15_method_1_code 5 none) 1 20]) ge_yX12_of_H → (∀ pc, ck_sR G S pc) → ck_hw S → S 0 (am_ent a 6) [] h 0 0) : am_M l G yX12_of (.code yX12_of prog_15_method_2_code 6 (some (.object "ClockhouseModel$Num"))) 2 44 mc ms a h Post :=
  ck_hand (E := ge_yX12_of_H) (tb := gt_yX12_of_H) (init := false) (cm := (ck_cms [am_cn l G yX12_init (.code yX12_init prog_15_method_1_code 5 none) 1 20])) g.1.1 (by decide +kernel) rfl gd_yX12_of_H ⟨(List.forall_mem_nil _), (List.forall_mem_cons.mpr ⟨ck_csl (by decide +kernel) w1649, (List.forall_mem_nil _)⟩), (List.forall_mem_nil _), (List.forall_mem_nil _), (List.forall_mem_cons.mpr ⟨⟨_, _, _, g_nw17, rfl, w1650, by decide⟩, (List.forall_mem_nil _)⟩), (List.forall_mem_nil _), (List.forall_mem_nil _), (List.forall_mem_nil _)⟩ (List.forall_mem_nil _) (fun h => nomatch h) ⟨_, rfl, Or.inl ⟨_, rfl⟩⟩ (by decide) (by decide) g_oi g_ar
    (fun s hk _ => (List.forall_mem_nil _)) (fun s hk => (List.forall_mem_nil _))
    (List.forall_mem_nil _) (List.forall_mem_cons.mpr ⟨(ck_kI g_y_yX12_init w1652 w1653 rfl (by decide) (by decide)), (List.forall_mem_nil _)⟩) (List.forall_mem_nil _) (List.forall_mem_nil _)
    (List.forall_mem_nil _) hay H
end
section
/-! NUM.OF -/
section HDO
variable {L : List (Option Value)} {st : List Value} {x v : Int} {a : Nat}
theorem hd_neg : ck_cf 17 0 v L (.int (Int32.ofInt x) :: st) = some (L, .int (Int32.ofInt (-x)) :: st) := by rw [Int32.ofInt_neg]; rfl
theorem hd_tr (x : Int) : -9 ≤ x.tmod 10 ∧ x.tmod 10 ≤ 9 := by
  have h1 := Int.tmod_lt_of_pos x (show (0 : Int) < 10 by decide)
  have h2 := Int.lt_tmod_of_pos x (show (0 : Int) < 10 by decide)
  omega
theorem hd_td (x : Int) : -(x.natAbs : Int) ≤ x.tdiv 10 ∧ x.tdiv 10 ≤ (x.natAbs : Int) := by
  have := ck_tdiv_le (a := x) (b := 10) (by decide)
  exact ⟨this.1, this.2.1⟩
theorem hd_ldT (h1 : -4000000000000000000 ≤ x) (h2 : x ≤ 4000000000000000000) : Int64.ofInt x / Int64.ofInt 10 = Int64.ofInt (x.tdiv 10) := by
  have hm : Int64.minValue.toInt = -9223372036854775808 := by decide
  have hM : Int64.maxValue.toInt = 9223372036854775807 := by decide
  rw [← Int64.ofInt_tdiv (by omega) (by omega) (by omega) (by omega)]
theorem hd_ldivT (h1 : -4000000000000000000 ≤ x) (h2 : x ≤ 4000000000000000000) : ck_cf 16 3 v L (.long (Int64.ofInt 10) :: .long (Int64.ofInt x) :: st) = some (L, .long (Int64.ofInt (x.tdiv 10)) :: st) := by
  rw [← hd_ldT h1 h2]
  show (if ck_dz 3 = true ∧ Int64.ofInt 10 = 0 then none else _) = _
  rw [if_neg (fun z => hd_l0 (y := 10) (by decide) (by decide) z.2)]
  rfl
theorem hd_lremT (h1 : -4000000000000000000 ≤ x) (h2 : x ≤ 4000000000000000000) : ck_cf 16 4 v L (.long (Int64.ofInt 10) :: .long (Int64.ofInt x) :: st) = some (L, .long (Int64.ofInt (x.tmod 10)) :: st) := by
  have e : Int64.ofInt x - Int64.ofInt x / Int64.ofInt 10 * Int64.ofInt 10 = Int64.ofInt (x.tmod 10) := by
    rw [hd_ldT h1 h2, ← Int64.ofInt_mul, ← Int64.ofInt_sub, Int.tmod_def, Int.mul_comm]
  rw [← e]
  show (if ck_dz 4 = true ∧ Int64.ofInt 10 = 0 then none else _) = _
  rw [if_neg (fun z => hd_l0 (y := 10) (by decide) (by decide) z.2)]
  rfl
end HDO
def of_K : ck_KK := (([((-2147483648), 2147483648)], [], [], 0, [(2, 0, (0, [(1, 0)]))]), ((3, []), (42, [])), [], [], ([], [], [(2, 0, 0, 1017, (0, 0, (2, []))), (5, 0, 0, 0, (0, 0, (0, [])))], 1, [(3, 0, (0, []))]), [])
theorem hd_last {G : am_G} {H : List am_C} {c c9 : am_C} : am_s (H ++ [c]) (1000 + H.length) c9 = H ++ [c9] := hd_eq (G := G) fun p => by
  rw [am_g_s (by omega) (by rw [List.length_append]; show 1000 + H.length - 1000 < H.length + 1; omega), am_g_new, am_g_new]
  by_cases e : p = 1000 + H.length
  · rw [if_pos e, if_pos e]
  · rw [if_neg e, if_neg e, if_neg e]
set_option maxRecDepth 100000 in
set_option maxHeartbeats 4000000 in
theorem of_con {l : Launch} {G : am_G} {X : ck_XT} (g9 : gM l G X) : ck_Con (am_cm l G yX12_of (.code yX12_of prog_15_method_2_code 6 (some (.object "ClockhouseModel$Num"))) 2 44) G X gT of_K := by
  obtain ⟨g, rfl, hkc⟩ := id g9
  intro K r s a h hH hV hC hF hn hS mc ms hmc hms
  have hmc' : (mc : Int) = 3 := li_k hmc
  have hms' : (ms : Int) = 42 := li_k hms
  have hs0 : s = [] := List.length_eq_zero_iff.mp hn
  subst hs0
  match r, hV.1 with
  | [x0], _ =>
    obtain ⟨i1, i2⟩ := li_in' hV
    match a, hS with
    | [w1], ⟨⟨y1, c1, c2⟩, _⟩ =>
      subst c1
      have c2 := ck_lv1 c2
      have c2 : some x0 = some y1.toInt := c2
      cases c2
      have ey : y1 = Int64.ofInt y1.toInt := (Int64.ofInt_toInt y1).symm
      generalize hv0 : y1.toInt = v0 at *
      rw [ey]
      refine gh_yX12_of_H g9 (Nat.le_of_ble_eq_true rfl) fun S SX hs hr hw => ?_
      -- behind the loop
      have fin : ∀ (es : List Int) (L5 : List (Option Value)) (lf k : Int), hd_d es → es.length = 20 → S 55 [some (.long (Int64.ofInt v0)), none, some (.ref (1000 + h.length)), some (.long (Int64.ofInt lf)), none, some (.int (Int32.ofInt k))] [] (h ++ [(750, hd_r es)]) 1 20 := by
        intro es L5 lf k hd hl
        have hp0 : ck_Hp (G, li_X, gT, K, h, [v0], [], [], []) [v0] [] h := ⟨hH, ck_Kp.rf, Nat.le_refl _, ⟨[], rfl⟩, [], rfl⟩
        have hp1 := ck_Hp.make hp0 li_XO li_X0 (t := 750) (vs := hd_r es) (by decide) (fun g' => hd_cey hd (lo := 0) (hi := 90) (by omega) (by omega) rfl)
        have hp2 := ck_Hp.make hp1 li_XO li_X0 (t := 17) (vs := [.int 0, .null]) (by decide) (fun g' => hd_noce rfl)
        have hll : (h ++ [((750 : Nat), hd_r es)]).length = h.length + 1 := by rw [List.length_append]; rfl
        have hN := hd_new (G := G) (h := h ++ [(750, hd_r es)]) (c := (17, [.int 0, .null]))
        have hR := hd_old (c := (17, [.int 0, .null])) (hd_new (G := G) (h := h) (c := (750, hd_r es)))
        rw [hll] at hN
        have H70 : ∀ b : Int, 0 ≤ b → b ≤ 1 → S 70 [some (.long (Int64.ofInt v0)), none, some (.ref (1000 + h.length)), some (.long (Int64.ofInt lf)), none, some (.int (Int32.ofInt k))] [.int (Int32.ofInt b), .ref (1000 + (h.length + 1)), .ref (1000 + (h.length + 1))] (h ++ [(750, hd_r es)] ++ [(17, [.int 0, .null])]) 2 22 := by
          intro b hb0 hb1
          refine hs 43 _ rfl _ _ _ _ _ _ _ rfl ?_
          have hcall := am_cn_ok (hd_initP_con g9 (ts := 750) (mx := 36) (lo := 0) (hi := 90) rfl rfl (by decide)) rfl K [b, 20] [1000 + (h.length + 1), 1000 + h.length] [.ref (1000 + (h.length + 1)), .int (Int32.ofInt b), .ref (1000 + h.length)] _ hp2.1 (li_in hb0 hb1 (li_in (by decide) (by decide) li_in0)) (fun c hc => nomatch hc)
            (List.forall_mem_cons.mpr ⟨⟨_, _, rfl, hN, ck_Lv.k _ 2⟩, List.forall_mem_cons.mpr ⟨⟨_, _, rfl, hR, by rw [hd_r_len, hl]; exact ck_Lv.x rfl⟩, List.forall_mem_nil _⟩⟩) rfl ⟨⟨_, rfl, rfl⟩, ⟨_, rfl, by rw [hd_oi (by omega) (by omega)]; exact ck_Lv.x rfl⟩, ⟨_, rfl, rfl⟩, trivial⟩ 1 20 (ck_Lv.k _ 1) (ck_Lv.x rfl)
          refine hs 44 _ rfl [.ref (1000 + (h.length + 1)), .int (Int32.ofInt b), .ref (1000 + h.length)] _ [.ref (1000 + (h.length + 1))] _ _ _ 1 20 _ hcall rfl rfl (Nat.le_of_ble_eq_true rfl) ⟨_, _, _, rfl, hN, rfl⟩ (by omega) (by omega) (fun v9 h9 hp => ?_) (fun E h9 hp => absurd hp (hcall.2 E h9))
          obtain ⟨k1, k2, k3, q9, p9, m1, m2, m3, m4, m5⟩ := hp
          have hv9 : v9 = none := by
            cases v9 with
            | none => rfl
            | some v => exact m5.elim
          subst hv9
          obtain ⟨qq, vv, t1, t2, t3⟩ := m3 (2, 0, 0, 1017, (0, 0, (2, []))) (by unfold hd_initP; simp)
          have t1 : some (1000 + (h.length + 1)) = some qq := t1
          cases t1
          have hp3 := ck_Hp.call hp2 k1 k2 k3 rfl (fun q t hq => by
            have hq : (q, t) ∈ [(1000 + (h.length + 1), 17)] := hq
            rw [List.mem_singleton] at hq
            obtain ⟨rfl, rfl⟩ := Prod.mk.inj hq
            exact Or.inl (by show 1000 + h.length ≤ _; omega))
          refine hs 45 _ rfl _ _ _ _ _ (Or.inl ⟨_, rfl⟩) (by omega) (by omega) ⟨hp3.1, hp3.2.1, hp3.2.2.1, [], [1000 + (h.length + 1)], li_in0, (fun c hc => nomatch hc), List.forall_mem_cons.mpr ⟨⟨_, _, rfl, t2, by rw [li_k t3]; exact ck_Lv.k _ 2⟩, List.forall_mem_cons.mpr ⟨⟨_, rfl, by show 1000 + h.length ≤ _; omega⟩, List.forall_mem_nil _⟩⟩, rfl, ⟨⟨_, rfl, rfl⟩, trivial⟩⟩
        refine hs 34 _ rfl 17 _ _ _ _ _ rfl (by omega) (by show _ + 2 ≤ _; omega) ?_
        rw [hll]
        refine hs 35 _ rfl _ _ _ _ _ _ _ rfl ?_
        refine hs 36 _ rfl _ _ _ _ _ _ _ rfl ?_
        refine hs 37 _ rfl _ _ _ _ _ _ _ rfl ?_
        refine hs 38 _ rfl _ _ _ _ _ _ _ rfl ?_
        by_cases hneg : (lg_cmp (Int64.ofInt v0) (Int64.ofInt 0)).toInt < 0
        · refine hs 39 _ rfl _ _ _ _ _ _ (fun z => absurd hneg (by have z : 0 ≤ (lg_cmp (Int64.ofInt v0) (Int64.ofInt 0)).toInt := z; omega)) (fun _ => ?_)
          refine hs 40 _ rfl _ _ _ _ _ _ _ rfl ?_
          refine hs 41 _ rfl _ _ _ _ _ ?_
          exact H70 1 (by decide) (by decide)
        · refine hs 39 _ rfl _ _ _ _ _ _ (fun _ => ?_) (fun z => absurd (show 0 ≤ (lg_cmp (Int64.ofInt v0) (Int64.ofInt 0)).toInt by omega) z)
          refine hs 42 _ rfl _ _ _ _ _ _ _ rfl ?_
          exact H70 0 (by decide) (by decide)
      have loop : ∀ (m k : Nat) (es : List Int) (lf : Int), k + m = 20 → hd_d es → es.length = 20 → -4000000000000000000 ≤ lf → lf ≤ 4000000000000000000 → S 10 [some (.long (Int64.ofInt v0)), none, some (.ref (1000 + h.length)), some (.long (Int64.ofInt lf)), none, some (.int (Int32.ofInt (k : Int)))] [] (h ++ [(750, hd_r es)]) 1 20 := by
        intro m
        induction m with
        | zero =>
          intro k es lf hk hd hl h1 h2
          refine hs 7 _ rfl _ _ _ _ _ _ _ rfl ?_
          refine hs 8 _ rfl _ _ _ _ _ _ _ rfl ?_
          refine hs 9 _ rfl _ _ _ _ _ _ _ (fun _ => ?_) (fun zq => absurd (hd_c2t (c := 3) (by omega) (by omega) (by omega) (by omega) (by omega : 0 ≤ ((k : Int) - (20 : Int)))) zq)
          exact fin es [] lf _ hd hl
        | succ m ih =>
          intro k es lf hk hd hl h1 h2
          have hg := hd_new (G := G) (h := h) (c := (750, hd_r es))
          have tr := hd_tr lf
          have td := hd_td lf
          have hset : ∀ t : Int, 0 ≤ t → t ≤ 9 → hd_d (es.set k t) := fun t x1 x2 x hx => (List.mem_or_eq_of_mem_set hx).elim (hd x) (fun y => by rw [y]; exact ⟨x1, x2⟩)
          refine hs 7 _ rfl _ _ _ _ _ _ _ rfl ?_
          refine hs 8 _ rfl _ _ _ _ _ _ _ rfl ?_
          refine hs 9 _ rfl _ _ _ _ _ _ _ (fun zq => absurd (hd_c2z (c := 3) (by omega) (by omega) (by omega) (by omega) zq) (by omega : ¬ (0 ≤ ((k : Int) - (20 : Int))))) (fun _ => ?_)
          refine hs 10 _ rfl _ _ _ _ _ _ _ rfl ?_
          refine hs 11 _ rfl _ _ _ _ _ _ _ rfl ?_
          refine hs 12 _ rfl _ _ _ _ _ _ _ rfl ?_
          refine hs 13 _ rfl _ _ _ _ _ _ _ rfl ?_
          refine hs 14 _ rfl _ _ _ _ _ _ _ (hd_lremT h1 h2) ?_
          refine hs 15 _ rfl _ _ _ _ _ _ _ (hd_l2i (by omega) (by omega)) ?_
          refine hd_B (hs 16 _ rfl) (by decide) (by decide) (by omega) hg (by decide) (j := k) rfl (by omega) (by omega) ?_
          rw [hd_last (G := G)]
          have hg2 := hd_new (G := G) (h := h) (c := (750, hd_r (es.set k (lf.tmod 10))))
          have hgk : (es.set k (lf.tmod 10))[k]? = some (lf.tmod 10) := List.getElem?_set_self (by omega)
          by_cases hc : lf.tmod 10 < 0
          · 
            refine hs 17 _ rfl _ _ _ _ _ _ _ rfl ?_
            refine hs 18 _ rfl _ _ _ _ _ _ _ rfl ?_
            refine hd_A (hs 19 _ rfl) (by decide) (by decide) hg2 (by decide) (j := k) rfl (by omega) hgk ?_
            refine hs 20 _ rfl _ _ _ _ _ _ (fun zq => absurd (hd_c1z (c := 3) (by omega) (by omega) zq) (by omega : ¬ (0 ≤ (lf.tmod 10)))) (fun _ => ?_)
            refine hs 21 _ rfl _ _ _ _ _ _ _ rfl ?_
            refine hs 22 _ rfl _ _ _ _ _ _ _ rfl ?_
            refine hs 23 _ rfl _ _ _ _ _ _ _ rfl ?_
            refine hs 24 _ rfl _ _ _ _ _ _ _ rfl ?_
            refine hd_A (hs 25 _ rfl) (by decide) (by decide) hg2 (by decide) (j := k) rfl (by omega) hgk ?_
            refine hs 26 _ rfl _ _ _ _ _ _ _ hd_neg ?_
            refine hd_B (hs 27 _ rfl) (by decide) (by decide) (by omega) hg2 (by decide) (j := k) rfl (by omega) (by rw [List.length_set]; omega) ?_
            rw [hd_last (G := G), List.set_set]
            refine hs 28 _ rfl _ _ _ _ _ _ _ rfl ?_
            refine hs 29 _ rfl _ _ _ _ _ _ _ rfl ?_
            refine hs 30 _ rfl _ _ _ _ _ _ _ (hd_ldivT h1 h2) ?_
            refine hs 31 _ rfl _ _ _ _ _ _ _ rfl ?_
            refine hs 32 _ rfl _ _ _ _ _ _ _ (hd_inc rfl) ?_
            refine hs 33 _ rfl _ _ _ _ _ ?_
            exact ih (k + 1) _ _ (by omega) (hset _ (by omega) (by omega)) (by rw [List.length_set]; exact hl) (by omega) (by omega)
          · 
            refine hs 17 _ rfl _ _ _ _ _ _ _ rfl ?_
            refine hs 18 _ rfl _ _ _ _ _ _ _ rfl ?_
            refine hd_A (hs 19 _ rfl) (by decide) (by decide) hg2 (by decide) (j := k) rfl (by omega) hgk ?_
            refine hs 20 _ rfl _ _ _ _ _ _ (fun _ => ?_) (fun zq => absurd (hd_c1t (c := 3) (by omega) (by omega) (by omega : 0 ≤ (lf.tmod 10))) zq)
            refine hs 28 _ rfl _ _ _ _ _ _ _ rfl ?_
            refine hs 29 _ rfl _ _ _ _ _ _ _ rfl ?_
            refine hs 30 _ rfl _ _ _ _ _ _ _ (hd_ldivT h1 h2) ?_
            refine hs 31 _ rfl _ _ _ _ _ _ _ rfl ?_
            refine hs 32 _ rfl _ _ _ _ _ _ _ (hd_inc rfl) ?_
            refine hs 33 _ rfl _ _ _ _ _ ?_
            exact ih (k + 1) _ _ (by omega) (hset _ (by omega) (by omega)) (by rw [List.length_set]; exact hl) (by omega) (by omega)
      refine hs 0 _ rfl _ _ _ _ _ _ _ rfl ?_
      refine hs 1 _ rfl 750 _ _ _ _ 20 _ _ (by decide) (by decide) (by decide) (by omega) (by omega) ?_
      rw [show Int.toNat 0 = 0 from rfl]
      rw [hd_r0]
      refine hs 2 _ rfl _ _ _ _ _ _ _ rfl ?_
      refine hs 3 _ rfl _ _ _ _ _ _ _ rfl ?_
      refine hs 4 _ rfl _ _ _ _ _ _ _ rfl ?_
      refine hs 5 _ rfl _ _ _ _ _ _ _ rfl ?_
      refine hs 6 _ rfl _ _ _ _ _ _ _ rfl ?_
      exact loop 20 0 (List.replicate 20 0) v0 (by decide) (fun d hd => by rw [List.eq_of_mem_replicate hd]; decide) rfl (by omega) (by omega)
end
section
/-! LEMMAS OF KINDS AND OF NUMBERS -/
def w8_K : ck_KK := (([], [], [(2, 0, 0, 450, (0, 0, (38, [])))], 1, [(3, 0, (0, []))]), ((0, []), (0, [])), [], [450], ([], [], [(2, 0, 0, 850, (0, 0, (38, [])))], 0, []), [])
theorem w8_con {G : am_G} : ck_Con (ck_lem G) G li_X gT w8_K := by
  intro K r s a h hH hV hC hF hn hS mc ms hmc hms
  match s, hn with
  | [q], _ =>
    match r, hV.1 with
    | [], _ =>
      obtain ⟨q1, v1, a1, a2, a3⟩ := hF (2, 0, 0, 450, (0, 0, (38, []))) (by unfold w8_K; simp)
      have a1 : some q = some q1 := a1
      obtain rfl : q = q1 := Option.some.inj a1
      have a2 : am_g G h q = some (450, v1) := a2
      have hk : ck_lk gT 450 = some (1, 0, 90, [(1, 0, 0, 9)]) := rfl
      obtain ⟨c1, -, -⟩ := hd_rdy hH a2 hk
      obtain ⟨A, rfl, e1, -⟩ := hd_of c1
      have a3 := li_k a3
      rw [hd_r_len] at a3
      have a4 : A.length = 38 := by omega
      have hq1 : 1000 ≤ q := (hH.2 _ _ _ a2).2.2 (by unfold ck_wr; rw [hk]; rfl)
      have hp0 : ck_Hp (G, li_X, gT, K, h, [], [q], [], [(q, 450)]) [] [q] h := ⟨hH, ck_Kp.rf, Nat.le_refl _, ⟨[], rfl⟩, [], rfl⟩
      have hp1 := ck_Hp.put hp0 li_XO li_X0 (q := q) (t := 450) (t' := 850) (vs := hd_r A) (vs' := hd_r A) a2 hq1 (by decide) (by decide) rfl (Or.inr (by decide)) (fun g' _ => hd_cey e1 (lo := 0) (hi := 90) (by omega) (by omega) rfl) (Or.inr (Or.inr List.mem_cons_self))
      refine ⟨_, ⟨[(q, 850)], 450, _, a2, hq1, (by show 850 % 100 = 450 % 100; rfl), rfl⟩, hp1.1, hp1.2.1, hp1.2.2.1, [], [], li_in0, (fun c hc => nomatch hc), List.forall_mem_cons.mpr ⟨?_, List.forall_mem_nil _⟩, rfl, trivial⟩
      exact ⟨q, _, rfl, (am_g_s hq1 (am_g_lt hq1 a2)).trans (if_pos rfl), by rw [hd_r_len, a4]; exact ck_Lv.k _ 38⟩
def w4_K : ck_KK := (([], [], [(2, 0, 0, 850, (0, 0, (38, [])))], 1, [(3, 0, (0, []))]), ((0, []), (0, [])), [], [850], ([], [], [(2, 0, 0, 450, (0, 0, (38, [])))], 0, []), [])
theorem w4_con {G : am_G} : ck_Con (ck_lem G) G li_X gT w4_K := by
  intro K r s a h hH hV hC hF hn hS mc ms hmc hms
  match s, hn with
  | [q], _ =>
    match r, hV.1 with
    | [], _ =>
      obtain ⟨q1, v1, a1, a2, a3⟩ := hF (2, 0, 0, 850, (0, 0, (38, []))) (by unfold w4_K; simp)
      have a1 : some q = some q1 := a1
      obtain rfl : q = q1 := Option.some.inj a1
      have a2 : am_g G h q = some (850, v1) := a2
      have hk : ck_lk gT 850 = some (1, 0, 90, [(1, 0, 0, 9)]) := rfl
      obtain ⟨c1, -, -⟩ := hd_rdy hH a2 hk
      obtain ⟨A, rfl, e1, -⟩ := hd_of c1
      have a3 := li_k a3
      rw [hd_r_len] at a3
      have a4 : A.length = 38 := by omega
      have hq1 : 1000 ≤ q := (hH.2 _ _ _ a2).2.2 (by unfold ck_wr; rw [hk]; rfl)
      have hp0 : ck_Hp (G, li_X, gT, K, h, [], [q], [], [(q, 850)]) [] [q] h := ⟨hH, ck_Kp.rf, Nat.le_refl _, ⟨[], rfl⟩, [], rfl⟩
      have hp1 := ck_Hp.put hp0 li_XO li_X0 (q := q) (t := 850) (t' := 450) (vs := hd_r A) (vs' := hd_r A) a2 hq1 (by decide) (by decide) rfl (Or.inr (by decide)) (fun g' _ => hd_cey e1 (lo := 0) (hi := 90) (by omega) (by omega) rfl) (Or.inr (Or.inr List.mem_cons_self))
      refine ⟨_, ⟨[(q, 450)], 850, _, a2, hq1, (by show 450 % 100 = 850 % 100; rfl), rfl⟩, hp1.1, hp1.2.1, hp1.2.2.1, [], [], li_in0, (fun c hc => nomatch hc), List.forall_mem_cons.mpr ⟨?_, List.forall_mem_nil _⟩, rfl, trivial⟩
      exact ⟨q, _, rfl, (am_g_s hq1 (am_g_lt hq1 a2)).trans (if_pos rfl), by rw [hd_r_len, a4]; exact ck_Lv.k _ 38⟩
theorem hd_pubs {w : ck_W} {r : List Int} {s : List Nat} {h : List am_C} (H : ck_Hp w r s h) (hX : w.2.1 = li_X) (hT : w.2.2.1 = gT) {p : Nat} {ds : List Int} (hg : am_g w.1 h p = some (450, hd_r ds)) (hq : 1000 ≤ p) (hd : hd_d ds) (hl : (ds.length : Int) ≤ 36) (hz : ∀ v : Value, (hd_r ds).getLast? = some v → v ≠ .int 0) (hM : (p, 450) ∈ w.2.2.2.2.2.2.2.2) : ck_Hp w r s (am_s h p (42150, hd_r ds)) := by
  obtain ⟨⟨⟨h0, hXg⟩, h1⟩, h2, h3, h4, h5⟩ := H
  rw [hX] at hXg
  have hlk : ck_lk gT 42150 = some (1, 0, 36, [(1, 0, 0, 9)]) := rfl
  have hlt := am_g_lt hq hg
  have hgs : ∀ m, am_g w.1 (am_s h p (42150, hd_r ds)) m = if m = p then some (42150, hd_r ds) else am_g w.1 h m := fun m => am_g_s hq hlt
  have htop : li_top (am_g w.1 (am_s h p (42150, hd_r ds))) := by
    intro q1 t1 vs1 ht1 e v hv
    rw [hgs] at e
    by_cases z : q1 = p
    · rw [if_pos z] at e
      cases e
      exact hz v hv
    · rw [if_neg z] at e
      exact hXg.2.2.2.2 q1 t1 vs1 ht1 e v hv
  have hnew : li_X (am_g w.1 (am_s h p (42150, hd_r ds))) := by
    refine li_X.tr2 (fun q1 t1 vs1 e1 e2 e3 => ?_) htop hXg
    rw [hgs]
    by_cases e : q1 = p
    · rw [if_pos e, e, hg]
      refine ⟨fun z => ?_, fun z => ?_⟩
      · exact absurd (Prod.mk.inj (Option.some.inj z)).1.symm e2
      · have : (450 : Nat) = t1 := (Prod.mk.inj (Option.some.inj z)).1
        omega
    · rw [if_neg e]
  refine ⟨⟨⟨by rw [hgs, if_neg (by omega)]; exact h0, by rw [hX]; exact hnew⟩, fun q1 t1 vs1 e1 => ?_⟩, fun q1 t1 vs1 e1 => ?_, by rw [am_s_len]; exact h3, h4, h5⟩
  · rw [hgs] at e1
    by_cases e : q1 = p
    · rw [if_pos e] at e1
      cases e1
      refine ⟨?_, trivial, fun _ => by omega⟩
      rw [hT]
      exact hd_cey hd (by omega) hl hlk
    · rw [if_neg e] at e1
      obtain ⟨f1, f2, f3⟩ := h1 q1 t1 vs1 e1
      refine ⟨fun d hd => ⟨(f1 d hd).1, fun j v hv => ?_⟩, trivial, f3⟩
      obtain ⟨y, y1, y2⟩ := (f1 d hd).2 j v hv
      refine ⟨y, y1, y2.ex fun a b c d1 d2 => ⟨c, ?_, rfl⟩⟩
      have hne : a ≠ p := fun z => by
        rw [z, hg] at d1
        have : (450 : Nat) = b := (Prod.mk.inj (Option.some.inj d1)).1
        omega
      rw [hgs, if_neg hne]
      exact d1
  · rw [hgs]
    by_cases e : q1 = p
    · rw [if_pos e]
      rw [e] at e1 ⊢
      rcases h2 p t1 vs1 e1 with ⟨f1, t2, vs2, f2, f3⟩ | ⟨vs2, f2, f3, f4⟩
      · rw [hg] at f2
        cases f2
        exact Or.inl ⟨f1, 42150, _, rfl, f3⟩
      · rw [hg] at f2
        cases f2
        exact Or.inl ⟨hM, 42150, _, rfl, f3⟩
    · rw [if_neg e]
      exact h2 q1 t1 vs1 e1
def pubn_K : ck_KK := (([(0, 1), (0, 36)], [], [(2, 0, 0, 217, (0, 0, (2, []))), (3, 0, 0, 217, (1, 0, (0, [(1, 0)]))), (3, 0, 1, 217, (3, 1, (0, []))), (2, 1, 0, 450, (0, 0, (0, [(1, 1)]))), (6, 1, 9, 450, (0, 0, (0, [])))], 2, [(3, 0, (0, [])), (3, 1, (0, []))]), ((0, []), (0, [])), [], [217, 450], ([], [], [(2, 0, 0, 1017, (0, 0, (2, [])))], 0, []), [])
theorem pubn_con {G : am_G} : ck_Con (ck_lem G) G li_X gT pubn_K := by
  intro K r s a h hH hV hC hF hn hS mc ms hmc hms
  match s, hn with
  | [q, p], _ =>
    match r, hV.1 with
    | [b, n], _ =>
      obtain ⟨q1, v1, a1, a2, a3⟩ := hF (2, 0, 0, 217, (0, 0, (2, []))) (by unfold pubn_K; simp)
      obtain ⟨q2, v2, w2, b1, b2, b3, u, b4, b5⟩ := hF (3, 0, 0, 217, (1, 0, (0, [(1, 0)]))) (by unfold pubn_K; simp)
      obtain ⟨q3, v3, w3, c1, c2, c3, p3, c4, c5⟩ := hF (3, 0, 1, 217, (3, 1, (0, []))) (by unfold pubn_K; simp)
      obtain ⟨p1, ws, d1, d2, d3⟩ := hF (2, 1, 0, 450, (0, 0, (0, [(1, 1)]))) (by unfold pubn_K; simp)
      obtain ⟨p2, ws2, x9, g1, g2, g3, g4⟩ := hF (6, 1, 9, 450, (0, 0, (0, []))) (by unfold pubn_K; simp)
      obtain rfl : q = q1 := Option.some.inj (show some q = some q1 from a1)
      obtain rfl : q = q2 := Option.some.inj (show some q = some q2 from b1)
      obtain rfl : q = q3 := Option.some.inj (show some q = some q3 from c1)
      obtain rfl : p = p1 := Option.some.inj (show some p = some p1 from d1)
      obtain rfl : p = p2 := Option.some.inj (show some p = some p2 from g1)
      obtain rfl : p = p3 := Option.some.inj (show some p = some p3 from c4)
      have a2 : am_g G h q = some (217, v1) := a2
      have b2 : am_g G h q = some (217, v2) := b2
      have c2 : am_g G h q = some (217, v3) := c2
      have d2 : am_g G h p = some (450, ws) := d2
      have g2 : am_g G h p = some (450, ws2) := g2
      obtain rfl : v1 = v2 := (Prod.mk.inj (Option.some.inj (a2.symm.trans b2))).2
      obtain rfl : v1 = v3 := (Prod.mk.inj (Option.some.inj (a2.symm.trans c2))).2
      obtain rfl : ws = ws2 := (Prod.mk.inj (Option.some.inj (d2.symm.trans g2))).2
      have hl := li_k a3
      have hv : v1 = [.int u, .ref p] := by
        match v1, hl, b3, c3 with
        | [y, y'], _, b3, c3 =>
          have e1 : some y = some w2 := b3
          have e2 : some y' = some w3 := c3
          rw [Option.some.inj e1, Option.some.inj e2, b4, c5]
      subst hv
      have b5 := ck_lv1 b5
      have b6 : b = u.toInt := Option.some.inj (show some b = some u.toInt from b5)
      have d3 := ck_lv1 d3
      have d4 : n = (ws.length : Int) := Option.some.inj (show some n = some (ws.length : Int) from d3)
      obtain ⟨i1, i2⟩ := li_in' hV
      obtain ⟨i3, i4⟩ := hV.2 1 0 36 n rfl rfl
      have hk : ck_lk gT 450 = some (1, 0, 90, [(1, 0, 0, 9)]) := rfl
      obtain ⟨k1, -, -⟩ := hd_rdy hH d2 hk
      obtain ⟨A, rfl, e1, -⟩ := hd_of k1
      rw [hd_r_len] at d4
      have hk2 : ck_lk gT 217 = none := rfl
      have hq2 : 1000 ≤ p := (hH.2 _ _ _ d2).2.2 (by unfold ck_wr; rw [hk]; rfl)
      have hq1 : 1000 ≤ q := (hH.2 _ _ _ a2).2.2 (by unfold ck_wr; rw [hk2])
      have hne : q ≠ p := by
        intro z
        rw [z, d2] at a2
        exact absurd (Prod.mk.inj (Option.some.inj a2)).1 (by decide)
      have hp0 : ck_Hp (G, li_X, gT, K, h, [b, n], [q, p], [], [(q, 217), (p, 450)]) [b, n] [q, p] h := ⟨hH, ck_Kp.rf, Nat.le_refl _, ⟨[], rfl⟩, [], rfl⟩
      have hp1 := hd_pubs hp0 rfl rfl d2 hq2 e1 (by omega) g4 (List.mem_cons_of_mem _ List.mem_cons_self)
      have hs1 : ∀ m, am_g G (am_s h p (42150, hd_r A)) m = if m = p then some (42150, hd_r A) else am_g G h m := fun m => am_g_s hq2 (am_g_lt hq2 d2)
      have a4 : am_g G (am_s h p (42150, hd_r A)) q = some (217, [.int u, .ref p]) := by rw [hs1, if_neg hne]; exact a2
      have j1 : (0 : Int) ≤ u.toInt := by omega
      have j2 : u.toInt ≤ 1 := by omega
      have hp2 := ck_Hp.put hp1 li_XO li_X0 (q := q) (t := 217) (t' := 1017) (vs := [.int u, .ref p]) (vs' := [.int u, .ref p]) a4 hq1 (by decide) (by decide) rfl (Or.inr (by decide)) (fun g' hx d hd9 => by
        have hlk : ck_lk gT 1017 = some (0, 2, 2, [(1, 0, 0, 1), (3, 42150, 0, 0)]) := rfl
        have hd9 : ck_lk gT 1017 = some d := hd9
        rw [hlk] at hd9
        cases hd9
        refine ⟨⟨(by decide : (2 : Int) ≤ ((2 : Nat) : Int)), (by decide : ((2 : Nat) : Int) ≤ 2)⟩, fun j v hu => ?_⟩
        match j, hu with
        | 0, hu => cases hu; exact ⟨_, rfl, _, rfl, j1, j2⟩
        | 1, hu =>
          cases hu
          obtain ⟨w9, x1, -⟩ := hx p 42150 (hd_r A) (by show am_g G (am_s h p (42150, hd_r A)) p = _; rw [hs1, if_pos rfl]) (by decide)
          exact ⟨_, rfl, by decide, _, _, rfl, x1⟩
        | j + 2, hu => cases hu) (Or.inr (Or.inr List.mem_cons_self))
      refine ⟨_, ⟨[(p, 42150), (q, 1017)], 450, _, d2, hq2, (by show 42150 % 100 = 450 % 100; rfl), 217, _, a4, hq1, (by show 1017 % 100 = 217 % 100; rfl), rfl⟩, hp2.1, hp2.2.1, hp2.2.2.1, [], [], li_in0, (fun c hc => nomatch hc), List.forall_mem_cons.mpr ⟨?_, List.forall_mem_nil _⟩, rfl, trivial⟩
      exact ⟨q, _, rfl, (am_g_s hq1 (am_g_lt hq1 a4)).trans (if_pos rfl), ck_Lv.k _ 2⟩
def li_copK : ck_KK := (([(0, 999), (0, 999), (1, 999)], [(1, [((-1), 2)])], [(4, 0, 2, 0, (0, 0, (0, [(1000000, 0), (1, 1), (1000000000000, 2)])))], 0, [(1, 0, (0, [(1, 0)])), (1, 0, (0, [(1, 1)])), (1, 0, (0, [(1, 2)]))]), ((0, []), (0, [])), [], [], ([], [], [(4, 0, 1, 0, (0, 0, (0, [(1, 0), (1000, 1)])))], 0, []), [])
theorem li_cop_con {G : am_G} {X : ck_XT} : ck_Con (ck_lem G) G X gT li_copK := by
  intro K r s a h hH hV hC hF hn hS mc ms hmc hms
  match r, hV.1 with
  | [x0, x1, x2], _ =>
    obtain ⟨i1, i2⟩ := li_in' hV
    obtain ⟨i3, i4⟩ := hV.2 1 0 999 x1 rfl rfl
    obtain ⟨i5, i6⟩ := hV.2 2 1 999 x2 rfl rfl
    obtain ⟨y, c1, c2⟩ := hC (1, [(-1, 2)]) (by unfold li_copK; simp)
    have c3 : y = (1 : Int) + (-1 * x2 + 0) := c1.2
    obtain ⟨xx, f1, z, a', b', f2, f3, f4, f5⟩ := hF (4, 0, 2, 0, (0, 0, (0, [(1000000, 0), (1, 1), (1000000000000, 2)]))) (by unfold li_copK; simp)
    have f6 : xx = (0 : Int) + (1000000 * x0 + (1 * x1 + (1000000000000 * x2 + 0))) := f1.2
    have hz : z = 1 := by omega
    have ha : (a' : Int) = x0 := by omega
    have hb : (b' : Int) = x1 := by omega
    refine ⟨h, ck_rh.rf _, hH, ck_Kp.rf, Nat.le_refl _, [], [], li_in0, (fun c hc => nomatch hc), List.forall_mem_cons.mpr ⟨?_, List.forall_mem_nil _⟩, rfl, trivial⟩
    refine ⟨1000 * x1 + x0, ⟨fun t ht => ?_, ?_⟩, b', a', by omega, by omega, ?_⟩
    · simp at ht
      rcases ht with rfl | rfl <;> exact Nat.le_of_ble_eq_true rfl
    · show _ = (0 : Int) + (1 * x0 + (1000 * x1 + 0))
      omega
    · rw [Nat.gcd_comm, ← f5]
      exact hz
def li_nopK : ck_KK := (([((-2147483648), 2147483647), ((-2147483648), 2147483647), (1, 999)], [], [], 0, [(1, 0, (0, [(1, 0)])), (1, 0, (0, [(1, 1)])), (1, 0, (0, [(1, 2)]))]), ((0, []), (0, [])), [], [], ([], [], [], 0, []), [])
theorem li_nop_con {G : am_G} {X : ck_XT} : ck_Con (ck_lem G) G X gT li_nopK := by
  intro K r s a h hH hV hC hF hn hS mc ms hmc hms
  exact ⟨h, ck_rh.rf _, hH, ck_Kp.rf, Nat.le_refl _, [], [], li_in0, (fun c hc => nomatch hc), List.forall_mem_nil _, rfl, trivial⟩
def li_oneK : ck_KK := (([(0, 1)], [((-1), [(1, 0)])], [], 0, [(1, 0, (0, [(1, 0)]))]), ((0, []), (0, [])), [], [], ([], [((-1), [(1, 0)])], [], 0, []), [])
theorem li_one_con {G : am_G} {X : ck_XT} : ck_Con (ck_lem G) G X gT li_oneK := by
  intro K r s a h hH hV hC hF hn hS mc ms hmc hms
  obtain ⟨y, c1, c2⟩ := hC (-1, [(1, 0)]) (by unfold li_oneK; simp)
  refine ⟨h, ck_rh.rf _, hH, ck_Kp.rf, Nat.le_refl _, [], [], li_in0, List.forall_mem_cons.mpr ⟨⟨y, ?_, c2⟩, List.forall_mem_nil _⟩, List.forall_mem_nil _, rfl, trivial⟩
  rw [List.append_nil]
  exact c1
def li_nop1K : ck_KK := (([(0, 1)], [], [], 0, [(1, 0, (0, [(1, 0)]))]), ((0, []), (0, [])), [], [], ([], [], [], 0, []), [])
theorem li_nop1_con {G : am_G} {X : ck_XT} : ck_Con (ck_lem G) G X gT li_nop1K := by
  intro K r s a h hH hV hC hF hn hS mc ms hmc hms
  exact ⟨h, ck_rh.rf _, hH, ck_Kp.rf, Nat.le_refl _, [], [], li_in0, (fun c hc => nomatch hc), List.forall_mem_nil _, rfl, trivial⟩
def li_fourK : ck_KK := (([(0, 400), (0, 400)], [((-1), [(1, 0), ((-1), 1)])], [], 0, [(1, 0, (0, [(1, 0)])), (1, 0, (0, [(1, 1)]))]), ((0, []), (0, [])), [], [], ([], [((-4), [(4, 0), ((-4), 1)])], [], 0, []), [])
theorem li_four_con {G : am_G} {X : ck_XT} : ck_Con (ck_lem G) G X gT li_fourK := by
  intro K r s a h hH hV hC hF hn hS mc ms hmc hms
  match r, hV.1 with
  | [x0, x1], _ =>
    obtain ⟨y, c1, c2⟩ := hC (-1, [(1, 0), (-1, 1)]) (by unfold li_fourK; simp)
    have c3 : y = (-1 : Int) + (1 * x0 + (-1 * x1 + 0)) := c1.2
    refine ⟨h, ck_rh.rf _, hH, ck_Kp.rf, Nat.le_refl _, [], [], li_in0, List.forall_mem_cons.mpr ⟨⟨4 * x0 - 4 * x1 - 4, ⟨fun t ht => ?_, ?_⟩, by omega⟩, List.forall_mem_nil _⟩, List.forall_mem_nil _, rfl, trivial⟩
    · simp at ht
      rcases ht with rfl | rfl <;> exact Nat.le_of_ble_eq_true rfl
    · show _ = (-4 : Int) + (4 * x0 + (-4 * x1 + 0))
      omega
end
