/-! INITS -/
theorem hd_initP_con {l : Launch} {G : am_G} {X : ck_XT} (g : gM l G X) {ts : Nat} {mx lo hi : Int} (hk : ck_lk gT ts = some (1, lo, hi, [(1, 0, 0, 9)])) (hts : ts % 100 = 50) (hmx : mx ≤ 36) : ck_Con (am_cm l G yX12_init (.code yX12_init prog_15_method_1_code 5 none) 1 20) G X gT (hd_initP ts mx) := by
  obtain ⟨ge, rfl, -⟩ := g
  intro K r s a h hH hV hC hF hn hS mc ms hmc hms
  refine hd_init_core ge hk hts (by omega) 1017 42150 (by decide) (by decide) hH hV (hF _ (by unfold hd_initP; simp)) (hF _ (by unfold hd_initP; simp)) hS (li_k hmc) hms fun q0 vs ds n v a1 hq a2 hvs hd hp hl hr1 hv1 hv2 => ?_
  have hp0 : ck_Hp (G, li_X, gT, K, h, r, s, [], [(q0, 17)]) r s h := ⟨hH, ck_Kp.rf, Nat.le_refl _, ⟨[], (List.append_nil r).symm⟩, [], (List.append_nil s).symm⟩
  have hlt : (ds.take n).length ≤ ds.length := by rw [List.length_take]; omega
  have hp1 := hd_pub hp0 rfl rfl (t := 42150) (mx := 36) (Or.inl ⟨rfl, rfl⟩) (hd.take n) (by omega) (hd_pl_last hp)
  have hp2 := ck_Hp.put hp1 li_XO li_X0 (q := q0) (t := 17) (t' := 1017) (vs := vs) (vs' := [.int (Int32.ofInt v), .ref (1000 + h.length)]) (hd_old a2) hq (by decide) (by decide) (by rw [hvs]; rfl) (Or.inr (by decide)) (fun g' hx d hd9 => by
      have hlk : ck_lk gT 1017 = some (0, 2, 2, [(1, 0, 0, 1), (3, 42150, 0, 0)]) := rfl
      have hd9 : ck_lk gT 1017 = some d := hd9
      rw [hlk] at hd9
      cases hd9
      refine ⟨⟨(by decide : (2 : Int) ≤ ((2 : Nat) : Int)), (by decide : ((2 : Nat) : Int) ≤ 2)⟩, fun j u hu => ?_⟩
      match j, hu with
      | 0, hu => cases hu; exact ⟨_, rfl, _, rfl, by rw [hd_oi (by omega) (by omega)]; exact hv1, by rw [hd_oi (by omega) (by omega)]; exact hv2⟩
      | 1, hu =>
        cases hu
        obtain ⟨w9, x1, -⟩ := hx _ _ _ hd_new (by decide)
        exact ⟨_, rfl, by decide, _, _, rfl, x1⟩
      | j + 2, hu => cases hu) (Or.inr (Or.inr List.mem_cons_self))
  obtain ⟨u9, hs9⟩ : ∃ b, s = [q0, b] := by
    match s, hn, a1 with
    | [a, b], _, a1 => cases a1; exact ⟨b, rfl⟩
  subst hs9
  refine ⟨hp2.1, hp2.2.1, hp2.2.2.1, [], [], li_in0, (fun c hc => nomatch hc), List.forall_mem_cons.mpr ⟨?_, List.forall_mem_nil _⟩, rfl, trivial⟩
  exact ⟨q0, _, rfl, by rw [am_g_s hq (by rw [List.length_append]; have := am_g_lt hq a2; omega), if_pos rfl], ck_Lv.k _ 2⟩
theorem hd_initQ_con {l : Launch} {G : am_G} {X : ck_XT} (g : gM l G X) {ts : Nat} {mx lo hi : Int} (hk : ck_lk gT ts = some (1, lo, hi, [(1, 0, 0, 9)])) (hts : ts % 100 = 50) (hmx : mx ≤ 80) : ck_Con (am_cm l G yX12_init (.code yX12_init prog_15_method_1_code 5 none) 1 20) G X gT (hd_initQ ts mx) := by
  obtain ⟨ge, rfl, -⟩ := g
  intro K r s a h hH hV hC hF hn hS mc ms hmc hms
  refine hd_init_core ge hk hts (by omega) 1117 42350 (by decide) (by decide) hH hV (hF _ (by unfold hd_initQ; simp)) (hF _ (by unfold hd_initQ; simp)) hS (li_k hmc) hms fun q0 vs ds n v a1 hq a2 hvs hd hp hl hr1 hv1 hv2 => ?_
  have hp0 : ck_Hp (G, li_X, gT, K, h, r, s, [], [(q0, 17)]) r s h := ⟨hH, ck_Kp.rf, Nat.le_refl _, ⟨[], (List.append_nil r).symm⟩, [], (List.append_nil s).symm⟩
  have hlt : (ds.take n).length ≤ ds.length := by rw [List.length_take]; omega
  have hp1 := hd_pub hp0 rfl rfl (t := 42350) (mx := 80) (Or.inr ⟨rfl, rfl⟩) (hd.take n) (by omega) (hd_pl_last hp)
  have hp2 := ck_Hp.put hp1 li_XO li_X0 (q := q0) (t := 17) (t' := 1117) (vs := vs) (vs' := [.int (Int32.ofInt v), .ref (1000 + h.length)]) (hd_old a2) hq (by decide) (by decide) (by rw [hvs]; rfl) (Or.inr (by decide)) (fun g' hx d hd9 => by
      have hlk : ck_lk gT 1117 = some (0, 2, 2, [(1, 0, 0, 1), (3, 42350, 0, 0)]) := rfl
      have hd9 : ck_lk gT 1117 = some d := hd9
      rw [hlk] at hd9
      cases hd9
      refine ⟨⟨(by decide : (2 : Int) ≤ ((2 : Nat) : Int)), (by decide : ((2 : Nat) : Int) ≤ 2)⟩, fun j u hu => ?_⟩
      match j, hu with
      | 0, hu => cases hu; exact ⟨_, rfl, _, rfl, by rw [hd_oi (by omega) (by omega)]; exact hv1, by rw [hd_oi (by omega) (by omega)]; exact hv2⟩
      | 1, hu =>
        cases hu
        obtain ⟨w9, x1, -⟩ := hx _ _ _ hd_new (by decide)
        exact ⟨_, rfl, by decide, _, _, rfl, x1⟩
      | j + 2, hu => cases hu) (Or.inr (Or.inr List.mem_cons_self))
  obtain ⟨u9, hs9⟩ : ∃ b, s = [q0, b] := by
    match s, hn, a1 with
    | [a, b], _, a1 => cases a1; exact ⟨b, rfl⟩
  subst hs9
  refine ⟨hp2.1, hp2.2.1, hp2.2.2.1, [], [], li_in0, (fun c hc => nomatch hc), List.forall_mem_cons.mpr ⟨?_, List.forall_mem_nil _⟩, rfl, trivial⟩
  exact ⟨q0, _, rfl, by rw [am_g_s hq (by rw [List.length_append]; have := am_g_lt hq a2; omega), if_pos rfl], ck_Lv.k _ 2⟩
theorem hd_initR_con {l : Launch} {G : am_G} {X : ck_XT} (g : gM l G X) {ts : Nat} {mx lo hi : Int} (hk : ck_lk gT ts = some (1, lo, hi, [(1, 0, 0, 9)])) (hts : ts % 100 = 50) (hmx : mx ≤ 90) : ck_Con (am_cm l G yX12_init (.code yX12_init prog_15_method_1_code 5 none) 1 20) G X gT (hd_initR ts mx) := by
  obtain ⟨ge, rfl, -⟩ := g
  intro K r s a h hH hV hC hF hn hS mc ms hmc hms
  refine hd_init_core ge hk hts hmx 217 450 (by decide) (by decide) hH hV (hF _ (by unfold hd_initR; simp)) (hF _ (by unfold hd_initR; simp)) hS (li_k hmc) hms fun q0 vs ds n v a1 hq a2 hvs hd hp hl hr1 hv1 hv2 => ?_
  have hp0 : ck_Hp (G, li_X, gT, K, h, r, s, [], [(q0, 17)]) r s h := ⟨hH, ck_Kp.rf, Nat.le_refl _, ⟨[], (List.append_nil r).symm⟩, [], (List.append_nil s).symm⟩
  have hnl := hp.1
  have hlt : (ds.take n).length = n := by rw [List.length_take]; omega
  have hp1 := ck_Hp.make hp0 li_XO li_X0 (t := 450) (vs := hd_r (ds.take n)) (by decide) (fun g' => hd_cey (hd.take n) (lo := 0) (hi := 90) (by omega) (by omega) rfl)
  have hp2 := ck_Hp.put hp1 li_XO li_X0 (q := q0) (t := 17) (t' := 217) (vs := vs) (vs' := [.int (Int32.ofInt v), .ref (1000 + h.length)]) (hd_old a2) hq (by decide) (by decide) (by rw [hvs]; rfl) (Or.inr (by decide)) (fun g' hx d hd9 => by
      have hlk : ck_lk gT 217 = none := rfl
      have hd9 : ck_lk gT 217 = some d := hd9
      rw [hlk] at hd9
      cases hd9) (Or.inr (Or.inr List.mem_cons_self))
  obtain ⟨u9, hs9⟩ : ∃ b, s = [q0, b] := by
    match s, hn, a1 with
    | [a, b], _, a1 => cases a1; exact ⟨b, rfl⟩
  subst hs9
  obtain ⟨n0, n1, hr9⟩ : ∃ a b, r = [a, b] := by
    match r, hV.1 with
    | [a, b], _ => exact ⟨a, b, rfl⟩
  subst hr9
  cases hr1
  have hc0 : am_g G (am_s (h ++ [(450, hd_r (ds.take n))]) q0 (217, [.int (Int32.ofInt v), .ref (1000 + h.length)])) q0 = some (217, [.int (Int32.ofInt v), .ref (1000 + h.length)]) := by rw [am_g_s hq (by rw [List.length_append]; have := am_g_lt hq a2; omega), if_pos rfl]
  have hc1 : am_g G (am_s (h ++ [(450, hd_r (ds.take n))]) q0 (217, [.int (Int32.ofInt v), .ref (1000 + h.length)])) (1000 + h.length) = some (450, hd_r (ds.take n)) := by rw [am_g_s hq (by rw [List.length_append]; have := am_g_lt hq a2; omega), if_neg (fun z => hd_neq a2 z.symm), hd_new]
  refine ⟨hp2.1, hp2.2.1, hp2.2.2.1, [v, (n : Int)], [1000 + h.length], li_in hv1 hv2 (li_in (by omega) (by omega) li_in0), List.forall_mem_cons.mpr ⟨?_, List.forall_mem_nil _⟩, List.forall_mem_cons.mpr ⟨?_, List.forall_mem_cons.mpr ⟨?_, List.forall_mem_cons.mpr ⟨?_, List.forall_mem_cons.mpr ⟨?_, List.forall_mem_cons.mpr ⟨?_, List.forall_mem_cons.mpr ⟨?_, List.forall_mem_nil _⟩⟩⟩⟩⟩⟩, rfl, trivial⟩
  · refine ⟨(ds.length : Int) - (n : Int), ⟨fun t ht => ?_, ?_⟩, by omega⟩
    · simp at ht
      rcases ht with rfl | rfl <;> exact Nat.le_of_ble_eq_true rfl
    · show _ = (0 : Int) + (1 * (ds.length : Int) + (-1 * (n : Int) + 0))
      omega
  · exact ⟨q0, _, rfl, hc0, ck_Lv.k _ 2⟩
  · exact ⟨q0, _, _, rfl, hc0, rfl, _, rfl, by rw [hd_oi (by omega) (by omega)]; exact ck_Lv.x rfl⟩
  · exact ⟨q0, _, _, rfl, hc0, rfl, _, rfl, rfl⟩
  · exact ⟨_, _, rfl, hc1, by rw [hd_r_len, hlt]; exact ck_Lv.x rfl⟩
  · exact ⟨_, rfl, Nat.le_refl _⟩
  · refine ⟨_, _, 0, rfl, hc1, ck_Lv.k _ 0, fun u hu => ?_⟩
    unfold hd_r at hu
    rw [List.getLast?_map] at hu
    cases hg : (ds.take n).getLast? with
    | none => rw [hg] at hu; cases hu
    | some d =>
      rw [hg] at hu
      cases hu
      intro z9
      have hdd := hd.take n d (List.mem_of_getLast? hg)
      have z9 : Int32.ofInt d = 0 := by injection z9
      have := hd_oi (z := d) (by omega) (by omega)
      rw [z9, Int32.toInt_zero] at this
      exact hd_pl_last hp d hg this.symm
