/-! WIDE -/
theorem hd_wide_con {l : Launch} {G : am_G} {X : ck_XT} (g : gM l G X) : ck_Con (am_cm l G yX12_wide (.code yX12_wide prog_15_method_12_code 3 (some (.array .int))) 1 20) G X gT hd_wideK := by
  obtain ⟨ge, rfl, -⟩ := g
  intro K r s a h hH hV hC hF hn hS mc ms hmc hms
  have hmc' : (mc : Int) = 1 := li_k hmc
  have hms' : (ms : Int) = 38 := li_k hms
  obtain ⟨q0, vs, a1, a2, a3⟩ := hF (2, 0, 0, 1017, (0, 0, (2, []))) (by unfold hd_wideK; simp)
  obtain ⟨q0', vs', v1, b1, b2, b3, qd, b4, b5⟩ := hF (3, 0, 1, 1017, (3, 1, (0, []))) (by unfold hd_wideK; simp)
  obtain ⟨qd', wd, c1, c2, c3⟩ := hF (2, 1, 0, 42150, (0, 0, (0, [(1, 0)]))) (by unfold hd_wideK; simp)
  have a1 : s[0]? = some q0 := a1
  have b1 : s[0]? = some q0' := b1
  rw [a1] at b1; cases b1
  have a2 : am_g G h q0 = some (1017, vs) := a2
  have b2 : am_g G h q0 = some (1017, vs') := b2
  rw [a2] at b2; cases b2
  have b4 : s[1]? = some qd := b4
  have c1 : s[1]? = some qd' := c1
  rw [b4] at c1; cases c1
  subst b5
  have c2 : am_g G h qd = some (42150, wd) := c2
  have hvs : ∃ v0, vs = [v0, .ref qd] := by
    have := li_k a3
    match vs, this with
    | [u0, u1], _ => cases b3; exact ⟨u0, rfl⟩
  obtain ⟨v0, rfl⟩ := hvs
  obtain ⟨d1, d2, d3⟩ := hd_rdy hH c2 (lo := 0) (hi := 36) rfl
  obtain ⟨ds, rfl, e1, e2⟩ := hd_of d1
  rw [hd_r_len] at d3 c3
  match r, hV.1 with
  | [n0], _ =>
    have c3 := ck_lv1 c3
    have c3 : some n0 = some (ds.length : Int) := c3
    cases c3
    obtain ⟨i1, i2⟩ := li_in' hV
    match a, hS with
    | [w1], ⟨⟨p1, f1, f2⟩, _⟩ =>
      subst f2
      have f1 : s[0]? = some p1 := f1
      rw [a1] at f1; cases f1
      -- the last one isn't 0
      have htop := hH.1.2.2.2.2.2 qd 42150 _ (Or.inl rfl) c2
      have hpos : 1 ≤ hd_v (ds ++ List.replicate (38 - ds.length) 0) := by
        rw [hd_v_app]
        have hz : hd_v (List.replicate (38 - ds.length) (0 : Int)) = 0 := hd_v_zero fun d hd => List.eq_of_mem_replicate hd
        rw [hz, Int.mul_zero, Int.add_zero]
        have hj : ds[ds.length - 1]? = some (ds[ds.length - 1]'(by omega)) := List.getElem?_eq_getElem (by omega)
        have hl : ds.getLast? = some (ds[ds.length - 1]'(by omega)) := by rw [List.getLast?_eq_getElem?, hj]
        have := hd_v_at e1 hj (fun z => by
          refine htop (.int 0) ?_ rfl
          unfold hd_r
          rw [List.getLast?_map, hl, z]
          rfl)
        have h9 : (0 : Int) < 10 ^ (ds.length - 1) := Int.pow_pos (by decide)
        omega
      have hdd : hd_d (ds ++ List.replicate (38 - ds.length) 0) := e1.app fun d hd => by rw [List.eq_of_mem_replicate hd]; decide
      have hll : (ds ++ List.replicate (38 - ds.length) (0 : Int)).length = 38 := by rw [List.length_append, List.length_replicate]; omega
      have hlt := hd_v_lt hdd
      rw [hll] at hlt
      refine hd_wide_M ge 950 (by decide) (by decide) (by decide) (by omega) a2 c2 (by omega) (by omega) ?_
      have hp0 : ck_Hp (G, li_X, gT, K, h, [(ds.length : Int)], s, [], []) [(ds.length : Int)] s h := ⟨hH, ck_Kp.rf, Nat.le_refl _, ⟨[], (List.append_nil _).symm⟩, [], (List.append_nil s).symm⟩
      have hp := ck_Hp.make hp0 li_XO li_X0 (t := 950) (vs := hd_r (ds ++ List.replicate (38 - ds.length) 0)) (by decide) (fun g' => hd_cey hdd (lo := 0) (hi := 90) (by omega) (by omega) rfl)
      have hq : (s ++ [1000 + h.length])[2]? = some (1000 + h.length) := by
        have hn : s.length = 2 := hn
        rw [List.getElem?_append_right (by omega), hn]
        rfl
      obtain ⟨t3, t4⟩ := hd_to hdd
      refine ⟨hp.1, hp.2.1, hp.2.2.1, [hd_v (ds ++ List.replicate (38 - ds.length) 0)], [1000 + h.length], li_in hpos (by omega) li_in0, (fun c hc => nomatch hc), List.forall_mem_cons.mpr ⟨?_, List.forall_mem_cons.mpr ⟨?_, List.forall_mem_cons.mpr ⟨?_, List.forall_mem_nil _⟩⟩⟩, rfl, ⟨⟨_, hq, rfl⟩, trivial⟩⟩
      · exact ⟨_, _, hq, hd_new, by rw [hd_r_len, hll]; exact ck_Lv.k _ 38⟩
      · exact ⟨_, hq, Nat.le_refl _⟩
      · exact ⟨_, _, _, hq, hd_new, ck_Lv.x rfl, t3, t4.symm⟩
