/-! NUM: WHAT IS KEPT -/
theorem li_X.tr2 {g g' : ck_g} (e : ∀ (q t : Nat) (vs : List Value), 40000 ≤ t → t ≠ 42150 → t ≠ 42350 → (g' q = some (t, vs) ↔ g q = some (t, vs))) (ht : li_top g') (h : li_X g) : li_X g' := by
  obtain ⟨h1, h2, h3, h4, -⟩ := h
  have hF : ∀ F ∈ li_Fs, F.1 ≠ 42150 ∧ F.1 ≠ 42350 ∧ F.2.1 ≠ 42150 ∧ F.2.1 ≠ 42350 := by decide
  have hok : ∀ F ∈ li_Fs, ∀ vs : List Value, li_ok g F.2.1 vs → li_ok g' F.2.1 vs := by
    intro F hF9 vs h
    obtain ⟨mc, n, r, a1, a2, a3⟩ := h
    exact ⟨mc, n, r, a1, a2, a3.imp (fun z => ⟨(e _ _ _ (by decide) (by decide) (by decide)).mpr z.1, z.2⟩) fun ⟨ws, z1, z2⟩ => ⟨ws, (e _ _ _ (li_Fs_ge hF9).2.1 (hF F hF9).2.2.1 (hF F hF9).2.2.2).mpr z1, z2⟩⟩
  refine ⟨fun F hF9 q vs hq => hok F hF9 vs (h1 F hF9 q vs ((e _ _ _ (li_Fs_ge hF9).1 (hF F hF9).1 (hF F hF9).2.1).mp hq)), ?_, ?_, ?_, ht⟩
  · intro q q' t t' r tr vs vs' ws f1 f2 g1 g2 g3 g4 g5 g6 g7
    obtain ⟨F1, e1, rfl⟩ := f1
    obtain ⟨F2, e2, rfl⟩ := f2
    have a1 := (e _ _ _ (li_Fs_ge e1).1 (hF F1 e1).1 (hF F1 e1).2.1).mp g1
    have a2 := (e _ _ _ (li_Fs_ge e2).1 (hF F2 e2).1 (hF F2 e2).2.1).mp g2
    obtain ⟨mc9, n9, r9, rfl, -, b2⟩ := h1 F1 e1 q vs a1
    have g3 : some (Value.ref r9) = some (.ref r) := g3
    cases g3
    rcases b2 with ⟨b2, -⟩ | ⟨w9, b2, -⟩
    · have := (e _ _ _ (by decide) (by decide) (by decide)).mpr b2
      rw [g5] at this
      exact absurd (Prod.mk.inj (Option.some.inj this)).1 g7
    · have := (e _ _ _ (li_Fs_ge e1).2.1 (hF F1 e1).2.2.1 (hF F1 e1).2.2.2).mpr b2
      rw [g5] at this
      obtain ⟨b3, b4⟩ := Prod.mk.inj (Option.some.inj this)
      subst b4
      exact h2 q q' F1.1 F2.1 r tr _ vs' _ ⟨F1, e1, rfl⟩ ⟨F2, e2, rfl⟩ a1 a2 rfl g4 (by rw [b2, b3]) g6 g7
  · intro q r mc n ws g1 g2
    exact (h3 q r mc n ws ((e _ _ _ (by decide) (by decide) (by decide)).mp g1) ((e _ _ _ (by decide) (by decide) (by decide)).mp g2)).tr fun q vs => (e q _ vs (by decide) (by decide) (by decide)).symm
  · intro t q q' vs vs' ht g1 g2
    have h40 : 40000 ≤ t ∧ t ≠ 42150 ∧ t ≠ 42350 := by rcases ht with rfl | rfl <;> exact Nat.le_of_ble_eq_true rfl
    exact h4 t q q' vs vs' ht ((e _ _ _ h40.1 h40.2.1 h40.2.2).mp g1) ((e _ _ _ h40.1 h40.2.1 h40.2.2).mp g2)
/-- a row of digits without needless zeros is made -/
theorem hd_pub {w : ck_W} {r : List Int} {s : List Nat} {h : List am_C} (H : ck_Hp w r s h) (hX : w.2.1 = li_X) (hT : w.2.2.1 = gT) {t : Nat} {mx : Int} (ht : (t = 42150 ∧ mx = 36) ∨ (t = 42350 ∧ mx = 80)) {ds : List Int} (hd : hd_d ds) (hl : (ds.length : Int) ≤ mx) (hz : ∀ d : Int, ds.getLast? = some d → d ≠ 0) : ck_Hp w r s (h ++ [(t, hd_r ds)]) := by
  obtain ⟨⟨⟨h0, hXg⟩, h1⟩, h2, h3, h4, h5⟩ := H
  rw [hX] at hXg
  have ht4 : 40000 ≤ t ∧ t ≠ 999 := by rcases ht with ⟨rfl, -⟩ | ⟨rfl, -⟩ <;> decide
  have hlk : ck_lk gT t = some (1, 0, mx, [(1, 0, 0, 9)]) := by rcases ht with ⟨rfl, rfl⟩ | ⟨rfl, rfl⟩ <;> rfl
  have hgs : ∀ m, am_g w.1 (h ++ [(t, hd_r ds)]) m = if m = 1000 + h.length then some (t, hd_r ds) else am_g w.1 h m := fun m => am_g_new
  have hno : am_g w.1 h (1000 + h.length) = none := by unfold am_g; rw [if_neg (by omega), List.getElem?_eq_none (by omega)]
  have hfw : ∀ (q1 t1 : Nat) (vs1 : List Value), am_g w.1 h q1 = some (t1, vs1) → am_g w.1 (h ++ [(t, hd_r ds)]) q1 = some (t1, vs1) := by
    intro q1 t1 vs1 e
    rw [hgs, if_neg (fun z => by rw [z, hno] at e; cases e)]
    exact e
  have htop : li_top (am_g w.1 (h ++ [(t, hd_r ds)])) := by
    intro q1 t1 vs1 ht1 e v hv
    rw [hgs] at e
    by_cases z : q1 = 1000 + h.length
    · rw [if_pos z] at e
      cases e
      unfold hd_r at hv
      rw [List.getLast?_map] at hv
      cases hg : ds.getLast? with
      | none => rw [hg] at hv; cases hv
      | some d =>
        rw [hg] at hv
        cases hv
        intro z9
        have hdd := hd d (List.mem_of_getLast? hg)
        have z9 : Int32.ofInt d = 0 := by injection z9
        have := hd_oi (z := d) (by omega) (by omega)
        rw [z9, Int32.toInt_zero] at this
        exact hz d hg this.symm
    · rw [if_neg z] at e
      exact hXg.2.2.2.2 q1 t1 vs1 ht1 e v hv
  refine ⟨⟨⟨by rw [hgs, if_neg (by omega)]; exact h0, by rw [hX]; exact li_X.tr2 (fun q1 t1 vs1 e1 e2 e3 => ⟨fun z => ?_, hfw q1 t1 vs1⟩) htop hXg⟩, fun q1 t1 vs1 e1 => ?_⟩, fun q1 t1 vs1 e1 => ?_, by rw [List.length_append]; omega, h4, h5⟩
  · rw [hgs] at z
    by_cases e : q1 = 1000 + h.length
    · rw [if_pos e] at z
      have : t = t1 := (Prod.mk.inj (Option.some.inj z)).1
      rcases ht with ⟨rfl, -⟩ | ⟨rfl, -⟩
      · exact absurd this.symm e2
      · exact absurd this.symm e3
    · rw [if_neg e] at z
      exact z
  · rw [hgs] at e1
    by_cases e : q1 = 1000 + h.length
    · rw [if_pos e] at e1
      cases e1
      refine ⟨?_, trivial, fun _ => by omega⟩
      rw [hT]
      exact hd_cey hd (by omega) hl hlk
    · rw [if_neg e] at e1
      obtain ⟨f1, f2, f3⟩ := h1 q1 t1 vs1 e1
      refine ⟨fun d hd => ⟨(f1 d hd).1, fun j v hv => ?_⟩, trivial, f3⟩
      obtain ⟨y, y1, y2⟩ := (f1 d hd).2 j v hv
      exact ⟨y, y1, y2.ex fun a b c d1 d2 => ⟨c, hfw a b c d1, rfl⟩⟩
  · have hne : q1 ≠ 1000 + h.length := fun e => by
      have := h2 q1 t1 vs1 e1
      rw [e, hno] at this
      rcases this with ⟨-, _, _, z, -⟩ | ⟨_, z, -⟩ <;> cases z
    rw [hgs, if_neg hne]
    exact h2 q1 t1 vs1 e1
theorem hd_wide_con {l : Launch} {G : am_G} {X : ck_XT} (g : gM l G X) : ck_Con (am_cm l G yX12_wide (.code yX12_wide prog_15_method_12_code 3 (some (.array .int))) 1 20) G X gT hd_wideK := by
  obtain ⟨ge, rfl, -⟩ := g
  intro K r s a h hH hV hC hF hn hS mc ms hmc hms
  have hmc' : (mc : Int) = 1 := li_k hmc
  have hms' : (ms : Int) = 38 := li_k hms
  obtain ⟨q0, vs, a1, a2, a3⟩ := hF (2, 0, 0, 1017, (0, 0, (2, []))) (by unfold hd_wideK; simp)
  obtain ⟨q0', vs', v1, b1, b2, b3, qd, b4, b5⟩ := hF (3, 0, 1, 1017, (3, 1, (0, []))) (by unfold hd_wideK; simp)
  obtain ⟨qd', wd, c1, c2, c3⟩ := hF (2, 1, 0, 42150, (0, 0, (0, [(1, 0)]))) (by unfold hd_wideK; simp)
  have a1 : s[0]? = some q0 := a1
  have b1 : s[0]? = some q0' := b1
  rw [a1] at b1; cases b1
  have a2 : am_g G h q0 = some (1017, vs) := a2
  have b2 : am_g G h q0 = some (1017, vs') := b2
  rw [a2] at b2; cases b2
  have b4 : s[1]? = some qd := b4
  have c1 : s[1]? = some qd' := c1
  rw [b4] at c1; cases c1
  subst b5
  have c2 : am_g G h qd = some (42150, wd) := c2
  have hvs : ∃ v0, vs = [v0, .ref qd] := by
    have := li_k a3
    match vs, this with
    | [u0, u1], _ => cases b3; exact ⟨u0, rfl⟩
  obtain ⟨v0, rfl⟩ := hvs
  obtain ⟨d1, d2, d3⟩ := hd_rdy hH c2 (lo := 0) (hi := 36) rfl
  obtain ⟨ds, rfl, e1, e2⟩ := hd_of d1
  rw [hd_r_len] at d3 c3
  match r, hV.1 with
  | [n0], _ =>
    have c3 := ck_lv1 c3
    have c3 : some n0 = some (ds.length : Int) := c3
    cases c3
    obtain ⟨i1, i2⟩ := li_in' hV
    match a, hS with
    | [w1], ⟨⟨p1, f1, f2⟩, _⟩ =>
      subst f2
      have f1 : s[0]? = some p1 := f1
      rw [a1] at f1; cases f1
      -- the last one isn't 0
      have htop := hH.1.2.2.2.2.2 qd 42150 _ (Or.inl rfl) c2
      have hpos : 1 ≤ hd_v (ds ++ List.replicate (38 - ds.length) 0) := by
        rw [hd_v_app]
        have hz : hd_v (List.replicate (38 - ds.length) (0 : Int)) = 0 := hd_v_zero fun d hd => List.eq_of_mem_replicate hd
        rw [hz, Int.mul_zero, Int.add_zero]
        have hj : ds[ds.length - 1]? = some (ds[ds.length - 1]'(by omega)) := List.getElem?_eq_getElem (by omega)
        have hl : ds.getLast? = some (ds[ds.length - 1]'(by omega)) := by rw [List.getLast?_eq_getElem?, hj]
        have := hd_v_at e1 hj (fun z => by
          refine htop (.int 0) ?_ rfl
          unfold hd_r
          rw [List.getLast?_map, hl, z]
          rfl)
        have h9 : (0 : Int) < 10 ^ (ds.length - 1) := Int.pow_pos (by decide)
        omega
      have hdd : hd_d (ds ++ List.replicate (38 - ds.length) 0) := e1.app fun d hd => by rw [List.eq_of_mem_replicate hd]; decide
      have hll : (ds ++ List.replicate (38 - ds.length) (0 : Int)).length = 38 := by rw [List.length_append, List.length_replicate]; omega
      have hlt := hd_v_lt hdd
      rw [hll] at hlt
      refine hd_wide_M ge 950 (by decide) (by decide) (by decide) (by omega) a2 c2 (by omega) (by omega) ?_
      have hp0 : ck_Hp (G, li_X, gT, K, h, [(ds.length : Int)], s, [], []) [(ds.length : Int)] s h := ⟨hH, ck_Kp.rf, Nat.le_refl _, ⟨[], (List.append_nil _).symm⟩, [], (List.append_nil s).symm⟩
      have hp := ck_Hp.make hp0 li_XO li_X0 (t := 950) (vs := hd_r (ds ++ List.replicate (38 - ds.length) 0)) (by decide) (fun g' => hd_cey hdd (lo := 0) (hi := 90) (by omega) (by omega) rfl)
      have hq : (s ++ [1000 + h.length])[2]? = some (1000 + h.length) := by
        have hn : s.length = 2 := hn
        rw [List.getElem?_append_right (by omega), hn]
        rfl
      obtain ⟨t3, t4⟩ := hd_to hdd
      refine ⟨hp.1, hp.2.1, hp.2.2.1, [hd_v (ds ++ List.replicate (38 - ds.length) 0)], [1000 + h.length], li_in hpos (by omega) li_in0, (fun c hc => nomatch hc), List.forall_mem_cons.mpr ⟨?_, List.forall_mem_cons.mpr ⟨?_, List.forall_mem_cons.mpr ⟨?_, List.forall_mem_nil _⟩⟩⟩, rfl, ⟨⟨_, hq, rfl⟩, trivial⟩⟩
      · exact ⟨_, _, hq, hd_new, by rw [hd_r_len, hll]; exact ck_Lv.k _ 38⟩
      · exact ⟨_, hq, Nat.le_refl _⟩
      · exact ⟨_, _, _, hq, hd_new, ck_Lv.x rfl, t3, t4.symm⟩
def hd_initP (ts : Nat) (mx : Int) : ck_KK := (([(0, 1), (0, mx)], [], [(2, 0, 0, 17, (0, 0, (2, []))), (2, 1, 0, ts, (0, 0, (0, [(1, 1)])))], 2, [(3, 0, (0, [])), (1, 0, (0, [(1, 0)])), (3, 1, (0, []))]), ((1, []), (0, [(1, 1)])), [], [17], ([], [], [(2, 0, 0, 1017, (0, 0, (2, [])))], 0, []), [])
def hd_initQ (ts : Nat) (mx : Int) : ck_KK := (([(0, 1), (0, mx)], [], [(2, 0, 0, 17, (0, 0, (2, []))), (2, 1, 0, ts, (0, 0, (0, [(1, 1)])))], 2, [(3, 0, (0, [])), (1, 0, (0, [(1, 0)])), (3, 1, (0, []))]), ((1, []), (0, [(1, 1)])), [], [17], ([], [], [(2, 0, 0, 1117, (0, 0, (2, [])))], 0, []), [])
def hd_initR (ts : Nat) (mx : Int) : ck_KK := (([(0, 1), (0, mx)], [], [(2, 0, 0, 17, (0, 0, (2, []))), (2, 1, 0, ts, (0, 0, (0, [(1, 1)])))], 2, [(3, 0, (0, [])), (1, 0, (0, [(1, 0)])), (3, 1, (0, []))]), ((1, []), (0, [(1, 1)])), [], [17], ([(0, 1), (0, mx)], [(0, [(1, 1), ((-1), 3)])], [(2, 0, 0, 217, (0, 0, (2, []))), (3, 0, 0, 217, (1, 0, (0, [(1, 2)]))), (3, 0, 1, 217, (3, 2, (0, []))), (2, 2, 0, 450, (0, 0, (0, [(1, 3)]))), (5, 2, 0, 0, (0, 0, (0, []))), (6, 2, 9, 450, (0, 0, (0, [])))], 1, []), [])
theorem hd_pl_last {ds : List Int} {n : Nat} (h : hd_pl ds n) (d : Int) (e : (ds.take n).getLast? = some d) : d ≠ 0 := by
  by_cases hn : n = 0
  · subst hn; rw [List.take_zero] at e; cases e
  · obtain ⟨d', h1, h2⟩ := h.2.2 (by omega)
    rw [List.getLast?_eq_getElem?, List.length_take, Nat.min_eq_left h.1, List.getElem?_take_of_lt (by omega), h1] at e
    cases e
    exact h2
/-- the walk, at what a contract gives -/
theorem hd_init_core {l : Launch} {G : am_G} (g : gE l G li_X) {ts : Nat} {mx lo hi : Int} (hk : ck_lk gT ts = some (1, lo, hi, [(1, 0, 0, 9)])) (hts : ts % 100 = 50) (hmx : mx ≤ 90) (t0' tn : Nat) (h0' : t0' % 100 = 17) (h2 : tn % 100 = 50)
    {K : Int32} {r : List Int} {s : List Nat} {a : List Value} {h : List am_C} (hH : ck_HT li_X gT K (am_g G h)) (hV : ck_In [(0, 1), (0, mx)] r) (hF0 : ck_fa (am_g G h) 0 r s (2, 0, 0, 17, (0, 0, (2, [])))) (hF1 : ck_fa (am_g G h) 0 r s (2, 1, 0, ts, (0, 0, (0, [(1, 1)])))) (hS : ck_stk r s [(3, 0, (0, [])), (1, 0, (0, [(1, 0)])), (3, 1, (0, []))] a) {mc ms : Nat} (hmc : (mc : Int) = 1) (hms : ck_Lv r (0, [(1, 1)]) (ms : Int)) {Post : am_O → List am_C → Prop}
    (hP : ∀ (q0 : Nat) (vs : List Value) (ds : List Int) (n : Nat) (v : Int), s[0]? = some q0 → 1000 ≤ q0 → am_g G h q0 = some (17, vs) → vs.length = 2 → hd_d ds → hd_pl ds n → (ds.length : Int) ≤ mx → r[1]? = some (ds.length : Int) → 0 ≤ v → v ≤ 1 → Post (.inl none) (am_s (h ++ [(tn, hd_r (ds.take n))]) q0 (t0', [.int (Int32.ofInt v), .ref (1000 + h.length)]))) :
    am_M l G yX12_init (.code yX12_init prog_15_method_1_code 5 none) 1 20 mc ms a h Post := by
  obtain ⟨q0, vs, a1, a2, a3⟩ := hF0
  obtain ⟨qd, wd, c1, c2, c3⟩ := hF1
  have a1 : s[0]? = some q0 := a1
  have a2 : am_g G h q0 = some (17, vs) := a2
  have c1 : s[1]? = some qd := c1
  have c2 : am_g G h qd = some (ts, wd) := c2
  have hl2 := li_k a3
  obtain ⟨d1, d2, d3⟩ := hd_rdy hH c2 hk
  obtain ⟨ds, rfl, e1, e2⟩ := hd_of d1
  rw [hd_r_len] at d3 c3
  have c3 := ck_lv1 c3
  have hms := ck_lv1 hms
  rw [c3] at hms
  have hms : (ds.length : Int) = ms := Option.some.inj hms
  have hq : 1000 ≤ q0 := (hH.2 _ _ _ a2).2.2 rfl
  have hdm : (ds.length : Int) ≤ mx := (hV.2 1 0 mx _ rfl c3).2
  match a, hS with
  | [w1, w2, w3], ⟨⟨p1, f1, f2⟩, ⟨x2, f3, f4⟩, ⟨p3, f5, f6⟩, _⟩ =>
    subst f2 f3 f6
    have f1 : s[0]? = some p1 := f1
    have f5 : s[1]? = some p3 := f5
    rw [a1] at f1; cases f1
    rw [c1] at f5; cases f5
    have f4 := ck_lv1 f4
    obtain ⟨i1, i2⟩ := hV.2 0 0 1 _ rfl f4
    rw [← Int32.ofInt_toInt x2]
    have hl2 : vs.length = 2 := by omega
    match vs, hl2 with
    | [u0, u1], _ =>
      exact hd_init_M g t0' tn hq ⟨i1, i2⟩ (by decide) h0' hts h2 (by omega) e1 a2 c2 (by omega) (by omega) fun n v hn hv1 hv2 => hP q0 _ ds n v a1 hq a2 rfl e1 hn hdm c3 hv1 hv2
theorem hd_initP_con {l : Launch} {G : am_G} {X : ck_XT} (g : gM l G X) {ts : Nat} {mx lo hi : Int} (hk : ck_lk gT ts = some (1, lo, hi, [(1, 0, 0, 9)])) (hts : ts % 100 = 50) (hmx : mx ≤ 36) : ck_Con (am_cm l G yX12_init (.code yX12_init prog_15_method_1_code 5 none) 1 20) G X gT (hd_initP ts mx) := by
  obtain ⟨ge, rfl, -⟩ := g
  intro K r s a h hH hV hC hF hn hS mc ms hmc hms
  refine hd_init_core ge hk hts (by omega) 1017 42150 (by decide) (by decide) hH hV (hF _ (by unfold hd_initP; simp)) (hF _ (by unfold hd_initP; simp)) hS (li_k hmc) hms fun q0 vs ds n v a1 hq a2 hvs hd hp hl hr1 hv1 hv2 => ?_
  have hp0 : ck_Hp (G, li_X, gT, K, h, r, s, [], [(q0, 17)]) r s h := ⟨hH, ck_Kp.rf, Nat.le_refl _, ⟨[], (List.append_nil r).symm⟩, [], (List.append_nil s).symm⟩
  have hlt : (ds.take n).length ≤ ds.length := by rw [List.length_take]; omega
  have hp1 := hd_pub hp0 rfl rfl (t := 42150) (mx := 36) (Or.inl ⟨rfl, rfl⟩) (hd.take n) (by omega) (hd_pl_last hp)
  have hp2 := ck_Hp.put hp1 li_XO li_X0 (q := q0) (t := 17) (t' := 1017) (vs := vs) (vs' := [.int (Int32.ofInt v), .ref (1000 + h.length)]) (hd_old a2) hq (by decide) (by decide) (by rw [hvs]; rfl) (Or.inr (by decide)) (fun g' hx d hd9 => by
      have hlk : ck_lk gT 1017 = some (0, 2, 2, [(1, 0, 0, 1), (3, 42150, 0, 0)]) := rfl
      have hd9 : ck_lk gT 1017 = some d := hd9
      rw [hlk] at hd9
      cases hd9
      refine ⟨⟨(by decide : (2 : Int) ≤ ((2 : Nat) : Int)), (by decide : ((2 : Nat) : Int) ≤ 2)⟩, fun j u hu => ?_⟩
      match j, hu with
      | 0, hu => cases hu; exact ⟨_, rfl, _, rfl, by rw [hd_oi (by omega) (by omega)]; exact hv1, by rw [hd_oi (by omega) (by omega)]; exact hv2⟩
      | 1, hu =>
        cases hu
        obtain ⟨w9, x1, -⟩ := hx _ _ _ hd_new (by decide)
        exact ⟨_, rfl, by decide, _, _, rfl, x1⟩
      | j + 2, hu => cases hu) (Or.inr (Or.inr List.mem_cons_self))
  obtain ⟨u9, hs9⟩ : ∃ b, s = [q0, b] := by
    match s, hn, a1 with
    | [a, b], _, a1 => cases a1; exact ⟨b, rfl⟩
  subst hs9
  refine ⟨hp2.1, hp2.2.1, hp2.2.2.1, [], [], li_in0, (fun c hc => nomatch hc), List.forall_mem_cons.mpr ⟨?_, List.forall_mem_nil _⟩, rfl, trivial⟩
  exact ⟨q0, _, rfl, by rw [am_g_s hq (by rw [List.length_append]; have := am_g_lt hq a2; omega), if_pos rfl], ck_Lv.k _ 2⟩
theorem hd_initQ_con {l : Launch} {G : am_G} {X : ck_XT} (g : gM l G X) {ts : Nat} {mx lo hi : Int} (hk : ck_lk gT ts = some (1, lo, hi, [(1, 0, 0, 9)])) (hts : ts % 100 = 50) (hmx : mx ≤ 80) : ck_Con (am_cm l G yX12_init (.code yX12_init prog_15_method_1_code 5 none) 1 20) G X gT (hd_initQ ts mx) := by
  obtain ⟨ge, rfl, -⟩ := g
  intro K r s a h hH hV hC hF hn hS mc ms hmc hms
  refine hd_init_core ge hk hts (by omega) 1117 42350 (by decide) (by decide) hH hV (hF _ (by unfold hd_initQ; simp)) (hF _ (by unfold hd_initQ; simp)) hS (li_k hmc) hms fun q0 vs ds n v a1 hq a2 hvs hd hp hl hr1 hv1 hv2 => ?_
  have hp0 : ck_Hp (G, li_X, gT, K, h, r, s, [], [(q0, 17)]) r s h := ⟨hH, ck_Kp.rf, Nat.le_refl _, ⟨[], (List.append_nil r).symm⟩, [], (List.append_nil s).symm⟩
  have hlt : (ds.take n).length ≤ ds.length := by rw [List.length_take]; omega
  have hp1 := hd_pub hp0 rfl rfl (t := 42350) (mx := 80) (Or.inr ⟨rfl, rfl⟩) (hd.take n) (by omega) (hd_pl_last hp)
  have hp2 := ck_Hp.put hp1 li_XO li_X0 (q := q0) (t := 17) (t' := 1117) (vs := vs) (vs' := [.int (Int32.ofInt v), .ref (1000 + h.length)]) (hd_old a2) hq (by decide) (by decide) (by rw [hvs]; rfl) (Or.inr (by decide)) (fun g' hx d hd9 => by
      have hlk : ck_lk gT 1117 = some (0, 2, 2, [(1, 0, 0, 1), (3, 42350, 0, 0)]) := rfl
      have hd9 : ck_lk gT 1117 = some d := hd9
      rw [hlk] at hd9
      cases hd9
      refine ⟨⟨(by decide : (2 : Int) ≤ ((2 : Nat) : Int)), (by decide : ((2 : Nat) : Int) ≤ 2)⟩, fun j u hu => ?_⟩
      match j, hu with
      | 0, hu => cases hu; exact ⟨_, rfl, _, rfl, by rw [hd_oi (by omega) (by omega)]; exact hv1, by rw [hd_oi (by omega) (by omega)]; exact hv2⟩
      | 1, hu =>
        cases hu
        obtain ⟨w9, x1, -⟩ := hx _ _ _ hd_new (by decide)
        exact ⟨_, rfl, by decide, _, _, rfl, x1⟩
      | j + 2, hu => cases hu) (Or.inr (Or.inr List.mem_cons_self))
  obtain ⟨u9, hs9⟩ : ∃ b, s = [q0, b] := by
    match s, hn, a1 with
    | [a, b], _, a1 => cases a1; exact ⟨b, rfl⟩
  subst hs9
  refine ⟨hp2.1, hp2.2.1, hp2.2.2.1, [], [], li_in0, (fun c hc => nomatch hc), List.forall_mem_cons.mpr ⟨?_, List.forall_mem_nil _⟩, rfl, trivial⟩
  exact ⟨q0, _, rfl, by rw [am_g_s hq (by rw [List.length_append]; have := am_g_lt hq a2; omega), if_pos rfl], ck_Lv.k _ 2⟩
theorem hd_initR_con {l : Launch} {G : am_G} {X : ck_XT} (g : gM l G X) {ts : Nat} {mx lo hi : Int} (hk : ck_lk gT ts = some (1, lo, hi, [(1, 0, 0, 9)])) (hts : ts % 100 = 50) (hmx : mx ≤ 90) : ck_Con (am_cm l G yX12_init (.code yX12_init prog_15_method_1_code 5 none) 1 20) G X gT (hd_initR ts mx) := by
  obtain ⟨ge, rfl, -⟩ := g
  intro K r s a h hH hV hC hF hn hS mc ms hmc hms
  refine hd_init_core ge hk hts hmx 217 450 (by decide) (by decide) hH hV (hF _ (by unfold hd_initR; simp)) (hF _ (by unfold hd_initR; simp)) hS (li_k hmc) hms fun q0 vs ds n v a1 hq a2 hvs hd hp hl hr1 hv1 hv2 => ?_
  have hp0 : ck_Hp (G, li_X, gT, K, h, r, s, [], [(q0, 17)]) r s h := ⟨hH, ck_Kp.rf, Nat.le_refl _, ⟨[], (List.append_nil r).symm⟩, [], (List.append_nil s).symm⟩
  have hnl := hp.1
  have hlt : (ds.take n).length = n := by rw [List.length_take]; omega
  have hp1 := ck_Hp.make hp0 li_XO li_X0 (t := 450) (vs := hd_r (ds.take n)) (by decide) (fun g' => hd_cey (hd.take n) (lo := 0) (hi := 90) (by omega) (by omega) rfl)
  have hp2 := ck_Hp.put hp1 li_XO li_X0 (q := q0) (t := 17) (t' := 217) (vs := vs) (vs' := [.int (Int32.ofInt v), .ref (1000 + h.length)]) (hd_old a2) hq (by decide) (by decide) (by rw [hvs]; rfl) (Or.inr (by decide)) (fun g' hx d hd9 => by
      have hlk : ck_lk gT 217 = none := rfl
      have hd9 : ck_lk gT 217 = some d := hd9
      rw [hlk] at hd9
      cases hd9) (Or.inr (Or.inr List.mem_cons_self))
  obtain ⟨u9, hs9⟩ : ∃ b, s = [q0, b] := by
    match s, hn, a1 with
    | [a, b], _, a1 => cases a1; exact ⟨b, rfl⟩
  subst hs9
  obtain ⟨n0, n1, hr9⟩ : ∃ a b, r = [a, b] := by
    match r, hV.1 with
    | [a, b], _ => exact ⟨a, b, rfl⟩
  subst hr9
  cases hr1
  have hc0 : am_g G (am_s (h ++ [(450, hd_r (ds.take n))]) q0 (217, [.int (Int32.ofInt v), .ref (1000 + h.length)])) q0 = some (217, [.int (Int32.ofInt v), .ref (1000 + h.length)]) := by rw [am_g_s hq (by rw [List.length_append]; have := am_g_lt hq a2; omega), if_pos rfl]
  have hc1 : am_g G (am_s (h ++ [(450, hd_r (ds.take n))]) q0 (217, [.int (Int32.ofInt v), .ref (1000 + h.length)])) (1000 + h.length) = some (450, hd_r (ds.take n)) := by rw [am_g_s hq (by rw [List.length_append]; have := am_g_lt hq a2; omega), if_neg (fun z => hd_neq a2 z.symm), hd_new]
  refine ⟨hp2.1, hp2.2.1, hp2.2.2.1, [v, (n : Int)], [1000 + h.length], li_in hv1 hv2 (li_in (by omega) (by omega) li_in0), List.forall_mem_cons.mpr ⟨?_, List.forall_mem_nil _⟩, List.forall_mem_cons.mpr ⟨?_, List.forall_mem_cons.mpr ⟨?_, List.forall_mem_cons.mpr ⟨?_, List.forall_mem_cons.mpr ⟨?_, List.forall_mem_cons.mpr ⟨?_, List.forall_mem_cons.mpr ⟨?_, List.forall_mem_nil _⟩⟩⟩⟩⟩⟩, rfl, trivial⟩
  · refine ⟨(ds.length : Int) - (n : Int), ⟨fun t ht => ?_, ?_⟩, by omega⟩
    · simp at ht
      rcases ht with rfl | rfl <;> exact Nat.le_of_ble_eq_true rfl
    · show _ = (0 : Int) + (1 * (ds.length : Int) + (-1 * (n : Int) + 0))
      omega
  · exact ⟨q0, _, rfl, hc0, ck_Lv.k _ 2⟩
  · exact ⟨q0, _, _, rfl, hc0, rfl, _, rfl, by rw [hd_oi (by omega) (by omega)]; exact ck_Lv.x rfl⟩
  · exact ⟨q0, _, _, rfl, hc0, rfl, _, rfl, rfl⟩
  · exact ⟨_, _, rfl, hc1, by rw [hd_r_len, hlt]; exact ck_Lv.x rfl⟩
  · exact ⟨_, rfl, Nat.le_refl _⟩
  · refine ⟨_, _, 0, rfl, hc1, ck_Lv.k _ 0, fun u hu => ?_⟩
    unfold hd_r at hu
    rw [List.getLast?_map] at hu
    cases hg : (ds.take n).getLast? with
    | none => rw [hg] at hu; cases hu
    | some d =>
      rw [hg] at hu
      cases hu
      intro z9
      have hdd := hd.take n d (List.mem_of_getLast? hg)
      have z9 : Int32.ofInt d = 0 := by injection z9
      have := hd_oi (z := d) (by omega) (by omega)
      rw [z9, Int32.toInt_zero] at this
      exact hd_pl_last hp d hg this.symm
