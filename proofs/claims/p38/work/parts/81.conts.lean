/-! CONTRACTS OF WHAT IS WALKED BY HAND -/
def hd_lessK (t1 t2 : Nat) : ck_KK := (([(0, 99999999999999999999999999999999999999), (0, 99999999999999999999999999999999999999)], [], [(2, 0, 0, t1, (0, 0, (38, []))), (6, 0, 1, t1, (0, 0, (0, [(1, 0)]))), (2, 1, 0, t2, (0, 0, (38, []))), (6, 1, 1, t2, (0, 0, (0, [(1, 1)])))], 2, [(3, 0, (0, [])), (3, 1, (0, [])), (1, 0, (0, []))]), ((0, []), (0, [])), [], [], ([(0, 1)], [(99999999999999999999999999999999999999, [((-1), 0), (1, 1), ((-100000000000000000000000000000000000000), 2)]), (0, [(1, 0), ((-1), 1), (100000000000000000000000000000000000000, 2)])], [], 0, [(1, 0, (0, [(1, 2)]))]), [])
def hd_chgK (t1 t2 : Nat) : ck_KK := (([(0, 99999999999999999999999999999999999999), (0, 99999999999999999999999999999999999999)], [(0, [(1, 0), ((-1), 1)])], [(2, 0, 0, t1, (0, 0, (38, []))), (6, 0, 1, t1, (0, 0, (0, [(1, 0)]))), (2, 1, 0, t2, (0, 0, (38, []))), (6, 1, 1, t2, (0, 0, (0, [(1, 1)])))], 2, [(3, 0, (0, [])), (3, 1, (0, [])), (1, 0, (0, [])), (1, 0, ((-1), []))]), ((0, []), (0, [])), [(t1, 1000)], [], ([], [], [(6, 0, 1, t1, (0, 0, (0, [(1, 0), ((-1), 1)])))], 0, []), [])
def hd_digK (t : Nat) : ck_KK := (([], [], [(2, 0, 0, t, (0, 0, (38, [])))], 1, [(3, 0, (0, []))]), ((0, []), (0, [])), [], [], ([(0, 99999999999999999999999999999999999999)], [], [(6, 0, 1, t, (0, 0, (0, [(1, 0)])))], 0, []), [])
def hd_wideK : ck_KK := (([(1, 36)], [], [(2, 0, 0, 1017, (0, 0, (2, []))), (3, 0, 1, 1017, (3, 1, (0, []))), (2, 1, 0, 42150, (0, 0, (0, [(1, 0)])))], 2, [(3, 0, (0, []))]), ((1, []), (38, [])), [], [], ([(1, 99999999999999999999999999999999999999)], [], [(2, 2, 0, 950, (0, 0, (38, []))), (5, 2, 0, 0, (0, 0, (0, []))), (6, 2, 1, 950, (0, 0, (0, [(1, 1)])))], 1, [(3, 2, (0, []))]), [])
theorem hd_row {G : am_G} {h : List am_C} {r : List Int} {s : List Nat} {i n t : Nat} (h2 : ck_fa (am_g G h) 0 r s (2, i, 0, t, (0, 0, (38, [])))) (h6 : ck_fa (am_g G h) 0 r s (6, i, 1, t, (0, 0, (0, [(1, n)])))) : ∃ (q : Nat) (ds : List Int), s[i]? = some q ∧ am_g G h q = some (t, hd_r ds) ∧ hd_d ds ∧ ds.length = 38 ∧ r[n]? = some (hd_v ds) := by
  obtain ⟨q, vs, a1, a2, a3⟩ := h2
  obtain ⟨q', vs', x1, b1, b2, b3, b4, b5⟩ := h6
  have a1 : s[i]? = some q := a1
  have b1 : s[i]? = some q' := b1
  rw [a1] at b1
  cases b1
  have a2 : am_g G h q = some (t, vs) := a2
  have b2 : am_g G h q = some (t, vs') := b2
  rw [a2] at b2
  cases b2
  obtain ⟨ds, rfl, c1, c2⟩ := hd_of b4
  have a3 := li_k a3
  rw [hd_r_len] at a3
  have b3 := ck_lv1 b3
  rw [b5, c2] at b3
  exact ⟨q, ds, a1, a2, c1, by omega, b3⟩
theorem hd_z {r : List Int} {c : Int} {x : Int32} (h : ck_Lv r (c, []) x.toInt) : x = Int32.ofInt c := by rw [← li_k h, Int32.ofInt_toInt]
theorem hd_less_con {l : Launch} {G : am_G} {X : ck_XT} (g : gE l G X) {t1 t2 : Nat} (h1 : t1 % 100 = 50) (h2 : t2 % 100 = 50) : ck_Con (am_cm l G yX12_isLess (.code yX12_isLess prog_15_method_14_code 5 (some .boolean)) 1 20) G X gT (hd_lessK t1 t2) := by
  intro K r s a h hH hV hC hF hn hS mc ms hmc hms
  obtain ⟨q1, ds, a1, a2, a3, a4, a5⟩ := hd_row (i := 0) (n := 0) (t := t1) (hF _ (by unfold hd_lessK; simp)) (hF _ (by unfold hd_lessK; simp))
  obtain ⟨q2, os, b1, b2, b3, b4, b5⟩ := hd_row (i := 1) (n := 1) (t := t2) (hF _ (by unfold hd_lessK; simp)) (hF _ (by unfold hd_lessK; simp))
  match a, hS with
  | [w1, w2, w3], ⟨⟨p1, c1, c2⟩, ⟨p2, c3, c4⟩, ⟨x3, c5, c6⟩, _⟩ =>
    subst c2 c4 c5
    have c1 : s[0]? = some p1 := c1
    have c3 : s[1]? = some p2 := c3
    rw [a1] at c1; rw [b1] at c3
    cases c1; cases c3
    rw [hd_z c6]
    have hr : r.length = 2 := hV.1.symm
    have e1 : (os.take (38 - 0)) = os := List.take_of_length_le (by omega)
    have gv1 := hd_v_nn a3
    have gv2 := hd_v_lt a3
    have gv3 := hd_v_nn b3
    have gv4 := hd_v_lt b3
    rw [a4] at gv2; rw [b4] at gv4
    have ev : ∀ b : Int, (r ++ [b])[0]? = some (hd_v ds) ∧ (r ++ [b])[1]? = some (hd_v os) ∧ (r ++ [b])[2]? = some b := fun b => ⟨ck_get_app a5, ck_get_app b5, by rw [List.getElem?_append_right (by omega), hr]; rfl⟩
    have fin : ∀ b : Int, 0 ≤ b → b ≤ 1 → (b = 1 → hd_v ds < hd_v os) → (b = 0 → ¬ hd_v ds < hd_v os) → ck_Po G X gT K (hd_lessK t1 t2) r s h (.inl (some (.int (Int32.ofInt b)))) h := by
      intro b hb0 hb1 hx hy
      obtain ⟨v0, v1, v2⟩ := ev b
      refine ⟨hH, ck_Kp.rf, Nat.le_refl _, [b], [], li_in hb0 hb1 li_in0, List.forall_mem_cons.mpr ⟨?_, List.forall_mem_cons.mpr ⟨?_, List.forall_mem_nil _⟩⟩, List.forall_mem_nil _, rfl, ⟨⟨_, rfl, by rw [hd_oi (by omega) (by omega)]; exact ck_Lv.x v2⟩, trivial⟩⟩
      · refine ⟨10 ^ 38 - 1 - hd_v ds + hd_v os - 10 ^ 38 * b, ⟨fun t ht => ?_, ?_⟩, ?_⟩
        · simp at ht
          rw [List.length_append, hr]
          rcases ht with rfl | rfl | rfl <;> exact Nat.le_of_ble_eq_true rfl
        · show _ = (_ : Int) + (-1 * (r ++ [b]).getD 0 0 + (1 * (r ++ [b]).getD 1 0 + (-100000000000000000000000000000000000000 * (r ++ [b]).getD 2 0 + 0)))
          rw [ck_lvk v0, ck_lvk v1, ck_lvk v2]
          omega
        · rcases (by omega : b = 0 ∨ b = 1) with rfl | rfl
          · have := hy rfl; omega
          · have := hx rfl; omega
      · refine ⟨hd_v ds - hd_v os + 10 ^ 38 * b, ⟨fun t ht => ?_, ?_⟩, ?_⟩
        · simp at ht
          rw [List.length_append, hr]
          rcases ht with rfl | rfl | rfl <;> exact Nat.le_of_ble_eq_true rfl
        · show _ = (0 : Int) + (1 * (r ++ [b]).getD 0 0 + (-1 * (r ++ [b]).getD 1 0 + (100000000000000000000000000000000000000 * (r ++ [b]).getD 2 0 + 0)))
          rw [ck_lvk v0, ck_lvk v1, ck_lvk v2]
          omega
        · rcases (by omega : b = 0 ∨ b = 1) with rfl | rfl
          · have := hy rfl; omega
          · have := hx rfl; omega
    refine hd_less_M g (z := 0) h1 h2 a4 b4 a3 b3 (by decide) a2 b2 (fun z => fin 1 (by decide) (by decide) (fun _ => ?_) (fun y => absurd y (by decide))) (fun z => fin 0 (by decide) (by decide) (fun y => absurd y (by decide)) (fun _ => ?_))
    · rw [List.drop_zero, e1] at z; exact z
    · rw [List.drop_zero, e1] at z; exact z
def hd_Tg (t : Nat) : Prop := t = 450 ∨ t = 750 ∨ t = 850 ∨ t = 950
theorem hd_Tg.lk {t : Nat} (h : hd_Tg t) : ck_lk gT t = some (1, 0, 90, [(1, 0, 0, 9)]) ∧ t % 100 = 50 ∧ t < 1000 := by
  rcases h with rfl | rfl | rfl | rfl <;> exact ⟨rfl, rfl, by decide⟩
theorem hd_cey {K : Int32} {g : ck_g} {ds : List Int} (hd : hd_d ds) {lo hi : Int} (h1 : lo ≤ (ds.length : Int)) (h2 : (ds.length : Int) ≤ hi) {t : Nat} (hk : ck_lk gT t = some (1, lo, hi, [(1, 0, 0, 9)])) : ck_ce gT K g t (hd_r ds) := by
  intro d hd9
  rw [hk] at hd9
  cases hd9
  refine ⟨⟨by rw [hd_r_len]; exact h1, by rw [hd_r_len]; exact h2⟩, fun j v hv => ⟨(1, 0, 0, 9), rfl, ?_⟩⟩
  obtain ⟨x, e1, e2, e3⟩ := (hd_to hd).1 j v hv
  exact ⟨x, e1, e2, e3⟩
theorem hd_rdy {X : ck_XT} {K : Int32} {g : ck_g} (hH : ck_HT X gT K g) {q t : Nat} {vs : List Value} (hg : g q = some (t, vs)) {lo hi : Int} (hk : ck_lk gT t = some (1, lo, hi, [(1, 0, 0, 9)])) : ck_dig vs ∧ lo ≤ (vs.length : Int) ∧ (vs.length : Int) ≤ hi := by
  obtain ⟨h1, h2⟩ := (hH.2 q t vs hg).1 _ hk
  refine ⟨fun j v hv => ?_, h1.1, h1.2⟩
  obtain ⟨y, y1, y2⟩ := h2 j v hv
  cases y1
  obtain ⟨x, e1, e2, e3⟩ := y2
  exact ⟨x, e1, e2, e3⟩
theorem hd_change_con {l : Launch} {G : am_G} {X : ck_XT} (g : gE l G X) {t1 t2 : Nat} (h1 : hd_Tg t1) (h2 : t2 % 100 = 50) (h12 : t1 ≠ t2) : ck_Con (am_cm l G yX12_change (.code yX12_change prog_15_method_15_code 7 none) 1 20) G X gT (hd_chgK t1 t2) := by
  intro K r s a h hH hV hC hF hn hS mc ms hmc hms
  obtain ⟨k1, k2, k3⟩ := h1.lk
  obtain ⟨q1, ds, a1, a2, a3, a4, a5⟩ := hd_row (i := 0) (n := 0) (t := t1) (hF _ (by unfold hd_chgK; simp)) (hF _ (by unfold hd_chgK; simp))
  obtain ⟨q2, os, b1, b2, b3, b4, b5⟩ := hd_row (i := 1) (n := 1) (t := t2) (hF _ (by unfold hd_chgK; simp)) (hF _ (by unfold hd_chgK; simp))
  have hq : 1000 ≤ q1 := (hH.2 _ _ _ a2).2.2 (by unfold ck_wr; rw [k1]; rfl)
  have hne : q2 ≠ q1 := by rintro rfl; rw [a2] at b2; exact h12 (Prod.mk.inj (Option.some.inj b2)).1
  match a, hS with
  | [w1, w2, w3, w4], ⟨⟨p1, c1, c2⟩, ⟨p2, c3, c4⟩, ⟨x3, c5, c6⟩, ⟨x4, c7, c8⟩, _⟩ =>
    subst c2 c4 c5 c7
    have c1 : s[0]? = some p1 := c1
    have c3 : s[1]? = some p2 := c3
    rw [a1] at c1; rw [b1] at c3
    cases c1; cases c3
    rw [hd_z c6, hd_z c8]
    have hr : r.length = 2 := hV.1.symm
    have e1 : os.take ds.length = os := List.take_of_length_le (by omega)
    obtain ⟨x9, f1, f2⟩ := hC (0, [(1, 0), (-1, 1)]) (by unfold hd_chgK; simp)
    have f3 : x9 = (0 : Int) + (1 * r.getD 0 0 + (-1 * r.getD 1 0 + 0)) := f1.2
    rw [ck_lvk a5, ck_lvk b5] at f3
    have hsub := hd_chg_sub a3 b3 (by rw [e1]; omega)
    rw [e1] at hsub
    obtain ⟨d1, d2, -⟩ := hd_chg_ok (by_ := -1) (o := 0) a3 b3 (Or.inr ⟨rfl, by decide, by decide⟩)
    refine hd_change_M g (z := 0) hq hne k2 h2 a4 b4 a3 b3 (by decide) (Or.inr rfl) a2 b2 fun h' hh => ?_
    have e2 : hd_chgR (-1) 0 ds os = hd_chg (-1) 0 ds os := rfl
    rw [e2] at hh
    rw [hh.eq hq a2]
    have hp0 : ck_Hp (G, X, gT, K, h, r, s, [(t1, 1000)], []) r s h := ⟨hH, ck_Kp.rf, Nat.le_refl _, ⟨[], (List.append_nil r).symm⟩, [], (List.append_nil s).symm⟩
    have hp := ck_Hp.put hp0 g.2.1 g.2.2.1 (q := q1) (t := t1) (t' := t1) (vs := hd_r ds) (vs' := hd_r (hd_chg (-1) 0 ds os)) a2 hq (by omega) (by omega) (by rw [hd_r_len, hd_r_len, d2]) (Or.inl rfl) (fun g' _ => hd_cey d1 (by omega) (by omega) k1) (Or.inl ⟨rfl, fun j hj => by simp [ck_inM] at hj⟩)
    refine ⟨hp.1, hp.2.1, hp.2.2.1, [], [], li_in0, (fun c hc => nomatch hc), List.forall_mem_cons.mpr ⟨?_, List.forall_mem_nil _⟩, rfl, trivial⟩
    obtain ⟨t3, t4⟩ := hd_to d1
    refine ⟨q1, _, hd_v ds - hd_v os, by rw [List.append_nil]; exact a1, by rw [am_g_s hq (am_g_lt hq a2), if_pos rfl], ⟨fun t ht => ?_, ?_⟩, t3, by rw [t4, hsub]⟩
    · simp at ht
      rw [List.append_nil, hr]
      rcases ht with rfl | rfl <;> exact Nat.le_of_ble_eq_true rfl
    · show _ = (0 : Int) + (1 * (r ++ []).getD 0 0 + (-1 * (r ++ []).getD 1 0 + 0))
      rw [List.append_nil, ck_lvk a5, ck_lvk b5]
      omega
theorem hd_dig_con {G : am_G} {X : ck_XT} {t : Nat} (h1 : hd_Tg t) : ck_Con (ck_lem G) G X gT (hd_digK t) := by
  intro K r s a h hH hV hC hF hn hS mc ms hmc hms
  obtain ⟨k1, k2, k3⟩ := h1.lk
  obtain ⟨q, vs, a1, a2, a3⟩ := hF (2, 0, 0, t, (0, 0, (38, []))) (by unfold hd_digK; simp)
  have a2 : am_g G h q = some (t, vs) := a2
  obtain ⟨b1, -, b2⟩ := hd_rdy hH a2 k1
  obtain ⟨ds, rfl, c1, c2⟩ := hd_of b1
  have a3 := li_k a3
  rw [hd_r_len] at a3
  have gv2 := hd_v_lt c1
  rw [show ds.length = 38 by omega] at gv2
  have hr : r = [] := List.length_eq_zero_iff.mp hV.1.symm
  subst hr
  exact ⟨h, ck_rh.rf _, hH, ck_Kp.rf, Nat.le_refl _, [hd_v ds], [], li_in (hd_v_nn c1) (by omega) li_in0, (fun c hc => nomatch hc), List.forall_mem_cons.mpr ⟨⟨q, _, _, by rw [List.append_nil]; exact a1, a2, ck_Lv.x rfl, b1, c2.symm⟩, List.forall_mem_nil _⟩, rfl, trivial⟩
def li_exp2K (F : li_F) : ck_KK := (([(1, F.2.2.2.2.2)], [], [(2, 0, 0, F.1, (0, 0, (3, []))), (3, 0, 2, F.1, (1, 0, (0, [(1, 0)])))], 1, [(3, 0, (0, []))]), ((0, []), (0, [])), [], [], ([(-2147483648, 2147483647), (10, 24)], [(0, [(-1, 0), (1, 2)])], [(3, 0, 1, F.1, (3, 1, (0, []))), (2, 1, 0, F.2.1, (0, 0, (0, [(1, 2)]))), (6, 1, 4, F.2.1, (0, 0, (0, [(1, 0)])))], 1, []), [])
theorem li_exp2_con {G : am_G} {F : li_F} (hF : F ∈ li_Fs) : ck_Con (ck_lem G) G li_X gT (li_exp2K F) := by
  intro K r s a h hH hV hC hFc hn hS mc ms hmc hms
  obtain ⟨h', hr, k1, k2, k3, q, p, m1, m2, m3, m4, m5⟩ := li_exp_con hF K r s a h hH hV hC hFc hn hS mc ms hmc hms
  exact ⟨h', hr, k1, k2, k3, q, p, m1, m2, fun f hf => m3 f (List.mem_cons_of_mem _ hf), m4, m5⟩
def zr_K : ck_KK := (([(0, 90), (0, 90), (0, 36)], [(0, [((-1), 0), (1, 1), (1, 2)])], [(6, 0, 5, 750, (0, 0, (0, [(1, 0)]))), (3, 1, 1, 1017, (3, 2, (0, []))), (2, 2, 0, 42150, (0, 0, (0, [(1, 2)])))], 3, [(3, 0, (0, [])), (1, 0, (0, [(1, 1)])), (3, 1, (0, []))]), ((0, []), (0, [])), [], [], ([], [], [(6, 0, 5, 750, (0, 0, (0, [(1, 1), (1, 2)])))], 0, []), [])
def z1_K : ck_KK := (([(0, 200)], [], [(6, 0, 5, 750, (0, 0, (0, [(1, 0)])))], 1, [(3, 0, (0, []))]), ((0, []), (0, [])), [], [], ([], [], [(6, 0, 5, 750, (0, 0, (1, [(1, 0)])))], 0, []), [])
def hd_dighK : ck_KK := (([(0, 99999999999999999999999999999999999999)], [], [(6, 0, 1, 850, (0, 0, (0, [(1, 0)])))], 1, [(3, 0, (0, []))]), ((0, []), (0, [])), [], [], ([], [], [], 0, []), [])
theorem zr_con {G : am_G} {X : ck_XT} : ck_Con (ck_lem G) G X gT zr_K := by
  intro K r s a h hH hV hC hF hn hS mc ms hmc hms
  obtain ⟨q, vs, x, a1, a2, a3, a4⟩ := hF (6, 0, 5, 750, (0, 0, (0, [(1, 0)]))) (by unfold zr_K; simp)
  obtain ⟨y, c1, c2⟩ := hC (0, [(-1, 0), (1, 1), (1, 2)]) (by unfold zr_K; simp)
  match r, hV.1 with
  | [x0, x1, x2], _ =>
    have a3 := ck_lv1 a3
    have a3 : some x0 = some x := a3
    have a5 : x0 = x := Option.some.inj a3
    have c3 : y = (0 : Int) + (-1 * x0 + (1 * x1 + (1 * x2 + 0))) := c1.2
    refine ⟨h, ck_rh.rf _, hH, ck_Kp.rf, Nat.le_refl _, [], [], li_in0, (fun c hc => nomatch hc), List.forall_mem_cons.mpr ⟨?_, List.forall_mem_nil _⟩, rfl, trivial⟩
    refine ⟨q, vs, x1 + x2, by rw [List.append_nil]; exact a1, a2, ⟨fun t ht => ?_, ?_⟩, fun k v hk hv => a4 k v (by omega) hv⟩
    · simp at ht
      rcases ht with rfl | rfl <;> exact Nat.le_of_ble_eq_true rfl
    · show _ = (0 : Int) + (1 * x1 + (1 * x2 + 0))
      omega
theorem z1_con {G : am_G} {X : ck_XT} : ck_Con (ck_lem G) G X gT z1_K := by
  intro K r s a h hH hV hC hF hn hS mc ms hmc hms
  obtain ⟨q, vs, x, a1, a2, a3, a4⟩ := hF (6, 0, 5, 750, (0, 0, (0, [(1, 0)]))) (by unfold z1_K; simp)
  match r, hV.1 with
  | [x0], _ =>
    have a3 := ck_lv1 a3
    have a3 : some x0 = some x := a3
    have a5 : x0 = x := Option.some.inj a3
    refine ⟨h, ck_rh.rf _, hH, ck_Kp.rf, Nat.le_refl _, [], [], li_in0, (fun c hc => nomatch hc), List.forall_mem_cons.mpr ⟨?_, List.forall_mem_nil _⟩, rfl, trivial⟩
    refine ⟨q, vs, x0 + 1, by rw [List.append_nil]; exact a1, a2, ⟨fun t ht => ?_, ?_⟩, fun k v hk hv => a4 k v (by omega) hv⟩
    · simp at ht
      rcases ht with rfl
      exact Nat.le_of_ble_eq_true rfl
    · show _ = (1 : Int) + (1 * x0 + 0)
      omega
theorem hd_digh_con {G : am_G} {X : ck_XT} : ck_Con (ck_lem G) G X gT hd_dighK := by
  intro K r s a h hH hV hC hF hn hS mc ms hmc hms
  exact ⟨h, ck_rh.rf _, hH, ck_Kp.rf, Nat.le_refl _, [], [], li_in0, (fun c hc => nomatch hc), List.forall_mem_nil _, rfl, trivial⟩
