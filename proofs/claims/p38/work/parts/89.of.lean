/-! NUM.OF -/
section HDO
variable {L : List (Option Value)} {st : List Value} {x v : Int} {a : Nat}
theorem hd_neg : ck_cf 17 0 v L (.int (Int32.ofInt x) :: st) = some (L, .int (Int32.ofInt (-x)) :: st) := by rw [Int32.ofInt_neg]; rfl
theorem hd_tr (x : Int) : -9 ≤ x.tmod 10 ∧ x.tmod 10 ≤ 9 := by
  have h1 := Int.tmod_lt_of_pos x (show (0 : Int) < 10 by decide)
  have h2 := Int.lt_tmod_of_pos x (show (0 : Int) < 10 by decide)
  omega
theorem hd_td (x : Int) : -(x.natAbs : Int) ≤ x.tdiv 10 ∧ x.tdiv 10 ≤ (x.natAbs : Int) := by
  have := ck_tdiv_le (a := x) (b := 10) (by decide)
  exact ⟨this.1, this.2.1⟩
theorem hd_ldT (h1 : -4000000000000000000 ≤ x) (h2 : x ≤ 4000000000000000000) : Int64.ofInt x / Int64.ofInt 10 = Int64.ofInt (x.tdiv 10) := by
  have hm : Int64.minValue.toInt = -9223372036854775808 := by decide
  have hM : Int64.maxValue.toInt = 9223372036854775807 := by decide
  rw [← Int64.ofInt_tdiv (by omega) (by omega) (by omega) (by omega)]
theorem hd_ldivT (h1 : -4000000000000000000 ≤ x) (h2 : x ≤ 4000000000000000000) : ck_cf 16 3 v L (.long (Int64.ofInt 10) :: .long (Int64.ofInt x) :: st) = some (L, .long (Int64.ofInt (x.tdiv 10)) :: st) := by
  rw [← hd_ldT h1 h2]
  show (if ck_dz 3 = true ∧ Int64.ofInt 10 = 0 then none else _) = _
  rw [if_neg (fun z => hd_l0 (y := 10) (by decide) (by decide) z.2)]
  rfl
theorem hd_lremT (h1 : -4000000000000000000 ≤ x) (h2 : x ≤ 4000000000000000000) : ck_cf 16 4 v L (.long (Int64.ofInt 10) :: .long (Int64.ofInt x) :: st) = some (L, .long (Int64.ofInt (x.tmod 10)) :: st) := by
  have e : Int64.ofInt x - Int64.ofInt x / Int64.ofInt 10 * Int64.ofInt 10 = Int64.ofInt (x.tmod 10) := by
    rw [hd_ldT h1 h2, ← Int64.ofInt_mul, ← Int64.ofInt_sub, Int.tmod_def, Int.mul_comm]
  rw [← e]
  show (if ck_dz 4 = true ∧ Int64.ofInt 10 = 0 then none else _) = _
  rw [if_neg (fun z => hd_l0 (y := 10) (by decide) (by decide) z.2)]
  rfl
end HDO
def of_K : ck_KK := (([((-2147483648), 2147483648)], [], [], 0, [(2, 0, (0, [(1, 0)]))]), ((3, []), (42, [])), [], [], ([], [], [(2, 0, 0, 1017, (0, 0, (2, []))), (5, 0, 0, 0, (0, 0, (0, [])))], 1, [(3, 0, (0, []))]), [])
theorem hd_last {G : am_G} {H : List am_C} {c c9 : am_C} : am_s (H ++ [c]) (1000 + H.length) c9 = H ++ [c9] := hd_eq (G := G) fun p => by
  rw [am_g_s (by omega) (by rw [List.length_append]; show 1000 + H.length - 1000 < H.length + 1; omega), am_g_new, am_g_new]
  by_cases e : p = 1000 + H.length
  · rw [if_pos e, if_pos e]
  · rw [if_neg e, if_neg e, if_neg e]
set_option maxRecDepth 100000 in
set_option maxHeartbeats 4000000 in
theorem of_con {l : Launch} {G : am_G} {X : ck_XT} (g9 : gM l G X) : ck_Con (am_cm l G yX12_of (.code yX12_of prog_15_method_2_code 6 (some (.object "ClockhouseModel$Num"))) 2 44) G X gT of_K := by
  obtain ⟨g, rfl, hkc⟩ := id g9
  intro K r s a h hH hV hC hF hn hS mc ms hmc hms
  have hmc' : (mc : Int) = 3 := li_k hmc
  have hms' : (ms : Int) = 42 := li_k hms
  have hs0 : s = [] := List.length_eq_zero_iff.mp hn
  subst hs0
  match r, hV.1 with
  | [x0], _ =>
    obtain ⟨i1, i2⟩ := li_in' hV
    match a, hS with
    | [w1], ⟨⟨y1, c1, c2⟩, _⟩ =>
      subst c1
      have c2 := ck_lv1 c2
      have c2 : some x0 = some y1.toInt := c2
      cases c2
      have ey : y1 = Int64.ofInt y1.toInt := (Int64.ofInt_toInt y1).symm
      generalize hv0 : y1.toInt = v0 at *
      rw [ey]
      refine gh_yX12_of_H g9 (Nat.le_of_ble_eq_true rfl) fun S SX hs hr hw => ?_
      -- behind the loop
      have fin : ∀ (es : List Int) (L5 : List (Option Value)) (lf k : Int), hd_d es → es.length = 20 → S 55 [some (.long (Int64.ofInt v0)), none, some (.ref (1000 + h.length)), some (.long (Int64.ofInt lf)), none, some (.int (Int32.ofInt k))] [] (h ++ [(750, hd_r es)]) 1 20 := by
        intro es L5 lf k hd hl
        have hp0 : ck_Hp (G, li_X, gT, K, h, [v0], [], [], []) [v0] [] h := ⟨hH, ck_Kp.rf, Nat.le_refl _, ⟨[], rfl⟩, [], rfl⟩
        have hp1 := ck_Hp.make hp0 li_XO li_X0 (t := 750) (vs := hd_r es) (by decide) (fun g' => hd_cey hd (lo := 0) (hi := 90) (by omega) (by omega) rfl)
        have hp2 := ck_Hp.make hp1 li_XO li_X0 (t := 17) (vs := [.int 0, .null]) (by decide) (fun g' => hd_noce rfl)
        have hll : (h ++ [((750 : Nat), hd_r es)]).length = h.length + 1 := by rw [List.length_append]; rfl
        have hN := hd_new (G := G) (h := h ++ [(750, hd_r es)]) (c := (17, [.int 0, .null]))
        have hR := hd_old (c := (17, [.int 0, .null])) (hd_new (G := G) (h := h) (c := (750, hd_r es)))
        rw [hll] at hN
        have H70 : ∀ b : Int, 0 ≤ b → b ≤ 1 → S 70 [some (.long (Int64.ofInt v0)), none, some (.ref (1000 + h.length)), some (.long (Int64.ofInt lf)), none, some (.int (Int32.ofInt k))] [.int (Int32.ofInt b), .ref (1000 + (h.length + 1)), .ref (1000 + (h.length + 1))] (h ++ [(750, hd_r es)] ++ [(17, [.int 0, .null])]) 2 22 := by
          intro b hb0 hb1
          refine hs 43 _ rfl _ _ _ _ _ _ _ rfl ?_
          have hcall := am_cn_ok (hd_initP_con g9 (ts := 750) (mx := 36) (lo := 0) (hi := 90) rfl rfl (by decide)) rfl K [b, 20] [1000 + (h.length + 1), 1000 + h.length] [.ref (1000 + (h.length + 1)), .int (Int32.ofInt b), .ref (1000 + h.length)] _ hp2.1 (li_in hb0 hb1 (li_in (by decide) (by decide) li_in0)) (fun c hc => nomatch hc)
            (List.forall_mem_cons.mpr ⟨⟨_, _, rfl, hN, ck_Lv.k _ 2⟩, List.forall_mem_cons.mpr ⟨⟨_, _, rfl, hR, by rw [hd_r_len, hl]; exact ck_Lv.x rfl⟩, List.forall_mem_nil _⟩⟩) rfl ⟨⟨_, rfl, rfl⟩, ⟨_, rfl, by rw [hd_oi (by omega) (by omega)]; exact ck_Lv.x rfl⟩, ⟨_, rfl, rfl⟩, trivial⟩ 1 20 (ck_Lv.k _ 1) (ck_Lv.x rfl)
          refine hs 44 _ rfl [.ref (1000 + (h.length + 1)), .int (Int32.ofInt b), .ref (1000 + h.length)] _ [.ref (1000 + (h.length + 1))] _ _ _ 1 20 _ hcall rfl rfl (Nat.le_of_ble_eq_true rfl) ⟨_, _, _, rfl, hN, rfl⟩ (by omega) (by omega) (fun v9 h9 hp => ?_) (fun E h9 hp => absurd hp (hcall.2 E h9))
          obtain ⟨k1, k2, k3, q9, p9, m1, m2, m3, m4, m5⟩ := hp
          have hv9 : v9 = none := by
            cases v9 with
            | none => rfl
            | some v => exact m5.elim
          subst hv9
          obtain ⟨qq, vv, t1, t2, t3⟩ := m3 (2, 0, 0, 1017, (0, 0, (2, []))) (by unfold hd_initP; simp)
          have t1 : some (1000 + (h.length + 1)) = some qq := t1
          cases t1
          have hp3 := ck_Hp.call hp2 k1 k2 k3 rfl (fun q t hq => by
            have hq : (q, t) ∈ [(1000 + (h.length + 1), 17)] := hq
            rw [List.mem_singleton] at hq
            obtain ⟨rfl, rfl⟩ := Prod.mk.inj hq
            exact Or.inl (by show 1000 + h.length ≤ _; omega))
          refine hs 45 _ rfl _ _ _ _ _ (Or.inl ⟨_, rfl⟩) (by omega) (by omega) ⟨hp3.1, hp3.2.1, hp3.2.2.1, [], [1000 + (h.length + 1)], li_in0, (fun c hc => nomatch hc), List.forall_mem_cons.mpr ⟨⟨_, _, rfl, t2, by rw [li_k t3]; exact ck_Lv.k _ 2⟩, List.forall_mem_cons.mpr ⟨⟨_, rfl, by show 1000 + h.length ≤ _; omega⟩, List.forall_mem_nil _⟩⟩, rfl, ⟨⟨_, rfl, rfl⟩, trivial⟩⟩
        refine hs 34 _ rfl 17 _ _ _ _ _ rfl (by omega) (by show _ + 2 ≤ _; omega) ?_
        rw [hll]
        refine hs 35 _ rfl _ _ _ _ _ _ _ rfl ?_
        refine hs 36 _ rfl _ _ _ _ _ _ _ rfl ?_
        refine hs 37 _ rfl _ _ _ _ _ _ _ rfl ?_
        refine hs 38 _ rfl _ _ _ _ _ _ _ rfl ?_
        by_cases hneg : (lg_cmp (Int64.ofInt v0) (Int64.ofInt 0)).toInt < 0
        · refine hs 39 _ rfl _ _ _ _ _ _ (fun z => absurd hneg (by have z : 0 ≤ (lg_cmp (Int64.ofInt v0) (Int64.ofInt 0)).toInt := z; omega)) (fun _ => ?_)
          refine hs 40 _ rfl _ _ _ _ _ _ _ rfl ?_
          refine hs 41 _ rfl _ _ _ _ _ ?_
          exact H70 1 (by decide) (by decide)
        · refine hs 39 _ rfl _ _ _ _ _ _ (fun _ => ?_) (fun z => absurd (show 0 ≤ (lg_cmp (Int64.ofInt v0) (Int64.ofInt 0)).toInt by omega) z)
          refine hs 42 _ rfl _ _ _ _ _ _ _ rfl ?_
          exact H70 0 (by decide) (by decide)
      have loop : ∀ (m k : Nat) (es : List Int) (lf : Int), k + m = 20 → hd_d es → es.length = 20 → -4000000000000000000 ≤ lf → lf ≤ 4000000000000000000 → S 10 [some (.long (Int64.ofInt v0)), none, some (.ref (1000 + h.length)), some (.long (Int64.ofInt lf)), none, some (.int (Int32.ofInt (k : Int)))] [] (h ++ [(750, hd_r es)]) 1 20 := by
        intro m
        induction m with
        | zero =>
          intro k es lf hk hd hl h1 h2
          refine hs 7 _ rfl _ _ _ _ _ _ _ rfl ?_
          refine hs 8 _ rfl _ _ _ _ _ _ _ rfl ?_
          refine hs 9 _ rfl _ _ _ _ _ _ _ (fun _ => ?_) (fun zq => absurd (hd_c2t (c := 3) (by omega) (by omega) (by omega) (by omega) (by omega : 0 ≤ ((k : Int) - (20 : Int)))) zq)
          exact fin es [] lf _ hd hl
        | succ m ih =>
          intro k es lf hk hd hl h1 h2
          have hg := hd_new (G := G) (h := h) (c := (750, hd_r es))
          have tr := hd_tr lf
          have td := hd_td lf
          have hset : ∀ t : Int, 0 ≤ t → t ≤ 9 → hd_d (es.set k t) := fun t x1 x2 x hx => (List.mem_or_eq_of_mem_set hx).elim (hd x) (fun y => by rw [y]; exact ⟨x1, x2⟩)
          refine hs 7 _ rfl _ _ _ _ _ _ _ rfl ?_
          refine hs 8 _ rfl _ _ _ _ _ _ _ rfl ?_
          refine hs 9 _ rfl _ _ _ _ _ _ _ (fun zq => absurd (hd_c2z (c := 3) (by omega) (by omega) (by omega) (by omega) zq) (by omega : ¬ (0 ≤ ((k : Int) - (20 : Int))))) (fun _ => ?_)
          refine hs 10 _ rfl _ _ _ _ _ _ _ rfl ?_
          refine hs 11 _ rfl _ _ _ _ _ _ _ rfl ?_
          refine hs 12 _ rfl _ _ _ _ _ _ _ rfl ?_
          refine hs 13 _ rfl _ _ _ _ _ _ _ rfl ?_
          refine hs 14 _ rfl _ _ _ _ _ _ _ (hd_lremT h1 h2) ?_
          refine hs 15 _ rfl _ _ _ _ _ _ _ (hd_l2i (by omega) (by omega)) ?_
          refine hd_B (hs 16 _ rfl) (by decide) (by decide) (by omega) hg (by decide) (j := k) rfl (by omega) (by omega) ?_
          rw [hd_last (G := G)]
          have hg2 := hd_new (G := G) (h := h) (c := (750, hd_r (es.set k (lf.tmod 10))))
          have hgk : (es.set k (lf.tmod 10))[k]? = some (lf.tmod 10) := List.getElem?_set_self (by omega)
          by_cases hc : lf.tmod 10 < 0
          · 
            refine hs 17 _ rfl _ _ _ _ _ _ _ rfl ?_
            refine hs 18 _ rfl _ _ _ _ _ _ _ rfl ?_
            refine hd_A (hs 19 _ rfl) (by decide) (by decide) hg2 (by decide) (j := k) rfl (by omega) hgk ?_
            refine hs 20 _ rfl _ _ _ _ _ _ (fun zq => absurd (hd_c1z (c := 3) (by omega) (by omega) zq) (by omega : ¬ (0 ≤ (lf.tmod 10)))) (fun _ => ?_)
            refine hs 21 _ rfl _ _ _ _ _ _ _ rfl ?_
            refine hs 22 _ rfl _ _ _ _ _ _ _ rfl ?_
            refine hs 23 _ rfl _ _ _ _ _ _ _ rfl ?_
            refine hs 24 _ rfl _ _ _ _ _ _ _ rfl ?_
            refine hd_A (hs 25 _ rfl) (by decide) (by decide) hg2 (by decide) (j := k) rfl (by omega) hgk ?_
            refine hs 26 _ rfl _ _ _ _ _ _ _ hd_neg ?_
            refine hd_B (hs 27 _ rfl) (by decide) (by decide) (by omega) hg2 (by decide) (j := k) rfl (by omega) (by rw [List.length_set]; omega) ?_
            rw [hd_last (G := G), List.set_set]
            refine hs 28 _ rfl _ _ _ _ _ _ _ rfl ?_
            refine hs 29 _ rfl _ _ _ _ _ _ _ rfl ?_
            refine hs 30 _ rfl _ _ _ _ _ _ _ (hd_ldivT h1 h2) ?_
            refine hs 31 _ rfl _ _ _ _ _ _ _ rfl ?_
            refine hs 32 _ rfl _ _ _ _ _ _ _ (hd_inc rfl) ?_
            refine hs 33 _ rfl _ _ _ _ _ ?_
            exact ih (k + 1) _ _ (by omega) (hset _ (by omega) (by omega)) (by rw [List.length_set]; exact hl) (by omega) (by omega)
          · 
            refine hs 17 _ rfl _ _ _ _ _ _ _ rfl ?_
            refine hs 18 _ rfl _ _ _ _ _ _ _ rfl ?_
            refine hd_A (hs 19 _ rfl) (by decide) (by decide) hg2 (by decide) (j := k) rfl (by omega) hgk ?_
            refine hs 20 _ rfl _ _ _ _ _ _ (fun _ => ?_) (fun zq => absurd (hd_c1t (c := 3) (by omega) (by omega) (by omega : 0 ≤ (lf.tmod 10))) zq)
            refine hs 28 _ rfl _ _ _ _ _ _ _ rfl ?_
            refine hs 29 _ rfl _ _ _ _ _ _ _ rfl ?_
            refine hs 30 _ rfl _ _ _ _ _ _ _ (hd_ldivT h1 h2) ?_
            refine hs 31 _ rfl _ _ _ _ _ _ _ rfl ?_
            refine hs 32 _ rfl _ _ _ _ _ _ _ (hd_inc rfl) ?_
            refine hs 33 _ rfl _ _ _ _ _ ?_
            exact ih (k + 1) _ _ (by omega) (hset _ (by omega) (by omega)) (by rw [List.length_set]; exact hl) (by omega) (by omega)
      refine hs 0 _ rfl _ _ _ _ _ _ _ rfl ?_
      refine hs 1 _ rfl 750 _ _ _ _ 20 _ _ (by decide) (by decide) (by decide) (by omega) (by omega) ?_
      rw [show Int.toNat 0 = 0 from rfl]
      rw [hd_r0]
      refine hs 2 _ rfl _ _ _ _ _ _ _ rfl ?_
      refine hs 3 _ rfl _ _ _ _ _ _ _ rfl ?_
      refine hs 4 _ rfl _ _ _ _ _ _ _ rfl ?_
      refine hs 5 _ rfl _ _ _ _ _ _ _ rfl ?_
      refine hs 6 _ rfl _ _ _ _ _ _ _ rfl ?_
      exact loop 20 0 (List.replicate 20 0) v0 (by decide) (fun d hd => by rw [List.eq_of_mem_replicate hd]; decide) rfl (by omega) (by omega)
