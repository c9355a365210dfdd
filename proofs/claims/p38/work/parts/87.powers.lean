/-! POWERS -/
def pw_z : List Int → Nat
  | [] => 0
  | d :: u => (if d = 0 then 1 else 0) + pw_z u
theorem pw_z_set : ∀ {es : List Int} {j : Nat} {v : Int}, es[j]? = some 0 → v ≠ 0 → pw_z (es.set j v) + 1 = pw_z es := by
  intro es
  induction es with
  | nil => intro j v h; cases h
  | cons d u ih =>
    intro j v h hv
    cases j with
    | zero => cases h; show (if v = 0 then 1 else 0) + pw_z u + 1 = (if (0 : Int) = 0 then 1 else 0) + pw_z u; rw [if_neg hv, if_pos rfl]; omega
    | succ j =>
      have := ih (j := j) h hv
      show (if d = 0 then 1 else 0) + pw_z (u.set j v) + 1 = (if d = 0 then 1 else 0) + pw_z u
      omega
theorem pw_z_at : ∀ {es : List Int} {j : Nat} {v : Int}, es[j]? = some v → v ≠ 0 → pw_z es < es.length := by
  intro es
  have hle : ∀ es : List Int, pw_z es ≤ es.length := by
    intro es
    induction es with
    | nil => exact Nat.le_refl _
    | cons d u ih => show (if d = 0 then 1 else 0) + pw_z u ≤ u.length + 1; split <;> omega
  induction es with
  | nil => intro j v h; cases h
  | cons d u ih =>
    intro j v h hv
    cases j with
    | zero =>
      have h9 : d = v := Option.some.inj (show some d = some v from h)
      show (if d = 0 then 1 else 0) + pw_z u < u.length + 1
      rw [if_neg (by rw [h9]; exact hv)]
      have := hle u
      omega
    | succ j =>
      have := ih (j := j) h hv
      show (if d = 0 then 1 else 0) + pw_z u < u.length + 1
      split <;> omega
theorem pw_z_rep (n : Nat) : pw_z (List.replicate n 0) = n := by
  induction n with
  | zero => rfl
  | succ n ih => show (if (0 : Int) = 0 then 1 else 0) + pw_z (List.replicate n 0) = n + 1; rw [if_pos rfl, ih]; omega
set_option maxRecDepth 100000 in
set_option maxHeartbeats 4000000 in
theorem pw_M {l : Launch} {G : am_G} {X : ck_XT} (g : gE l G X) {q0 qs t0 t1 a d : Nat} {vs0 vs1 : List Value} {h : List am_C} (ht0 : t0 % 100 = 19) (ht1 : t1 % 100 = 18) (hd0 : 1 ≤ d) (hd1 : d ≤ 400) (ha : a < d) (g0 : am_g G h q0 = some (t0, vs0)) (k0 : vs0[1]? = some (.ref qs)) (g1 : am_g G h qs = some (t1, vs1)) (k1 : vs1[0]? = some (.int (Int32.ofInt (d : Int)))) {mc ms : Nat} (hmc : 2 ≤ mc) (hms : d + 4 ≤ ms) {Post : am_O → List am_C → Prop}
    (hP : ∀ (es : List Int) (m : Nat) (x1 x2 x3 : Int), 1 ≤ m → m ≤ d → Post (.inl (some (.ref (1000 + (h.length + 1))))) (h ++ [(150, hd_r es)] ++ [(250, hd_r [(m : Int), x1, x2, x3])])) :
    am_M l G yX14_powersOf (.code yX14_powersOf prog_14_method_66_code 7 (some (.array .int))) 1 20 mc ms [.ref q0, .int (Int32.ofInt (a : Int))] h Post := by
  refine gh_yX14_powersOf_H g (Nat.le_of_ble_eq_true rfl) fun S SX hs hr hw => ?_
  have loop : ∀ (N : Nat) (es : List Int) (m nx : Nat) (sm : Int) (w : Option Value), pw_z es = N → es.length = d → m + N = d → nx < d → (∀ (j : Nat) (v : Int), es[j]? = some v → 0 ≤ v ∧ v ≤ 400) → S 26 [some (.ref q0), some (.int (Int32.ofInt (a : Int))), some (.ref (1000 + h.length)), some (.int (Int32.ofInt (m : Int))), some (.int (Int32.ofInt sm)), some (.int (Int32.ofInt (nx : Int))), w] [] (h ++ [(150, hd_r es)]) 1 d := by
    intro N
    induction N with
    | zero =>
      intro es m nx sm w hz hl hm hnx hb
      have hg := hd_new (G := G) (h := h) (c := (150, hd_r es))
      have hj : es[nx]? = some (es[nx]'(by omega)) := List.getElem?_eq_getElem (by omega)
      generalize es[nx]'(by omega) = v at hj
      obtain ⟨hv1, hv2⟩ := hb nx v hj
      have hv : v ≠ 0 := by
        rintro rfl
        have := pw_z_set hj (v := 1) (by decide)
        omega
      refine hs 15 _ rfl _ _ _ _ _ _ _ rfl ?_
      refine hs 16 _ rfl _ _ _ _ _ _ _ rfl ?_
      refine hd_A (hs 17 _ rfl) (by decide) (by decide) hg (by decide) (j := nx) rfl (by omega) hj ?_
      refine hs 18 _ rfl _ _ _ _ _ _ (fun _ => ?_) (fun zq => absurd (hd_c1t (c := 1) (by omega) (by omega) (by omega : v ≠ 0)) zq)
      refine hs 37 _ rfl _ _ _ _ _ _ _ rfl ?_
      refine hs 38 _ rfl _ _ _ _ _ _ _ rfl ?_
      refine hd_A (hs 39 _ rfl) (by decide) (by decide) hg (by decide) (j := nx) rfl (by omega) hj ?_
      refine hs 40 _ rfl _ _ _ _ _ _ _ rfl ?_
      refine hs 41 _ rfl _ _ _ _ _ _ _ hd_sub ?_
      refine hs 42 _ rfl _ _ _ _ _ _ _ rfl ?_
      refine hs 43 _ rfl _ _ _ _ _ _ _ rfl ?_
      refine hs 44 _ rfl 250 _ _ _ _ 4 _ _ (by decide) (by decide) (by decide) (by omega) (by omega) ?_
      rw [show Int.toNat 0 = 0 from rfl]
      have hll : (h ++ [((150 : Nat), hd_r es)]).length = h.length + 1 := by rw [List.length_append]; rfl
      rw [hll, hd_r0]
      have hz1 := pw_z_at hj hv
      have c0 := hd_new (G := G) (h := h ++ [(150, hd_r es)]) (c := (250, hd_r (List.replicate 4 (0 : Int))))
      rw [hll] at c0
      refine hs 45 _ rfl _ _ _ _ _ _ _ rfl ?_
      refine hs 46 _ rfl _ _ _ _ _ _ _ rfl ?_
      refine hs 47 _ rfl _ _ _ _ _ _ _ rfl ?_
      refine hd_B (hs 48 _ rfl) (by decide) (by decide) (by omega) c0 (by decide) (j := 0) rfl (by decide) (by decide) ?_
      have c1 := (hd_w.s (c := (250, hd_r ((List.replicate 4 (0 : Int)).set 0 (m : Int)))) (by omega) c0)
      have f1 := c1.eq (by omega) c0
      replace c1 := c1.at
      refine hs 49 _ rfl _ _ _ _ _ _ _ rfl ?_
      refine hs 50 _ rfl _ _ _ _ _ _ _ rfl ?_
      refine hs 51 _ rfl _ _ _ _ _ _ _ rfl ?_
      refine hd_B (hs 52 _ rfl) (by decide) (by decide) (by omega) c1 (by decide) (j := 1) rfl (by decide) (by rw [List.length_set]; decide) ?_
      have c2 := (hd_w.s (c := (250, hd_r (((List.replicate 4 (0 : Int)).set 0 (m : Int)).set 1 (v - 1)))) (by omega) c1)
      have f2 := c2.eq (by omega) c1
      replace c2 := c2.at
      refine hs 53 _ rfl _ _ _ _ _ _ _ rfl ?_
      refine hs 54 _ rfl _ _ _ _ _ _ _ rfl ?_
      refine hs 55 _ rfl _ _ _ _ _ _ _ rfl ?_
      refine hs 56 _ rfl _ _ _ _ _ _ _ rfl ?_
      refine hs 57 _ rfl _ _ _ _ _ _ _ hd_sub ?_
      refine hd_B (hs 58 _ rfl) (by decide) (by decide) (by omega) c2 (by decide) (j := 2) rfl (by decide) (by rw [List.length_set, List.length_set]; decide) ?_
      have c3 := (hd_w.s (c := (250, hd_r ((((List.replicate 4 (0 : Int)).set 0 (m : Int)).set 1 (v - 1)).set 2 ((m : Int) - (v - 1))))) (by omega) c2)
      have f3 := c3.eq (by omega) c2
      replace c3 := c3.at
      refine hs 59 _ rfl _ _ _ _ _ _ _ rfl ?_
      refine hs 60 _ rfl _ _ _ _ _ _ _ rfl ?_
      refine hs 61 _ rfl _ _ _ _ _ _ _ rfl ?_
      refine hd_B (hs 62 _ rfl) (by decide) (by decide) (by omega) c3 (by decide) (j := 3) rfl (by decide) (by rw [List.length_set, List.length_set, List.length_set]; decide) ?_
      have c4 := (hd_w.s (c := (250, hd_r (((((List.replicate 4 (0 : Int)).set 0 (m : Int)).set 1 (v - 1)).set 2 ((m : Int) - (v - 1))).set 3 sm))) (by omega) c3)
      have f4 := c4.eq (by omega) c3
      replace c4 := c4.at
      have hfin : ∀ (H : List am_C) (c c9 : am_C), am_s (H ++ [c]) (1000 + H.length) c9 = H ++ [c9] := fun H c c9 => hd_eq (G := G) fun p => by
        rw [am_g_s (by omega) (by rw [List.length_append]; show 1000 + H.length - 1000 < H.length + 1; omega), am_g_new, am_g_new]
        by_cases e : p = 1000 + H.length
        · rw [if_pos e, if_pos e]
        · rw [if_neg e, if_neg e, if_neg e]
      have hf1 := hfin (h ++ [(150, hd_r es)])
      rw [hll] at hf1
      rw [hf1, hf1, hf1, hf1]
      exact hs 63 _ rfl _ _ _ _ _ (Or.inl ⟨_, rfl⟩) (by omega) (by omega) (hP es m (v - 1) ((m : Int) - (v - 1)) sm (by omega) (by omega))
    | succ N ih =>
      intro es m nx sm w hz hl hm hnx hb
      have hg := hd_new (G := G) (h := h) (c := (150, hd_r es))
      have hj : es[nx]? = some (es[nx]'(by omega)) := List.getElem?_eq_getElem (by omega)
      generalize es[nx]'(by omega) = v at hj
      obtain ⟨hv1, hv2⟩ := hb nx v hj
      by_cases hv : v = 0
      · subst hv
        have hw1 := hd_w.s (c := (150, hd_r (es.set nx ((m : Int) + 1)))) (show 1000 ≤ 1000 + h.length by omega) hg
        have heq : am_s (h ++ [(150, hd_r es)]) (1000 + h.length) (150, hd_r (es.set nx ((m : Int) + 1))) = h ++ [(150, hd_r (es.set nx ((m : Int) + 1)))] := hd_eq (G := G) fun p => by
          rw [hw1.2 p, am_g_new, am_g_new]
          by_cases e : p = 1000 + h.length
          · rw [if_pos e, if_pos e]
          · rw [if_neg e, if_neg e, if_neg e]
        have hmul : (0 : Int) ≤ (nx : Int) * (a : Int) ∧ (nx : Int) * (a : Int) ≤ 160000 := by
          refine ⟨Int.mul_nonneg (by omega) (by omega), ?_⟩
          have : (nx : Int) * (a : Int) ≤ 400 * 400 := Int.mul_le_mul (by omega) (by omega) (by omega) (by omega)
          omega
        refine hs 15 _ rfl _ _ _ _ _ _ _ rfl ?_
        refine hs 16 _ rfl _ _ _ _ _ _ _ rfl ?_
        refine hd_A (hs 17 _ rfl) (by decide) (by decide) hg (by decide) (j := nx) rfl (by omega) hj ?_
        refine hs 18 _ rfl _ _ _ _ _ _ (fun zq => absurd (hd_c1z (c := 1) (by omega) (by omega) zq) (by omega : ¬ ((0 : Int) ≠ 0))) (fun _ => ?_)
        refine hs 19 _ rfl _ _ _ _ _ _ _ (hd_inc rfl) ?_
        refine hs 20 _ rfl _ _ _ _ _ _ _ rfl ?_
        refine hs 21 _ rfl _ _ _ _ _ _ _ rfl ?_
        refine hs 22 _ rfl _ _ _ _ _ _ _ rfl ?_
        refine hd_B (hs 23 _ rfl) (by decide) (by decide) (by omega) hg (by decide) (j := nx) rfl (by omega) (by omega) ?_
        have z0 := (hw1.ne (hd_neq g0)).trans (hd_old (c := (150, hd_r es)) g0)
        have z1 := (hw1.ne (hd_neq g1)).trans (hd_old (c := (150, hd_r es)) g1)
        refine hs 24 _ rfl _ _ _ _ _ _ _ rfl ?_
        refine hs 25 _ rfl _ _ _ _ _ _ _ rfl ?_
        refine hs 26 _ rfl _ _ _ _ _ _ _ hd_add ?_
        refine hs 27 _ rfl _ _ _ _ _ _ _ rfl ?_
        refine hs 28 _ rfl _ _ _ _ _ _ _ rfl ?_
        refine hs 29 _ rfl _ _ _ _ _ _ _ rfl ?_
        refine hs 30 _ rfl _ _ _ _ _ _ _ hd_mul ?_
        refine hs 31 _ rfl _ _ _ _ _ _ _ rfl ?_
        refine hs 32 _ rfl _ _ _ _ _ _ _ _ _ z0 ht0 k0 ?_
        refine hs 33 _ rfl _ _ _ _ _ _ _ _ _ z1 ht1 k1 ?_
        refine hs 34 _ rfl _ _ _ _ _ _ _ (hd_rem (by omega) (by omega) (by omega) (by omega)) ?_
        refine hs 35 _ rfl _ _ _ _ _ _ _ rfl ?_
        refine hs 36 _ rfl _ _ _ _ _ ?_
        rw [heq]
        have em : ((nx : Int) * (a : Int)) % (d : Int) = ((nx * a % d : Nat) : Int) := by rw [Int.natCast_emod, Int.natCast_mul]
        rw [em]
        have := pw_z_set hj (v := (m : Int) + 1) (by omega)
        refine ih (es.set nx ((m : Int) + 1)) (m + 1) (nx * a % d) (sm + (nx : Int)) w (by omega) (by rw [List.length_set]; exact hl) (by omega) (Nat.mod_lt _ (by omega)) fun j v hv => ?_
        by_cases e : nx = j
        · subst e
          rw [List.getElem?_set_self (by omega)] at hv
          cases hv
          omega
        · rw [List.getElem?_set_ne e] at hv
          exact hb j v hv
      · 
        refine hs 15 _ rfl _ _ _ _ _ _ _ rfl ?_
        refine hs 16 _ rfl _ _ _ _ _ _ _ rfl ?_
        refine hd_A (hs 17 _ rfl) (by decide) (by decide) hg (by decide) (j := nx) rfl (by omega) hj ?_
        refine hs 18 _ rfl _ _ _ _ _ _ (fun _ => ?_) (fun zq => absurd (hd_c1t (c := 1) (by omega) (by omega) (by omega : v ≠ 0)) zq)
        refine hs 37 _ rfl _ _ _ _ _ _ _ rfl ?_
        refine hs 38 _ rfl _ _ _ _ _ _ _ rfl ?_
        refine hd_A (hs 39 _ rfl) (by decide) (by decide) hg (by decide) (j := nx) rfl (by omega) hj ?_
        refine hs 40 _ rfl _ _ _ _ _ _ _ rfl ?_
        refine hs 41 _ rfl _ _ _ _ _ _ _ hd_sub ?_
        refine hs 42 _ rfl _ _ _ _ _ _ _ rfl ?_
        refine hs 43 _ rfl _ _ _ _ _ _ _ rfl ?_
        refine hs 44 _ rfl 250 _ _ _ _ 4 _ _ (by decide) (by decide) (by decide) (by omega) (by omega) ?_
        rw [show Int.toNat 0 = 0 from rfl]
        have hll : (h ++ [((150 : Nat), hd_r es)]).length = h.length + 1 := by rw [List.length_append]; rfl
        rw [hll, hd_r0]
        have hz1 := pw_z_at hj hv
        have c0 := hd_new (G := G) (h := h ++ [(150, hd_r es)]) (c := (250, hd_r (List.replicate 4 (0 : Int))))
        rw [hll] at c0
        refine hs 45 _ rfl _ _ _ _ _ _ _ rfl ?_
        refine hs 46 _ rfl _ _ _ _ _ _ _ rfl ?_
        refine hs 47 _ rfl _ _ _ _ _ _ _ rfl ?_
        refine hd_B (hs 48 _ rfl) (by decide) (by decide) (by omega) c0 (by decide) (j := 0) rfl (by decide) (by decide) ?_
        have c1 := (hd_w.s (c := (250, hd_r ((List.replicate 4 (0 : Int)).set 0 (m : Int)))) (by omega) c0)
        have f1 := c1.eq (by omega) c0
        replace c1 := c1.at
        refine hs 49 _ rfl _ _ _ _ _ _ _ rfl ?_
        refine hs 50 _ rfl _ _ _ _ _ _ _ rfl ?_
        refine hs 51 _ rfl _ _ _ _ _ _ _ rfl ?_
        refine hd_B (hs 52 _ rfl) (by decide) (by decide) (by omega) c1 (by decide) (j := 1) rfl (by decide) (by rw [List.length_set]; decide) ?_
        have c2 := (hd_w.s (c := (250, hd_r (((List.replicate 4 (0 : Int)).set 0 (m : Int)).set 1 (v - 1)))) (by omega) c1)
        have f2 := c2.eq (by omega) c1
        replace c2 := c2.at
        refine hs 53 _ rfl _ _ _ _ _ _ _ rfl ?_
        refine hs 54 _ rfl _ _ _ _ _ _ _ rfl ?_
        refine hs 55 _ rfl _ _ _ _ _ _ _ rfl ?_
        refine hs 56 _ rfl _ _ _ _ _ _ _ rfl ?_
        refine hs 57 _ rfl _ _ _ _ _ _ _ hd_sub ?_
        refine hd_B (hs 58 _ rfl) (by decide) (by decide) (by omega) c2 (by decide) (j := 2) rfl (by decide) (by rw [List.length_set, List.length_set]; decide) ?_
        have c3 := (hd_w.s (c := (250, hd_r ((((List.replicate 4 (0 : Int)).set 0 (m : Int)).set 1 (v - 1)).set 2 ((m : Int) - (v - 1))))) (by omega) c2)
        have f3 := c3.eq (by omega) c2
        replace c3 := c3.at
        refine hs 59 _ rfl _ _ _ _ _ _ _ rfl ?_
        refine hs 60 _ rfl _ _ _ _ _ _ _ rfl ?_
        refine hs 61 _ rfl _ _ _ _ _ _ _ rfl ?_
        refine hd_B (hs 62 _ rfl) (by decide) (by decide) (by omega) c3 (by decide) (j := 3) rfl (by decide) (by rw [List.length_set, List.length_set, List.length_set]; decide) ?_
        have c4 := (hd_w.s (c := (250, hd_r (((((List.replicate 4 (0 : Int)).set 0 (m : Int)).set 1 (v - 1)).set 2 ((m : Int) - (v - 1))).set 3 sm))) (by omega) c3)
        have f4 := c4.eq (by omega) c3
        replace c4 := c4.at
        have hfin : ∀ (H : List am_C) (c c9 : am_C), am_s (H ++ [c]) (1000 + H.length) c9 = H ++ [c9] := fun H c c9 => hd_eq (G := G) fun p => by
          rw [am_g_s (by omega) (by rw [List.length_append]; show 1000 + H.length - 1000 < H.length + 1; omega), am_g_new, am_g_new]
          by_cases e : p = 1000 + H.length
          · rw [if_pos e, if_pos e]
          · rw [if_neg e, if_neg e, if_neg e]
        have hf1 := hfin (h ++ [(150, hd_r es)])
        rw [hll] at hf1
        rw [hf1, hf1, hf1, hf1]
        exact hs 63 _ rfl _ _ _ _ _ (Or.inl ⟨_, rfl⟩) (by omega) (by omega) (hP es m (v - 1) ((m : Int) - (v - 1)) sm (by omega) (by omega))
  refine hs 0 _ rfl _ _ _ _ _ _ _ rfl ?_
  refine hs 1 _ rfl _ _ _ _ _ _ _ _ _ g0 ht0 k0 ?_
  refine hs 2 _ rfl _ _ _ _ _ _ _ _ _ g1 ht1 k1 ?_
  refine hs 3 _ rfl 150 _ _ _ _ d _ _ (by decide) (hd_oi (by omega) (by omega)) (by omega) (by omega) (by omega) ?_
  rw [show Int.toNat 0 = 0 from rfl]
  simp only [Nat.zero_add]
  rw [hd_r0]
  have em : (1 : Int) % (d : Int) = ((1 % d : Nat) : Int) := by rw [Int.natCast_emod]; rfl
  have g0' := hd_old (c := (150, hd_r (List.replicate d 0))) g0
  have g1' := hd_old (c := (150, hd_r (List.replicate d 0))) g1
  refine hs 4 _ rfl _ _ _ _ _ _ _ rfl ?_
  refine hs 5 _ rfl _ _ _ _ _ _ _ rfl ?_
  refine hs 6 _ rfl _ _ _ _ _ _ _ rfl ?_
  refine hs 7 _ rfl _ _ _ _ _ _ _ rfl ?_
  refine hs 8 _ rfl _ _ _ _ _ _ _ rfl ?_
  refine hs 9 _ rfl _ _ _ _ _ _ _ rfl ?_
  refine hs 10 _ rfl _ _ _ _ _ _ _ rfl ?_
  refine hs 11 _ rfl _ _ _ _ _ _ _ _ _ g0' ht0 k0 ?_
  refine hs 12 _ rfl _ _ _ _ _ _ _ _ _ g1' ht1 k1 ?_
  refine hs 13 _ rfl _ _ _ _ _ _ _ (hd_rem (by decide) (by decide) (by omega) (by omega)) ?_
  refine hs 14 _ rfl _ _ _ _ _ _ _ rfl ?_
  rw [em]
  refine loop d (List.replicate d 0) 0 (1 % d) 0 none (pw_z_rep d) (List.length_replicate) (by omega) (Nat.mod_lt _ (by omega)) fun j v hv => ?_
  have := List.eq_of_mem_replicate (List.mem_of_getElem? hv)
  omega
def pw_K : ck_KK := (([(1, 400), (0, 399)], [((-1), [(1, 0), ((-1), 1)])], [(2, 0, 0, 1019, (0, 0, (6, []))), (3, 0, 1, 1019, (3, 1, (0, []))), (2, 1, 0, 1018, (0, 0, (4, []))), (3, 1, 0, 1018, (1, 0, (0, [(1, 0)])))], 2, [(3, 0, (0, [])), (1, 0, (0, [(1, 1)]))]), ((2, []), (4, [(1, 0)])), [], [], ([(1, 400)], [(0, [(1, 0), ((-1), 2)])], [(2, 2, 0, 250, (0, 0, (4, []))), (5, 2, 0, 0, (0, 0, (0, []))), (3, 2, 0, 250, (1, 0, (0, [(1, 2)])))], 1, [(3, 2, (0, []))]), [])
theorem pw_con {l : Launch} {G : am_G} {X : ck_XT} (g : gE l G X) : ck_Con (am_cm l G yX14_powersOf (.code yX14_powersOf prog_14_method_66_code 7 (some (.array .int))) 1 20) G X gT pw_K := by
  intro K r s a h hH hV hC hF hn hS mc ms hmc hms
  match r, hV.1 with
  | [x0, x1], _ =>
    obtain ⟨i1, i2⟩ := li_in' hV
    obtain ⟨i3, i4⟩ := hV.2 1 _ _ x1 rfl rfl
    obtain ⟨xy, g1, g2⟩ := hC (-1, [(1, 0), (-1, 1)]) (by unfold pw_K; simp)
    have g3 : xy = (-1 : Int) + (1 * x0 + (-1 * x1 + 0)) := g1.2
    obtain ⟨q0, vs0, v1, b1, b2, b3, qs, b4, b5⟩ := hF (3, 0, 1, 1019, (3, 1, (0, []))) (by unfold pw_K; simp)
    obtain ⟨qs', vs1, v0, d1, d2, d3, u0, d4, d5⟩ := hF (3, 1, 0, 1018, (1, 0, (0, [(1, 0)]))) (by unfold pw_K; simp)
    have b1 : s[0]? = some q0 := b1
    have b4 : s[1]? = some qs := b4
    have d1 : s[1]? = some qs' := d1
    rw [b4] at d1; cases d1
    subst b5 d4
    have d5 := ck_lv1 d5
    cases d5
    have hmc' : (mc : Int) = 2 := li_k hmc
    have hms' : (ms : Int) = (4 : Int) + (1 * u0.toInt + 0) := hms.2
    have e0 : u0.toInt = (u0.toInt.toNat : Int) := by omega
    have e1 : x1 = (x1.toNat : Int) := by omega
    match a, hS with
    | [w1, w2], ⟨⟨p1, c1, c2⟩, ⟨y2, c3, c4⟩, _⟩ =>
      subst c2 c3
      have c1 : s[0]? = some p1 := c1
      rw [b1] at c1; cases c1
      have c4 := ck_lv1 c4
      have c4 : some x1 = some y2.toInt := c4
      cases c4
      rw [nu_i32 e1]
      refine pw_M g (t0 := 1019) (t1 := 1018) (d := u0.toInt.toNat) (by decide) (by decide) (by omega) (by omega) (by omega) b2 b3 d2 (by rw [← e0, Int32.ofInt_toInt]; exact d3) (by omega) (by omega) fun es m z1 z2 z3 hm1 hm2 => ?_
      have hp0 : ck_Hp (G, X, gT, K, h, [u0.toInt, y2.toInt], s, [], []) [u0.toInt, y2.toInt] s h := ⟨hH, ck_Kp.rf, Nat.le_refl _, ⟨[], (List.append_nil _).symm⟩, [], (List.append_nil s).symm⟩
      have hp1 := ck_Hp.make hp0 g.2.1 g.2.2.1 (t := 150) (vs := hd_r es) (by decide) (fun g' d hd => by
        have hd : ck_lk gT 150 = some d := hd
        rw [show ck_lk gT 150 = none from rfl] at hd
        cases hd)
      have hp2 := ck_Hp.make hp1 g.2.1 g.2.2.1 (t := 250) (vs := hd_r [(m : Int), z1, z2, z3]) (by decide) (fun g' d hd => by
        have hd : ck_lk gT 250 = some d := hd
        rw [show ck_lk gT 250 = some (1, 0, 80, [(1, 0, -2147483648, 2147483647)]) from rfl] at hd
        cases hd
        refine ⟨⟨by rw [hd_r_len]; show (0 : Int) ≤ 4; decide, by rw [hd_r_len]; show (4 : Int) ≤ 80; decide⟩, fun j v hv => ⟨(1, 0, -2147483648, 2147483647), rfl, ?_⟩⟩
        unfold hd_r at hv
        rw [List.getElem?_map] at hv
        cases hg : ([(m : Int), z1, z2, z3] : List Int)[j]? with
        | none => rw [hg] at hv; cases hv
        | some d9 => rw [hg] at hv; cases hv; exact ⟨_, rfl, Int32.le_toInt _, Int32.toInt_le _⟩)
      have hq : (s ++ [1000 + (h.length + 1)])[2]? = some (1000 + (h.length + 1)) := by
        have hn : s.length = 2 := hn
        rw [List.getElem?_append_right (by omega), hn]
        rfl
      have hll : (h ++ [((150 : Nat), hd_r es)]).length = h.length + 1 := by rw [List.length_append]; rfl
      have hnw := hd_new (G := G) (h := h ++ [(150, hd_r es)]) (c := (250, hd_r [(m : Int), z1, z2, z3]))
      rw [hll] at hnw
      refine ⟨hp2.1, hp2.2.1, hp2.2.2.1, [(m : Int)], [1000 + (h.length + 1)], li_in (by omega) (by omega) li_in0, List.forall_mem_cons.mpr ⟨?_, List.forall_mem_nil _⟩, List.forall_mem_cons.mpr ⟨?_, List.forall_mem_cons.mpr ⟨?_, List.forall_mem_cons.mpr ⟨?_, List.forall_mem_nil _⟩⟩⟩, rfl, ⟨⟨_, hq, rfl⟩, trivial⟩⟩
      · refine ⟨u0.toInt - (m : Int), ⟨fun t ht => ?_, ?_⟩, by omega⟩
        · simp at ht
          rcases ht with rfl | rfl <;> exact Nat.le_of_ble_eq_true rfl
        · show _ = (0 : Int) + (1 * u0.toInt + (-1 * (m : Int) + 0))
          omega
      · exact ⟨_, _, hq, hnw, ck_Lv.k _ 4⟩
      · exact ⟨_, hq, by show 1000 + h.length ≤ _; omega⟩
      · exact ⟨_, _, _, hq, hnw, rfl, _, rfl, by rw [show (Int32.ofInt (m : Int)).toInt = (m : Int) from hd_oi (by omega) (by omega)]; exact ck_Lv.x rfl⟩
