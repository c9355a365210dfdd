/-! JACOBI BY HAND -/
def jb_K : ck_KK := (([((-9), 400), (0, 5)], [], [(2, 0, 0, 1019, (0, 0, (6, []))), (2, 1, 0, 1018, (0, 0, (4, []))), (3, 0, 1, 1019, (3, 1, (0, []))), (3, 1, 0, 1018, (1, 0, (0, [(1, 0)])))], 2, [(3, 0, (0, [])), (1, 0, (0, [(1, 1)]))]), ((0, []), (0, [])), [], [], ([((-2147483648), 2147483647)], [], [], 0, [(1, 0, (0, [(1, 2)]))]), [])
theorem jb_Kp {g0 g : ck_g} {q t : Nat} {vs : List Value} (h : ck_Kp [] [] g0 g) (e : g0 q = some (t, vs)) : g q = some (t, vs) := by
  rcases h q t vs e with ⟨f1, -⟩ | ⟨vs', f2, f3, f4⟩
  · nomatch f1
  · have : vs' = vs := List.ext_getElem? fun j => f4 j rfl
    rw [f2, this]
theorem jb_F {g : ck_g} {q p : Nat} {vs0 vs1 : List Value} {u0 : Int32} {r : List Int} (e0 : g q = some (1019, vs0)) (l0 : vs0.length = 6) (k0 : vs0[1]? = some (.ref p)) (e1 : g p = some (1018, vs1)) (l1 : vs1.length = 4) (k1 : vs1[0]? = some (.int u0)) (hr : r[0]? = some u0.toInt) :
    ∀ f ∈ [(2, 0, 0, 1019, (0, 0, (6, []))), (2, 1, 0, 1018, (0, 0, (4, []))), (3, 0, 1, 1019, (3, 1, (0, []))), (3, 1, 0, 1018, (1, 0, (0, [(1, 0)])))], ck_fa g 0 r [q, p] f :=
  List.forall_mem_cons.mpr ⟨⟨q, vs0, rfl, e0, by rw [l0]; exact ck_Lv.k _ 6⟩, List.forall_mem_cons.mpr ⟨⟨p, vs1, rfl, e1, by rw [l1]; exact ck_Lv.k _ 4⟩, List.forall_mem_cons.mpr ⟨⟨q, vs0, _, rfl, e0, k0, p, rfl, rfl⟩, List.forall_mem_cons.mpr ⟨⟨p, vs1, _, rfl, e1, k1, u0, rfl, ck_Lv.x hr⟩, List.forall_mem_nil _⟩⟩⟩⟩
theorem jb_div {l p : Nat} (hl : 1 ≤ l) (hp : 2 ≤ p) (h : l % p = 0) (nd : ∀ d : Nat, 2 ≤ d → d < p → ¬ l % d = 0) : 1 ≤ l / p ∧ l / p < l ∧ ∀ d : Nat, 2 ≤ d → d < p → ¬ (l / p) % d = 0 := by
  have e : p * (l / p) = l := by have := Nat.div_add_mod l p; omega
  refine ⟨?_, Nat.div_lt_self hl hp, fun d h1 h2 h3 => nd d h1 h2 ?_⟩
  · rcases Nat.eq_zero_or_pos (l / p) with z | z
    · rw [z] at e; omega
    · exact z
  · have h4 : d ∣ l / p := Nat.dvd_of_mod_eq_zero h3
    have h5 : d ∣ l := e ▸ Nat.dvd_trans h4 (Nat.dvd_mul_left _ _)
    exact Nat.mod_eq_zero_of_dvd h5
set_option maxRecDepth 100000 in
set_option maxHeartbeats 4000000 in
theorem jb_con {l : Launch} {G : am_G} {X : ck_XT} (g : gM l G X) : ck_Con (am_cm l G yX14_jacobiAt (.code yX14_jacobiAt prog_14_method_80_code 6 (some .int)) 3 64) G X gT jb_K := by
  intro K r s a h hH hV hC hF hn hS mc ms hmc hms
  match r, hV.1 with
  | [x0, x1], _ =>
  match s, hn with
  | [q, p], _ =>
    obtain ⟨i1, i2⟩ := li_in' hV
    obtain ⟨i3, i4⟩ := hV.2 1 _ _ x1 rfl rfl
    obtain ⟨q1, w0, a1, a2, a3⟩ := hF (2, 0, 0, 1019, (0, 0, (6, []))) (by unfold jb_K; simp)
    obtain ⟨p1, w1, a4, a5, a6⟩ := hF (2, 1, 0, 1018, (0, 0, (4, []))) (by unfold jb_K; simp)
    obtain ⟨q2, vs0, v1, b1, b2, b3, p2, b4, b5⟩ := hF (3, 0, 1, 1019, (3, 1, (0, []))) (by unfold jb_K; simp)
    obtain ⟨p3, vs1, v0, d1, d2, d3, u0, d4, d5⟩ := hF (3, 1, 0, 1018, (1, 0, (0, [(1, 0)]))) (by unfold jb_K; simp)
    obtain rfl : q = q1 := Option.some.inj (show some q = some q1 from a1)
    obtain rfl : q = q2 := Option.some.inj (show some q = some q2 from b1)
    obtain rfl : p = p1 := Option.some.inj (show some p = some p1 from a4)
    obtain rfl : p = p2 := Option.some.inj (show some p = some p2 from b4)
    obtain rfl : p = p3 := Option.some.inj (show some p = some p3 from d1)
    have a2 : am_g G h q = some (1019, w0) := a2
    have a5 : am_g G h p = some (1018, w1) := a5
    have e0 : am_g G h q = some (1019, vs0) := b2
    have e1 : am_g G h p = some (1018, vs1) := d2
    obtain rfl : vs0 = w0 := (Prod.mk.inj (Option.some.inj (e0.symm.trans a2))).2
    obtain rfl : vs1 = w1 := (Prod.mk.inj (Option.some.inj (e1.symm.trans a5))).2
    have l0 : vs0.length = 6 := by have := li_k a3; omega
    have l1 : vs1.length = 4 := by have := li_k a6; omega
    subst b5 d4
    have d5 := ck_lv1 d5
    have d6 : x0 = u0.toInt := Option.some.inj (show some x0 = some u0.toInt from d5)
    subst d6
    have d3' : vs1[0]? = some (.int (Int32.ofInt u0.toInt)) := by rw [Int32.ofInt_toInt]; exact d3
    match a, hS with
    | [y1, y2], ⟨⟨q9, c1, c2⟩, ⟨z2, c3, c4⟩, _⟩ =>
      subst c2 c3
      obtain rfl : q = q9 := Option.some.inj (show some q = some q9 from c1)
      have c4 := ck_lv1 c4
      have c5 : x1 = z2.toInt := Option.some.inj (show some x1 = some z2.toInt from c4)
      subst c5
      have hp0 : ck_Hp (G, X, gT, K, h, [u0.toInt, z2.toInt], [q, p], [], []) [u0.toInt, z2.toInt] [q, p] h := ⟨hH, ck_Kp.rf, Nat.le_refl _, ⟨[], rfl⟩, [], rfl⟩
      have fin : ∀ (v : Int32) (h' : List am_C), ck_Hp (G, X, gT, K, h, [u0.toInt, z2.toInt], [q, p], [], []) [u0.toInt, z2.toInt] [q, p] h' → ck_Po G X gT K jb_K [u0.toInt, z2.toInt] [q, p] h (.inl (some (.int v))) h' := fun v h' hp => ⟨hp.1, hp.2.1, hp.2.2.1, [v.toInt], [], li_in (li_i32 v).1 (li_i32 v).2 li_in0, (fun c hc => nomatch hc), List.forall_mem_nil _, rfl, ⟨⟨_, rfl, ck_Lv.x rfl⟩, trivial⟩⟩
      have nx : ∀ {h1 h2 : List am_C} {s9 : List Nat} {t9 : Nat}, ck_Hp (G, X, gT, K, h, [u0.toInt, z2.toInt], [q, p], [], []) [u0.toInt, z2.toInt] [q, p] h1 → ck_HT X gT K (am_g G h2) → ck_Kp [] [] (am_g G h1) (am_g G h2) → h1.length ≤ h2.length → ck_Hp (G, X, gT, K, h, [u0.toInt, z2.toInt], [q, p], [], []) [u0.toInt, z2.toInt] [q, p] h2 := fun hp k1 k2 k3 => ck_Hp.call hp k1 k2 k3 rfl (fun q9 t9 hq => nomatch hq)
      refine gh_yX14_jacobiAt_H g (Nat.le_of_ble_eq_true rfl) fun S SX hs hr hw => ?_
      refine hs 0 _ rfl _ _ _ _ _ _ _ rfl ?_
      by_cases hz : u0.toInt ≤ 0
      · have hc := gm_yX14_isJammed_j g K [u0.toInt] [q, p] [.ref q] h hH (li_in (by omega) (by omega) li_in0) (fun c hc => nomatch hc) (jb_F e0 l0 b3 e1 l1 d3 rfl) rfl ⟨⟨_, rfl, rfl⟩, trivial⟩ 0 0 (ck_Lv.k _ 0) (ck_Lv.k _ 0)
        refine hs 1 _ rfl [.ref q] _ [] _ _ _ 0 0 _ hc rfl rfl (Nat.le_of_ble_eq_true rfl) ⟨_, _, _, rfl, e0, rfl⟩ (Nat.zero_le _) (Nat.zero_le _) (fun v9 h9 hq => ?_) (fun E h9 hq => by have z : E ∈ ([] : List String) := hq.2.2.2; nomatch z)
        obtain ⟨k1, k2, k3, r9, s9, m1, m2, m3, m4, m5⟩ := hq
        cases v9 with
        | none => exact m5.elim
        | some w9 =>
          obtain ⟨⟨x9, n1, n2⟩, -⟩ := m5
          subst n1
          have n3 := li_k n2
          have hp := nx (s9 := []) (t9 := 0) hp0 k1 k2 k3
          rw [nu_i32 n3]
          refine hs 2 _ rfl _ _ _ _ _ _ (fun zq => absurd (hd_c1z (c := 0) (by omega) (by omega) zq) (by omega : ¬ ((1 : Int) = 0))) (fun _ => ?_)
          refine hs 3 _ rfl _ _ _ _ _ _ _ rfl ?_
          exact hs 4 _ rfl _ _ _ _ _ ⟨_, rfl⟩ (Nat.zero_le _) (Nat.zero_le _) (fin _ _ hp)
      · have hc := gm_yX14_isJammed_n g K [u0.toInt] [q, p] [.ref q] h hH (li_in (by omega) (by omega) li_in0) (fun c hc => nomatch hc) (jb_F e0 l0 b3 e1 l1 d3 rfl) rfl ⟨⟨_, rfl, rfl⟩, trivial⟩ 0 0 (ck_Lv.k _ 0) (ck_Lv.k _ 0)
        refine hs 1 _ rfl [.ref q] _ [] _ _ _ 0 0 _ hc rfl rfl (Nat.le_of_ble_eq_true rfl) ⟨_, _, _, rfl, e0, rfl⟩ (Nat.zero_le _) (Nat.zero_le _) (fun v9 h9 hq => ?_) (fun E h9 hq => by have z : E ∈ ([] : List String) := hq.2.2.2; nomatch z)
        obtain ⟨k1, k2, k3, r9, s9, m1, m2, m3, m4, m5⟩ := hq
        cases v9 with
        | none => exact m5.elim
        | some w9 =>
          obtain ⟨⟨x9, n1, n2⟩, -⟩ := m5
          subst n1
          have n3 := li_k n2
          have hp := nx (s9 := []) (t9 := 0) hp0 k1 k2 k3
          rw [nu_i32 n3]
          obtain ⟨D, hD⟩ : ∃ D : Nat, u0.toInt = (D : Int) := ⟨u0.toInt.toNat, by omega⟩
          have d7 : vs1[0]? = some (.int (Int32.ofInt (D : Int))) := by rw [← hD]; exact d3'
          have em : (D : Int) % 2 = ((D % 2 : Nat) : Int) := by rw [Int.natCast_emod]; rfl
          by_cases h2 : D % 2 = 0
          · 
            refine hs 2 _ rfl _ _ _ _ _ _ (fun _ => ?_) (fun zq => absurd (hd_c1t (c := 0) (by omega) (by omega) (by omega : (0 : Int) = 0)) zq)
            refine hs 5 _ rfl _ _ _ _ _ _ _ rfl ?_
            refine hs 6 _ rfl _ _ _ _ _ _ _ _ _ (jb_Kp k2 e0) rfl b3 ?_
            refine hs 7 _ rfl _ _ _ _ _ _ _ _ _ (jb_Kp k2 e1) rfl d7 ?_
            refine hs 8 _ rfl _ _ _ _ _ _ _ rfl ?_
            refine hs 9 _ rfl _ _ _ _ _ _ _ (hd_rem (by omega) (by omega) (by decide) (by decide)) ?_
            rw [em]
            refine hs 10 _ rfl _ _ _ _ _ _ (fun zq => absurd (hd_c1z (c := 1) (by omega) (by omega) zq) (by omega : ¬ (((D % 2 : Nat) : Int) ≠ 0))) (fun _ => ?_)
            refine hs 11 _ rfl _ _ _ _ _ _ _ rfl ?_
            exact hs 12 _ rfl _ _ _ _ _ ⟨_, rfl⟩ (Nat.zero_le _) (Nat.zero_le _) (fin _ _ hp)
          · 
            refine hs 2 _ rfl _ _ _ _ _ _ (fun _ => ?_) (fun zq => absurd (hd_c1t (c := 0) (by omega) (by omega) (by omega : (0 : Int) = 0)) zq)
            refine hs 5 _ rfl _ _ _ _ _ _ _ rfl ?_
            refine hs 6 _ rfl _ _ _ _ _ _ _ _ _ (jb_Kp k2 e0) rfl b3 ?_
            refine hs 7 _ rfl _ _ _ _ _ _ _ _ _ (jb_Kp k2 e1) rfl d7 ?_
            refine hs 8 _ rfl _ _ _ _ _ _ _ rfl ?_
            refine hs 9 _ rfl _ _ _ _ _ _ _ (hd_rem (by omega) (by omega) (by decide) (by decide)) ?_
            rw [em]
            refine hs 10 _ rfl _ _ _ _ _ _ (fun _ => ?_) (fun zq => absurd (hd_c1t (c := 1) (by omega) (by omega) (by omega : ((D % 2 : Nat) : Int) ≠ 0)) zq)
            refine hs 13 _ rfl _ _ _ _ _ _ _ rfl ?_
            refine hs 14 _ rfl _ _ _ _ _ _ _ rfl ?_
            -- what the slot is by the dial
            have hc2 := gm_yX14_modAt_p g K [u0.toInt, z2.toInt] [q, p] [.ref q, .int z2] h9 k1 (li_in (by omega) (by omega) (li_in (by omega) (by omega) li_in0)) (fun c hc => nomatch hc) (jb_F (jb_Kp k2 e0) l0 b3 (jb_Kp k2 e1) l1 d3 rfl) rfl ⟨⟨_, rfl, rfl⟩, ⟨_, rfl, ck_Lv.x rfl⟩, trivial⟩ 0 0 (ck_Lv.k _ 0) (ck_Lv.k _ 0)
            refine hs 15 _ rfl [.ref q, .int z2] (am_ent [.ref q, .int z2] 6) [] _ _ _ 0 0 _ hc2 rfl rfl (Nat.le_of_ble_eq_true rfl) ⟨_, _, _, rfl, jb_Kp k2 e0, rfl⟩ (Nat.zero_le _) (Nat.zero_le _) (fun v8 h8 hq => ?_) (fun E h8 hq => by have z : E ∈ ([] : List String) := hq.2.2.2; nomatch z)
            obtain ⟨k4, k5, k6, r8, s8, o1, o2, o3, o4, o5⟩ := hq
            match r8, o1.1 with
            | [A0], _ =>
            cases v8 with
            | none => exact o5.elim
            | some w8 =>
              obtain ⟨⟨A, o6, o7⟩, -⟩ := o5
              subst o6
              have o7 := ck_lv1 o7
              have o8 : A0 = A.toInt := Option.some.inj (show some A0 = some A.toInt from o7)
              subst o8
              obtain ⟨j1, j2⟩ := li_in' o1
              have hp2 := nx (s9 := []) (t9 := 0) hp k4 k5 k6
              -- the loops
              have inner : ∀ (P : Nat), 3 ≤ P → P ≤ 400 → (∀ l' : Nat, 1 ≤ l' → l' ≤ 400 → (∀ d : Nat, 2 ≤ d → d < P + 1 → ¬ l' % d = 0) → ∀ (M : Int32) (h' : List am_C), ck_Hp (G, X, gT, K, h, [u0.toInt, z2.toInt], [q, p], [], []) [u0.toInt, z2.toInt] [q, p] h' → S 45 [some (.ref q), some (.int z2), some (.int A), some (.int M), some (.int (Int32.ofInt (l' : Int))), some (.int (Int32.ofInt ((P : Int) + 1)))] [] h' 0 0) →
                  ∀ (n l' : Nat), l' ≤ n → 1 ≤ l' → l' ≤ 400 → (∀ d : Nat, 2 ≤ d → d < P → ¬ l' % d = 0) → ∀ (M : Int32) (h' : List am_C), ck_Hp (G, X, gT, K, h, [u0.toInt, z2.toInt], [q, p], [], []) [u0.toInt, z2.toInt] [q, p] h' → S 51 [some (.ref q), some (.int z2), some (.int A), some (.int M), some (.int (Int32.ofInt (l' : Int))), some (.int (Int32.ofInt (P : Int)))] [] h' 0 0 := by
                intro P hP1 hP2 hout n
                induction n with
                | zero => intro l' h0 h1; omega
                | succ n ih =>
                  intro l' hl0 hl1 hl2 nd M h' hp
                  have em2 : (l' : Int) % (P : Int) = ((l' % P : Nat) : Int) := by rw [Int.natCast_emod]
                  have hmlt := Nat.mod_lt l' (show 0 < P by omega)
                  by_cases hm : l' % P = 0
                  · 
                    refine hs 28 _ rfl _ _ _ _ _ _ _ rfl ?_
                    refine hs 29 _ rfl _ _ _ _ _ _ _ rfl ?_
                    refine hs 30 _ rfl _ _ _ _ _ _ _ (hd_rem (by omega) (by omega) (by omega) (by omega)) ?_
                    rw [em2]
                    refine hs 31 _ rfl _ _ _ _ _ _ (fun zq => absurd (hd_c1z (c := 1) (by omega) (by omega) zq) (by omega : ¬ (((l' % P : Nat) : Int) ≠ 0))) (fun _ => ?_)
                    refine hs 32 _ rfl _ _ _ _ _ _ _ rfl ?_
                    refine hs 33 _ rfl _ _ _ _ _ _ _ rfl ?_
                    refine hs 34 _ rfl _ _ _ _ _ _ _ rfl ?_
                    have hc3 := gm_yX14_legendreOf_a g K [A.toInt, (P : Int)] [] [.int A, .int (Int32.ofInt (P : Int))] h' hp.1 (li_in (by omega) (by omega) (li_in (by omega) (by omega) li_in0)) (fun c hc => nomatch hc) (List.forall_mem_nil _) rfl ⟨⟨_, rfl, ck_Lv.x rfl⟩, ⟨_, rfl, by rw [hd_oi (by omega) (by omega)]; exact ck_Lv.x rfl⟩, trivial⟩ 0 0 (ck_Lv.k _ 0) (ck_Lv.k _ 0)
                    refine hd_call (hs 35 _ rfl) (a := [.int A, .int (Int32.ofInt (P : Int))]) (st := [.int M]) hc3 rfl rfl (Nat.le_of_ble_eq_true rfl) (Nat.zero_le _) (Nat.zero_le _) (fun v7 h7 hq => ?_) (fun E h7 hq => by have z : E ∈ ([] : List String) := hq.2.2.2; nomatch z)
                    obtain ⟨k7, k8, k9, r7, s7, t1, t2, t3, t4, t5⟩ := hq
                    cases v7 with
                    | none => exact t5.elim
                    | some w7 =>
                      obtain ⟨⟨B, t6, t7⟩, -⟩ := t5
                      subst t6
                      have hp7 := nx (s9 := []) (t9 := 0) hp k7 k8 k9
                      obtain ⟨u1, u2, u3⟩ := jb_div hl1 (by omega) hm nd
                      have em3 : (l' : Int) / (P : Int) = ((l' / P : Nat) : Int) := by rw [Int.natCast_ediv]
                      refine hs 36 _ rfl _ _ _ _ _ _ _ rfl ?_
                      refine hs 37 _ rfl _ _ _ _ _ _ _ rfl ?_
                      refine hs 38 _ rfl _ _ _ _ _ _ _ rfl ?_
                      refine hs 39 _ rfl _ _ _ _ _ _ _ rfl ?_
                      refine hs 40 _ rfl _ _ _ _ _ _ _ (hd_div (by omega) (by omega) (by omega) (by omega)) ?_
                      refine hs 41 _ rfl _ _ _ _ _ _ _ rfl ?_
                      refine hs 42 _ rfl _ _ _ _ _ ?_
                      rw [em3]
                      exact ih (l' / P) (by omega) u1 (by omega) u3 _ h7 hp7
                  · 
                    refine hs 28 _ rfl _ _ _ _ _ _ _ rfl ?_
                    refine hs 29 _ rfl _ _ _ _ _ _ _ rfl ?_
                    refine hs 30 _ rfl _ _ _ _ _ _ _ (hd_rem (by omega) (by omega) (by omega) (by omega)) ?_
                    rw [em2]
                    refine hs 31 _ rfl _ _ _ _ _ _ (fun _ => ?_) (fun zq => absurd (hd_c1t (c := 1) (by omega) (by omega) (by omega : ((l' % P : Nat) : Int) ≠ 0)) zq)
                    refine hs 43 _ rfl _ _ _ _ _ _ _ (hd_inc rfl) ?_
                    refine hs 44 _ rfl _ _ _ _ _ ?_
                    refine hout l' hl1 hl2 (fun d y1 y2 => ?_) M h' hp
                    by_cases yd : d = P
                    · rw [yd]; exact hm
                    · exact nd d y1 (by omega)
              have outer : ∀ (n P : Nat), P + n = 402 → 3 ≤ P → ∀ l' : Nat, 1 ≤ l' → l' ≤ 400 → (∀ d : Nat, 2 ≤ d → d < P → ¬ l' % d = 0) → ∀ (M : Int32) (h' : List am_C), ck_Hp (G, X, gT, K, h, [u0.toInt, z2.toInt], [q, p], [], []) [u0.toInt, z2.toInt] [q, p] h' → S 45 [some (.ref q), some (.int z2), some (.int A), some (.int M), some (.int (Int32.ofInt (l' : Int))), some (.int (Int32.ofInt (P : Int)))] [] h' 0 0 := by
                intro n
                induction n with
                | zero =>
                  intro P hP hP3 l' hl1 hl2 nd M h' hp
                  have h1 : l' ≤ 1 := by
                    rcases Nat.lt_or_ge 1 l' with y | y
                    · exact absurd (Nat.mod_self l') (nd l' (by omega) (by omega))
                    · exact y
                  refine hs 25 _ rfl _ _ _ _ _ _ _ rfl ?_
                  refine hs 26 _ rfl _ _ _ _ _ _ _ rfl ?_
                  refine hs 27 _ rfl _ _ _ _ _ _ _ (fun _ => ?_) (fun zq => absurd (hd_c2t (c := 5) (by omega) (by omega) (by omega) (by omega) (by omega : ((l' : Int) - (1 : Int)) ≤ 0)) zq)
                  refine hs 45 _ rfl _ _ _ _ _ _ _ rfl ?_
                  exact hs 46 _ rfl _ _ _ _ _ ⟨_, rfl⟩ (Nat.zero_le _) (Nat.zero_le _) (fin _ _ hp)
                | succ n ih =>
                  intro P hP hP3 l' hl1 hl2 nd M h' hp
                  by_cases h1 : l' ≤ 1
                  · 
                    refine hs 25 _ rfl _ _ _ _ _ _ _ rfl ?_
                    refine hs 26 _ rfl _ _ _ _ _ _ _ rfl ?_
                    refine hs 27 _ rfl _ _ _ _ _ _ _ (fun _ => ?_) (fun zq => absurd (hd_c2t (c := 5) (by omega) (by omega) (by omega) (by omega) (by omega : ((l' : Int) - (1 : Int)) ≤ 0)) zq)
                    refine hs 45 _ rfl _ _ _ _ _ _ _ rfl ?_
                    exact hs 46 _ rfl _ _ _ _ _ ⟨_, rfl⟩ (Nat.zero_le _) (Nat.zero_le _) (fin _ _ hp)
                  · have hPl : P ≤ l' := by
                      rcases Nat.lt_or_ge l' P with y | y
                      · exact absurd (Nat.mod_self l') (nd l' (by omega) (by omega))
                      · exact y
                    refine hs 25 _ rfl _ _ _ _ _ _ _ rfl ?_
                    refine hs 26 _ rfl _ _ _ _ _ _ _ rfl ?_
                    refine hs 27 _ rfl _ _ _ _ _ _ _ (fun zq => absurd (hd_c2z (c := 5) (by omega) (by omega) (by omega) (by omega) zq) (by omega : ¬ (((l' : Int) - (1 : Int)) ≤ 0))) (fun _ => ?_)
                    exact inner P hP3 (by omega) (fun l9 y1 y2 y3 M9 h9 hp9 => by
                      have := ih (P + 1) (by omega) (by omega) l9 y1 y2 y3 M9 h9 hp9
                      rw [Int.natCast_add] at this
                      exact this) l' l' (Nat.le_refl _) hl1 hl2 nd M h' hp
              refine hs 16 _ rfl _ _ _ _ _ _ _ rfl ?_
              refine hs 17 _ rfl _ _ _ _ _ _ _ rfl ?_
              refine hs 18 _ rfl _ _ _ _ _ _ _ rfl ?_
              refine hs 19 _ rfl _ _ _ _ _ _ _ rfl ?_
              refine hs 20 _ rfl _ _ _ _ _ _ _ _ _ (jb_Kp (hp2.2.1) e0) rfl b3 ?_
              refine hs 21 _ rfl _ _ _ _ _ _ _ _ _ (jb_Kp (hp2.2.1) e1) rfl d7 ?_
              refine hs 22 _ rfl _ _ _ _ _ _ _ rfl ?_
              refine hs 23 _ rfl _ _ _ _ _ _ _ rfl ?_
              refine hs 24 _ rfl _ _ _ _ _ _ _ rfl ?_
              have e9 := outer 399 3 rfl (by omega) D (by omega) (by omega) (fun d y1 y2 => by
                obtain rfl : d = 2 := by omega
                exact h2) (Int32.ofInt 1) h8 hp2
              exact e9
