/-! LISTS OF BASES: what they hold, and that no two of them have a common divisor -/
def li_elF (t row el v k : Nat) : List ck_F := (List.range k).flatMap fun i => [(3, row, i, t, (3, el + i, (0, []))), (2, el + i, 0, 41002, (0, 0, (1, []))), (3, el + i, 0, 41002, (1, 0, (0, [(1, v + i)])))]
def li_cpF (v k : Nat) : List ck_F := (List.range k).flatMap fun j => (List.range j).map fun i => (4, 0, 1, 0, (0, 0, (0, [(1000, v + i), (1, v + j)])))
theorem li_els {G : am_G} {K : Int32} {h : List am_C} (hH : ck_HT li_X gT K (am_g G h)) {r : List Int} {s : List Nat} {t row el v k p : Nat} {ws : List Value} (hF : ∀ f ∈ li_elF t row el v k, ck_fa (am_g G h) 0 r s f) (hp : s[row]? = some p) (hg : am_g G h p = some (t, ws)) : ∀ i : Nat, i < k → ∃ (a : Nat) (u : Int32), ws[i]? = some (.ref a) ∧ am_g G h a = some (41002, [.int u]) ∧ r[v + i]? = some u.toInt := by
  intro i hi
  obtain ⟨q1, v1, w1, a1, a2, a3, z1, a4, a5⟩ := hF (3, row, i, t, (3, el + i, (0, []))) (List.mem_flatMap.mpr ⟨i, List.mem_range.mpr hi, by simp⟩)
  obtain ⟨q2, v2, w2, b1, b2, b3, u, b4, b5⟩ := hF (3, el + i, 0, 41002, (1, 0, (0, [(1, v + i)]))) (List.mem_flatMap.mpr ⟨i, List.mem_range.mpr hi, by simp⟩)
  have a1 : s[row]? = some q1 := a1
  rw [hp] at a1
  cases a1
  have a2 : am_g G h p = some (t, v1) := a2
  rw [hg] at a2
  cases a2
  have a4 : s[el + i]? = some z1 := a4
  have b1 : s[el + i]? = some q2 := b1
  rw [a4] at b1
  cases b1
  subst a5 b4
  have b2 : am_g G h z1 = some (41002, v2) := b2
  have hl := li_telen (F := li_fb) (by decide) hH b2
  have hv : v2 = [.int u] := by
    match v2, hl with
    | [y], _ => cases b3; rfl
  rw [hv] at b2
  exact ⟨z1, u, a3, b2, ck_lv1 b5⟩
theorem li_cps {G : am_G} {h : List am_C} {r : List Int} {s : List Nat} {v k : Nat} (hF : ∀ f ∈ li_cpF v k, ck_fa (am_g G h) 0 r s f) : ∀ (i j : Nat) (x y : Int), i < j → j < k → r[v + i]? = some x → r[v + j]? = some y → 0 ≤ x → 0 ≤ y → y ≤ 999 → Nat.gcd x.toNat y.toNat = 1 := by
  intro i j x y hij hj hx hy h0 h1 h2
  have hf := hF (4, 0, 1, 0, (0, 0, (0, [(1000, v + i), (1, v + j)]))) (List.mem_flatMap.mpr ⟨j, List.mem_range.mpr hj, List.mem_map.mpr ⟨i, List.mem_range.mpr hij, rfl⟩⟩)
  obtain ⟨z, ⟨-, z1⟩, a, b, b1, b2, b3⟩ := (show ∃ z : Int, ck_Lv r (0, [(1000, v + i), (1, v + j)]) z ∧ ck_pu 1 z from hf)
  have z1 : z = (0 : Int) + (1000 * r.getD (v + i) 0 + (1 * r.getD (v + j) 0 + 0)) := z1
  rw [ck_lvk hx, ck_lvk hy] at z1
  have e1 : x.toNat = a := by omega
  have e2 : y.toNat = b := by omega
  rw [e1, e2]
  exact b3
theorem li_rep {V : ck_I} {r : List Int} {lo hi : Int} {k n : Nat} (hV : ck_In (V ++ List.replicate k (lo, hi)) r) (hn : V.length = n) {i : Nat} {x : Int} (hi9 : i < k) (hx : r[n + i]? = some x) : lo ≤ x ∧ x ≤ hi := by
  refine hV.2 (n + i) lo hi x ?_ hx
  rw [List.getElem?_append_right (by omega), show n + i - V.length = i by omega, List.getElem?_replicate, if_pos hi9]
def li_pubbK (k : Nat) : ck_KK := (([(-2147483648, 2147483647), (10, 24)] ++ List.replicate k (2, 999), [], li_rawF 606 656 ((k : Int), []) ++ (li_elF 656 1 2 2 k ++ li_cpF 2 k), 2 + k, [(3, 0, (0, [])), (3, 1, (0, []))]), ((0, []), (0, [])), [], [606, 656], ([], [], [(2, 0, 0, 41106, (0, 0, (3, []))), (3, 0, 2, 41106, (1, 0, ((k : Int), [])))], 0, []), [])
theorem li_cp_of {G : am_G} {K : Int32} {h : List am_C} (hH : ck_HT li_X gT K (am_g G h)) {r : List Int} {s : List Nat} {t row el v k p : Nat} {ws : List Value} (hF : ∀ f ∈ li_elF t row el v k, ck_fa (am_g G h) 0 r s f) (hF2 : ∀ f ∈ li_cpF v k, ck_fa (am_g G h) 0 r s f) (hp : s[row]? = some p) (hg : am_g G h p = some (t, ws)) (hb : ∀ (i : Nat) (x : Int), i < k → r[v + i]? = some x → 2 ≤ x ∧ x ≤ 999) : li_cp (am_g G h) (k : Int) ws := by
  have hel := li_els hH hF hp hg
  have hval : ∀ (i : Nat) (x : Int), i < k → li_val (am_g G h) ws i x → r[v + i]? = some x := by
    intro i x hi ⟨a, u, x1, x2, x3⟩
    obtain ⟨a', u', y1, y2, y3⟩ := hel i hi
    rw [x1] at y1
    cases y1
    rw [x2] at y2
    cases y2
    rw [← x3]; exact y3
  refine ⟨fun i hi => ?_, fun i j x y hij hj hx hy => ?_⟩
  · obtain ⟨a, u, y1, y2, y3⟩ := hel i (by omega)
    have := hb i _ (by omega) y3
    exact ⟨u.toInt, ⟨a, u, y1, y2, rfl⟩, this⟩
  · have hx := hval i x (by omega) hx
    have hy := hval j y (by omega) hy
    have := hb i x (by omega) hx
    have := hb j y (by omega) hy
    exact li_cps hF2 i j x y hij (by omega) hx hy (by omega) (by omega) (by omega)
theorem li_pubb_con {G : am_G} {k : Nat} (hk : k ≤ 5) : ck_Con (ck_lem G) G li_X gT (li_pubbK k) := by
  intro K r s a h hH hV hC hFc hn hS mc ms hmc hms
  have hF : li_fb ∈ li_Fs := by decide
  have hFa : ∀ f ∈ li_rawF 606 656 ((k : Int), []), ck_fa (am_g G h) 0 r s f := fun f hf => hFc f (List.mem_append_left _ hf)
  have hFb : ∀ f ∈ li_elF 656 1 2 2 k, ck_fa (am_g G h) 0 r s f := fun f hf => hFc f (List.mem_append_right _ (List.mem_append_left _ hf))
  have hFd : ∀ f ∈ li_cpF 2 k, ck_fa (am_g G h) 0 r s f := fun f hf => hFc f (List.mem_append_right _ (List.mem_append_right _ hf))
  have hn : s.length = 2 + k := hn
  obtain ⟨q, hq⟩ : ∃ q, s[0]? = some q := ⟨s[0], List.getElem?_eq_getElem (by omega)⟩
  obtain ⟨p, hp⟩ : ∃ p, s[1]? = some p := ⟨s[1], List.getElem?_eq_getElem (by omega)⟩
  obtain ⟨mc9, n9, ws, a1, a2, a3, a4, a5⟩ := li_rawf hFa hq hp
  have a3 := ck_lv1 a3
  have i1 := hV.2 1 10 24 _ rfl a3
  have hx := li_k a4
  have hcp := li_cp_of hH hFb hFd hp a2 (fun i x hi hx => li_rep hV rfl hi hx)
  rw [← hx] at hcp
  obtain ⟨h', k1, k2, k3, k4, k5, k6⟩ := li_pubc hF (Or.inr rfl) hH a1 a2 ⟨by omega, by show _ ≤ (5 : Int); omega⟩ ⟨by omega, by omega, by omega⟩ a5 (fun _ => hcp)
  refine ⟨h', k1, k2, ?_, k4, [], [], li_in0, (fun c hc => nomatch hc), List.forall_mem_cons.mpr ⟨?_, List.forall_mem_cons.mpr ⟨?_, List.forall_mem_nil _⟩⟩, rfl, trivial⟩
  · match s, hq, hp with
    | q0 :: p0 :: s', hq, hp => cases hq; cases hp; exact k3
  · exact ⟨q, _, by rw [List.append_nil]; exact hq, k5, ck_Lv.k _ 3⟩
  · exact ⟨q, _, _, by rw [List.append_nil]; exact hq, k5, rfl, n9, rfl, by rw [hx]; exact ck_Lv.k _ _⟩
def li_expbK (k : Nat) : ck_KK := (([((k : Int), (k : Int))], [], [(2, 0, 0, 41106, (0, 0, (3, []))), (3, 0, 2, 41106, (1, 0, (0, [(1, 0)])))], 1, [(3, 0, (0, []))]), ((0, []), (0, [])), [], [], ([(-2147483648, 2147483647), (10, 24)] ++ List.replicate k (2, 999), [], [(3, 0, 0, 41106, (1, 0, (0, [(1, 1)]))), (3, 0, 1, 41106, (3, 1, (0, []))), (2, 1, 0, 40156, (0, 0, (0, [(1, 2)]))), (6, 1, 4, 40156, (0, 0, (0, [(1, 0)])))] ++ (li_elF 40156 1 2 3 k ++ li_cpF 3 k), 1 + k, []), [])
theorem li_pick {k : Nat} {P : Nat → Nat → Int → Prop} (h : ∀ i : Nat, i < k → ∃ (a : Nat) (x : Int), P i a x) : ∃ (A : List Nat) (B : List Int), A.length = k ∧ B.length = k ∧ ∀ (i a : Nat) (x : Int), A[i]? = some a → B[i]? = some x → P i a x := by
  induction k with
  | zero => exact ⟨[], [], rfl, rfl, fun i a x h => nomatch h⟩
  | succ k ih =>
    obtain ⟨A, B, h1, h2, h3⟩ := ih (fun i hi => h i (by omega))
    obtain ⟨a, x, hax⟩ := h k (by omega)
    refine ⟨A ++ [a], B ++ [x], by simp [h1], by simp [h2], fun i a' x' e1 e2 => ?_⟩
    by_cases hi : i < k
    · rw [List.getElem?_append_left (by omega)] at e1 e2
      exact h3 i a' x' e1 e2
    · have hi2 : i = k := by
        have := (List.getElem?_eq_some_iff.mp e1).1
        rw [List.length_append, List.length_singleton] at this
        omega
      subst hi2
      rw [List.getElem?_append_right (by omega), h1, Nat.sub_self] at e1
      rw [List.getElem?_append_right (by omega), h2, Nat.sub_self] at e2
      cases e1
      cases e2
      exact hax
theorem li_expb_con {G : am_G} {k : Nat} (hk1 : 1 ≤ k) (hk : k ≤ 5) : ck_Con (ck_lem G) G li_X gT (li_expbK k) := by
  intro K r s a h hH hV hC hFc hn hS mc ms hmc hms
  have hF : li_fb ∈ li_Fs := by decide
  match s, hn with
  | [q], _ =>
    match r, hV.1 with
    | [n0], _ =>
      obtain ⟨q3, vs, v, e1, e2, e3, n, e4, e5⟩ := hFc (3, 0, 2, 41106, (1, 0, (0, [(1, 0)]))) (by unfold li_expbK; simp)
      cases e1; subst e4
      have e5 := ck_lv1 e5
      cases e5
      obtain ⟨i1, i2⟩ := li_in' hV
      obtain ⟨mc9, p, ws, rfl, f1, f2, f3, f4, f5⟩ := li_expc hF hH e2 e3 (by omega)
      have hcp : li_cp (am_g G h) n.toInt ws := hH.1.2.2.2.1 q p mc9 n ws e2 f1
      obtain ⟨A, B, g1, g2, g3⟩ := li_pick (k := k) (P := fun i a x => ∃ u : Int32, ws[i]? = some (.ref a) ∧ am_g G h a = some (41002, [.int u]) ∧ u.toInt = x ∧ 2 ≤ x ∧ x ≤ 999) (fun i hi => by
        obtain ⟨x, ⟨a, u, x1, x2, x3⟩, x4⟩ := hcp.1 i (by omega)
        exact ⟨a, x, u, x1, x2, x3, x4⟩)
      have hin : ck_In ([(-2147483648, 2147483647), (10, 24)] ++ List.replicate k (2, 999)) (mc9.toInt :: (ws.length : Int) :: B) := by
        refine li_in (li_i32 mc9).1 (li_i32 mc9).2 (li_in (by omega) (by omega) ⟨by show (List.replicate k _).length = _; rw [List.length_replicate, g2], fun i a b x x1 x2 => ?_⟩)
        have x1 : (List.replicate k ((2 : Int), (999 : Int)))[i]? = some (a, b) := x1
        rw [List.getElem?_replicate] at x1
        split at x1
        · next hi =>
          cases x1
          obtain ⟨u, -, -, -, y4, y5⟩ := g3 i A[i] x (List.getElem?_eq_getElem (by omega)) x2
          exact ⟨y4, y5⟩
        · cases x1
      have hr : ∀ (i : Nat), i < k → ∃ x, B[i]? = some x ∧ ([n.toInt] ++ (mc9.toInt :: (ws.length : Int) :: B))[3 + i]? = some x := by
        intro i hi
        refine ⟨B[i]'(by omega), List.getElem?_eq_getElem (by omega), ?_⟩
        show (n.toInt :: mc9.toInt :: (ws.length : Int) :: B)[3 + i]? = _
        rw [show 3 + i = i + 1 + 1 + 1 by omega, List.getElem?_cons_succ, List.getElem?_cons_succ, List.getElem?_cons_succ]
        exact List.getElem?_eq_getElem (by omega)
      have hs : ∀ (i : Nat), i < k → ∃ a, A[i]? = some a ∧ ([q] ++ (p :: A))[2 + i]? = some a := by
        intro i hi
        refine ⟨A[i]'(by omega), List.getElem?_eq_getElem (by omega), ?_⟩
        show (q :: p :: A)[2 + i]? = _
        rw [show 2 + i = i + 1 + 1 by omega, List.getElem?_cons_succ, List.getElem?_cons_succ]
        exact List.getElem?_eq_getElem (by omega)
      refine ⟨h, ck_rh.rf _, hH, ck_Kp.rf, Nat.le_refl _, mc9.toInt :: (ws.length : Int) :: B, p :: A, hin, (fun c hc => nomatch hc), fun f hf => ?_, by show A.length + 1 = 1 + k; omega, trivial⟩
      rcases List.mem_append.mp hf with hf | hf
      · simp only [List.mem_cons, List.not_mem_nil, or_false] at hf
        rcases hf with rfl | rfl | rfl | rfl
        · exact ⟨q, _, _, rfl, e2, rfl, mc9, rfl, ck_Lv.x rfl⟩
        · exact ⟨q, _, _, rfl, e2, rfl, p, rfl, rfl⟩
        · exact ⟨p, ws, rfl, f1, ck_Lv.x rfl⟩
        · exact ⟨p, ws, _, rfl, f1, ck_Lv.x rfl, f5⟩
      rcases List.mem_append.mp hf with hf | hf
      · obtain ⟨i, hi, hf⟩ := List.mem_flatMap.mp hf
        have hi := List.mem_range.mp hi
        obtain ⟨x, x1, x2⟩ := hr i hi
        obtain ⟨a, a1, a2⟩ := hs i hi
        obtain ⟨u, y1, y2, y3, y4, y5⟩ := g3 i a x a1 x1
        simp only [List.mem_cons, List.not_mem_nil, or_false] at hf
        rcases hf with rfl | rfl | rfl
        · exact ⟨p, ws, _, rfl, f1, y1, a, a2, rfl⟩
        · exact ⟨a, _, a2, y2, ck_Lv.k _ 1⟩
        · exact ⟨a, _, _, a2, y2, rfl, u, rfl, by rw [y3]; exact ck_Lv.x x2⟩
      · obtain ⟨j, hj, hf⟩ := List.mem_flatMap.mp hf
        obtain ⟨i, hi, rfl⟩ := List.mem_map.mp hf
        have hi := List.mem_range.mp hi
        have hj := List.mem_range.mp hj
        obtain ⟨x, x1, x2⟩ := hr i (by omega)
        obtain ⟨y, y1, y2⟩ := hr j hj
        obtain ⟨a, a1, -⟩ := hs i (by omega)
        obtain ⟨b, b1, -⟩ := hs j hj
        obtain ⟨u, u1, u2, u3, u4, u5⟩ := g3 i a x a1 x1
        obtain ⟨w, w1, w2, w3, w4, w5⟩ := g3 j b y b1 y1
        have hg := hcp.2 i j x y hi (by omega) ⟨a, u, u1, u2, u3⟩ ⟨b, w, w1, w2, w3⟩
        have hlv : ck_Lv ([n.toInt] ++ (mc9.toInt :: (ws.length : Int) :: B)) (0, [(1000, 3 + i), (1, 3 + j)]) (1000 * x + y) := by
          have := ((ck_Lv.x x2).mul 1000).add (ck_Lv.x y2)
          refine ⟨fun t ht => ?_, ?_⟩
          · simp at ht
            rcases ht with rfl | rfl
            · exact (List.getElem?_eq_some_iff.mp x2).1
            · exact (List.getElem?_eq_some_iff.mp y2).1
          · show _ = (0 : Int) + (1000 * (([n.toInt] ++ (mc9.toInt :: (ws.length : Int) :: B))).getD (3 + i) 0 + (1 * (([n.toInt] ++ (mc9.toInt :: (ws.length : Int) :: B))).getD (3 + j) 0 + 0))
            rw [ck_lvk x2, ck_lvk y2]
            omega
        exact (show ∃ z : Int, ck_Lv _ (0, [(1000, 3 + i), (1, 3 + j)]) z ∧ ck_pu 1 z from ⟨_, hlv, x.toNat, y.toNat, by omega, by omega, hg⟩)
def li_addbK (k : Nat) : ck_KK := (([((k : Int), (k : Int)), (2, 999)] ++ List.replicate k (2, 999), [], [(2, 0, 0, 41106, (0, 0, (3, []))), (3, 0, 2, 41106, (1, 0, (0, [(1, 0)]))), (2, 1, 0, 41002, (0, 0, (1, []))), (3, 1, 0, 41002, (1, 0, (0, [(1, 1)])))] ++ ((bif Nat.beq k 0 then [] else [(3, 0, 1, 41106, (3, 2, (0, [])))]) ++ (li_elF 40156 2 3 2 k ++ (List.range k).map fun i => (4, 0, 1, 0, (0, 0, (0, [(1, 1), (1000, 2 + i)]))))), 3 + k, [(3, 0, (0, [])), (3, 1, (0, []))]), ((1, []), (20, [])), li_mods li_fb, [], ([], [], [(3, 0, 2, 41106, (1, 0, (1, [(1, 0)])))], 0, [(1, 0, (1, []))]), [])
theorem li_addb_con {G : am_G} {CM : ck_CM} {k : Nat} (hk : k ≤ 4) (hKe : ck_Con (am_grow CM) G li_XL gTl (li_Ke li_fb)) (hKk : ∀ k : Nat, (k : Int) < 5 → ∃ lo : Int, 10 ≤ lo ∧ lo ≤ max 10 ((k : Int) + 1) ∧ ck_Con (am_grow CM) G li_XL gTl (li_Kk li_fb k lo)) : ck_Con (ck_lift G CM) G li_X gT (li_addbK k) := by
  intro K r s a h hH hV hC hFc hn hS mc ms hmc hms
  have hmc' : (mc : Int) = 1 := li_k hmc
  have hms' : (ms : Int) = 20 := li_k hms
  have hF : li_fb ∈ li_Fs := by decide
  have hn : s.length = 3 + k := hn
  obtain ⟨q, hq⟩ : ∃ q, s[0]? = some q := ⟨s[0], List.getElem?_eq_getElem (by omega)⟩
  obtain ⟨e, he⟩ : ∃ q, s[1]? = some q := ⟨s[1], List.getElem?_eq_getElem (by omega)⟩
  have hFa : ∀ f ∈ ([(2, 0, 0, 41106, (0, 0, (3, []))), (3, 0, 2, 41106, (1, 0, (0, [(1, 0)]))), (2, 1, 0, 41002, (0, 0, (1, []))), (3, 1, 0, 41002, (1, 0, (0, [(1, 1)])))] : List ck_F), ck_fa (am_g G h) 0 r s f := fun f hf => hFc f (List.mem_append_left _ hf)
  have hFb : ∀ f ∈ ((bif Nat.beq k 0 then [] else [(3, 0, 1, 41106, (3, 2, (0, [])))]) : List ck_F), ck_fa (am_g G h) 0 r s f := fun f hf => hFc f (List.mem_append_right _ (List.mem_append_left _ hf))
  have hFd : ∀ f ∈ li_elF 40156 2 3 2 k, ck_fa (am_g G h) 0 r s f := fun f hf => hFc f (List.mem_append_right _ (List.mem_append_right _ (List.mem_append_left _ hf)))
  have hFe : ∀ f ∈ ((List.range k).map fun i => ((4, 0, 1, 0, (0, 0, (0, [(1, 1), (1000, 2 + i)]))) : ck_F)), ck_fa (am_g G h) 0 r s f := fun f hf => hFc f (List.mem_append_right _ (List.mem_append_right _ (List.mem_append_right _ hf)))
  match a, hS with
  | [v1, v2], ⟨⟨q1, s1, s2⟩, ⟨q2, s3, s4⟩, _⟩ =>
    have s1 : s[0]? = some q1 := s1
    have s3 : s[1]? = some q2 := s3
    rw [hq] at s1
    rw [he] at s3
    cases s1; cases s3; subst s2 s4
    obtain ⟨q3, vs, v, e1, e2, e3, n, e4, e5⟩ := hFa (3, 0, 2, 41106, (1, 0, (0, [(1, 0)]))) (by simp)
    obtain ⟨q4, ves, w, f1, f2, f3, u, f4, f5⟩ := hFa (3, 1, 0, 41002, (1, 0, (0, [(1, 1)]))) (by simp)
    have e1 : s[0]? = some q3 := e1
    have f1 : s[1]? = some q4 := f1
    rw [hq] at e1
    rw [he] at f1
    cases e1; cases f1; subst e4 f4
    have e2 : am_g G h q = some (41106, vs) := e2
    have f2 : am_g G h e = some (41002, ves) := f2
    obtain ⟨mc9, p, rfl⟩ := li_got hF hH e2 e3
    have hr0 := ck_lv1 e5
    have hr1 := ck_lv1 f5
    have i0 : (k : Int) ≤ n.toInt ∧ n.toInt ≤ (k : Int) := hV.2 0 _ _ _ rfl hr0
    have i1 : (2 : Int) ≤ u.toInt ∧ u.toInt ≤ 999 := hV.2 1 _ _ _ rfl hr1
    have hves : ves = [.int u] := by
      have hl := li_telen hF hH f2
      match ves, hl with
      | [y], _ => cases f3; rfl
    subst hves
    refine li_post (li_addc hF hKe hKk (fun k h1 h2 => absurd h2 (by show ¬ (k : Int) < 5; omega)) hH e2 (by show n.toInt < 5; omega) f2 (fun _ => ⟨u.toInt, u, f2, rfl, i1.1, i1.2, fun ws hws i y hi hval => ?_⟩) (by decide) (fun _ => by decide)) (by omega) (by omega) fun o h'' ⟨y1, y2, y3, y4, mc2, n9, p2, y5, y6⟩ => ?_
    · have hk0 : k ≠ 0 := by omega
      have hb : Nat.beq k 0 = false := by
        cases hb : Nat.beq k 0
        · rfl
        · exact absurd (ck_beq hb) hk0
      rw [hb] at hFb
      obtain ⟨q5, v5, w5, g1, g2, g3, z5, g4, g5⟩ := hFb (3, 0, 1, 41106, (3, 2, (0, []))) (by simp)
      have g1 : s[0]? = some q5 := g1
      rw [hq] at g1
      cases g1
      have g2 : am_g G h q = some (41106, v5) := g2
      rw [e2] at g2
      cases g2
      cases g3
      cases g5
      obtain ⟨a', u', b1, b2, b3⟩ := li_els hH hFd (show s[2]? = some p from g4) hws i (by omega)
      obtain ⟨a9, u9, c1, c2, c3⟩ := hval
      rw [b1] at c1
      cases c1
      rw [b2] at c2
      cases c2
      have hf := hFe _ (List.mem_map.mpr ⟨i, List.mem_range.mpr (show i < k by omega), rfl⟩)
      obtain ⟨z, ⟨-, z1⟩, x1, x2, x3, x4, x5⟩ := (show ∃ z : Int, ck_Lv r (0, [(1, 1), (1000, 2 + i)]) z ∧ ck_pu 1 z from hf)
      have z1 : z = (0 : Int) + (1 * r.getD 1 0 + (1000 * r.getD (2 + i) 0 + 0)) := z1
      rw [ck_lvk hr1, ck_lvk b3] at z1
      have hb9 := li_rep hV (n := 2) rfl (show i < k by omega) b3
      have h1 : y.toNat = x1 := by omega
      have h2 : u.toInt.toNat = x2 := by omega
      rw [h1, h2]
      exact x5
    · subst y1
      refine ⟨y2, y3, y4, [], [], li_in0, (fun c hc => nomatch hc), List.forall_mem_cons.mpr ⟨?_, List.forall_mem_nil _⟩, rfl, ⟨⟨1, rfl, ck_Lv.k _ 1⟩, trivial⟩⟩
      refine ⟨q, _, _, by rw [List.append_nil]; exact hq, y5, rfl, n9, rfl, ⟨fun t ht => ?_, ?_⟩⟩
      · simp at ht
        subst ht
        rw [List.append_nil]
        exact (List.getElem?_eq_some_iff.mp hr0).1
      · show _ = (1 : Int) + (1 * (r ++ []).getD 0 0 + 0)
        rw [List.append_nil, ck_lvk hr0]
        omega
/-- an Integer is kept from now on -/
def li_intK : ck_KK := (([(-128, 999)], [], [(2, 0, 0, 2, (0, 0, (1, []))), (3, 0, 0, 2, (1, 0, (0, [(1, 0)])))], 1, [(3, 0, (0, []))]), ((0, []), (0, [])), [], [2], ([], [], [(2, 0, 0, 41002, (0, 0, (1, []))), (3, 0, 0, 41002, (1, 0, (0, [(1, 0)])))], 0, []), [])
theorem li_int_con {G : am_G} : ck_Con (ck_lem G) G li_X gT li_intK := by
  intro K r s a h hH hV hC hFc hn hS mc ms hmc hms
  match s, hn with
  | [q], _ =>
    match r, hV.1 with
    | [n0], _ =>
      obtain ⟨q1, vs, a1, a2, a3⟩ := hFc (2, 0, 0, 2, (0, 0, (1, []))) (by unfold li_intK; simp)
      obtain ⟨q2, v2, w2, b1, b2, b3, u, b4, b5⟩ := hFc (3, 0, 0, 2, (1, 0, (0, [(1, 0)]))) (by unfold li_intK; simp)
      cases a1; cases b1; subst b4
      have a2 : am_g G h q = some (2, vs) := a2
      have b2 : am_g G h q = some (2, v2) := b2
      rw [a2] at b2
      cases b2
      have b5 := ck_lv1 b5
      cases b5
      obtain ⟨i1, i2⟩ := li_in' hV
      have hl := li_k a3
      have hv : vs = [.int u] := by
        match vs, hl with
        | [y], _ => cases b3; rfl
      subst hv
      have hq1 : 1000 ≤ q := (hH.2 q _ _ a2).2.2 (by decide +kernel)
      have hg : ∀ m, am_g G (am_s h q (41002, [.int u])) m = if m = q then some (41002, [.int u]) else am_g G h m := fun m => am_g_s hq1 (am_g_lt hq1 a2)
      obtain ⟨⟨h0, hX1, hX2, hX3, hX4, hX5⟩, hT⟩ := id hH
      have hne : ∀ (m t : Nat) (ws : List Value), t ≠ 2 → am_g G h m = some (t, ws) → m ≠ q := by
        rintro m t ws ht e rfl
        rw [a2] at e
        exact ht (Prod.mk.inj (Option.some.inj e)).1.symm
      have hfw : ∀ (m t : Nat) (ws : List Value), t ≠ 2 → am_g G h m = some (t, ws) → am_g G (am_s h q (41002, [.int u])) m = some (t, ws) := fun m t ws ht e => by rw [hg, if_neg (hne m t ws ht e)]; exact e
      have hbw : ∀ (m t : Nat) (ws : List Value), t ≠ 41002 → am_g G (am_s h q (41002, [.int u])) m = some (t, ws) → am_g G h m = some (t, ws) := by
        intro m t ws ht e
        rw [hg] at e
        by_cases hm : m = q
        · rw [if_pos hm] at e; exact absurd (Prod.mk.inj (Option.some.inj e)).1.symm ht
        · rw [if_neg hm] at e; exact e
      have hrow : ∀ F ∈ li_Fs, ∀ (m : Nat) (ws : List Value) (p : Nat), am_g G h m = some (F.1, ws) → ws[1]? = some (.ref p) → p ≠ q := by
        intro F hF m ws p e e1
        obtain ⟨mc9, n9, p9, rfl, -, e2⟩ := hX1 F hF m ws e
        have e1 : some (Value.ref p9) = some (.ref p) := e1
        cases e1
        obtain ⟨k1, k2, k3⟩ := li_Fs_ge hF
        rcases e2 with ⟨e2, -⟩ | ⟨w, e2, -⟩
        · exact hne p 43056 [] (by decide) e2
        · exact hne p _ w (by omega) e2
      have hlF : ∀ F ∈ li_Fs, F.1 ≠ 41002 ∧ F.1 ≠ 2 ∧ F.2.1 ≠ 41002 ∧ F.2.1 ≠ 2 := by decide
      refine ⟨_, ⟨[(q, 41002)], 2, _, a2, hq1, (by show 41002 % 100 = 2 % 100; rfl), rfl⟩, ⟨⟨by rw [hg, if_neg (by omega)]; exact h0, ?_, ?_, ?_, ?_, hX5.tr fun m t ws ht e => hbw m t ws (by rcases ht with rfl | rfl <;> decide) e⟩, ?_⟩, ?_, by rw [am_s_len]; exact Nat.le_refl _, [], [], li_in0, (fun c hc => nomatch hc), List.forall_mem_cons.mpr ⟨?_, List.forall_mem_cons.mpr ⟨?_, List.forall_mem_nil _⟩⟩, rfl, trivial⟩
      · intro F hF m ws e
        obtain ⟨mc9, n9, p9, rfl, e1, e2⟩ := hX1 F hF m ws (hbw m _ ws (hlF F hF).1 e)
        exact ⟨mc9, n9, p9, rfl, e1, e2.imp (fun z => ⟨hfw _ _ _ (by decide) z.1, z.2⟩) fun ⟨w, z1, z2⟩ => ⟨w, hfw _ _ _ (hlF F hF).2.2.2 z1, z2⟩⟩
      · intro m m' t t' p tr ws ws' w ht ht' e1 e2 e3 e4 e5 e6 e7
        obtain ⟨F1, hF1, rfl⟩ := ht
        obtain ⟨F2, hF2, rfl⟩ := ht'
        have g1 := hbw m _ ws (hlF F1 hF1).1 e1
        have g2 := hbw m' _ ws' (hlF F2 hF2).1 e2
        have hp := hrow F1 hF1 m ws p g1 e3
        rw [hg, if_neg hp] at e5
        exact hX2 m m' F1.1 F2.1 p tr ws ws' w ⟨F1, hF1, rfl⟩ ⟨F2, hF2, rfl⟩ g1 g2 e3 e4 e5 e6 e7
      · intro m p mc9 n9 w e1 e2
        have g1 := hbw m _ _ (by decide) e1
        have hp := hrow li_fb (by decide) m _ p g1 rfl
        rw [hg, if_neg hp] at e2
        have hold := hX3 m p mc9 n9 w g1 e2
        have hval : ∀ (i : Nat) (x : Int), (i : Int) < n9.toInt → li_val (am_g G (am_s h q (41002, [.int u]))) w i x → li_val (am_g G h) w i x := by
          intro i x hi ⟨b, y, y1, y2, y3⟩
          obtain ⟨x', ⟨b', y', z1, z2, z3⟩, -⟩ := hold.1 i hi
          rw [y1] at z1
          cases z1
          rw [hg, if_neg (hne b _ _ (by decide) z2)] at y2
          exact ⟨b, y, y1, y2, y3⟩
        refine ⟨fun i hi => ?_, fun i j x y hij hj hx hy => hold.2 i j x y hij hj (hval i x (by omega) hx) (hval j y hj hy)⟩
        obtain ⟨x, x1, x2⟩ := hold.1 i hi
        exact ⟨x, x1.tr fun b vs e => hfw b _ vs (by decide) e, x2⟩
      · intro t m m' ws ws' ht e1 e2
        have h41 : t ≠ 41002 := by rcases ht with rfl | rfl <;> decide
        exact hX4 t m m' ws ws' ht (hbw m t ws h41 e1) (hbw m' t ws' h41 e2)
      · intro m t ws e
        by_cases hm : m = q
        · subst hm
          rw [hg, if_pos rfl] at e
          cases e
          refine ⟨fun d hd => ?_, trivial, fun z => hq1⟩
          have hd' : ck_lk gT 41002 = some (2, 1, 1, [(1, 0, -128, 999)]) := rfl
          rw [hd'] at hd
          cases hd
          refine ⟨⟨(by decide : (1 : Int) ≤ ((1 : Nat) : Int)), (by decide : ((1 : Nat) : Int) ≤ 1)⟩, fun j v hv => ?_⟩
          match j, hv with
          | 0, hv => cases hv; exact ⟨_, rfl, u, rfl, i1, i2⟩
          | j + 1, hv => cases hv
        · rw [hg, if_neg hm] at e
          obtain ⟨f1, -, f3⟩ := hT m t ws e
          refine ⟨fun d hd => ⟨(f1 d hd).1, fun j v hv => ?_⟩, trivial, f3⟩
          obtain ⟨y, y1, y2⟩ := (f1 d hd).2 j v hv
          exact ⟨y, y1, y2.ex fun b t' c e1 e2 => ⟨c, hfw b t' c (by omega) e1, rfl⟩⟩
      · intro m t ws e
        by_cases hm : m = q
        · subst hm
          rw [a2] at e
          cases e
          exact Or.inl ⟨List.mem_cons_self, _, _, by rw [hg, if_pos rfl], rfl⟩
        · exact Or.inr ⟨ws, by rw [hg, if_neg hm]; exact e, rfl, fun _ _ => rfl⟩
      · exact ⟨q, _, rfl, by rw [hg, if_pos rfl], ck_Lv.k _ 1⟩
      · exact ⟨q, _, _, rfl, by rw [hg, if_pos rfl], rfl, u, rfl, ck_Lv.x rfl⟩
