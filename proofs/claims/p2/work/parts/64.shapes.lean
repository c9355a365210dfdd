section
/-! WHAT THE LISTS' OWN METHODS DO TO RAW LISTS -/
def li_Ke (F : li_F) : ck_KK := (([(-2147483648, 2147483647)], [], [(2, 0, 0, 506, (0, 0, (3, []))), (3, 0, 0, 506, (1, 0, (0, [(1, 0)]))), (3, 0, 1, 506, (3, 1, (0, []))), (2, 1, 0, 43056, (0, 0, (0, []))), (3, 0, 2, 506, (1, 0, (0, []))), (2, 2, 0, F.2.2.2.1, (0, 0, ((F.2.2.2.2.1 : Int), [])))], 3, [(3, 0, (0, [])), (3, 2, (0, []))]), ((1, []), (11, [])), [(506, 0), (506, 1), (506, 2)], [], ([(-2147483648, 2147483647), (10, 11)], [], [(3, 0, 0, 506, (1, 0, (0, [(1, 1)]))), (3, 0, 1, 506, (3, 3, (0, []))), (2, 3, 0, F.2.2.1, (0, 0, (0, [(1, 2)]))), (5, 3, 0, 0, (0, 0, (0, []))), (6, 3, 4, F.2.2.1, (0, 0, (1, []))), (3, 0, 2, 506, (1, 0, (1, []))), (3, 3, 0, F.2.2.1, (3, 2, (0, [])))], 1, [(1, 0, (1, []))]), [])
def li_Kk (F : li_F) (k : Nat) (lo : Int) : ck_KK := (([(-2147483648, 2147483647), (lo, 24)], [], [(2, 0, 0, 506, (0, 0, (3, []))), (3, 0, 0, 506, (1, 0, (0, [(1, 0)]))), (3, 0, 1, 506, (3, 1, (0, []))), (2, 1, 0, F.2.2.1, (0, 0, (0, [(1, 1)]))), (3, 0, 2, 506, (1, 0, ((k : Int), []))), (6, 1, 4, F.2.2.1, (0, 0, ((k : Int), []))), (2, 2, 0, F.2.2.2.1, (0, 0, ((F.2.2.2.2.1 : Int), [])))], 3, [(3, 0, (0, [])), (3, 2, (0, []))]), ((0, []), (0, [])), [(506, 0), (506, 2), (F.2.2.1, k)], [], ([(-2147483648, 2147483647)], [], [(3, 0, 0, 506, (1, 0, (0, [(1, 2)]))), (3, 0, 2, 506, (1, 0, (((k + 1 : Nat) : Int), []))), (3, 1, k, F.2.2.1, (3, 2, (0, []))), (6, 1, 4, F.2.2.1, (0, 0, (((k + 1 : Nat) : Int), [])))], 0, [(1, 0, (1, []))]), [])
def li_Kg (F : li_F) (k : Nat) : ck_KK := (([(-2147483648, 2147483647)], [], [(2, 0, 0, 506, (0, 0, (3, []))), (3, 0, 0, 506, (1, 0, (0, [(1, 0)]))), (3, 0, 1, 506, (3, 1, (0, []))), (2, 1, 0, F.2.2.1, (0, 0, ((k : Int), []))), (3, 0, 2, 506, (1, 0, ((k : Int), []))), (6, 1, 4, F.2.2.1, (0, 0, ((k : Int), []))), (2, 2, 0, F.2.2.2.1, (0, 0, ((F.2.2.2.2.1 : Int), [])))], 3, [(3, 0, (0, [])), (3, 2, (0, []))]), ((1, []), (20, [])), [(506, 0), (506, 1), (506, 2), (F.2.2.1, 1000)], [], ([(-2147483648, 2147483647), (15, 20)], [], [(3, 0, 0, 506, (1, 0, (0, [(1, 1)]))), (3, 0, 1, 506, (3, 3, (0, []))), (2, 3, 0, F.2.2.1, (0, 0, (0, [(1, 2)]))), (5, 3, 0, 0, (0, 0, (0, []))), (6, 3, 4, F.2.2.1, (0, 0, (((k + 1 : Nat) : Int), []))), (3, 0, 2, 506, (1, 0, (((k + 1 : Nat) : Int), [])))], 1, [(1, 0, (1, []))]), [])
def li_Kr (F : li_F) : ck_KK := (([(-2147483648, 2147483647), (10, 24), (1, 13), (0, 12)], [(0, [(1, 1), (-1, 2)]), (-1, [(1, 2), (-1, 3)])], [(2, 0, 0, 506, (0, 0, (3, []))), (3, 0, 0, 506, (1, 0, (0, [(1, 0)]))), (3, 0, 1, 506, (3, 1, (0, []))), (2, 1, 0, F.2.2.1, (0, 0, (0, [(1, 1)]))), (3, 0, 2, 506, (1, 0, (0, [(1, 2)]))), (6, 1, 4, F.2.2.1, (0, 0, (0, [(1, 2)])))], 2, [(3, 0, (0, [])), (1, 0, (0, [(1, 3)]))]), ((0, []), (0, [])), [(506, 0), (506, 2), (F.2.2.1, 1000)], [], ([(-2147483648, 2147483647)], [], [(2, 2, 0, F.2.2.2.1, (0, 0, ((F.2.2.2.2.1 : Int), []))), (3, 0, 0, 506, (1, 0, (0, [(1, 4)]))), (3, 0, 2, 506, (1, 0, (-1, [(1, 2)]))), (6, 1, 4, F.2.2.1, (0, 0, (-1, [(1, 2)])))], 1, [(3, 2, (0, []))]), [])
/-- the last of k + 1 -/
def li_Kb (F : li_F) (k : Nat) : ck_KK := (([(-2147483648, 2147483647), (10, 24)], [], [(2, 0, 0, 506, (0, 0, (3, []))), (3, 0, 0, 506, (1, 0, (0, [(1, 0)]))), (3, 0, 1, 506, (3, 1, (0, []))), (2, 1, 0, F.2.2.1, (0, 0, (0, [(1, 1)]))), (3, 0, 2, 506, (1, 0, (((k + 1 : Nat) : Int), []))), (6, 1, 4, F.2.2.1, (0, 0, (((k + 1 : Nat) : Int), [])))], 2, [(3, 0, (0, [])), (1, 0, ((k : Int), []))]), ((0, []), (0, [])), [(506, 0), (506, 2), (F.2.2.1, k)], [], ([(-2147483648, 2147483647)], [], [(2, 2, 0, F.2.2.2.1, (0, 0, ((F.2.2.2.2.1 : Int), []))), (3, 0, 0, 506, (1, 0, (0, [(1, 2)]))), (3, 0, 2, 506, (1, 0, ((k : Int), []))), (6, 1, 4, F.2.2.1, (0, 0, ((k : Int), [])))], 1, [(3, 2, (0, []))]), [])
theorem li_in0 : ck_In [] [] := ⟨rfl, fun _ _ _ _ h => nomatch h⟩
theorem li_in {a b x : Int} {V : ck_I} {r : List Int} (h1 : a ≤ x) (h2 : x ≤ b) (H : ck_In V r) : ck_In ((a, b) :: V) (x :: r) := by
  refine ⟨by rw [List.length_cons, List.length_cons, H.1], fun i a' b' x' e1 e2 => ?_⟩
  cases i with
  | zero => cases e1; cases e2; exact ⟨h1, h2⟩
  | succ i => exact H.2 i a' b' x' e1 e2
theorem li_in' {a b x : Int} {V : ck_I} {r : List Int} (H : ck_In ((a, b) :: V) (x :: r)) : a ≤ x ∧ x ≤ b := H.2 0 a b x rfl rfl
theorem li_three {vs : List Value} {a b c : Value} (h : vs.length = 3) (h0 : vs[0]? = some a) (h1 : vs[1]? = some b) (h2 : vs[2]? = some c) : vs = [a, b, c] := by
  match vs, h with
  | [x, y, z], _ => cases h0; cases h1; cases h2; rfl
theorem li_k {r : List Int} {c x : Int} (h : ck_Lv r (c, []) x) : x = c := h.fn (ck_Lv.k r c)
theorem li_i32 (x : Int32) : -2147483648 ≤ x.toInt ∧ x.toInt ≤ 2147483647 := ⟨Int32.le_toInt x, Int32.toInt_le x⟩
/-- a list behind a method: its changes, its row, how many -/
def li_aft (F : li_F) (G : am_G) (K : Int32) (M : List (Nat × Nat)) (h1 h' : List am_C) (q : Nat) (mc2 n2 : Int32) (p2 : Nat) (w2 : List Value) : Prop :=
  ck_HT li_XL gTl K (am_g G h') ∧ ck_Kp M [] (am_g G h1) (am_g G h') ∧ am_g G h' q = some (506, [.int mc2, .ref p2, .int n2]) ∧ am_g G h' p2 = some (F.2.2.1, w2) ∧ 10 ≤ w2.length ∧ w2.length ≤ 24 ∧ ∀ k : Nat, (k : Int) < n2.toInt → ∃ q : Nat, w2[k]? = some (.ref q)
theorem li_len {M : List (Nat × Nat)} {s : List Nat} {G : am_G} {h1 h' : List am_C} (k2 : ck_Kp M (ck_rq [] s) (am_g G h1) (am_g G h')) {q t : Nat} {vs : List Value} (hq : am_g G h1 q = some (t, vs)) : ∃ vs' : List Value, am_g G h' q = some (t, vs') ∧ vs'.length = vs.length := by
  rcases k2 q t vs hq with ⟨z, -⟩ | ⟨vs', z1, z2, -⟩
  · cases z
  · exact ⟨vs', z1, z2⟩
theorem li_one1 {r : List Int} {s : List Nat} {v : Option Value} (h : ck_stk r s [(1, 0, (1, []))] v.toList) : (Sum.inl v : am_O) = .inl (some (.int 1)) := by
  cases v with
  | none => exact h.elim
  | some v =>
    obtain ⟨⟨x, rfl, h2⟩, -⟩ := h
    have : x = 1 := Int32.toInt_inj.mp ((li_k h2).trans (by decide))
    rw [this]
section LISH
variable {G : am_G} {CM : ck_CM} {F : li_F} {K : Int32} {h1 : List am_C} {q p e : Nat} {mc n : Int32} {ws ves : List Value}
set_option maxHeartbeats 2000000 in
theorem li_she (hc : ck_Con (am_grow CM) G li_XL gTl (li_Ke F)) (hH : ck_HT li_XL gTl K (am_g G h1)) (hq : am_g G h1 q = some (506, [.int mc, .ref p, .int n])) (hn : n.toInt = 0) (hp : am_g G h1 p = some (43056, [])) (he : am_g G h1 e = some (F.2.2.2.1, ves)) (hel : ves.length = F.2.2.2.2.1) :
    ∃ P1, CM [.ref q, .ref e] h1 1 11 P1 ∧ ∀ (o : am_O) (h' : List am_C), P1 o h' → o = .inl (some (.int 1)) ∧ h'.length = h1.length + 1 ∧ ∃ (mc2 n2 : Int32) (w2 : List Value), n2.toInt = n.toInt + 1 ∧ li_aft F G K [(506, 0), (506, 1), (506, 2)] h1 h' q mc2 n2 (1000 + h1.length) w2 ∧ w2[n.toInt.toNat]? = some (.ref e) := by
  refine ⟨_, hc K [mc.toInt] [q, p, e] [.ref q, .ref e] h1 hH (li_in (li_i32 mc).1 (li_i32 mc).2 li_in0) (fun c hc => nomatch hc) (List.forall_mem_cons.mpr ⟨?_, List.forall_mem_cons.mpr ⟨?_, List.forall_mem_cons.mpr ⟨?_, List.forall_mem_cons.mpr ⟨?_, List.forall_mem_cons.mpr ⟨?_, List.forall_mem_cons.mpr ⟨?_, List.forall_mem_nil _⟩⟩⟩⟩⟩⟩) rfl ⟨⟨q, rfl, rfl⟩, ⟨e, rfl, rfl⟩, trivial⟩ 1 11 (ck_Lv.k _ 1) (ck_Lv.k _ 11), fun o h' hp9 => ?_⟩
  · exact ⟨q, _, rfl, hq, ck_Lv.k _ 3⟩
  · exact ⟨q, _, _, rfl, hq, rfl, mc, rfl, ck_Lv.x rfl⟩
  · exact ⟨q, _, _, rfl, hq, rfl, p, rfl, rfl⟩
  · exact ⟨p, _, rfl, hp, ck_Lv.k _ 0⟩
  · exact ⟨q, _, _, rfl, hq, rfl, n, rfl, by rw [hn]; exact ck_Lv.k _ 0⟩
  · exact ⟨e, _, rfl, he, by rw [hel]; exact ck_Lv.k _ _⟩
  obtain ⟨⟨k1, k2, k3, k4⟩, k5⟩ := hp9
  cases o with
  | inr E => cases (show E ∈ ([] : List String) from k4)
  | inl v =>
    obtain ⟨r2, s2, m1, m2, m3, m4, m5⟩ := k4
    match r2, m1.1 with
    | [x, y], _ =>
      match s2, m4 with
      | [z], _ =>
        obtain ⟨i1, i2⟩ := li_in' (show ck_In [(10, 11)] [y] from ⟨rfl, fun i a b x' e1 e2 => m1.2 (i + 1) a b x' e1 e2⟩)
        obtain ⟨q1, v1, w1, a1, a2, a3, x1, a4, a5⟩ := m3 (3, 0, 0, 506, (1, 0, (0, [(1, 1)]))) (by unfold li_Ke; simp)
        obtain ⟨q2, v2, y2, b1, b2, b3, z2, b4, b5⟩ := m3 (3, 0, 1, 506, (3, 3, (0, []))) (by unfold li_Ke; simp)
        obtain ⟨q3, v3, c1, c2, c3⟩ := m3 (2, 3, 0, F.2.2.1, (0, 0, (0, [(1, 2)]))) (by unfold li_Ke; simp)
        obtain ⟨q4, d1, d2⟩ := m3 (5, 3, 0, 0, (0, 0, (0, []))) (by unfold li_Ke; simp)
        obtain ⟨q5, v5, x5, e1, e2, e3, e4⟩ := m3 (6, 3, 4, F.2.2.1, (0, 0, (1, []))) (by unfold li_Ke; simp)
        obtain ⟨q6, v6, y6, f1, f2, f3, x6, f4, f5⟩ := m3 (3, 0, 2, 506, (1, 0, (1, []))) (by unfold li_Ke; simp)
        obtain ⟨q7, v7, y7, g1, g2, g3, g4, g5, g6⟩ := m3 (3, 3, 0, F.2.2.1, (3, 2, (0, []))) (by unfold li_Ke; simp)
        cases a1; cases b1; cases c1; cases d1; cases e1; cases f1; cases g1; cases g5; cases b4
        subst a4 f4 g6 b5
        obtain ⟨v9, t1, t2⟩ := li_len k2 hq
        rw [t1] at a2 b2 f2
        cases a2; cases b2; cases f2
        have hv := li_three (t2.trans rfl) a3 b3 f3
        have hx := li_k f5
        have c3 := ck_lv1 c3
        cases c3
        have d2 : 1000 + h1.length ≤ z := d2
        have k3 : h1.length ≤ h'.length := k3
        have hz := am_g_lt (by omega) c2
        have hz2 : z = 1000 + h1.length := by omega
        subst hz2
        have e2 : am_g G h' (1000 + h1.length) = some (F.2.2.1, v5) := e2
        have g2 : am_g G h' (1000 + h1.length) = some (F.2.2.1, v7) := g2
        rw [c2] at e2 g2
        cases e2; cases g2
        have e3 := li_k e3
        subst e3
        have hn2 : x6.toInt = n.toInt + 1 := by omega
        refine ⟨?_, by omega, x1, x6, v3, hn2, ⟨k1, k2, by rw [t1, hv], c2, by omega, by omega, fun k hk => e4 k (by omega)⟩, by rw [hn]; exact g3⟩
        exact li_one1 m5
set_option maxHeartbeats 2000000 in
theorem li_shk {k : Nat} {lo : Int} (h506 : F.2.2.1 ≠ 506) (hc : ck_Con (am_grow CM) G li_XL gTl (li_Kk F k lo)) (hH : ck_HT li_XL gTl K (am_g G h1)) (hq : am_g G h1 q = some (506, [.int mc, .ref p, .int n])) (hn : n.toInt = (k : Int)) (hp : am_g G h1 p = some (F.2.2.1, ws)) (hl : lo ≤ (ws.length : Int) ∧ ws.length ≤ 24) (hlo : 10 ≤ lo) (hk : ∀ j : Nat, (j : Int) < n.toInt → ∃ q : Nat, ws[j]? = some (.ref q)) (he : am_g G h1 e = some (F.2.2.2.1, ves)) (hel : ves.length = F.2.2.2.2.1) :
    ∃ P1, CM [.ref q, .ref e] h1 0 0 P1 ∧ ∀ (o : am_O) (h' : List am_C), P1 o h' → o = .inl (some (.int 1)) ∧ h'.length = h1.length ∧ ∃ (mc2 n2 : Int32) (w2 : List Value), n2.toInt = n.toInt + 1 ∧ li_aft F G K [(506, 0), (506, 2), (F.2.2.1, k)] h1 h' q mc2 n2 p w2 ∧ w2[n.toInt.toNat]? = some (.ref e) ∧ ∀ j : Nat, j ≠ k → k < 1000 → w2[j]? = ws[j]? := by
  refine ⟨_, hc K [mc.toInt, (ws.length : Int)] [q, p, e] [.ref q, .ref e] h1 hH (li_in (li_i32 mc).1 (li_i32 mc).2 (li_in hl.1 (by omega) li_in0)) (fun c hc => nomatch hc) (List.forall_mem_cons.mpr ⟨?_, List.forall_mem_cons.mpr ⟨?_, List.forall_mem_cons.mpr ⟨?_, List.forall_mem_cons.mpr ⟨?_, List.forall_mem_cons.mpr ⟨?_, List.forall_mem_cons.mpr ⟨?_, List.forall_mem_cons.mpr ⟨?_, List.forall_mem_nil _⟩⟩⟩⟩⟩⟩⟩) rfl ⟨⟨q, rfl, rfl⟩, ⟨e, rfl, rfl⟩, trivial⟩ 0 0 (ck_Lv.k _ 0) (ck_Lv.k _ 0), fun o h' hp9 => ?_⟩
  · exact ⟨q, _, rfl, hq, ck_Lv.k _ 3⟩
  · exact ⟨q, _, _, rfl, hq, rfl, mc, rfl, ck_Lv.x rfl⟩
  · exact ⟨q, _, _, rfl, hq, rfl, p, rfl, rfl⟩
  · exact ⟨p, _, rfl, hp, ck_Lv.x rfl⟩
  · exact ⟨q, _, _, rfl, hq, rfl, n, rfl, by rw [hn]; exact ck_Lv.k _ _⟩
  · exact ⟨p, _, _, rfl, hp, ck_Lv.k _ _, fun j hj => hk j (by omega)⟩
  · exact ⟨e, _, rfl, he, by rw [hel]; exact ck_Lv.k _ _⟩
  obtain ⟨⟨k1, k2, k3, k4⟩, k5⟩ := hp9
  cases o with
  | inr E => cases (show E ∈ ([] : List String) from k4)
  | inl v =>
    obtain ⟨r2, s2, m1, m2, m3, m4, m5⟩ := k4
    match r2, m1.1 with
    | [x], _ =>
      match s2, m4 with
      | [], _ =>
        obtain ⟨q1, v1, w1, a1, a2, a3, x1, a4, a5⟩ := m3 (3, 0, 0, 506, (1, 0, (0, [(1, 2)]))) (by unfold li_Kk; simp)
        obtain ⟨q5, v5, x5, e1, e2, e3, e4⟩ := m3 (6, 1, 4, F.2.2.1, (0, 0, (((k + 1 : Nat) : Int), []))) (by unfold li_Kk; simp)
        obtain ⟨q6, v6, y6, f1, f2, f3, x6, f4, f5⟩ := m3 (3, 0, 2, 506, (1, 0, (((k + 1 : Nat) : Int), []))) (by unfold li_Kk; simp)
        obtain ⟨q7, v7, y7, g1, g2, g3, g4, g5, g6⟩ := m3 (3, 1, k, F.2.2.1, (3, 2, (0, []))) (by unfold li_Kk; simp)
        cases a1; cases e1; cases f1; cases g1; cases g5
        subst a4 f4 g6
        have k2' := k2 q 506 _ hq
        rcases k2' with ⟨zz, -⟩ | ⟨v9, t1, t2, t3⟩
        · cases zz
        have b3 : v9[1]? = some (.ref p) := by
          rw [t3 1 (by
            show ck_inM [(506, 0), (506, 2), (F.2.2.1, k)] 506 1 = false
            unfold ck_inM
            simp only [List.any_cons, List.any_nil]
            rw [show (Nat.beq F.2.2.1 506) = false by
              cases hb : Nat.beq F.2.2.1 506
              · rfl
              · exact absurd (ck_beq hb) h506]
            rfl)]
          rfl
        rw [t1] at a2 f2
        cases a2; cases f2
        have hv := li_three (t2.trans rfl) a3 b3 f3
        have hx := li_k f5
        rcases k2 p _ _ hp with ⟨zz, -⟩ | ⟨vp, y1, y2, y3⟩
        · cases zz
        rw [y1] at e2 g2
        cases e2; cases g2
        have e3 := li_k e3
        subst e3
        have k3 : h1.length ≤ h'.length := k3
        have hn2 : x6.toInt = n.toInt + 1 := by omega
        refine ⟨li_one1 m5, by omega, x1, x6, _, hn2, ⟨k1, k2, by rw [t1, hv], y1, by omega, by omega, fun j hj => e4 j (by omega)⟩, by rw [hn]; exact g3, fun j hj hk9 => y3 j ?_⟩
        show ck_inM [(506, 0), (506, 2), (F.2.2.1, k)] F.2.2.1 j = false
        unfold ck_inM
        simp only [List.any_cons, List.any_nil]
        rw [show (Nat.beq 506 F.2.2.1) = false by
          cases hb : Nat.beq 506 F.2.2.1
          · rfl
          · exact absurd (ck_beq hb).symm h506]
        rw [show (Nat.beq k j) = false by
          cases hb : Nat.beq k j
          · rfl
          · exact absurd (ck_beq hb).symm hj]
        rw [show (Nat.beq k 1000) = false by
          cases hb : Nat.beq k 1000
          · rfl
          · exact absurd (ck_beq hb) (by omega)]
        simp
set_option maxHeartbeats 2000000 in
theorem li_shg {k : Nat} (hc : ck_Con (am_grow CM) G li_XL gTl (li_Kg F k)) (hH : ck_HT li_XL gTl K (am_g G h1)) (hq : am_g G h1 q = some (506, [.int mc, .ref p, .int n])) (hn : n.toInt = (k : Int)) (hp : am_g G h1 p = some (F.2.2.1, ws)) (hl : ws.length = k) (hk : ∀ j : Nat, (j : Int) < n.toInt → ∃ q : Nat, ws[j]? = some (.ref q)) (he : am_g G h1 e = some (F.2.2.2.1, ves)) (hel : ves.length = F.2.2.2.2.1) :
    ∃ P1, CM [.ref q, .ref e] h1 1 20 P1 ∧ ∀ (o : am_O) (h' : List am_C), P1 o h' → o = .inl (some (.int 1)) ∧ h'.length = h1.length + 1 ∧ ∃ (mc2 n2 : Int32) (w2 : List Value), n2.toInt = n.toInt + 1 ∧ li_aft F G K [(506, 0), (506, 1), (506, 2), (F.2.2.1, 1000)] h1 h' q mc2 n2 (1000 + h1.length) w2 := by
  refine ⟨_, hc K [mc.toInt] [q, p, e] [.ref q, .ref e] h1 hH (li_in (li_i32 mc).1 (li_i32 mc).2 li_in0) (fun c hc => nomatch hc) (List.forall_mem_cons.mpr ⟨?_, List.forall_mem_cons.mpr ⟨?_, List.forall_mem_cons.mpr ⟨?_, List.forall_mem_cons.mpr ⟨?_, List.forall_mem_cons.mpr ⟨?_, List.forall_mem_cons.mpr ⟨?_, List.forall_mem_cons.mpr ⟨?_, List.forall_mem_nil _⟩⟩⟩⟩⟩⟩⟩) rfl ⟨⟨q, rfl, rfl⟩, ⟨e, rfl, rfl⟩, trivial⟩ 1 20 (ck_Lv.k _ 1) (ck_Lv.k _ 20), fun o h' hp9 => ?_⟩
  · exact ⟨q, _, rfl, hq, ck_Lv.k _ 3⟩
  · exact ⟨q, _, _, rfl, hq, rfl, mc, rfl, ck_Lv.x rfl⟩
  · exact ⟨q, _, _, rfl, hq, rfl, p, rfl, rfl⟩
  · exact ⟨p, _, rfl, hp, by rw [hl]; exact ck_Lv.k _ _⟩
  · exact ⟨q, _, _, rfl, hq, rfl, n, rfl, by rw [hn]; exact ck_Lv.k _ _⟩
  · exact ⟨p, _, _, rfl, hp, ck_Lv.k _ _, fun j hj => hk j (by omega)⟩
  · exact ⟨e, _, rfl, he, by rw [hel]; exact ck_Lv.k _ _⟩
  obtain ⟨⟨k1, k2, k3, k4⟩, k5⟩ := hp9
  cases o with
  | inr E => cases (show E ∈ ([] : List String) from k4)
  | inl v =>
    obtain ⟨r2, s2, m1, m2, m3, m4, m5⟩ := k4
    match r2, m1.1 with
    | [x, y], _ =>
      match s2, m4 with
      | [z], _ =>
        obtain ⟨i1, i2⟩ := li_in' (show ck_In [(15, 20)] [y] from ⟨rfl, fun i a b x' e1 e2 => m1.2 (i + 1) a b x' e1 e2⟩)
        obtain ⟨q1, v1, w1, a1, a2, a3, x1, a4, a5⟩ := m3 (3, 0, 0, 506, (1, 0, (0, [(1, 1)]))) (by unfold li_Kg; simp)
        obtain ⟨q2, v2, y2, b1, b2, b3, z2, b4, b5⟩ := m3 (3, 0, 1, 506, (3, 3, (0, []))) (by unfold li_Kg; simp)
        obtain ⟨q3, v3, c1, c2, c3⟩ := m3 (2, 3, 0, F.2.2.1, (0, 0, (0, [(1, 2)]))) (by unfold li_Kg; simp)
        obtain ⟨q4, d1, d2⟩ := m3 (5, 3, 0, 0, (0, 0, (0, []))) (by unfold li_Kg; simp)
        obtain ⟨q5, v5, x5, e1, e2, e3, e4⟩ := m3 (6, 3, 4, F.2.2.1, (0, 0, (((k + 1 : Nat) : Int), []))) (by unfold li_Kg; simp)
        obtain ⟨q6, v6, y6, f1, f2, f3, x6, f4, f5⟩ := m3 (3, 0, 2, 506, (1, 0, (((k + 1 : Nat) : Int), []))) (by unfold li_Kg; simp)
        cases a1; cases b1; cases c1; cases d1; cases e1; cases f1; cases b4
        subst a4 f4 b5
        obtain ⟨v9, t1, t2⟩ := li_len k2 hq
        rw [t1] at a2 b2 f2
        cases a2; cases b2; cases f2
        have hv := li_three (t2.trans rfl) a3 b3 f3
        have hx := li_k f5
        have c3 := ck_lv1 c3
        cases c3
        have d2 : 1000 + h1.length ≤ z := d2
        have k3 : h1.length ≤ h'.length := k3
        have hz := am_g_lt (by omega) c2
        have hz2 : z = 1000 + h1.length := by omega
        subst hz2
        have e2 : am_g G h' (1000 + h1.length) = some (F.2.2.1, v5) := e2
        rw [c2] at e2
        cases e2
        have e3 := li_k e3
        subst e3
        have hn2 : x6.toInt = n.toInt + 1 := by omega
        exact ⟨li_one1 m5, by omega, x1, x6, v3, hn2, ⟨k1, k2, by rw [t1, hv], c2, by omega, by omega, fun j hj => e4 j (by omega)⟩⟩
/-- an element is taken out; its reference is the answer -/
def li_out (F : li_F) (G : am_G) (h' : List am_C) (o : am_O) : Prop := ∃ (x : Nat) (vx : List Value), o = .inl (some (.ref x)) ∧ am_g G h' x = some (F.2.2.2.1, vx)
set_option maxHeartbeats 2000000 in
theorem li_shr {i : Int32} (h506 : F.2.2.1 ≠ 506) (hc : ck_Con (am_grow CM) G li_XL gTl (li_Kr F)) (hH : ck_HT li_XL gTl K (am_g G h1)) (hq : am_g G h1 q = some (506, [.int mc, .ref p, .int n])) (hn : 1 ≤ n.toInt ∧ n.toInt ≤ 13) (hp : am_g G h1 p = some (F.2.2.1, ws)) (hl : 10 ≤ ws.length ∧ ws.length ≤ 24 ∧ n.toInt ≤ (ws.length : Int)) (hk : ∀ j : Nat, (j : Int) < n.toInt → ∃ q : Nat, ws[j]? = some (.ref q)) (hi : 0 ≤ i.toInt ∧ i.toInt < n.toInt) :
    ∃ P1, CM [.ref q, .int i] h1 0 0 P1 ∧ ∀ (o : am_O) (h' : List am_C), P1 o h' → li_out F G h' o ∧ h'.length = h1.length ∧ ∃ (mc2 n2 : Int32) (w2 : List Value), n2.toInt = n.toInt - 1 ∧ li_aft F G K [(506, 0), (506, 2), (F.2.2.1, 1000)] h1 h' q mc2 n2 p w2 := by
  refine ⟨_, hc K [mc.toInt, (ws.length : Int), n.toInt, i.toInt] [q, p] [.ref q, .int i] h1 hH (li_in (li_i32 mc).1 (li_i32 mc).2 (li_in (by omega) (by omega) (li_in hn.1 hn.2 (li_in hi.1 (by omega) li_in0)))) (List.forall_mem_cons.mpr ⟨?_, List.forall_mem_cons.mpr ⟨?_, List.forall_mem_nil _⟩⟩) (List.forall_mem_cons.mpr ⟨?_, List.forall_mem_cons.mpr ⟨?_, List.forall_mem_cons.mpr ⟨?_, List.forall_mem_cons.mpr ⟨?_, List.forall_mem_cons.mpr ⟨?_, List.forall_mem_cons.mpr ⟨?_, List.forall_mem_nil _⟩⟩⟩⟩⟩⟩) rfl ⟨⟨q, rfl, rfl⟩, ⟨i, rfl, ck_Lv.x rfl⟩, trivial⟩ 0 0 (ck_Lv.k _ 0) (ck_Lv.k _ 0), fun o h' hp9 => ?_⟩
  · exact ⟨ws.length - n.toInt, ⟨by intro t ht; simp at ht; rcases ht with rfl | rfl <;> simp, by show _ = (0 : Int) + (1 * (ws.length : Int) + (-1 * n.toInt + 0)); omega⟩, by omega⟩
  · exact ⟨n.toInt - i.toInt - 1, ⟨by intro t ht; simp at ht; rcases ht with rfl | rfl <;> simp, by show _ = (-1 : Int) + (1 * n.toInt + (-1 * i.toInt + 0)); omega⟩, by omega⟩
  · exact ⟨q, _, rfl, hq, ck_Lv.k _ 3⟩
  · exact ⟨q, _, _, rfl, hq, rfl, mc, rfl, ck_Lv.x rfl⟩
  · exact ⟨q, _, _, rfl, hq, rfl, p, rfl, rfl⟩
  · exact ⟨p, _, rfl, hp, ck_Lv.x rfl⟩
  · exact ⟨q, _, _, rfl, hq, rfl, n, rfl, ck_Lv.x rfl⟩
  · exact ⟨p, _, _, rfl, hp, ck_Lv.x rfl, hk⟩
  obtain ⟨⟨k1, k2, k3, k4⟩, k5⟩ := hp9
  cases o with
  | inr E => cases (show E ∈ ([] : List String) from k4)
  | inl v =>
    obtain ⟨r2, s2, m1, m2, m3, m4, m5⟩ := k4
    match r2, m1.1 with
    | [x], _ =>
      match s2, m4 with
      | [z], _ =>
        obtain ⟨q1, v1, w1, a1, a2, a3, x1, a4, a5⟩ := m3 (3, 0, 0, 506, (1, 0, (0, [(1, 4)]))) (by unfold li_Kr; simp)
        obtain ⟨q3, v3, c1, c2, c3⟩ := m3 (2, 2, 0, F.2.2.2.1, (0, 0, ((F.2.2.2.2.1 : Int), []))) (by unfold li_Kr; simp)
        obtain ⟨q5, v5, x5, e1, e2, e3, e4⟩ := m3 (6, 1, 4, F.2.2.1, (0, 0, (-1, [(1, 2)]))) (by unfold li_Kr; simp)
        obtain ⟨q6, v6, y6, f1, f2, f3, x6, f4, f5⟩ := m3 (3, 0, 2, 506, (1, 0, (-1, [(1, 2)]))) (by unfold li_Kr; simp)
        cases a1; cases c1; cases e1; cases f1
        subst a4 f4
        rcases k2 q 506 _ hq with ⟨zz, -⟩ | ⟨v9, t1, t2, t3⟩
        · cases zz
        have b3 : v9[1]? = some (.ref p) := by
          rw [t3 1 (by
            show ck_inM [(506, 0), (506, 2), (F.2.2.1, 1000)] 506 1 = false
            unfold ck_inM
            simp only [List.any_cons, List.any_nil]
            rw [show (Nat.beq F.2.2.1 506) = false by
              cases hb : Nat.beq F.2.2.1 506
              · rfl
              · exact absurd (ck_beq hb) h506]
            rfl)]
          rfl
        rw [t1] at a2 f2
        cases a2; cases f2
        have hv := li_three (t2.trans rfl) a3 b3 f3
        have hx : x6.toInt = (-1 : Int) + (1 * n.toInt + 0) := f5.2
        rcases k2 p _ _ hp with ⟨zz, -⟩ | ⟨vp, y1, y2, y3⟩
        · cases zz
        rw [y1] at e2
        cases e2
        have e3 : x5 = (-1 : Int) + (1 * n.toInt + 0) := e3.2
        have k3 : h1.length ≤ h'.length := k3
        refine ⟨?_, by omega, x1, x6, _, by omega, ⟨k1, k2, by rw [t1, hv], y1, by omega, by omega, fun j hj => e4 j (by omega)⟩⟩
        cases v with
        | none => exact m5.elim
        | some v =>
          obtain ⟨⟨y, y4, rfl⟩, -⟩ := m5
          cases y4
          exact ⟨_, v3, rfl, c2⟩
set_option maxHeartbeats 2000000 in
theorem li_shb {k : Nat} (h506 : F.2.2.1 ≠ 506) (hc : ck_Con (am_grow CM) G li_XL gTl (li_Kb F k)) (hH : ck_HT li_XL gTl K (am_g G h1)) (hq : am_g G h1 q = some (506, [.int mc, .ref p, .int n])) (hn : n.toInt = ((k + 1 : Nat) : Int)) (hp : am_g G h1 p = some (F.2.2.1, ws)) (hl : 10 ≤ ws.length ∧ ws.length ≤ 24) (hk : ∀ j : Nat, (j : Int) < n.toInt → ∃ q : Nat, ws[j]? = some (.ref q)) {i : Int32} (hi : i.toInt = (k : Int)) (hk9 : k < 1000) :
    ∃ P1, CM [.ref q, .int i] h1 0 0 P1 ∧ ∀ (o : am_O) (h' : List am_C), P1 o h' → li_out F G h' o ∧ h'.length = h1.length ∧ ∃ (mc2 n2 : Int32) (w2 : List Value), n2.toInt = (k : Int) ∧ li_aft F G K [(506, 0), (506, 2), (F.2.2.1, k)] h1 h' q mc2 n2 p w2 ∧ ∀ j : Nat, j ≠ k → w2[j]? = ws[j]? := by
  refine ⟨_, hc K [mc.toInt, (ws.length : Int)] [q, p] [.ref q, .int i] h1 hH (li_in (li_i32 mc).1 (li_i32 mc).2 (li_in (by omega) (by omega) li_in0)) (fun c hc => nomatch hc) (List.forall_mem_cons.mpr ⟨?_, List.forall_mem_cons.mpr ⟨?_, List.forall_mem_cons.mpr ⟨?_, List.forall_mem_cons.mpr ⟨?_, List.forall_mem_cons.mpr ⟨?_, List.forall_mem_cons.mpr ⟨?_, List.forall_mem_nil _⟩⟩⟩⟩⟩⟩) rfl ⟨⟨q, rfl, rfl⟩, ⟨i, rfl, by rw [hi]; exact ck_Lv.k _ _⟩, trivial⟩ 0 0 (ck_Lv.k _ 0) (ck_Lv.k _ 0), fun o h' hp9 => ?_⟩
  · exact ⟨q, _, rfl, hq, ck_Lv.k _ 3⟩
  · exact ⟨q, _, _, rfl, hq, rfl, mc, rfl, ck_Lv.x rfl⟩
  · exact ⟨q, _, _, rfl, hq, rfl, p, rfl, rfl⟩
  · exact ⟨p, _, rfl, hp, ck_Lv.x rfl⟩
  · exact ⟨q, _, _, rfl, hq, rfl, n, rfl, by rw [hn]; exact ck_Lv.k _ _⟩
  · exact ⟨p, _, _, rfl, hp, ck_Lv.k _ _, fun j hj => hk j (by omega)⟩
  obtain ⟨⟨k1, k2, k3, k4⟩, k5⟩ := hp9
  cases o with
  | inr E => cases (show E ∈ ([] : List String) from k4)
  | inl v =>
    obtain ⟨r2, s2, m1, m2, m3, m4, m5⟩ := k4
    match r2, m1.1 with
    | [x], _ =>
      match s2, m4 with
      | [z], _ =>
        obtain ⟨q1, v1, w1, a1, a2, a3, x1, a4, a5⟩ := m3 (3, 0, 0, 506, (1, 0, (0, [(1, 2)]))) (by unfold li_Kb; simp)
        obtain ⟨q3, v3, c1, c2, c3⟩ := m3 (2, 2, 0, F.2.2.2.1, (0, 0, ((F.2.2.2.2.1 : Int), []))) (by unfold li_Kb; simp)
        obtain ⟨q5, v5, x5, e1, e2, e3, e4⟩ := m3 (6, 1, 4, F.2.2.1, (0, 0, ((k : Int), []))) (by unfold li_Kb; simp)
        obtain ⟨q6, v6, y6, f1, f2, f3, x6, f4, f5⟩ := m3 (3, 0, 2, 506, (1, 0, ((k : Int), []))) (by unfold li_Kb; simp)
        cases a1; cases c1; cases e1; cases f1
        subst a4 f4
        rcases k2 q 506 _ hq with ⟨zz, -⟩ | ⟨v9, t1, t2, t3⟩
        · cases zz
        have b3 : v9[1]? = some (.ref p) := by
          rw [t3 1 (by
            show ck_inM [(506, 0), (506, 2), (F.2.2.1, k)] 506 1 = false
            unfold ck_inM
            simp only [List.any_cons, List.any_nil]
            rw [show (Nat.beq F.2.2.1 506) = false by
              cases hb : Nat.beq F.2.2.1 506
              · rfl
              · exact absurd (ck_beq hb) h506]
            rfl)]
          rfl
        rw [t1] at a2 f2
        cases a2; cases f2
        have hv := li_three (t2.trans rfl) a3 b3 f3
        have hx := li_k f5
        rcases k2 p _ _ hp with ⟨zz, -⟩ | ⟨vp, y1, y2, y3⟩
        · cases zz
        rw [y1] at e2
        cases e2
        have e3 := li_k e3
        subst e3
        have k3 : h1.length ≤ h'.length := k3
        refine ⟨?_, by omega, x1, x6, _, hx, ⟨k1, k2, by rw [t1, hv], y1, by omega, by omega, fun j hj => e4 j (by omega)⟩, fun j hj => y3 j ?_⟩
        · cases v with
          | none => exact m5.elim
          | some v =>
            obtain ⟨⟨y, y4, rfl⟩, -⟩ := m5
            cases y4
            exact ⟨_, v3, rfl, c2⟩
        · show ck_inM [(506, 0), (506, 2), (F.2.2.1, k)] F.2.2.1 j = false
          unfold ck_inM
          simp only [List.any_cons, List.any_nil]
          rw [show (Nat.beq 506 F.2.2.1) = false by
            cases hb : Nat.beq 506 F.2.2.1
            · rfl
            · exact absurd (ck_beq hb).symm h506]
          rw [show (Nat.beq k j) = false by
            cases hb : Nat.beq k j
            · rfl
            · exact absurd (ck_beq hb).symm hj]
          rw [show (Nat.beq k 1000) = false by
            cases hb : Nat.beq k 1000
            · rfl
            · exact absurd (ck_beq hb) (by omega)]
          simp
end LISH
end
section
/-! WHAT THE LISTS' OWN METHODS DO TO KEPT LISTS -/
/-- the list is made raw -/
theorem li_raw {G : am_G} {K : Int32} {F : li_F} (hF : F ∈ li_Fs) {h : List am_C} (hH : ck_HT li_X gT K (am_g G h)) {q p : Nat} {mc n : Int32} (hq : am_g G h q = some (F.1, [.int mc, .ref p, .int n])) :
    0 ≤ n.toInt ∧ ∃ h1 : List am_C, ck_rh G h h1 ∧ h1.length = h.length ∧ ck_HT li_XL gTl K (am_g G h1) ∧ am_g G h1 q = some (506, [.int mc, .ref p, .int n]) ∧
      (∀ (m t : Nat) (vs : List Value), m ≠ q → ¬ (m = p ∧ t = F.2.1) → am_g G h m = some (t, vs) → am_g G h1 m = some (t, vs)) ∧
      ((am_g G h p = some (43056, []) ∧ am_g G h1 p = some (43056, []) ∧ n.toInt = 0) ∨ ∃ ws, am_g G h p = some (F.2.1, ws) ∧ am_g G h1 p = some (F.2.2.1, ws) ∧ 10 ≤ ws.length ∧ ws.length ≤ 24 ∧ n.toInt ≤ (ws.length : Int) ∧ ∀ k : Nat, (k : Int) < n.toInt → ∃ q : Nat, ws[k]? = some (.ref q)) := by
  obtain ⟨u1, u2, u3, u4, u5, u6, u7, u8, u9, u10, u11, u12, u13, u14, u15, u16⟩ := li_nums hF
  obtain ⟨r1, r2, r3, r4⟩ := li_row hF
  obtain ⟨k1, k2, k3⟩ := li_Fs_ge hF
  have hq1 : 1000 ≤ q := (hH.2 q _ _ hq).2.2 (by unfold ck_wr; rw [r1]; rfl)
  have hlq := am_g_lt hq1 hq
  have g1 : ∀ m, am_g G (am_s h q (506, [.int mc, .ref p, .int n])) m = if m = q then some (506, [.int mc, .ref p, .int n]) else am_g G h m := fun m => am_g_s hq1 hlq
  obtain ⟨mc9, n9, p9, e1, e2, e3⟩ := hH.1.2.1 F hF q _ hq
  cases e1
  refine ⟨e2, ?_⟩
  have h999 := hH.1.1
  rcases e3 with ⟨e3, e4⟩ | ⟨ws, e3, e4, e5⟩
  · have hpq : p ≠ q := by rintro rfl; rw [hq] at e3; exact u14 (Prod.mk.inj (Option.some.inj e3)).1
    refine ⟨_, ⟨[(q, 506)], F.1, _, hq, hq1, by show 506 % 100 = _; rw [u1], rfl⟩, am_s_len _ _ _, li_down hF hH (q := q) (p := p) hq (fun m t vs e => ?_) (fun m t vs e t1 t2 => ?_) (by rw [g1, if_neg (by omega)]; exact h999), by rw [g1, if_pos rfl], fun m t vs m1 m2 e => by rw [g1, if_neg m1]; exact e, Or.inl ⟨e3, by rw [g1, if_neg hpq]; exact e3, e4⟩⟩
    · rw [g1] at e
      by_cases hm : m = q
      · rw [if_pos hm] at e; cases e; exact Or.inl ⟨hm, rfl⟩
      · rw [if_neg hm] at e; exact Or.inr (Or.inr e)
    · rw [g1]
      by_cases hm : m = q
      · subst hm; rw [hq] at e; exact absurd (Prod.mk.inj (Option.some.inj e)).1.symm t1
      · rw [if_neg hm]; exact e
  · have hpq : p ≠ q := by rintro rfl; rw [hq] at e3; exact u10 (Prod.mk.inj (Option.some.inj e3)).1
    have hp1 : 1000 ≤ p := (hH.2 p _ _ e3).2.2 (by unfold ck_wr; rw [r2]; rfl)
    have hlp : p - 1000 < (am_s h q (506, [.int mc, .ref p, .int n])).length := by rw [am_s_len]; exact am_g_lt hp1 e3
    have g2 : ∀ m, am_g G (am_s (am_s h q (506, [.int mc, .ref p, .int n])) p (F.2.2.1, ws)) m = if m = p then some (F.2.2.1, ws) else am_g G (am_s h q (506, [.int mc, .ref p, .int n])) m := fun m => am_g_s hp1 hlp
    have hlen := ((hH.2 p _ _ e3).1 _ r2).1
    have hl1 : (10 : Int) ≤ ws.length := hlen.1
    have hl2 : (ws.length : Int) ≤ 24 := hlen.2
    refine ⟨_, ⟨[(q, 506), (p, F.2.2.1)], F.1, _, hq, hq1, by show 506 % 100 = _; rw [u1], F.2.1, ws, by rw [g1, if_neg hpq]; exact e3, hp1, by show F.2.2.1 % 100 = _; rw [u2, u3], rfl⟩, by rw [am_s_len, am_s_len], li_down hF hH (q := q) (p := p) hq (fun m t vs e => ?_) (fun m t vs e t1 t2 => ?_) (by rw [g2, if_neg (by omega), g1, if_neg (by omega)]; exact h999), by rw [g2, if_neg (Ne.symm hpq), g1, if_pos rfl], fun m t vs m1 m2 e => ?_, Or.inr ⟨ws, e3, by rw [g2, if_pos rfl], by omega, by omega, e4, e5⟩⟩
    · rw [g2] at e
      by_cases hp : m = p
      · rw [if_pos hp] at e; cases e; exact Or.inr (Or.inl ⟨hp, rfl, by rw [hp]; exact e3⟩)
      · rw [if_neg hp, g1] at e
        by_cases hm : m = q
        · rw [if_pos hm] at e; cases e; exact Or.inl ⟨hm, rfl⟩
        · rw [if_neg hm] at e; exact Or.inr (Or.inr e)
    · rw [g2]
      by_cases hp : m = p
      · subst hp; rw [e3] at e; exact absurd (Prod.mk.inj (Option.some.inj e)).1.symm t2
      · rw [if_neg hp, g1]
        by_cases hm : m = q
        · subst hm; rw [hq] at e; exact absurd (Prod.mk.inj (Option.some.inj e)).1.symm t1
        · rw [if_neg hm]; exact e
    · rw [g2]
      by_cases hp : m = p
      · subst hp
        rw [e3] at e
        exact absurd ⟨rfl, (Prod.mk.inj (Option.some.inj e)).1.symm⟩ m2
      · rw [if_neg hp, g1, if_neg m1]; exact e
/-- what is left of a list kept, that had n and has n2 -/
def li_end (F : li_F) (G : am_G) (K : Int32) (h h'' : List am_C) (q : Nat) (n2 : Int) : Prop := ck_HT li_X gT K (am_g G h'') ∧ ck_Kp (li_mods F) [] (am_g G h) (am_g G h'') ∧ h.length ≤ h''.length ∧ ∃ (mc2 n9 : Int32) (p2 : Nat), am_g G h'' q = some (F.1, [.int mc2, .ref p2, .int n9]) ∧ n9.toInt = n2
def li_inM (F : li_F) (M : List (Nat × Nat)) : Prop := ∀ (t j : Nat), t ≠ 506 → t ≠ F.2.2.1 → ck_inM M t j = false
theorem li_inM_of {F : li_F} {M : List (Nat × Nat)} (h : ∀ x ∈ M, x.1 = 506 ∨ x.1 = F.2.2.1) : li_inM F M := by
  intro t j t1 t2
  cases hb : ck_inM M t j
  · rfl
  · obtain ⟨x, x1, x2⟩ := List.any_eq_true.mp hb
    obtain ⟨x2, -⟩ := Bool.and_eq_true_iff.mp x2
    have x2 := ck_beq x2
    rcases h x x1 with z | z
    · exact absurd (x2.symm.trans z) t1
    · exact absurd (x2.symm.trans z) t2
set_option maxHeartbeats 2000000 in
theorem li_addc {G : am_G} {CM : ck_CM} {K : Int32} {F : li_F} (hF : F ∈ li_Fs) (hKe : ck_Con (am_grow CM) G li_XL gTl (li_Ke F)) (hKk : ∀ k : Nat, (k : Int) < F.2.2.2.2.2 → ∃ lo : Int, 10 ≤ lo ∧ lo ≤ max 10 ((k : Int) + 1) ∧ ck_Con (am_grow CM) G li_XL gTl (li_Kk F k lo)) (hKg : ∀ k : Nat, 10 ≤ k → (k : Int) < F.2.2.2.2.2 → ck_Con (am_grow CM) G li_XL gTl (li_Kg F k))
    {h : List am_C} (hH : ck_HT li_X gT K (am_g G h)) {q p e : Nat} {mc n : Int32} {ves : List Value} (hq : am_g G h q = some (F.1, [.int mc, .ref p, .int n])) (hn : n.toInt < F.2.2.2.2.2) (he : am_g G h e = some (F.2.2.2.1, ves))
    (hco : F.1 = 41106 → ∃ (x : Int) (u : Int32), am_g G h e = some (41002, [.int u]) ∧ u.toInt = x ∧ 2 ≤ x ∧ x ≤ 999 ∧ ∀ ws, am_g G h p = some (40156, ws) → ∀ (i : Nat) (y : Int), (i : Int) < n.toInt → li_val (am_g G h) ws i y → Nat.gcd y.toNat x.toNat = 1) (hmax : F.2.2.2.2.2 ≤ 13) (hfb : F.1 = 41106 → F.2.2.2.2.2 ≤ 10) :
    ck_lift G CM [.ref q, .ref e] h 1 20 (fun o h'' => o = .inl (some (.int 1)) ∧ li_end F G K h h'' q (n.toInt + 1)) := by
  obtain ⟨u1, u2, u3, u4, u5, u6, u7, u8, u9, u10, u11, u12, u13, u14, u15, u16⟩ := li_nums hF
  obtain ⟨hn0, h1, d1, d2, d3, d4, d5, d6⟩ := li_raw hF hH hq
  obtain ⟨t1, t2, t3, ⟨dd, td1, td2, td3⟩, -⟩ := li_te hF
  have he1 : am_g G h1 e = some (F.2.2.2.1, ves) := by
    refine d5 e _ ves (fun z => ?_) (fun z => u9 z.2) he
    subst z
    rw [hq] at he
    exact u8 (Prod.mk.inj (Option.some.inj he)).1.symm
  have hel : ves.length = F.2.2.2.2.1 := by
    have := ((d3.2 e _ ves he1).1 dd td1).1
    rw [td2, td3] at this
    omega
  -- what holds of the bases
  have hcp : ∀ (ws w2 : List Value), (am_g G h p = some (F.2.1, ws) ∨ n.toInt = 0) → w2[n.toInt.toNat]? = some (.ref e) → (∀ j : Nat, j ≠ n.toInt.toNat → (j : Int) < n.toInt → w2[j]? = ws[j]?) → F.1 = 41106 → ∀ g2 : ck_g, (∀ (a : Nat) (vs : List Value), am_g G h a = some (41002, vs) ↔ g2 a = some (41002, vs)) → li_cp g2 (n.toInt + 1) w2 := by
    intro ws w2 hw hwe hwj h41 g2 hg2
    obtain ⟨x, u, x1, x2, x3, x4, x5⟩ := hco h41
    have hfb : F = li_fb := by
      have : ∀ F ∈ li_Fs, F.1 = 41106 → F = li_fb := by decide
      exact this F hF h41
    have hlast : li_val g2 w2 n.toInt.toNat x := ⟨e, u, hwe, (hg2 _ _).mp x1, x2⟩
    have hval : ∀ (i : Nat) (y : Int), (i : Int) < n.toInt → li_val g2 w2 i y → li_val (am_g G h) ws i y := by
      intro i y hi ⟨a, v, y1, y2, y3⟩
      refine ⟨a, v, ?_, (hg2 _ _).mpr y2, y3⟩
      rw [← hwj i (by omega) hi]; exact y1
    have hlu : ∀ (i : Nat) (y z : Int), li_val g2 w2 i y → li_val g2 w2 i z → y = z := by
      intro i y z ⟨a, v, y1, y2, y3⟩ ⟨a', v', z1, z2, z3⟩
      rw [y1] at z1
      cases z1
      rw [y2] at z2
      cases z2
      rw [← y3, ← z3]
    have hold : ∀ i : Nat, (i : Int) < n.toInt → li_cp (am_g G h) n.toInt ws := by
      intro i hi
      rcases hw with hw | hw
      · rw [hfb] at hq hw
        exact hH.1.2.2.2.1 q p mc n ws hq hw
      · omega
    have hwp : ∀ i : Nat, (i : Int) < n.toInt → am_g G h p = some (40156, ws) := by
      intro i hi
      rcases hw with hw | hw
      · rw [hfb] at hw; exact hw
      · omega
    refine ⟨fun i hi => ?_, fun i j y z hij hj hy hz => ?_⟩
    · by_cases hin : i = n.toInt.toNat
      · subst hin; exact ⟨x, hlast, x3, x4⟩
      · have hi2 : (i : Int) < n.toInt := by omega
        obtain ⟨y, ⟨a, v, y1, y2, y3⟩, y4⟩ := (hold i hi2).1 i hi2
        exact ⟨y, ⟨a, v, by rw [hwj i hin hi2]; exact y1, (hg2 _ _).mp y2, y3⟩, y4⟩
    · have hi2 : (i : Int) < n.toInt := by omega
      by_cases hjn : j = n.toInt.toNat
      · subst hjn
        have := hlu _ _ _ hlast hz
        subst this
        exact x5 ws (hwp i hi2) i y hi2 (hval i y hi2 hy)
      · have hj2 : (j : Int) < n.toInt := by omega
        exact (hold i hi2).2 i j y z hij hj2 (hval i y hi2 hy) (hval j z hj2 hz)
  rcases d6 with ⟨e1, e2, e3⟩ | ⟨ws, e1, e2, e3, e4, e5, e6⟩
  · obtain ⟨P1, f1, f2⟩ := li_she hKe d3 d4 e3 e2 he1 hel
    refine ⟨h1, 1, 11, P1, d1, Nat.le_refl _, by decide, f1, fun o h' hp => ?_⟩
    obtain ⟨y1, y2, mc2, n2, w2, y3, ⟨z1, z2, z3, z4, z5, z6, z7⟩, y5⟩ := f2 o h' hp
    obtain ⟨h'', x1, x2, x3, x4, x5⟩ := li_core hF hH hq (Or.inr ⟨e1, e2⟩) d4 d5 d2 z1 (li_inM_of (by intro x hx; simp at hx; rcases hx with rfl | rfl | rfl <;> exact Or.inl rfl)) z2 z3 z4 (by omega) (by omega) ⟨z5, z6⟩ ⟨by omega, z7⟩ (Or.inr ⟨by rw [d2], by omega⟩) (fun z g2 hg2 => by rw [y3]; exact hcp [] w2 (Or.inr e3) y5 (fun j _ hj => by omega) z g2 hg2)
    exact ⟨h'', x1, y1, x2, x3, x4, mc2, n2, _, x5, y3⟩
  · obtain ⟨k, hk⟩ : ∃ k : Nat, n.toInt = (k : Int) := ⟨n.toInt.toNat, by omega⟩
    by_cases hg : k < ws.length
    · obtain ⟨lo, l1, l2, hKk⟩ := hKk k (by omega)
      obtain ⟨P1, f1, f2⟩ := li_shk u6 hKk d3 d4 hk e2 ⟨by omega, e4⟩ l1 e6 he1 hel
      refine ⟨h1, 0, 0, P1, d1, by decide, by decide, f1, fun o h' hp => ?_⟩
      obtain ⟨y1, y2, mc2, n2, w2, y3, ⟨z1, z2, z3, z4, z5, z6, z7⟩, y5, y6⟩ := f2 o h' hp
      obtain ⟨h'', x1, x2, x3, x4, x5⟩ := li_core hF hH hq (Or.inl ⟨ws, e1, e2⟩) d4 d5 d2 z1 (li_inM_of (by intro x hx; simp at hx; rcases hx with rfl | rfl | rfl <;> simp)) z2 z3 z4 (by omega) (by omega) ⟨z5, z6⟩ ⟨by
        have hlw := li_len (s := []) z2 e2
        obtain ⟨w9, w1, w3⟩ := hlw
        rw [z4] at w1
        cases w1
        omega, z7⟩ (Or.inl ⟨rfl, by omega⟩) (fun z g2 hg2 => by rw [y3]; exact hcp ws w2 (Or.inl e1) y5 (fun j hj _ => y6 j (by omega) (by omega)) z g2 hg2)
      exact ⟨h'', x1, y1, x2, x3, x4, mc2, n2, _, x5, y3⟩
    · obtain ⟨P1, f1, f2⟩ := li_shg (hKg k (by omega) (by omega)) d3 d4 hk e2 (by omega) e6 he1 hel
      refine ⟨h1, 1, 20, P1, d1, Nat.le_refl _, Nat.le_refl _, f1, fun o h' hp => ?_⟩
      obtain ⟨y1, y2, mc2, n2, w2, y3, ⟨z1, z2, z3, z4, z5, z6, z7⟩⟩ := f2 o h' hp
      have hkk : ∀ m : Nat, (m : Int) < n2.toInt → m < w2.length := fun m hm => by
        obtain ⟨x, hx⟩ := z7 m hm
        exact (List.getElem?_eq_some_iff.mp hx).1
      obtain ⟨h'', x1, x2, x3, x4, x5⟩ := li_core hF hH hq (Or.inl ⟨ws, e1, e2⟩) d4 d5 d2 z1 (li_inM_of (by intro x hx; simp at hx; rcases hx with rfl | rfl | rfl | rfl <;> simp)) z2 z3 z4 (by omega) (by omega) ⟨z5, z6⟩ ⟨by have := hkk k (by omega); omega, z7⟩ (Or.inr ⟨by rw [d2], by omega⟩) (fun z g2 hg2 => by have := hfb z; omega)
      exact ⟨h'', x1, y1, x2, x3, x4, mc2, n2, _, x5, y3⟩
end
section
/-! KEPT LISTS: WHAT IS TAKEN OUT -/
theorem li_outc {G : am_G} {F : li_F} (hF : F ∈ li_Fs) {h h1 h' h'' : List am_C} {q p : Nat} {mc n : Int32} {M : List (Nat × Nat)} (hq : am_g G h q = some (F.1, [.int mc, .ref p, .int n])) (hq1 : am_g G h1 q = some (506, [.int mc, .ref p, .int n]))
    (hsame : ∀ (m t : Nat) (vs : List Value), m ≠ q → ¬ (m = p ∧ t = F.2.1) → am_g G h m = some (t, vs) → am_g G h1 m = some (t, vs)) (hp1 : ∀ ws, am_g G h p = some (F.2.1, ws) → am_g G h1 p = some (F.2.2.1, ws)) (hl1 : h1.length = h.length) (hl2 : h'.length = h1.length)
    (hKp : ck_Kp M [] (am_g G h1) (am_g G h')) (hKp2 : ck_Kp (li_mods F) [] (am_g G h) (am_g G h'')) {o : am_O} (ho : li_out F G h' o) : li_out F G h'' o := by
  obtain ⟨t1, t2, t3, -, -⟩ := li_te hF
  obtain ⟨x, vx, e1, e2⟩ := ho
  have hold : ∃ c, am_g G h x = some c := by
    by_cases hm : x < 1000
    · have : am_g G h' x = am_g G h x := by unfold am_g; rw [if_pos hm, if_pos hm]
      exact ⟨_, this ▸ e2⟩
    · have hl := am_g_lt (by omega) e2
      refine ⟨h[x - 1000]'(by omega), ?_⟩
      unfold am_g
      rw [if_neg hm]
      exact List.getElem?_eq_getElem _
  obtain ⟨⟨t0, vs0⟩, e0⟩ := hold
  have key : ∀ (t : Nat) (vs : List Value), am_g G h1 x = some (t, vs) → t = F.2.2.2.1 := by
    intro t vs e
    rcases hKp x t vs e with ⟨z, -⟩ | ⟨vs', z1, -⟩
    · cases z
    · rw [e2] at z1
      exact (Prod.mk.inj (Option.some.inj z1)).1.symm
  have ht0 : t0 = F.2.2.2.1 := by
    by_cases hxq : x = q
    · subst hxq
      exact absurd (key _ _ hq1).symm t2
    · by_cases hxp : x = p ∧ t0 = F.2.1
      · obtain ⟨rfl, rfl⟩ := hxp
        exact absurd (key _ _ (hp1 vs0 e0)).symm t3
      · exact key _ _ (hsame x t0 vs0 hxq hxp e0)
  subst ht0
  rcases hKp2 x _ vs0 e0 with ⟨z, -⟩ | ⟨vs', z1, -⟩
  · cases z
  · exact ⟨x, vs', e1, z1⟩
set_option maxHeartbeats 2000000 in
theorem li_remc {G : am_G} {CM : ck_CM} {K : Int32} {F : li_F} (hF : F ∈ li_Fs) (hc : ck_Con (am_grow CM) G li_XL gTl (li_Kr F)) {h : List am_C} (hH : ck_HT li_X gT K (am_g G h)) {q p : Nat} {mc n i : Int32} (hq : am_g G h q = some (F.1, [.int mc, .ref p, .int n])) (hi : 0 ≤ i.toInt ∧ i.toInt < n.toInt) (hmax : F.2.2.2.2.2 ≤ 13) (hnb : F.1 ≠ 41106) :
    ck_lift G CM [.ref q, .int i] h 0 0 (fun o h'' => li_out F G h'' o ∧ li_end F G K h h'' q (n.toInt - 1)) := by
  obtain ⟨u1, u2, u3, u4, u5, u6, u7, u8, u9, u10, u11, u12, u13, u14, u15, u16⟩ := li_nums hF
  obtain ⟨r1, r2, r3, r4⟩ := li_row hF
  obtain ⟨k1, k2, k3⟩ := li_Fs_ge hF
  obtain ⟨hn0, h1, d1, d2, d3, d4, d5, d6⟩ := li_raw hF hH hq
  have hn : n.toInt ≤ F.2.2.2.2.2 := by
    obtain ⟨y, y1, y2⟩ := ((hH.2 q _ _ hq).1 _ r1).2 2 (.int n) rfl
    have y1 : some ((1, 0, 0, F.2.2.2.2.2) : ck_Y) = some y := y1
    cases y1
    obtain ⟨x, x1, x2, x3⟩ := y2
    cases x1
    exact x3
  rcases d6 with ⟨e1, e2, e3⟩ | ⟨ws, e1, e2, e3, e4, e5, e6⟩
  · omega
  · obtain ⟨P1, f1, f2⟩ := li_shr u6 hc d3 d4 ⟨by omega, by omega⟩ e2 ⟨e3, e4, e5⟩ e6 hi
    refine ⟨h1, 0, 0, P1, d1, Nat.le_refl _, Nat.le_refl _, f1, fun o h' hp => ?_⟩
    obtain ⟨y0, y2, mc2, n2, w2, y3, ⟨z1, z2, z3, z4, z5, z6, z7⟩⟩ := f2 o h' hp
    obtain ⟨w9, w1, w3⟩ := li_len (s := []) z2 e2
    rw [z4] at w1
    cases w1
    obtain ⟨h'', x1, x2, x3, x4, x5⟩ := li_core hF hH hq (Or.inl ⟨ws, e1, e2⟩) d4 d5 d2 z1 (li_inM_of (by intro x hx; simp at hx; rcases hx with rfl | rfl | rfl <;> simp)) z2 z3 z4 (by omega) (by omega) ⟨z5, z6⟩ ⟨by omega, z7⟩ (Or.inl ⟨rfl, by omega⟩) (fun z => absurd z hnb)
    refine ⟨h'', x1, li_outc hF hq d4 d5 (fun ws' hw => by rw [e1] at hw; cases hw; exact e2) d2 y2 z2 x3 y0, x2, x3, x4, mc2, n2, _, x5, y3⟩
set_option maxHeartbeats 2000000 in
theorem li_remb {G : am_G} {CM : ck_CM} {K : Int32} {k : Nat} (hc : ck_Con (am_grow CM) G li_XL gTl (li_Kb li_fb k)) {h : List am_C} (hH : ck_HT li_X gT K (am_g G h)) {q p : Nat} {mc n i : Int32} (hq : am_g G h q = some (41106, [.int mc, .ref p, .int n])) (hn : n.toInt = ((k + 1 : Nat) : Int)) (hi : i.toInt = (k : Int)) (hk : k < 10) :
    ck_lift G CM [.ref q, .int i] h 0 0 (fun o h'' => li_out li_fb G h'' o ∧ li_end li_fb G K h h'' q (k : Int)) := by
  have hF : li_fb ∈ li_Fs := by decide
  obtain ⟨u1, u2, u3, u4, u5, u6, u7, u8, u9, u10, u11, u12, u13, u14, u15, u16⟩ := li_nums hF
  obtain ⟨r1, r2, r3, r4⟩ := li_row hF
  obtain ⟨hn0, h1, d1, d2, d3, d4, d5, d6⟩ := li_raw hF hH hq
  have hn9 : n.toInt ≤ 5 := by
    obtain ⟨y, y1, y2⟩ := ((hH.2 q _ _ hq).1 _ r1).2 2 (.int n) rfl
    have y1 : some ((1, 0, 0, 5) : ck_Y) = some y := y1
    cases y1
    obtain ⟨x, x1, x2, x3⟩ := y2
    cases x1
    exact x3
  rcases d6 with ⟨e1, e2, e3⟩ | ⟨ws, e1, e2, e3, e4, e5, e6⟩
  · omega
  · obtain ⟨P1, f1, f2⟩ := li_shb u6 hc d3 d4 hn e2 ⟨e3, e4⟩ e6 hi (by omega)
    refine ⟨h1, 0, 0, P1, d1, Nat.le_refl _, Nat.le_refl _, f1, fun o h' hp => ?_⟩
    obtain ⟨y0, y2, mc2, n2, w2, y3, ⟨z1, z2, z3, z4, z5, z6, z7⟩, y6⟩ := f2 o h' hp
    obtain ⟨w9, w1, w3⟩ := li_len (s := []) z2 e2
    rw [z4] at w1
    cases w1
    obtain ⟨h'', x1, x2, x3, x4, x5⟩ := li_core hF hH hq (Or.inl ⟨ws, e1, e2⟩) d4 d5 d2 z1 (li_inM_of (by intro x hx; simp at hx; rcases hx with rfl | rfl | rfl <;> simp)) z2 z3 z4 (by omega) (by show _ ≤ (5 : Int); omega) ⟨z5, z6⟩ ⟨by omega, z7⟩ (Or.inl ⟨rfl, by omega⟩) (fun _ g2 hg2 => by
      have hold := hH.1.2.2.2.1 q p mc n ws hq e1
      have hval : ∀ (j : Nat) (y : Int), (j : Int) < n2.toInt → li_val g2 w2 j y → li_val (am_g G h) ws j y := by
        intro j y hj ⟨a, v, a1, a2, a3⟩
        exact ⟨a, v, by rw [← y6 j (by omega)]; exact a1, (hg2 _ _).mpr a2, a3⟩
      refine ⟨fun j hj => ?_, fun j j' y y' hjj hj' a1 a2 => hold.2 j j' y y' hjj (by omega) (hval j y (by omega) a1) (hval j' y' hj' a2)⟩
      obtain ⟨y, ⟨a, v, a1, a2, a3⟩, a4⟩ := hold.1 j (by omega)
      exact ⟨y, ⟨a, v, by rw [y6 j (by omega)]; exact a1, (hg2 _ _).mp a2, a3⟩, a4⟩)
    exact ⟨h'', x1, li_outc hF hq d4 d5 (fun ws' hw => by rw [e1] at hw; cases hw; exact e2) d2 y2 z2 x3 y0, x2, x3, x4, mc2, n2, _, x5, y3⟩
/-! THE CONTRACTS -/
def li_addK (F : li_F) : ck_KK := (([(0, F.2.2.2.2.2 - 1)], [], [(2, 0, 0, F.1, (0, 0, (3, []))), (3, 0, 2, F.1, (1, 0, (0, [(1, 0)]))), (2, 1, 0, F.2.2.2.1, (0, 0, ((F.2.2.2.2.1 : Int), [])))], 2, [(3, 0, (0, [])), (3, 1, (0, []))]), ((1, []), (20, [])), li_mods F, [], ([], [], [(3, 0, 2, F.1, (1, 0, (1, [(1, 0)])))], 0, [(1, 0, (1, []))]), [])
theorem li_got {G : am_G} {K : Int32} {F : li_F} (hF : F ∈ li_Fs) {h : List am_C} (hH : ck_HT li_X gT K (am_g G h)) {q : Nat} {vs : List Value} (hq : am_g G h q = some (F.1, vs)) {n : Int32} (hn : vs[2]? = some (.int n)) : ∃ (mc : Int32) (p : Nat), vs = [.int mc, .ref p, .int n] := by
  obtain ⟨mc, n9, p, e1, -⟩ := hH.1.2.1 F hF q vs hq
  subst e1
  cases hn
  exact ⟨mc, p, rfl⟩
section LIK
variable {G : am_G} {CM : ck_CM} {F : li_F}
/-- so the contract follows -/
theorem li_post {h : List am_C} {a : List Value} {mc ms : Nat} {P Q : am_O → List am_C → Prop} (H : ck_lift G CM a h mc ms P) {mc' ms' : Nat} (h1 : mc ≤ mc') (h2 : ms ≤ ms') (h3 : ∀ o h'', P o h'' → Q o h'') : ck_lift G CM a h mc' ms' Q := by
  obtain ⟨x1, x2, x3, x4, x5, x6, x7, x8, x9⟩ := H
  exact ⟨x1, x2, x3, x4, x5, by omega, by omega, x8, fun o h' hp => by obtain ⟨h'', y1, y2⟩ := x9 o h' hp; exact ⟨h'', y1, h3 _ _ y2⟩⟩
theorem li_add_con (hF : F ∈ li_Fs) (hnb : F.1 ≠ 41106) (hmax : F.2.2.2.2.2 ≤ 13) (hKe : ck_Con (am_grow CM) G li_XL gTl (li_Ke F)) (hKk : ∀ k : Nat, (k : Int) < F.2.2.2.2.2 → ∃ lo : Int, 10 ≤ lo ∧ lo ≤ max 10 ((k : Int) + 1) ∧ ck_Con (am_grow CM) G li_XL gTl (li_Kk F k lo)) (hKg : ∀ k : Nat, 10 ≤ k → (k : Int) < F.2.2.2.2.2 → ck_Con (am_grow CM) G li_XL gTl (li_Kg F k)) : ck_Con (ck_lift G CM) G li_X gT (li_addK F) := by
  intro K r s a h hH hV hC hFc hn hS mc ms hmc hms
  have hmc' : (mc : Int) = 1 := li_k hmc
  have hms' : (ms : Int) = 20 := li_k hms
  match r, hV.1 with
  | [n0], _ =>
    match s, hn with
    | [q, e], _ =>
      match a, hS with
      | [v1, v2], ⟨⟨q1, s1, s2⟩, ⟨q2, s3, s4⟩, _⟩ =>
        cases s1; cases s3; subst s2 s4
        obtain ⟨q3, vs, v, e1, e2, e3, n, e4, e5⟩ := hFc (3, 0, 2, F.1, (1, 0, (0, [(1, 0)]))) (by unfold li_addK; simp)
        obtain ⟨q4, ves, f1, f2, -⟩ := hFc (2, 1, 0, F.2.2.2.1, (0, 0, ((F.2.2.2.2.1 : Int), []))) (by unfold li_addK; simp)
        cases e1; cases f1; subst e4
        obtain ⟨mc9, p, rfl⟩ := li_got hF hH e2 e3
        have e5 := ck_lv1 e5
        cases e5
        obtain ⟨i1, i2⟩ := li_in' hV
        refine li_post (li_addc hF hKe hKk hKg hH e2 (by omega) f2 (fun z => absurd z hnb) hmax (fun z => absurd z hnb)) (by omega) (by omega) fun o h'' ⟨y1, y2, y3, y4, mc2, n9, p2, y5, y6⟩ => ?_
        subst y1
        refine ⟨y2, y3, y4, [], [], li_in0, (fun c hc => nomatch hc), List.forall_mem_cons.mpr ⟨?_, List.forall_mem_nil _⟩, rfl, ⟨⟨1, rfl, ck_Lv.k _ 1⟩, trivial⟩⟩
        exact ⟨q, _, _, rfl, y5, rfl, n9, rfl, ⟨by intro t ht; simp at ht; subst ht; simp, by show _ = (1 : Int) + (1 * n.toInt + 0); omega⟩⟩
def li_remK (F : li_F) : ck_KK := (([(1, F.2.2.2.2.2), (0, F.2.2.2.2.2 - 1)], [(-1, [(1, 0), (-1, 1)])], [(2, 0, 0, F.1, (0, 0, (3, []))), (3, 0, 2, F.1, (1, 0, (0, [(1, 0)])))], 1, [(3, 0, (0, [])), (1, 0, (0, [(1, 1)]))]), ((0, []), (0, [])), li_mods F, [], ([], [], [(2, 1, 0, F.2.2.2.1, (0, 0, ((F.2.2.2.2.1 : Int), []))), (3, 0, 2, F.1, (1, 0, (-1, [(1, 0)])))], 1, [(3, 1, (0, []))]), [])
theorem li_telen {K : Int32} (hF : F ∈ li_Fs) {h : List am_C} (hH : ck_HT li_X gT K (am_g G h)) {x : Nat} {vx : List Value} (hx : am_g G h x = some (F.2.2.2.1, vx)) : vx.length = F.2.2.2.2.1 := by
  obtain ⟨-, -, -, -, dd, td1, td2, td3⟩ := li_te hF
  have := ((hH.2 x _ vx hx).1 dd td1).1
  rw [td2, td3] at this
  omega
theorem li_rem_con (hF : F ∈ li_Fs) (hnb : F.1 ≠ 41106) (hmax : F.2.2.2.2.2 ≤ 13) (hc : ck_Con (am_grow CM) G li_XL gTl (li_Kr F)) : ck_Con (ck_lift G CM) G li_X gT (li_remK F) := by
  intro K r s a h hH hV hC hFc hn hS mc ms hmc hms
  have hmc' : (mc : Int) = 0 := li_k hmc
  have hms' : (ms : Int) = 0 := li_k hms
  match r, hV.1 with
  | [n0, i0], _ =>
    match s, hn with
    | [q], _ =>
      match a, hS with
      | [v1, v2], ⟨⟨q1, s1, s2⟩, ⟨i, s3, s4⟩, _⟩ =>
        cases s1; subst s2 s3
        obtain ⟨q3, vs, v, e1, e2, e3, n, e4, e5⟩ := hFc (3, 0, 2, F.1, (1, 0, (0, [(1, 0)]))) (by unfold li_remK; simp)
        cases e1; subst e4
        obtain ⟨mc9, p, rfl⟩ := li_got hF hH e2 e3
        have e5 := ck_lv1 e5
        cases e5
        have s4 := ck_lv1 s4
        cases s4
        have i1 := hV.2 1 0 (F.2.2.2.2.2 - 1) _ rfl rfl
        obtain ⟨z, ⟨-, z1⟩, z2⟩ := hC (-1, [(1, 0), (-1, 1)]) (by unfold li_remK; simp)
        have z1 : z = (-1 : Int) + (1 * n.toInt + (-1 * i.toInt + 0)) := z1
        refine li_post (li_remc hF hc hH e2 ⟨i1.1, by omega⟩ hmax hnb) (by omega) (by omega) fun o h'' ⟨⟨x, vx, y0, y1⟩, y2, y3, y4, mc2, n9, p2, y5, y6⟩ => ?_
        subst y0
        refine ⟨y2, y3, y4, [], [x], li_in0, (fun c hc => nomatch hc), List.forall_mem_cons.mpr ⟨?_, List.forall_mem_cons.mpr ⟨?_, List.forall_mem_nil _⟩⟩, rfl, ⟨⟨x, rfl, rfl⟩, trivial⟩⟩
        · exact ⟨x, vx, rfl, y1, by rw [li_telen hF y2 y1]; exact ck_Lv.k _ _⟩
        · exact ⟨q, _, _, rfl, y5, rfl, n9, rfl, ⟨by intro t ht; simp at ht; subst ht; simp, by show _ = (-1 : Int) + (1 * n.toInt + 0); omega⟩⟩
def li_rembK (k : Nat) : ck_KK := (([(((k + 1 : Nat) : Int), ((k + 1 : Nat) : Int))], [], [(2, 0, 0, 41106, (0, 0, (3, []))), (3, 0, 2, 41106, (1, 0, (0, [(1, 0)])))], 1, [(3, 0, (0, [])), (1, 0, (-1, [(1, 0)]))]), ((0, []), (0, [])), li_mods li_fb, [], ([], [], [(2, 1, 0, 41002, (0, 0, (1, []))), (3, 0, 2, 41106, (1, 0, (-1, [(1, 0)])))], 1, [(3, 1, (0, []))]), [])
theorem li_remb_con {k : Nat} (hk : k < 10) (hc : ck_Con (am_grow CM) G li_XL gTl (li_Kb li_fb k)) : ck_Con (ck_lift G CM) G li_X gT (li_rembK k) := by
  intro K r s a h hH hV hC hFc hn hS mc ms hmc hms
  have hmc' : (mc : Int) = 0 := li_k hmc
  have hms' : (ms : Int) = 0 := li_k hms
  have hF : li_fb ∈ li_Fs := by decide
  match r, hV.1 with
  | [n0], _ =>
    match s, hn with
    | [q], _ =>
      match a, hS with
      | [v1, v2], ⟨⟨q1, s1, s2⟩, ⟨i, s3, s4⟩, _⟩ =>
        cases s1; subst s2 s3
        obtain ⟨q3, vs, v, e1, e2, e3, n, e4, e5⟩ := hFc (3, 0, 2, 41106, (1, 0, (0, [(1, 0)]))) (by unfold li_rembK; simp)
        cases e1; subst e4
        obtain ⟨mc9, p, rfl⟩ := li_got hF hH e2 e3
        have e5 := ck_lv1 e5
        cases e5
        obtain ⟨i1, i2⟩ := li_in' hV
        have s5 : i.toInt = (-1 : Int) + (1 * n.toInt + 0) := s4.2
        refine li_post (li_remb hc hH e2 (by omega) (by omega) hk) (by omega) (by omega) fun o h'' ⟨⟨x, vx, y0, y1⟩, y2, y3, y4, mc2, n9, p2, y5, y6⟩ => ?_
        subst y0
        refine ⟨y2, y3, y4, [], [x], li_in0, (fun c hc => nomatch hc), List.forall_mem_cons.mpr ⟨?_, List.forall_mem_cons.mpr ⟨?_, List.forall_mem_nil _⟩⟩, rfl, ⟨⟨x, rfl, rfl⟩, trivial⟩⟩
        · exact ⟨x, vx, rfl, y1, by rw [li_telen hF y2 y1]; exact ck_Lv.k _ _⟩
        · exact ⟨q, _, _, rfl, y5, rfl, n9, rfl, ⟨by intro t ht; simp at ht; subst ht; simp, by show _ = (-1 : Int) + (1 * n.toInt + 0); omega⟩⟩
end LIK
end
section
/-! LISTS: LEMMAS THAT ARE CALLED LIKE METHODS -/
/-- a raw list is kept from now on -/
theorem li_rl {F : li_F} (hF : F ∈ li_Fs) {rl : Nat} (h : rl = 506 ∨ rl = 606) : ck_lk gT rl = none ∧ rl % 100 = 6 ∧ rl < 1000 ∧ F.2.2.1 ≠ rl := by
  have h1 : ∀ F ∈ li_Fs, F.2.2.1 ≠ 506 ∧ F.2.2.1 ≠ 606 := by decide
  rcases h with rfl | rfl
  · exact ⟨rfl, rfl, by decide, (h1 F hF).1⟩
  · exact ⟨rfl, rfl, by decide, (h1 F hF).2⟩
theorem li_new {K : Int32} {g g2 : ck_g} {F : li_F} (hF : F ∈ li_Fs) {rl : Nat} (hrl : rl = 506 ∨ rl = 606) (hH : ck_HT li_X gT K g) {q p : Nat} {mc n : Int32} (hq : g q = some (rl, [.int mc, .ref p, .int n])) (hn : 0 ≤ n.toInt ∧ n.toInt ≤ F.2.2.2.2.2)
    (hrow : (g p = some (43056, []) ∧ n.toInt = 0) ∨ ∃ ws : List Value, g p = some (F.2.2.1, ws) ∧ 10 ≤ ws.length ∧ ws.length ≤ 24 ∧ n.toInt ≤ (ws.length : Int) ∧ (∀ k : Nat, (k : Int) < n.toInt → ∃ q : Nat, ws[k]? = some (.ref q)) ∧ (F.1 = 41106 → li_cp g n.toInt ws))
    (h2q : g2 q = some (F.1, [.int mc, .ref p, .int n])) (h2p : ∀ ws : List Value, g p = some (F.2.2.1, ws) → g2 p = some (F.2.1, ws)) (h2 : ∀ m : Nat, m ≠ q → (∀ ws : List Value, ¬ (m = p ∧ g m = some (F.2.2.1, ws))) → g2 m = g m) :
    ck_HT li_X gT K g2 ∧ ck_Kp [] [(q, rl), (p, F.2.2.1)] g g2 := by
  obtain ⟨⟨h0, hX1, hX2, hX3, hX4, hX5⟩, hT⟩ := id hH
  obtain ⟨r1, r2, r3, r4⟩ := li_row hF
  obtain ⟨u1, u2, u3, u4, u5, u6, u7, u8, u9, u10, u11, u12, u13, u14, u15, u16⟩ := li_nums hF
  obtain ⟨k1, k2, k3⟩ := li_Fs_ge hF
  obtain ⟨v1, v2, v3, v4⟩ := li_rl hF hrl
  have hpq : p ≠ q := by
    rintro rfl
    rcases hrow with ⟨z, -⟩ | ⟨ws, z, -⟩
    · rw [hq] at z; cases z
    · rw [hq] at z; exact v4 (Prod.mk.inj (Option.some.inj z)).1.symm
  -- cells of kinds that are kept are the same, but the list and its row
  have hfwd : ∀ (m t : Nat) (vs : List Value), t ≠ rl → t ≠ F.2.2.1 → g m = some (t, vs) → g2 m = some (t, vs) := by
    intro m t vs t1 t2 e
    rw [h2 m (fun z => by subst z; rw [hq] at e; exact t1 (Prod.mk.inj (Option.some.inj e)).1.symm) (fun ws z => by rw [z.2] at e; exact t2 (Prod.mk.inj (Option.some.inj e)).1.symm)]
    exact e
  have hbwd : ∀ (m t : Nat) (vs : List Value), g2 m = some (t, vs) → (m = q ∧ t = F.1) ∨ (m = p ∧ t = F.2.1 ∧ g p = some (F.2.2.1, vs)) ∨ (m ≠ q ∧ g m = some (t, vs)) := by
    intro m t vs e
    by_cases hm : m = q
    · subst hm; rw [h2q] at e; cases e; exact Or.inl ⟨rfl, rfl⟩
    · by_cases hmp : ∃ ws, m = p ∧ g m = some (F.2.2.1, ws)
      · obtain ⟨ws, rfl, e2⟩ := hmp
        rw [h2p ws e2] at e
        cases e
        exact Or.inr (Or.inl ⟨rfl, rfl, e2⟩)
      · rw [h2 m hm (fun ws z => hmp ⟨ws, z⟩)] at e
        exact Or.inr (Or.inr ⟨hm, e⟩)
  have hint : ∀ (a : Nat) (vs : List Value), g a = some (41002, vs) ↔ g2 a = some (41002, vs) := by
    intro a vs
    constructor
    · exact hfwd a 41002 vs (by omega) (by omega)
    · intro e
      rcases hbwd a _ vs e with ⟨-, z⟩ | ⟨-, z, -⟩ | ⟨-, z⟩
      · exact absurd z.symm u12
      · exact absurd z.symm u13
      · exact z
  have hlist : ∀ F' ∈ li_Fs, ∀ (m : Nat) (vs : List Value), m ≠ q → g2 m = some (F'.1, vs) → g m = some (F'.1, vs) := by
    intro F' hF' m vs hm e
    rcases hbwd m _ vs e with ⟨z, -⟩ | ⟨-, z, -⟩ | ⟨-, z⟩
    · exact absurd z hm
    · exact absurd z (u11 F' hF').2
    · exact z
  have hoth : ∀ (r t : Nat) (ws : List Value), 40000 ≤ t → g r = some (t, ws) → g2 r = some (t, ws) := fun r t ws ht e => hfwd r t ws (by omega) (by omega) e
  -- the rows of other lists
  have hnotp : ∀ F' ∈ li_Fs, ∀ (m : Nat) (vs : List Value) (r : Nat), g m = some (F'.1, vs) → vs[1]? = some (.ref r) → ∃ t ws, 40000 ≤ t ∧ g r = some (t, ws) := by
    intro F' hF' m vs r e e'
    obtain ⟨mc9, n9, r9, rfl, -, e2⟩ := hX1 F' hF' m vs e
    have e' : some (Value.ref r9) = some (.ref r) := e'
    cases e'
    rcases e2 with ⟨e3, -⟩ | ⟨ws, e3, -⟩
    · exact ⟨43056, [], by decide, e3⟩
    · exact ⟨_, ws, (li_Fs_ge hF').2.1, e3⟩
  have hq1 : 1000 ≤ q := (hT q _ _ hq).2.2 (by unfold ck_wr; rw [v1])
  refine ⟨⟨⟨?_, ?_, ?_, ?_, ?_, ?_⟩, ?_⟩, ?_⟩
  · rw [h2 999 (by omega) (fun ws z => by rw [h0] at z; cases z.2)]; exact h0
  · intro F' hF' m vs e
    by_cases hm : m = q
    · subst hm
      rw [h2q] at e
      obtain ⟨e1, e2⟩ := Prod.mk.inj (Option.some.inj e)
      subst e2
      have hFF : F'.2.1 = F.2.1 := by
        have : ∀ F ∈ li_Fs, ∀ F' ∈ li_Fs, F.1 = F'.1 → F'.2.1 = F.2.1 := by decide
        exact this F hF F' hF' e1
      rw [hFF]
      refine ⟨mc, n, p, rfl, hn.1, ?_⟩
      rcases hrow with ⟨z1, z2⟩ | ⟨ws, z1, z2, z3, z4, z5, -⟩
      · exact Or.inl ⟨hoth p 43056 [] (by decide) z1, z2⟩
      · exact Or.inr ⟨ws, h2p ws z1, z4, z5⟩
    · obtain ⟨mc9, n9, r9, rfl, f2, f3⟩ := hX1 F' hF' m vs (hlist F' hF' m vs hm e)
      refine ⟨mc9, n9, r9, rfl, f2, f3.imp (fun z => ⟨hoth r9 43056 [] (by decide) z.1, z.2⟩) fun ⟨ws, z1, z2⟩ => ⟨ws, hoth r9 _ ws (li_Fs_ge hF').2.1 z1, z2⟩⟩
  · intro m m' t t' r tr vs vs' ws ht ht' e1 e2 e3 e4 e5 e6 e7
    obtain ⟨F1, hF1, rfl⟩ := ht
    obtain ⟨F2, hF2, rfl⟩ := ht'
    have key : ∀ F' ∈ li_Fs, ∀ (m : Nat) (vs : List Value), m ≠ q → g2 m = some (F'.1, vs) → vs[1]? = some (.ref r) → g m = some (F'.1, vs) ∧ g r = some (tr, ws) := by
      intro F' hF' m vs hm e e'
      have e1 := hlist F' hF' m vs hm e
      obtain ⟨t9, ws9, z1, z2⟩ := hnotp F' hF' m vs r e1 e'
      have := hoth r t9 ws9 z1 z2
      rw [e5] at this
      cases this
      exact ⟨e1, z2⟩
    have kq : ∀ F' ∈ li_Fs, ∀ (m : Nat) (vs : List Value), m ≠ q → g2 m = some (F'.1, vs) → vs[1]? = some (.ref p) → r = p → False := by
      intro F' hF' m vs hm e e' hr
      subst hr
      obtain ⟨z1, z2⟩ := key F' hF' m vs hm e e'
      rcases hrow with ⟨z3, -⟩ | ⟨ws', z3, -⟩
      · rw [z3] at z2; cases z2; exact e7 rfl
      · rw [z3] at z2; have := (Prod.mk.inj (Option.some.inj z2)).1; omega
    by_cases hm : m = q <;> by_cases hm' : m' = q
    · rw [hm, hm']
    · subst hm
      rw [h2q] at e1
      obtain ⟨-, e1⟩ := Prod.mk.inj (Option.some.inj e1)
      subst e1
      have e3 : some (Value.ref p) = some (.ref r) := e3
      cases e3
      exact (kq F2 hF2 m' vs' hm' e2 e4 rfl).elim
    · subst hm'
      rw [h2q] at e2
      obtain ⟨-, e2⟩ := Prod.mk.inj (Option.some.inj e2)
      subst e2
      have e4 : some (Value.ref p) = some (.ref r) := e4
      cases e4
      exact (kq F1 hF1 m vs hm e1 e3 rfl).elim
    · obtain ⟨a1, a2⟩ := key F1 hF1 m vs hm e1 e3
      obtain ⟨b1, -⟩ := key F2 hF2 m' vs' hm' e2 e4
      exact hX2 m m' F1.1 F2.1 r tr vs vs' ws ⟨F1, hF1, rfl⟩ ⟨F2, hF2, rfl⟩ a1 b1 e3 e4 a2 e6 e7
  · intro m r mc9 n9 ws e1 e2
    by_cases hm : m = q
    · subst hm
      rw [h2q] at e1
      obtain ⟨e3, e4⟩ := Prod.mk.inj (Option.some.inj e1)
      cases e4
      have hFF : F = li_fb := by
        have : ∀ F ∈ li_Fs, F.1 = 41106 → F = li_fb := by decide
        exact this F hF e3
      rcases hrow with ⟨z1, z2⟩ | ⟨ws', z1, -, -, -, -, z6⟩
      · rw [hoth p 43056 [] (by decide) z1] at e2; cases e2
      · have this := h2p ws' z1
        rw [e2] at this
        have hws : ws = ws' := (Prod.mk.inj (Option.some.inj this)).2
        rw [hws]
        exact (z6 e3).tr hint
    · have e3 := hlist li_fb (by decide) m _ hm e1
      obtain ⟨t9, ws9, z1, z2⟩ := hnotp li_fb (by decide) m _ r e3 rfl
      have := hoth r t9 ws9 z1 z2
      rw [e2] at this
      cases this
      exact (hX3 m r mc9 n9 ws e3 z2).tr hint
  · intro t m m' vs vs' ht e1 e2
    have key : ∀ (m : Nat) (vs : List Value), g2 m = some (t, vs) → g m = some (t, vs) := by
      intro m vs e
      rcases hbwd m t vs e with ⟨-, z⟩ | ⟨-, z, -⟩ | ⟨-, z⟩
      · rcases ht with rfl | rfl
        · exact absurd z.symm u16
        · exact absurd z.symm u14
      · rcases ht with rfl | rfl
        · exact absurd z.symm u15
        · exact absurd z.symm k3
      · exact z
    exact hX4 t m m' vs vs' ht (key m vs e1) (key m' vs' e2)
  · refine hX5.tr fun m t vs ht e => ?_
    have hF9 : F.1 ≠ 42150 ∧ F.1 ≠ 42350 ∧ F.2.1 ≠ 42150 ∧ F.2.1 ≠ 42350 := by
      have : ∀ F ∈ li_Fs, F.1 ≠ 42150 ∧ F.1 ≠ 42350 ∧ F.2.1 ≠ 42150 ∧ F.2.1 ≠ 42350 := by decide
      exact this F hF
    rcases hbwd m t vs e with ⟨-, z⟩ | ⟨-, z, -⟩ | ⟨-, z⟩
    · rcases ht with rfl | rfl
      · exact absurd z.symm hF9.1
      · exact absurd z.symm hF9.2.1
    · rcases ht with rfl | rfl
      · exact absurd z.symm hF9.2.2.1
      · exact absurd z.symm hF9.2.2.2
    · exact z
  · have hex : ∀ (a b : Nat) (c : List Value), g a = some (b, c) → 1000 ≤ b → ∃ vs' : List Value, g2 a = some (b, vs') ∧ vs'.length = c.length := fun a b c e1 e2 => ⟨c, hfwd a b c (by omega) (by omega) e1, rfl⟩
    intro m t vs e
    rcases hbwd m t vs e with ⟨rfl, rfl⟩ | ⟨rfl, rfl, z⟩ | ⟨hm, z⟩
    · rw [h2q] at e
      cases e
      refine ⟨fun d hd => ?_, trivial, fun _ => hq1⟩
      rw [r1] at hd
      cases hd
      refine ⟨⟨(by decide : (3 : Int) ≤ ((3 : Nat) : Int)), (by decide : ((3 : Nat) : Int) ≤ 3)⟩, fun j v hv => ?_⟩
      match j, hv with
      | 0, hv => cases hv; exact ⟨_, rfl, mc, rfl, Int32.le_toInt mc, Int32.toInt_le mc⟩
      | 1, hv => cases hv; exact ⟨_, rfl, trivial⟩
      | 2, hv => cases hv; exact ⟨_, rfl, n, rfl, hn.1, hn.2⟩
      | j + 3, hv => cases hv
    · refine ⟨fun d hd => ?_, trivial, fun _ => (hT m _ _ z).2.2 (by unfold ck_wr; rw [r3]; rfl)⟩
      rw [r2] at hd
      cases hd
      rcases hrow with ⟨z3, -⟩ | ⟨ws', z3, z4, z5, -⟩
      · rw [z3] at z; have := (Prod.mk.inj (Option.some.inj z)).1; omega
      · rw [z3] at z
        cases z
        refine ⟨⟨by show (10 : Int) ≤ _; omega, by show _ ≤ (24 : Int); omega⟩, fun j v hv => ?_⟩
        obtain ⟨y, y1, y2⟩ := ((hT m _ _ z3).1 _ r3).2 j v hv
        have y1 : some ((5, F.2.2.2.1, 0, 0) : ck_Y) = some y := y1
        cases y1
        exact ⟨_, rfl, y2.ex hex⟩
    · obtain ⟨f1, -, f3⟩ := hT m t vs z
      refine ⟨fun d hd => ⟨(f1 d hd).1, fun j v hv => ?_⟩, trivial, f3⟩
      obtain ⟨y, y1, y2⟩ := (f1 d hd).2 j v hv
      exact ⟨y, y1, y2.ex hex⟩
  · intro m t vs e
    by_cases hm : m = q
    · subst hm
      rw [hq] at e
      cases e
      exact Or.inl ⟨List.mem_cons_self, _, _, h2q, rfl⟩
    · by_cases hmp : ∃ ws, m = p ∧ g m = some (F.2.2.1, ws)
      · obtain ⟨ws, rfl, e2⟩ := hmp
        rw [e2] at e
        cases e
        exact Or.inl ⟨List.mem_cons_of_mem _ List.mem_cons_self, _, _, h2p _ e2, rfl⟩
      · exact Or.inr ⟨vs, by rw [h2 m hm (fun ws z => hmp ⟨ws, z⟩)]; exact e, rfl, fun _ _ => rfl⟩
end
section
/-! CONTRACTS OF THOSE LEMMAS -/
theorem li_lv {r : List Int} {e : ck_L} {x : Int} (h1 : (e.2.all fun t => Nat.blt t.2 r.length) = true) (h2 : x = e.1 + ck_ev r e.2) : ck_Lv r e x :=
  ⟨fun t ht => by have := List.all_eq_true.mp h1 t ht; simpa using this, h2⟩
def li_pubeK (F : li_F) (rl : Nat) : ck_KK := (([], [], [(2, 0, 0, rl, (0, 0, (3, []))), (3, 0, 1, rl, (3, 1, (0, []))), (2, 1, 0, 43056, (0, 0, (0, []))), (3, 0, 2, rl, (1, 0, (0, []))), (3, 0, 0, rl, (1, 0, (0, [])))], 2, [(3, 0, (0, [])), (3, 1, (0, []))]), ((0, []), (0, [])), [], [rl], ([], [], [(2, 0, 0, F.1, (0, 0, (3, []))), (3, 0, 2, F.1, (1, 0, (0, [])))], 0, []), [])
theorem li_pube_con {G : am_G} {F : li_F} {rl : Nat} (hF : F ∈ li_Fs) (hrl : rl = 506 ∨ rl = 606) : ck_Con (ck_lem G) G li_X gT (li_pubeK F rl) := by
  intro K r s a h hH hV hC hFc hn hS mc ms hmc hms
  have hmx : 0 ≤ F.2.2.2.2.2 := by
    have : ∀ F ∈ li_Fs, 0 ≤ F.2.2.2.2.2 := by decide
    exact this F hF
  obtain ⟨r1, r2, r3, r4⟩ := li_row hF
  obtain ⟨u1, u2, u3, u4, u5, u6, -⟩ := li_nums hF
  obtain ⟨v1, v2, v3, v4⟩ := li_rl hF hrl
  match s, hn with
  | [q, p], _ =>
    obtain ⟨q1, vs, a1, a2, a3⟩ := hFc (2, 0, 0, rl, (0, 0, (3, []))) (by unfold li_pubeK; simp)
    obtain ⟨q2, v2, w2, b1, b2, b3, z2, b4, b5⟩ := hFc (3, 0, 1, rl, (3, 1, (0, []))) (by unfold li_pubeK; simp)
    obtain ⟨q3, v3, c1, c2, c3⟩ := hFc (2, 1, 0, 43056, (0, 0, (0, []))) (by unfold li_pubeK; simp)
    obtain ⟨q4, v4, w4, d1, d2, d3, x4, d4, d5⟩ := hFc (3, 0, 2, rl, (1, 0, (0, []))) (by unfold li_pubeK; simp)
    obtain ⟨q5, v5, w5, e1, e2, e3, x5, e4, e5⟩ := hFc (3, 0, 0, rl, (1, 0, (0, []))) (by unfold li_pubeK; simp)
    cases a1; cases b1; cases c1; cases d1; cases e1; cases b4
    subst b5 d4 e4
    have a2 : am_g G h q = some (rl, vs) := a2
    have b2 : am_g G h q = some (rl, v2) := b2
    have d2 : am_g G h q = some (rl, v4) := d2
    have e2 : am_g G h q = some (rl, v5) := e2
    rw [a2] at b2 d2 e2
    cases b2; cases d2; cases e2
    have hl : vs.length = 3 := by have := li_k a3; omega
    have hvs := li_three hl e3 b3 d3
    subst hvs
    have hx4 := li_k d5
    have hv3 : v3 = [] := by have := li_k c3; exact List.length_eq_zero_iff.mp (by omega)
    subst hv3
    have c2 : am_g G h p = some (43056, []) := c2
    have hq1 : 1000 ≤ q := (hH.2 q _ _ a2).2.2 (by unfold ck_wr; rw [v1])
    have hg : ∀ m, am_g G (am_s h q (F.1, [.int x5, .ref p, .int x4])) m = if m = q then some (F.1, [.int x5, .ref p, .int x4]) else am_g G h m := fun m => am_g_s hq1 (am_g_lt hq1 a2)
    obtain ⟨k1, k2⟩ := li_new hF hrl hH (g2 := am_g G (am_s h q (F.1, [.int x5, .ref p, .int x4]))) a2 ⟨by omega, by omega⟩ (Or.inl ⟨c2, hx4⟩) (by rw [hg, if_pos rfl]) (fun ws z => by rw [c2] at z; have := (Prod.mk.inj (Option.some.inj z)).1; omega) (fun m hm _ => by rw [hg, if_neg hm])
    refine ⟨_, ⟨[(q, F.1)], rl, _, a2, hq1, by show F.1 % 100 = _; rw [u1, v2], rfl⟩, k1, fun m t vs e => ?_, by rw [am_s_len]; exact Nat.le_refl _, [], [], li_in0, (fun c hc => nomatch hc), List.forall_mem_cons.mpr ⟨?_, List.forall_mem_cons.mpr ⟨?_, List.forall_mem_nil _⟩⟩, rfl, trivial⟩
    · rcases k2 m t vs e with ⟨z1, z2⟩ | z
      · rcases List.mem_cons.mp z1 with z1 | z1
        · exact Or.inl ⟨by rw [z1]; exact List.mem_cons_self, z2⟩
        · exfalso
          rw [List.mem_singleton] at z1
          obtain ⟨rfl, rfl⟩ := Prod.mk.inj z1
          rw [c2] at e
          have := (Prod.mk.inj (Option.some.inj e)).1
          omega
      · exact Or.inr z
    · exact ⟨q, _, rfl, by rw [hg, if_pos rfl], ck_Lv.k _ 3⟩
    · exact ⟨q, _, _, rfl, by rw [hg, if_pos rfl], rfl, x4, rfl, by rw [hx4]; exact ck_Lv.k _ 0⟩
/-- what is asked of a raw list with a row -/
def li_rawF (rl rr : Nat) (n : ck_L) : List ck_F := [(2, 0, 0, rl, (0, 0, (3, []))), (3, 0, 0, rl, (1, 0, (0, [(1, 0)]))), (3, 0, 1, rl, (3, 1, (0, []))), (2, 1, 0, rr, (0, 0, (0, [(1, 1)]))), (3, 0, 2, rl, (1, 0, n)), (6, 1, 4, rr, (0, 0, n))]
theorem li_rawf {G : am_G} {h : List am_C} {r : List Int} {s : List Nat} {rl rr : Nat} {n : ck_L} (hFc : ∀ f ∈ li_rawF rl rr n, ck_fa (am_g G h) 0 r s f) {q p : Nat} (hq : s[0]? = some q) (hp : s[1]? = some p) : ∃ (mc n9 : Int32) (ws : List Value), am_g G h q = some (rl, [.int mc, .ref p, .int n9]) ∧ am_g G h p = some (rr, ws) ∧ ck_Lv r (0, [(1, 1)]) (ws.length : Int) ∧ ck_Lv r n n9.toInt ∧ ∀ k : Nat, (k : Int) < n9.toInt → ∃ q : Nat, ws[k]? = some (.ref q) := by
  obtain ⟨q1, vs, a1, a2, a3⟩ := hFc (2, 0, 0, rl, (0, 0, (3, []))) (by unfold li_rawF; simp)
  obtain ⟨q2, v2, w2, b1, b2, b3, z2, b4, b5⟩ := hFc (3, 0, 1, rl, (3, 1, (0, []))) (by unfold li_rawF; simp)
  obtain ⟨q3, v3, c1, c2, c3⟩ := hFc (2, 1, 0, rr, (0, 0, (0, [(1, 1)]))) (by unfold li_rawF; simp)
  obtain ⟨q4, v4, w4, d1, d2, d3, x4, d4, d5⟩ := hFc (3, 0, 2, rl, (1, 0, n)) (by unfold li_rawF; simp)
  obtain ⟨q5, v5, w5, e1, e2, e3, x5, e4, e5⟩ := hFc (3, 0, 0, rl, (1, 0, (0, [(1, 0)]))) (by unfold li_rawF; simp)
  obtain ⟨q6, v6, x6, f1, f2, f3, f4⟩ := hFc (6, 1, 4, rr, (0, 0, n)) (by unfold li_rawF; simp)
  have a1 : s[0]? = some q1 := a1
  have b1 : s[0]? = some q2 := b1
  have b4 : s[1]? = some z2 := b4
  have c1 : s[1]? = some q3 := c1
  have d1 : s[0]? = some q4 := d1
  have e1 : s[0]? = some q5 := e1
  have f1 : s[1]? = some q6 := f1
  rw [hq] at a1 b1 d1 e1
  rw [hp] at b4 c1 f1
  cases a1; cases b1; cases c1; cases d1; cases e1; cases b4; cases f1
  subst b5 d4 e4
  have a2 : am_g G h q = some (rl, vs) := a2
  have b2 : am_g G h q = some (rl, v2) := b2
  have d2 : am_g G h q = some (rl, v4) := d2
  have e2 : am_g G h q = some (rl, v5) := e2
  have c2 : am_g G h p = some (rr, v3) := c2
  have f2 : am_g G h p = some (rr, v6) := f2
  rw [a2] at b2 d2 e2
  cases b2; cases d2; cases e2
  rw [c2] at f2
  cases f2
  have hl : vs.length = 3 := by have := li_k a3; omega
  have hvs := li_three hl e3 b3 d3
  subst hvs
  refine ⟨x5, x4, v3, a2, c2, c3, d5, fun k hk => f4 k ?_⟩
  have := f3.fn d5
  omega
theorem li_pubc {G : am_G} {K : Int32} {F : li_F} (hF : F ∈ li_Fs) {rl : Nat} (hrl : rl = 506 ∨ rl = 606) {h : List am_C} (hH : ck_HT li_X gT K (am_g G h)) {q p : Nat} {mc n : Int32} {ws : List Value} (hq : am_g G h q = some (rl, [.int mc, .ref p, .int n])) (hp : am_g G h p = some (F.2.2.1, ws)) (hn : 0 ≤ n.toInt ∧ n.toInt ≤ F.2.2.2.2.2) (hl : 10 ≤ ws.length ∧ ws.length ≤ 24 ∧ n.toInt ≤ (ws.length : Int)) (hk : ∀ k : Nat, (k : Int) < n.toInt → ∃ q : Nat, ws[k]? = some (.ref q)) (hcp : F.1 = 41106 → li_cp (am_g G h) n.toInt ws) :
    ∃ h' : List am_C, ck_rh G h h' ∧ ck_HT li_X gT K (am_g G h') ∧ ck_Kp [] [(q, rl), (p, F.2.2.1)] (am_g G h) (am_g G h') ∧ h.length ≤ h'.length ∧ am_g G h' q = some (F.1, [.int mc, .ref p, .int n]) ∧ am_g G h' p = some (F.2.1, ws) := by
  obtain ⟨r1, r2, r3, r4⟩ := li_row hF
  obtain ⟨u1, u2, u3, u4, u5, u6, -⟩ := li_nums hF
  obtain ⟨v1, v2, v3, v4⟩ := li_rl hF hrl
  have hq1 : 1000 ≤ q := (hH.2 q _ _ hq).2.2 (by unfold ck_wr; rw [v1])
  have hp1 : 1000 ≤ p := (hH.2 p _ _ hp).2.2 (by unfold ck_wr; rw [r3]; rfl)
  have hpq : p ≠ q := by rintro rfl; rw [hq] at hp; exact v4 (Prod.mk.inj (Option.some.inj hp)).1.symm
  have g1 : ∀ m, am_g G (am_s h q (F.1, [.int mc, .ref p, .int n])) m = if m = q then some (F.1, [.int mc, .ref p, .int n]) else am_g G h m := fun m => am_g_s hq1 (am_g_lt hq1 hq)
  have g2 : ∀ m, am_g G (am_s (am_s h q (F.1, [.int mc, .ref p, .int n])) p (F.2.1, ws)) m = if m = p then some (F.2.1, ws) else am_g G (am_s h q (F.1, [.int mc, .ref p, .int n])) m := fun m => am_g_s hp1 (by rw [am_s_len]; exact am_g_lt hp1 hp)
  obtain ⟨k1, k2⟩ := li_new hF hrl hH (g2 := am_g G (am_s (am_s h q (F.1, [.int mc, .ref p, .int n])) p (F.2.1, ws))) hq hn (Or.inr ⟨ws, hp, hl.1, hl.2.1, hl.2.2, hk, hcp⟩) (by rw [g2, if_neg (Ne.symm hpq), g1, if_pos rfl]) (fun ws' z => by rw [hp] at z; cases z; rw [g2, if_pos rfl]) (fun m hm hz => by
    have : m ≠ p := by rintro rfl; exact hz ws ⟨rfl, hp⟩
    rw [g2, if_neg this, g1, if_neg hm])
  exact ⟨_, ⟨[(q, F.1), (p, F.2.1)], rl, _, hq, hq1, by show F.1 % 100 = _; rw [u1, v2], F.2.2.1, ws, by rw [g1, if_neg hpq]; exact hp, hp1, by show F.2.1 % 100 = _; rw [u2, u3], rfl⟩, k1, k2, by rw [am_s_len, am_s_len]; exact Nat.le_refl _, by rw [g2, if_neg (Ne.symm hpq), g1, if_pos rfl], by rw [g2, if_pos rfl]⟩
/-- of a family whose elements are of no account to each other -/
def li_pubK (F : li_F) (rl n : Nat) : ck_KK := (([(-2147483648, 2147483647), (10, 24)], [], li_rawF rl F.2.2.1 ((n : Int), []), 2, [(3, 0, (0, [])), (3, 1, (0, []))]), ((0, []), (0, [])), [], [rl, F.2.2.1], ([], [], [(2, 0, 0, F.1, (0, 0, (3, []))), (3, 0, 2, F.1, (1, 0, ((n : Int), [])))], 0, []), [])
theorem li_pub_con {G : am_G} {F : li_F} {rl n : Nat} (hF : F ∈ li_Fs) (hrl : rl = 506 ∨ rl = 606) (hnb : F.1 ≠ 41106) (hn9 : (n : Int) ≤ F.2.2.2.2.2) (hn10 : n ≤ 10) : ck_Con (ck_lem G) G li_X gT (li_pubK F rl n) := by
  intro K r s a h hH hV hC hFc hn hS mc ms hmc hms
  match s, hn with
  | [q, p], _ =>
    match r, hV.1 with
    | [m0, l0], _ =>
      obtain ⟨mc9, n9, ws, a1, a2, a3, a4, a5⟩ := li_rawf hFc (q := q) (p := p) rfl rfl
      have a3 := ck_lv1 a3
      cases a3
      have i1 := hV.2 1 10 24 _ rfl rfl
      have hx := li_k a4
      obtain ⟨h', k1, k2, k3, k4, k5, k6⟩ := li_pubc hF hrl hH a1 a2 ⟨by omega, by omega⟩ ⟨by omega, by omega, by omega⟩ a5 (fun z => absurd z hnb)
      refine ⟨h', k1, k2, k3, k4, [], [], li_in0, (fun c hc => nomatch hc), List.forall_mem_cons.mpr ⟨?_, List.forall_mem_cons.mpr ⟨?_, List.forall_mem_nil _⟩⟩, rfl, trivial⟩
      · exact ⟨q, _, rfl, k5, ck_Lv.k _ 3⟩
      · exact ⟨q, _, _, rfl, k5, rfl, n9, rfl, by rw [hx]; exact ck_Lv.k _ _⟩
/-- what a kept list is like inside -/
def li_expK (F : li_F) : ck_KK := (([(1, F.2.2.2.2.2)], [], [(2, 0, 0, F.1, (0, 0, (3, []))), (3, 0, 2, F.1, (1, 0, (0, [(1, 0)])))], 1, [(3, 0, (0, []))]), ((0, []), (0, [])), [], [], ([(-2147483648, 2147483647), (10, 24)], [(0, [(-1, 0), (1, 2)])], [(3, 0, 0, F.1, (1, 0, (0, [(1, 1)]))), (3, 0, 1, F.1, (3, 1, (0, []))), (2, 1, 0, F.2.1, (0, 0, (0, [(1, 2)]))), (6, 1, 4, F.2.1, (0, 0, (0, [(1, 0)])))], 1, []), [])
theorem li_expc {G : am_G} {K : Int32} {F : li_F} (hF : F ∈ li_Fs) {h : List am_C} (hH : ck_HT li_X gT K (am_g G h)) {q : Nat} {vs : List Value} {n : Int32} (hq : am_g G h q = some (F.1, vs)) (hn : vs[2]? = some (.int n)) (h1 : 1 ≤ n.toInt) : ∃ (mc : Int32) (p : Nat) (ws : List Value), vs = [.int mc, .ref p, .int n] ∧ am_g G h p = some (F.2.1, ws) ∧ 10 ≤ ws.length ∧ ws.length ≤ 24 ∧ n.toInt ≤ (ws.length : Int) ∧ ∀ k : Nat, (k : Int) < n.toInt → ∃ q : Nat, ws[k]? = some (.ref q) := by
  obtain ⟨r1, r2, r3, r4⟩ := li_row hF
  obtain ⟨mc, p, rfl⟩ := li_got hF hH hq hn
  obtain ⟨mc9, n9, p9, e1, e2, e3⟩ := hH.1.2.1 F hF q _ hq
  cases e1
  rcases e3 with ⟨-, e3⟩ | ⟨ws, e3, e4, e5⟩
  · omega
  · have hl := ((hH.2 p _ _ e3).1 _ r2).1
    have hl1 : (10 : Int) ≤ ws.length := hl.1
    have hl2 : (ws.length : Int) ≤ 24 := hl.2
    exact ⟨mc, p, ws, rfl, e3, by omega, by omega, e4, e5⟩
theorem li_exp_con {G : am_G} {F : li_F} (hF : F ∈ li_Fs) : ck_Con (ck_lem G) G li_X gT (li_expK F) := by
  intro K r s a h hH hV hC hFc hn hS mc ms hmc hms
  match s, hn with
  | [q], _ =>
    match r, hV.1 with
    | [n0], _ =>
      obtain ⟨q3, vs, v, e1, e2, e3, n, e4, e5⟩ := hFc (3, 0, 2, F.1, (1, 0, (0, [(1, 0)]))) (by unfold li_expK; simp)
      cases e1; subst e4
      have e5 := ck_lv1 e5
      cases e5
      obtain ⟨i1, i2⟩ := li_in' hV
      obtain ⟨mc9, p, ws, rfl, f1, f2, f3, f4, f5⟩ := li_expc hF hH e2 e3 i1
      refine ⟨h, ck_rh.rf _, hH, ck_Kp.rf, Nat.le_refl _, [mc9.toInt, (ws.length : Int)], [p], li_in (li_i32 mc9).1 (li_i32 mc9).2 (li_in (by omega) (by omega) li_in0), List.forall_mem_cons.mpr ⟨?_, List.forall_mem_nil _⟩, List.forall_mem_cons.mpr ⟨?_, List.forall_mem_cons.mpr ⟨?_, List.forall_mem_cons.mpr ⟨?_, List.forall_mem_cons.mpr ⟨?_, List.forall_mem_nil _⟩⟩⟩⟩, rfl, trivial⟩
      · exact ⟨ws.length - n.toInt, li_lv rfl (by show _ = (0 : Int) + (-1 * n.toInt + (1 * (ws.length : Int) + 0)); omega), by omega⟩
      · exact ⟨q, _, _, rfl, e2, rfl, mc9, rfl, ck_Lv.x rfl⟩
      · exact ⟨q, _, _, rfl, e2, rfl, p, rfl, rfl⟩
      · exact ⟨p, ws, rfl, f1, ck_Lv.x rfl⟩
      · exact ⟨p, ws, _, rfl, f1, ck_Lv.x rfl, f5⟩
end
section
/-! LISTS OF BASES: what they hold, and that no two of them have a common divisor -/
def li_elF (t row el v k : Nat) : List ck_F := (List.range k).flatMap fun i => [(3, row, i, t, (3, el + i, (0, []))), (2, el + i, 0, 41002, (0, 0, (1, []))), (3, el + i, 0, 41002, (1, 0, (0, [(1, v + i)])))]
def li_cpF (v k : Nat) : List ck_F := (List.range k).flatMap fun j => (List.range j).map fun i => (4, 0, 1, 0, (0, 0, (0, [(1000, v + i), (1, v + j)])))
theorem li_els {G : am_G} {K : Int32} {h : List am_C} (hH : ck_HT li_X gT K (am_g G h)) {r : List Int} {s : List Nat} {t row el v k p : Nat} {ws : List Value} (hF : ∀ f ∈ li_elF t row el v k, ck_fa (am_g G h) 0 r s f) (hp : s[row]? = some p) (hg : am_g G h p = some (t, ws)) : ∀ i : Nat, i < k → ∃ (a : Nat) (u : Int32), ws[i]? = some (.ref a) ∧ am_g G h a = some (41002, [.int u]) ∧ r[v + i]? = some u.toInt := by
  intro i hi
  obtain ⟨q1, v1, w1, a1, a2, a3, z1, a4, a5⟩ := hF (3, row, i, t, (3, el + i, (0, []))) (List.mem_flatMap.mpr ⟨i, List.mem_range.mpr hi, by simp⟩)
  obtain ⟨q2, v2, w2, b1, b2, b3, u, b4, b5⟩ := hF (3, el + i, 0, 41002, (1, 0, (0, [(1, v + i)]))) (List.mem_flatMap.mpr ⟨i, List.mem_range.mpr hi, by simp⟩)
  have a1 : s[row]? = some q1 := a1
  rw [hp] at a1
  cases a1
  have a2 : am_g G h p = some (t, v1) := a2
  rw [hg] at a2
  cases a2
  have a4 : s[el + i]? = some z1 := a4
  have b1 : s[el + i]? = some q2 := b1
  rw [a4] at b1
  cases b1
  subst a5 b4
  have b2 : am_g G h z1 = some (41002, v2) := b2
  have hl := li_telen (F := li_fb) (by decide) hH b2
  have hv : v2 = [.int u] := by
    match v2, hl with
    | [y], _ => cases b3; rfl
  rw [hv] at b2
  exact ⟨z1, u, a3, b2, ck_lv1 b5⟩
theorem li_cps {G : am_G} {h : List am_C} {r : List Int} {s : List Nat} {v k : Nat} (hF : ∀ f ∈ li_cpF v k, ck_fa (am_g G h) 0 r s f) : ∀ (i j : Nat) (x y : Int), i < j → j < k → r[v + i]? = some x → r[v + j]? = some y → 0 ≤ x → 0 ≤ y → y ≤ 999 → Nat.gcd x.toNat y.toNat = 1 := by
  intro i j x y hij hj hx hy h0 h1 h2
  have hf := hF (4, 0, 1, 0, (0, 0, (0, [(1000, v + i), (1, v + j)]))) (List.mem_flatMap.mpr ⟨j, List.mem_range.mpr hj, List.mem_map.mpr ⟨i, List.mem_range.mpr hij, rfl⟩⟩)
  obtain ⟨z, ⟨-, z1⟩, a, b, b1, b2, b3⟩ := (show ∃ z : Int, ck_Lv r (0, [(1000, v + i), (1, v + j)]) z ∧ ck_pu 1 z from hf)
  have z1 : z = (0 : Int) + (1000 * r.getD (v + i) 0 + (1 * r.getD (v + j) 0 + 0)) := z1
  rw [ck_lvk hx, ck_lvk hy] at z1
  have e1 : x.toNat = a := by omega
  have e2 : y.toNat = b := by omega
  rw [e1, e2]
  exact b3
theorem li_rep {V : ck_I} {r : List Int} {lo hi : Int} {k n : Nat} (hV : ck_In (V ++ List.replicate k (lo, hi)) r) (hn : V.length = n) {i : Nat} {x : Int} (hi9 : i < k) (hx : r[n + i]? = some x) : lo ≤ x ∧ x ≤ hi := by
  refine hV.2 (n + i) lo hi x ?_ hx
  rw [List.getElem?_append_right (by omega), show n + i - V.length = i by omega, List.getElem?_replicate, if_pos hi9]
def li_pubbK (k : Nat) : ck_KK := (([(-2147483648, 2147483647), (10, 24)] ++ List.replicate k (2, 999), [], li_rawF 606 656 ((k : Int), []) ++ (li_elF 656 1 2 2 k ++ li_cpF 2 k), 2 + k, [(3, 0, (0, [])), (3, 1, (0, []))]), ((0, []), (0, [])), [], [606, 656], ([], [], [(2, 0, 0, 41106, (0, 0, (3, []))), (3, 0, 2, 41106, (1, 0, ((k : Int), [])))], 0, []), [])
theorem li_cp_of {G : am_G} {K : Int32} {h : List am_C} (hH : ck_HT li_X gT K (am_g G h)) {r : List Int} {s : List Nat} {t row el v k p : Nat} {ws : List Value} (hF : ∀ f ∈ li_elF t row el v k, ck_fa (am_g G h) 0 r s f) (hF2 : ∀ f ∈ li_cpF v k, ck_fa (am_g G h) 0 r s f) (hp : s[row]? = some p) (hg : am_g G h p = some (t, ws)) (hb : ∀ (i : Nat) (x : Int), i < k → r[v + i]? = some x → 2 ≤ x ∧ x ≤ 999) : li_cp (am_g G h) (k : Int) ws := by
  have hel := li_els hH hF hp hg
  have hval : ∀ (i : Nat) (x : Int), i < k → li_val (am_g G h) ws i x → r[v + i]? = some x := by
    intro i x hi ⟨a, u, x1, x2, x3⟩
    obtain ⟨a', u', y1, y2, y3⟩ := hel i hi
    rw [x1] at y1
    cases y1
    rw [x2] at y2
    cases y2
    rw [← x3]; exact y3
  refine ⟨fun i hi => ?_, fun i j x y hij hj hx hy => ?_⟩
  · obtain ⟨a, u, y1, y2, y3⟩ := hel i (by omega)
    have := hb i _ (by omega) y3
    exact ⟨u.toInt, ⟨a, u, y1, y2, rfl⟩, this⟩
  · have hx := hval i x (by omega) hx
    have hy := hval j y (by omega) hy
    have := hb i x (by omega) hx
    have := hb j y (by omega) hy
    exact li_cps hF2 i j x y hij (by omega) hx hy (by omega) (by omega) (by omega)
theorem li_pubb_con {G : am_G} {k : Nat} (hk : k ≤ 5) : ck_Con (ck_lem G) G li_X gT (li_pubbK k) := by
  intro K r s a h hH hV hC hFc hn hS mc ms hmc hms
  have hF : li_fb ∈ li_Fs := by decide
  have hFa : ∀ f ∈ li_rawF 606 656 ((k : Int), []), ck_fa (am_g G h) 0 r s f := fun f hf => hFc f (List.mem_append_left _ hf)
  have hFb : ∀ f ∈ li_elF 656 1 2 2 k, ck_fa (am_g G h) 0 r s f := fun f hf => hFc f (List.mem_append_right _ (List.mem_append_left _ hf))
  have hFd : ∀ f ∈ li_cpF 2 k, ck_fa (am_g G h) 0 r s f := fun f hf => hFc f (List.mem_append_right _ (List.mem_append_right _ hf))
  have hn : s.length = 2 + k := hn
  obtain ⟨q, hq⟩ : ∃ q, s[0]? = some q := ⟨s[0], List.getElem?_eq_getElem (by omega)⟩
  obtain ⟨p, hp⟩ : ∃ p, s[1]? = some p := ⟨s[1], List.getElem?_eq_getElem (by omega)⟩
  obtain ⟨mc9, n9, ws, a1, a2, a3, a4, a5⟩ := li_rawf hFa hq hp
  have a3 := ck_lv1 a3
  have i1 := hV.2 1 10 24 _ rfl a3
  have hx := li_k a4
  have hcp := li_cp_of hH hFb hFd hp a2 (fun i x hi hx => li_rep hV rfl hi hx)
  rw [← hx] at hcp
  obtain ⟨h', k1, k2, k3, k4, k5, k6⟩ := li_pubc hF (Or.inr rfl) hH a1 a2 ⟨by omega, by show _ ≤ (5 : Int); omega⟩ ⟨by omega, by omega, by omega⟩ a5 (fun _ => hcp)
  refine ⟨h', k1, k2, ?_, k4, [], [], li_in0, (fun c hc => nomatch hc), List.forall_mem_cons.mpr ⟨?_, List.forall_mem_cons.mpr ⟨?_, List.forall_mem_nil _⟩⟩, rfl, trivial⟩
  · match s, hq, hp with
    | q0 :: p0 :: s', hq, hp => cases hq; cases hp; exact k3
  · exact ⟨q, _, by rw [List.append_nil]; exact hq, k5, ck_Lv.k _ 3⟩
  · exact ⟨q, _, _, by rw [List.append_nil]; exact hq, k5, rfl, n9, rfl, by rw [hx]; exact ck_Lv.k _ _⟩
def li_expbK (k : Nat) : ck_KK := (([((k : Int), (k : Int))], [], [(2, 0, 0, 41106, (0, 0, (3, []))), (3, 0, 2, 41106, (1, 0, (0, [(1, 0)])))], 1, [(3, 0, (0, []))]), ((0, []), (0, [])), [], [], ([(-2147483648, 2147483647), (10, 24)] ++ List.replicate k (2, 999), [], [(3, 0, 0, 41106, (1, 0, (0, [(1, 1)]))), (3, 0, 1, 41106, (3, 1, (0, []))), (2, 1, 0, 40156, (0, 0, (0, [(1, 2)]))), (6, 1, 4, 40156, (0, 0, (0, [(1, 0)])))] ++ (li_elF 40156 1 2 3 k ++ li_cpF 3 k), 1 + k, []), [])
theorem li_pick {k : Nat} {P : Nat → Nat → Int → Prop} (h : ∀ i : Nat, i < k → ∃ (a : Nat) (x : Int), P i a x) : ∃ (A : List Nat) (B : List Int), A.length = k ∧ B.length = k ∧ ∀ (i a : Nat) (x : Int), A[i]? = some a → B[i]? = some x → P i a x := by
  induction k with
  | zero => exact ⟨[], [], rfl, rfl, fun i a x h => nomatch h⟩
  | succ k ih =>
    obtain ⟨A, B, h1, h2, h3⟩ := ih (fun i hi => h i (by omega))
    obtain ⟨a, x, hax⟩ := h k (by omega)
    refine ⟨A ++ [a], B ++ [x], by simp [h1], by simp [h2], fun i a' x' e1 e2 => ?_⟩
    by_cases hi : i < k
    · rw [List.getElem?_append_left (by omega)] at e1 e2
      exact h3 i a' x' e1 e2
    · have hi2 : i = k := by
        have := (List.getElem?_eq_some_iff.mp e1).1
        rw [List.length_append, List.length_singleton] at this
        omega
      subst hi2
      rw [List.getElem?_append_right (by omega), h1, Nat.sub_self] at e1
      rw [List.getElem?_append_right (by omega), h2, Nat.sub_self] at e2
      cases e1
      cases e2
      exact hax
theorem li_expb_con {G : am_G} {k : Nat} (hk1 : 1 ≤ k) (hk : k ≤ 5) : ck_Con (ck_lem G) G li_X gT (li_expbK k) := by
  intro K r s a h hH hV hC hFc hn hS mc ms hmc hms
  have hF : li_fb ∈ li_Fs := by decide
  match s, hn with
  | [q], _ =>
    match r, hV.1 with
    | [n0], _ =>
      obtain ⟨q3, vs, v, e1, e2, e3, n, e4, e5⟩ := hFc (3, 0, 2, 41106, (1, 0, (0, [(1, 0)]))) (by unfold li_expbK; simp)
      cases e1; subst e4
      have e5 := ck_lv1 e5
      cases e5
      obtain ⟨i1, i2⟩ := li_in' hV
      obtain ⟨mc9, p, ws, rfl, f1, f2, f3, f4, f5⟩ := li_expc hF hH e2 e3 (by omega)
      have hcp : li_cp (am_g G h) n.toInt ws := hH.1.2.2.2.1 q p mc9 n ws e2 f1
      obtain ⟨A, B, g1, g2, g3⟩ := li_pick (k := k) (P := fun i a x => ∃ u : Int32, ws[i]? = some (.ref a) ∧ am_g G h a = some (41002, [.int u]) ∧ u.toInt = x ∧ 2 ≤ x ∧ x ≤ 999) (fun i hi => by
        obtain ⟨x, ⟨a, u, x1, x2, x3⟩, x4⟩ := hcp.1 i (by omega)
        exact ⟨a, x, u, x1, x2, x3, x4⟩)
      have hin : ck_In ([(-2147483648, 2147483647), (10, 24)] ++ List.replicate k (2, 999)) (mc9.toInt :: (ws.length : Int) :: B) := by
        refine li_in (li_i32 mc9).1 (li_i32 mc9).2 (li_in (by omega) (by omega) ⟨by show (List.replicate k _).length = _; rw [List.length_replicate, g2], fun i a b x x1 x2 => ?_⟩)
        have x1 : (List.replicate k ((2 : Int), (999 : Int)))[i]? = some (a, b) := x1
        rw [List.getElem?_replicate] at x1
        split at x1
        · next hi =>
          cases x1
          obtain ⟨u, -, -, -, y4, y5⟩ := g3 i A[i] x (List.getElem?_eq_getElem (by omega)) x2
          exact ⟨y4, y5⟩
        · cases x1
      have hr : ∀ (i : Nat), i < k → ∃ x, B[i]? = some x ∧ ([n.toInt] ++ (mc9.toInt :: (ws.length : Int) :: B))[3 + i]? = some x := by
        intro i hi
        refine ⟨B[i]'(by omega), List.getElem?_eq_getElem (by omega), ?_⟩
        show (n.toInt :: mc9.toInt :: (ws.length : Int) :: B)[3 + i]? = _
        rw [show 3 + i = i + 1 + 1 + 1 by omega, List.getElem?_cons_succ, List.getElem?_cons_succ, List.getElem?_cons_succ]
        exact List.getElem?_eq_getElem (by omega)
      have hs : ∀ (i : Nat), i < k → ∃ a, A[i]? = some a ∧ ([q] ++ (p :: A))[2 + i]? = some a := by
        intro i hi
        refine ⟨A[i]'(by omega), List.getElem?_eq_getElem (by omega), ?_⟩
        show (q :: p :: A)[2 + i]? = _
        rw [show 2 + i = i + 1 + 1 by omega, List.getElem?_cons_succ, List.getElem?_cons_succ]
        exact List.getElem?_eq_getElem (by omega)
      refine ⟨h, ck_rh.rf _, hH, ck_Kp.rf, Nat.le_refl _, mc9.toInt :: (ws.length : Int) :: B, p :: A, hin, (fun c hc => nomatch hc), fun f hf => ?_, by show A.length + 1 = 1 + k; omega, trivial⟩
      rcases List.mem_append.mp hf with hf | hf
      · simp only [List.mem_cons, List.not_mem_nil, or_false] at hf
        rcases hf with rfl | rfl | rfl | rfl
        · exact ⟨q, _, _, rfl, e2, rfl, mc9, rfl, ck_Lv.x rfl⟩
        · exact ⟨q, _, _, rfl, e2, rfl, p, rfl, rfl⟩
        · exact ⟨p, ws, rfl, f1, ck_Lv.x rfl⟩
        · exact ⟨p, ws, _, rfl, f1, ck_Lv.x rfl, f5⟩
      rcases List.mem_append.mp hf with hf | hf
      · obtain ⟨i, hi, hf⟩ := List.mem_flatMap.mp hf
        have hi := List.mem_range.mp hi
        obtain ⟨x, x1, x2⟩ := hr i hi
        obtain ⟨a, a1, a2⟩ := hs i hi
        obtain ⟨u, y1, y2, y3, y4, y5⟩ := g3 i a x a1 x1
        simp only [List.mem_cons, List.not_mem_nil, or_false] at hf
        rcases hf with rfl | rfl | rfl
        · exact ⟨p, ws, _, rfl, f1, y1, a, a2, rfl⟩
        · exact ⟨a, _, a2, y2, ck_Lv.k _ 1⟩
        · exact ⟨a, _, _, a2, y2, rfl, u, rfl, by rw [y3]; exact ck_Lv.x x2⟩
      · obtain ⟨j, hj, hf⟩ := List.mem_flatMap.mp hf
        obtain ⟨i, hi, rfl⟩ := List.mem_map.mp hf
        have hi := List.mem_range.mp hi
        have hj := List.mem_range.mp hj
        obtain ⟨x, x1, x2⟩ := hr i (by omega)
        obtain ⟨y, y1, y2⟩ := hr j hj
        obtain ⟨a, a1, -⟩ := hs i (by omega)
        obtain ⟨b, b1, -⟩ := hs j hj
        obtain ⟨u, u1, u2, u3, u4, u5⟩ := g3 i a x a1 x1
        obtain ⟨w, w1, w2, w3, w4, w5⟩ := g3 j b y b1 y1
        have hg := hcp.2 i j x y hi (by omega) ⟨a, u, u1, u2, u3⟩ ⟨b, w, w1, w2, w3⟩
        have hlv : ck_Lv ([n.toInt] ++ (mc9.toInt :: (ws.length : Int) :: B)) (0, [(1000, 3 + i), (1, 3 + j)]) (1000 * x + y) := by
          have := ((ck_Lv.x x2).mul 1000).add (ck_Lv.x y2)
          refine ⟨fun t ht => ?_, ?_⟩
          · simp at ht
            rcases ht with rfl | rfl
            · exact (List.getElem?_eq_some_iff.mp x2).1
            · exact (List.getElem?_eq_some_iff.mp y2).1
          · show _ = (0 : Int) + (1000 * (([n.toInt] ++ (mc9.toInt :: (ws.length : Int) :: B))).getD (3 + i) 0 + (1 * (([n.toInt] ++ (mc9.toInt :: (ws.length : Int) :: B))).getD (3 + j) 0 + 0))
            rw [ck_lvk x2, ck_lvk y2]
            omega
        exact (show ∃ z : Int, ck_Lv _ (0, [(1000, 3 + i), (1, 3 + j)]) z ∧ ck_pu 1 z from ⟨_, hlv, x.toNat, y.toNat, by omega, by omega, hg⟩)
def li_addbK (k : Nat) : ck_KK := (([((k : Int), (k : Int)), (2, 999)] ++ List.replicate k (2, 999), [], [(2, 0, 0, 41106, (0, 0, (3, []))), (3, 0, 2, 41106, (1, 0, (0, [(1, 0)]))), (2, 1, 0, 41002, (0, 0, (1, []))), (3, 1, 0, 41002, (1, 0, (0, [(1, 1)])))] ++ ((bif Nat.beq k 0 then [] else [(3, 0, 1, 41106, (3, 2, (0, [])))]) ++ (li_elF 40156 2 3 2 k ++ (List.range k).map fun i => (4, 0, 1, 0, (0, 0, (0, [(1, 1), (1000, 2 + i)]))))), 3 + k, [(3, 0, (0, [])), (3, 1, (0, []))]), ((1, []), (20, [])), li_mods li_fb, [], ([], [], [(3, 0, 2, 41106, (1, 0, (1, [(1, 0)])))], 0, [(1, 0, (1, []))]), [])
theorem li_addb_con {G : am_G} {CM : ck_CM} {k : Nat} (hk : k ≤ 4) (hKe : ck_Con (am_grow CM) G li_XL gTl (li_Ke li_fb)) (hKk : ∀ k : Nat, (k : Int) < 5 → ∃ lo : Int, 10 ≤ lo ∧ lo ≤ max 10 ((k : Int) + 1) ∧ ck_Con (am_grow CM) G li_XL gTl (li_Kk li_fb k lo)) : ck_Con (ck_lift G CM) G li_X gT (li_addbK k) := by
  intro K r s a h hH hV hC hFc hn hS mc ms hmc hms
  have hmc' : (mc : Int) = 1 := li_k hmc
  have hms' : (ms : Int) = 20 := li_k hms
  have hF : li_fb ∈ li_Fs := by decide
  have hn : s.length = 3 + k := hn
  obtain ⟨q, hq⟩ : ∃ q, s[0]? = some q := ⟨s[0], List.getElem?_eq_getElem (by omega)⟩
  obtain ⟨e, he⟩ : ∃ q, s[1]? = some q := ⟨s[1], List.getElem?_eq_getElem (by omega)⟩
  have hFa : ∀ f ∈ ([(2, 0, 0, 41106, (0, 0, (3, []))), (3, 0, 2, 41106, (1, 0, (0, [(1, 0)]))), (2, 1, 0, 41002, (0, 0, (1, []))), (3, 1, 0, 41002, (1, 0, (0, [(1, 1)])))] : List ck_F), ck_fa (am_g G h) 0 r s f := fun f hf => hFc f (List.mem_append_left _ hf)
  have hFb : ∀ f ∈ ((bif Nat.beq k 0 then [] else [(3, 0, 1, 41106, (3, 2, (0, [])))]) : List ck_F), ck_fa (am_g G h) 0 r s f := fun f hf => hFc f (List.mem_append_right _ (List.mem_append_left _ hf))
  have hFd : ∀ f ∈ li_elF 40156 2 3 2 k, ck_fa (am_g G h) 0 r s f := fun f hf => hFc f (List.mem_append_right _ (List.mem_append_right _ (List.mem_append_left _ hf)))
  have hFe : ∀ f ∈ ((List.range k).map fun i => ((4, 0, 1, 0, (0, 0, (0, [(1, 1), (1000, 2 + i)]))) : ck_F)), ck_fa (am_g G h) 0 r s f := fun f hf => hFc f (List.mem_append_right _ (List.mem_append_right _ (List.mem_append_right _ hf)))
  match a, hS with
  | [v1, v2], ⟨⟨q1, s1, s2⟩, ⟨q2, s3, s4⟩, _⟩ =>
    have s1 : s[0]? = some q1 := s1
    have s3 : s[1]? = some q2 := s3
    rw [hq] at s1
    rw [he] at s3
    cases s1; cases s3; subst s2 s4
    obtain ⟨q3, vs, v, e1, e2, e3, n, e4, e5⟩ := hFa (3, 0, 2, 41106, (1, 0, (0, [(1, 0)]))) (by simp)
    obtain ⟨q4, ves, w, f1, f2, f3, u, f4, f5⟩ := hFa (3, 1, 0, 41002, (1, 0, (0, [(1, 1)]))) (by simp)
    have e1 : s[0]? = some q3 := e1
    have f1 : s[1]? = some q4 := f1
    rw [hq] at e1
    rw [he] at f1
    cases e1; cases f1; subst e4 f4
    have e2 : am_g G h q = some (41106, vs) := e2
    have f2 : am_g G h e = some (41002, ves) := f2
    obtain ⟨mc9, p, rfl⟩ := li_got hF hH e2 e3
    have hr0 := ck_lv1 e5
    have hr1 := ck_lv1 f5
    have i0 : (k : Int) ≤ n.toInt ∧ n.toInt ≤ (k : Int) := hV.2 0 _ _ _ rfl hr0
    have i1 : (2 : Int) ≤ u.toInt ∧ u.toInt ≤ 999 := hV.2 1 _ _ _ rfl hr1
    have hves : ves = [.int u] := by
      have hl := li_telen hF hH f2
      match ves, hl with
      | [y], _ => cases f3; rfl
    subst hves
    refine li_post (li_addc hF hKe hKk (fun k h1 h2 => absurd h2 (by show ¬ (k : Int) < 5; omega)) hH e2 (by show n.toInt < 5; omega) f2 (fun _ => ⟨u.toInt, u, f2, rfl, i1.1, i1.2, fun ws hws i y hi hval => ?_⟩) (by decide) (fun _ => by decide)) (by omega) (by omega) fun o h'' ⟨y1, y2, y3, y4, mc2, n9, p2, y5, y6⟩ => ?_
    · have hk0 : k ≠ 0 := by omega
      have hb : Nat.beq k 0 = false := by
        cases hb : Nat.beq k 0
        · rfl
        · exact absurd (ck_beq hb) hk0
      rw [hb] at hFb
      obtain ⟨q5, v5, w5, g1, g2, g3, z5, g4, g5⟩ := hFb (3, 0, 1, 41106, (3, 2, (0, []))) (by simp)
      have g1 : s[0]? = some q5 := g1
      rw [hq] at g1
      cases g1
      have g2 : am_g G h q = some (41106, v5) := g2
      rw [e2] at g2
      cases g2
      cases g3
      cases g5
      obtain ⟨a', u', b1, b2, b3⟩ := li_els hH hFd (show s[2]? = some p from g4) hws i (by omega)
      obtain ⟨a9, u9, c1, c2, c3⟩ := hval
      rw [b1] at c1
      cases c1
      rw [b2] at c2
      cases c2
      have hf := hFe _ (List.mem_map.mpr ⟨i, List.mem_range.mpr (show i < k by omega), rfl⟩)
      obtain ⟨z, ⟨-, z1⟩, x1, x2, x3, x4, x5⟩ := (show ∃ z : Int, ck_Lv r (0, [(1, 1), (1000, 2 + i)]) z ∧ ck_pu 1 z from hf)
      have z1 : z = (0 : Int) + (1 * r.getD 1 0 + (1000 * r.getD (2 + i) 0 + 0)) := z1
      rw [ck_lvk hr1, ck_lvk b3] at z1
      have hb9 := li_rep hV (n := 2) rfl (show i < k by omega) b3
      have h1 : y.toNat = x1 := by omega
      have h2 : u.toInt.toNat = x2 := by omega
      rw [h1, h2]
      exact x5
    · subst y1
      refine ⟨y2, y3, y4, [], [], li_in0, (fun c hc => nomatch hc), List.forall_mem_cons.mpr ⟨?_, List.forall_mem_nil _⟩, rfl, ⟨⟨1, rfl, ck_Lv.k _ 1⟩, trivial⟩⟩
      refine ⟨q, _, _, by rw [List.append_nil]; exact hq, y5, rfl, n9, rfl, ⟨fun t ht => ?_, ?_⟩⟩
      · simp at ht
        subst ht
        rw [List.append_nil]
        exact (List.getElem?_eq_some_iff.mp hr0).1
      · show _ = (1 : Int) + (1 * (r ++ []).getD 0 0 + 0)
        rw [List.append_nil, ck_lvk hr0]
        omega
/-- an Integer is kept from now on -/
def li_intK : ck_KK := (([(-128, 999)], [], [(2, 0, 0, 2, (0, 0, (1, []))), (3, 0, 0, 2, (1, 0, (0, [(1, 0)])))], 1, [(3, 0, (0, []))]), ((0, []), (0, [])), [], [2], ([], [], [(2, 0, 0, 41002, (0, 0, (1, []))), (3, 0, 0, 41002, (1, 0, (0, [(1, 0)])))], 0, []), [])
theorem li_int_con {G : am_G} : ck_Con (ck_lem G) G li_X gT li_intK := by
  intro K r s a h hH hV hC hFc hn hS mc ms hmc hms
  match s, hn with
  | [q], _ =>
    match r, hV.1 with
    | [n0], _ =>
      obtain ⟨q1, vs, a1, a2, a3⟩ := hFc (2, 0, 0, 2, (0, 0, (1, []))) (by unfold li_intK; simp)
      obtain ⟨q2, v2, w2, b1, b2, b3, u, b4, b5⟩ := hFc (3, 0, 0, 2, (1, 0, (0, [(1, 0)]))) (by unfold li_intK; simp)
      cases a1; cases b1; subst b4
      have a2 : am_g G h q = some (2, vs) := a2
      have b2 : am_g G h q = some (2, v2) := b2
      rw [a2] at b2
      cases b2
      have b5 := ck_lv1 b5
      cases b5
      obtain ⟨i1, i2⟩ := li_in' hV
      have hl := li_k a3
      have hv : vs = [.int u] := by
        match vs, hl with
        | [y], _ => cases b3; rfl
      subst hv
      have hq1 : 1000 ≤ q := (hH.2 q _ _ a2).2.2 (by decide +kernel)
      have hg : ∀ m, am_g G (am_s h q (41002, [.int u])) m = if m = q then some (41002, [.int u]) else am_g G h m := fun m => am_g_s hq1 (am_g_lt hq1 a2)
      obtain ⟨⟨h0, hX1, hX2, hX3, hX4, hX5⟩, hT⟩ := id hH
      have hne : ∀ (m t : Nat) (ws : List Value), t ≠ 2 → am_g G h m = some (t, ws) → m ≠ q := by
        rintro m t ws ht e rfl
        rw [a2] at e
        exact ht (Prod.mk.inj (Option.some.inj e)).1.symm
      have hfw : ∀ (m t : Nat) (ws : List Value), t ≠ 2 → am_g G h m = some (t, ws) → am_g G (am_s h q (41002, [.int u])) m = some (t, ws) := fun m t ws ht e => by rw [hg, if_neg (hne m t ws ht e)]; exact e
      have hbw : ∀ (m t : Nat) (ws : List Value), t ≠ 41002 → am_g G (am_s h q (41002, [.int u])) m = some (t, ws) → am_g G h m = some (t, ws) := by
        intro m t ws ht e
        rw [hg] at e
        by_cases hm : m = q
        · rw [if_pos hm] at e; exact absurd (Prod.mk.inj (Option.some.inj e)).1.symm ht
        · rw [if_neg hm] at e; exact e
      have hrow : ∀ F ∈ li_Fs, ∀ (m : Nat) (ws : List Value) (p : Nat), am_g G h m = some (F.1, ws) → ws[1]? = some (.ref p) → p ≠ q := by
        intro F hF m ws p e e1
        obtain ⟨mc9, n9, p9, rfl, -, e2⟩ := hX1 F hF m ws e
        have e1 : some (Value.ref p9) = some (.ref p) := e1
        cases e1
        obtain ⟨k1, k2, k3⟩ := li_Fs_ge hF
        rcases e2 with ⟨e2, -⟩ | ⟨w, e2, -⟩
        · exact hne p 43056 [] (by decide) e2
        · exact hne p _ w (by omega) e2
      have hlF : ∀ F ∈ li_Fs, F.1 ≠ 41002 ∧ F.1 ≠ 2 ∧ F.2.1 ≠ 41002 ∧ F.2.1 ≠ 2 := by decide
      refine ⟨_, ⟨[(q, 41002)], 2, _, a2, hq1, (by show 41002 % 100 = 2 % 100; rfl), rfl⟩, ⟨⟨by rw [hg, if_neg (by omega)]; exact h0, ?_, ?_, ?_, ?_, hX5.tr fun m t ws ht e => hbw m t ws (by rcases ht with rfl | rfl <;> decide) e⟩, ?_⟩, ?_, by rw [am_s_len]; exact Nat.le_refl _, [], [], li_in0, (fun c hc => nomatch hc), List.forall_mem_cons.mpr ⟨?_, List.forall_mem_cons.mpr ⟨?_, List.forall_mem_nil _⟩⟩, rfl, trivial⟩
      · intro F hF m ws e
        obtain ⟨mc9, n9, p9, rfl, e1, e2⟩ := hX1 F hF m ws (hbw m _ ws (hlF F hF).1 e)
        exact ⟨mc9, n9, p9, rfl, e1, e2.imp (fun z => ⟨hfw _ _ _ (by decide) z.1, z.2⟩) fun ⟨w, z1, z2⟩ => ⟨w, hfw _ _ _ (hlF F hF).2.2.2 z1, z2⟩⟩
      · intro m m' t t' p tr ws ws' w ht ht' e1 e2 e3 e4 e5 e6 e7
        obtain ⟨F1, hF1, rfl⟩ := ht
        obtain ⟨F2, hF2, rfl⟩ := ht'
        have g1 := hbw m _ ws (hlF F1 hF1).1 e1
        have g2 := hbw m' _ ws' (hlF F2 hF2).1 e2
        have hp := hrow F1 hF1 m ws p g1 e3
        rw [hg, if_neg hp] at e5
        exact hX2 m m' F1.1 F2.1 p tr ws ws' w ⟨F1, hF1, rfl⟩ ⟨F2, hF2, rfl⟩ g1 g2 e3 e4 e5 e6 e7
      · intro m p mc9 n9 w e1 e2
        have g1 := hbw m _ _ (by decide) e1
        have hp := hrow li_fb (by decide) m _ p g1 rfl
        rw [hg, if_neg hp] at e2
        have hold := hX3 m p mc9 n9 w g1 e2
        have hval : ∀ (i : Nat) (x : Int), (i : Int) < n9.toInt → li_val (am_g G (am_s h q (41002, [.int u]))) w i x → li_val (am_g G h) w i x := by
          intro i x hi ⟨b, y, y1, y2, y3⟩
          obtain ⟨x', ⟨b', y', z1, z2, z3⟩, -⟩ := hold.1 i hi
          rw [y1] at z1
          cases z1
          rw [hg, if_neg (hne b _ _ (by decide) z2)] at y2
          exact ⟨b, y, y1, y2, y3⟩
        refine ⟨fun i hi => ?_, fun i j x y hij hj hx hy => hold.2 i j x y hij hj (hval i x (by omega) hx) (hval j y hj hy)⟩
        obtain ⟨x, x1, x2⟩ := hold.1 i hi
        exact ⟨x, x1.tr fun b vs e => hfw b _ vs (by decide) e, x2⟩
      · intro t m m' ws ws' ht e1 e2
        have h41 : t ≠ 41002 := by rcases ht with rfl | rfl <;> decide
        exact hX4 t m m' ws ws' ht (hbw m t ws h41 e1) (hbw m' t ws' h41 e2)
      · intro m t ws e
        by_cases hm : m = q
        · subst hm
          rw [hg, if_pos rfl] at e
          cases e
          refine ⟨fun d hd => ?_, trivial, fun z => hq1⟩
          have hd' : ck_lk gT 41002 = some (2, 1, 1, [(1, 0, -128, 999)]) := rfl
          rw [hd'] at hd
          cases hd
          refine ⟨⟨(by decide : (1 : Int) ≤ ((1 : Nat) : Int)), (by decide : ((1 : Nat) : Int) ≤ 1)⟩, fun j v hv => ?_⟩
          match j, hv with
          | 0, hv => cases hv; exact ⟨_, rfl, u, rfl, i1, i2⟩
          | j + 1, hv => cases hv
        · rw [hg, if_neg hm] at e
          obtain ⟨f1, -, f3⟩ := hT m t ws e
          refine ⟨fun d hd => ⟨(f1 d hd).1, fun j v hv => ?_⟩, trivial, f3⟩
          obtain ⟨y, y1, y2⟩ := (f1 d hd).2 j v hv
          exact ⟨y, y1, y2.ex fun b t' c e1 e2 => ⟨c, hfw b t' c (by omega) e1, rfl⟩⟩
      · intro m t ws e
        by_cases hm : m = q
        · subst hm
          rw [a2] at e
          cases e
          exact Or.inl ⟨List.mem_cons_self, _, _, by rw [hg, if_pos rfl], rfl⟩
        · exact Or.inr ⟨ws, by rw [hg, if_neg hm]; exact e, rfl, fun _ _ => rfl⟩
      · exact ⟨q, _, rfl, by rw [hg, if_pos rfl], ck_Lv.k _ 1⟩
      · exact ⟨q, _, _, rfl, by rw [hg, if_pos rfl], rfl, u, rfl, ck_Lv.x rfl⟩
end
section
/-! MORE THAT THE REFERENCE NEEDS: calls of interfaces, rows of rows -/
section AMF
variable {l : Launch} {G : am_G} {own : String} {nL : Nat} {y : MethodName} {bytes : ByteArray} {maxL n : Nat} {rt : Option FieldType} {fr lo fr' lo' i : Nat}
theorem ck_kF {ci : Nat} {C : String} {T : u_T} {N : Nat} {x : MethodName} (hy : ck_y y bytes maxL n rt) (hl : Cond.methodLink own i x ∈ lw_gw) (hse : Cond.selects C x y ∈ lw_gw) (hin : Cond.instanceMethod y ∈ lw_gw) (n1 : Cond.declares x ∈ lw_ng) (n2 : Cond.interfaceMethod x.cls x.cls x.name x.desc ∈ lw_ng) (n3 : Cond.publicMethod y ∈ lw_ng) (n4 : Cond.unhidden C x.name x.desc ∈ lw_ng) (n5 : Cond.castable C x.cls ∈ lw_ng)
    (hx : x.cls ≠ "java/lang/invoke/MethodHandle" ∧ x.cls ≠ "java/lang/invoke/VarHandle" ∧ x.desc = y.desc) (hcl : am_cl[ci]? = some (C, T, N)) (hci : ci < 50) (hf : fr' + 1 ≤ fr) (ho : 8 + (maxL + 11) + lo' ≤ lo) : ∀ cn, ck_any l G own nL fr lo (.invokeinterface i cn) 5 (some ci) (n + 1) (am_cn l G y (.code y bytes maxL rt) fr' lo') := by
  intro cn p e s m args below meth c mc ms Post cc ret pc X d a L st h k n9 mc' ms' P hM hna hL hst hrc hk hn kr kx
  obtain ⟨b, tb, vb, h1, h2, h3⟩ := hrc
  obtain ⟨a1, rfl, h5⟩ := ck_head h1 hna
  rw [ck_revst]
  exact am_R.callF X a1 hM.1 hM.2 hy.1 hl hse hin hy.2.1 n1 n2 n3 n4 n5 ⟨hx.1, hx.2.1, by rw [h5, hx.2.2]; exact hy.2.2.2.2⟩ ⟨hf, ho⟩ hL hst h2 (by omega) (by rw [h3]; exact hcl) ⟨hk, hn⟩ d kr
end AMF
theorem am_asg_int {G : am_G} {s : State} (hk : am_kon G s) (hw : Cond.arrayOver (.array .int) ∈ lw_ng) : am_asg G s 57 50 := by
  obtain ⟨hK, hT⟩ := hk.1
  have e1 := am_RAn (hT _ _ (am_tys_at G (show 50 ≤ 57 by decide) (by decide))).2
  have e2 := am_RAn (hT _ _ (am_tys_at G (show 50 ≤ 50 by decide) (by decide))).2
  have e1 : s.vm.findClass ("[" ++ (FieldType.array .int).toString) = some (G.2.1 57) := e1
  have e2 : s.vm.findClass ("[" ++ (FieldType.int).toString) = some (G.2.1 50) := e2
  have e3 : ("[" ++ (FieldType.int).toString) = (FieldType.array .int).toString := by decide
  rw [e3] at e2
  have h : (Cond.arrayOver (.array .int)).before #[] s = true := hk.2.2.2.2.2.2.2 _ hw
  simp only [Cond.before, Cond.holds, Cond.value, beq_iff_eq, e2, Option.bind_some, Option.bind_eq_some_iff, Option.map_eq_some_iff] at h
  obtain ⟨cc, hi, k, hk1, hk2⟩ := h
  obtain ⟨hlt, hp, -⟩ := Array.findIdx?_eq_some_iff_getElem.mp hi
  have hkk : s.vm.classes[cc] = k := (Array.getElem?_eq_some_iff.mp hk1).2
  rw [hkk] at hp
  obtain ⟨kC, hkC, -⟩ := Vm.findClass_spec e2
  cases hkind : k.kind with
  | array component ty =>
    rw [hkind] at hk2 hp
    simp at hk2 hp
    obtain ⟨rfl, h5⟩ := hk2
    rw [e1] at h5
    cases h5
    exact ⟨k, kC, kC, _, _, hk1, by rw [hkind, hp]; rfl, hkC, by rw [if_neg (by decide)], hkC, va_asg _ _⟩
  | _ => rw [hkind] at hk2; simp at hk2
theorem am_isa_obj {G : am_G} {s : State} (hk : am_kon G s) {ci : Nat} {C : String} {T : u_T} {N : Nat} (hcl : am_cl[ci]? = some (C, T, N)) (hci : ci < 50) : ci < 59 ∧ am_isa G s ci C := by
  obtain ⟨hK, -⟩ := id hk.1
  obtain ⟨-, hca⟩ := hK ci _ hcl
  exact ⟨by omega, G.1.1 ci, G.1.1 ci, by rw [if_pos hci], hca.1, va_asg _ _⟩
/-- nothing is in it -/
def li_exp0K (F : li_F) : ck_KK := (([(0, 0)], [], [(2, 0, 0, F.1, (0, 0, (3, []))), (3, 0, 2, F.1, (1, 0, (0, [(1, 0)])))], 1, [(3, 0, (0, []))]), ((0, []), (0, [])), [], [], ([], [], [], 0, []), [])
theorem li_exp0_con {G : am_G} {F : li_F} : ck_Con (ck_lem G) G li_X gT (li_exp0K F) := by
  intro K r s a h hH hV hC hFc hn hS mc ms hmc hms
  exact ⟨h, ck_rh.rf _, hH, ck_Kp.rf, Nat.le_refl _, [], [], li_in0, (fun c hc => nomatch hc), List.forall_mem_nil _, rfl, trivial⟩
/-- the cells of Integer's cache, and their numbers -/
def li_KC (G : am_G) : Prop := ∃ vs : List Value, G.2.2.2.2[1]? = some (43058, vs) ∧ ∀ j : Nat, j < 256 → ∃ c : Nat, vs[j]? = some (.ref c) ∧ c < 1000 ∧ G.2.2.2.2[c]? = some (41002, [.int (Int32.ofInt ((j : Int) - 128))])
def gM (l : Launch) (G : am_G) (X : ck_XT) : Prop := gE l G X ∧ X = li_X ∧ li_KC G
end
section
/-! METHODS WALKED BY HAND: every instruction's step, for whatever holds behind it -/
def ck_hs (G : am_G) (S : ck_SS) (SX : Nat → ck_SX) (P : am_O → List am_C → Prop) (mc ms : Nat) (cm : Nat → ck_CM) (E : ck_E) : Prop := ∀ (n : Nat) (x : Nat × ck_O), E.2.2.2.2.1[n]? = some x → ck_os G S SX P mc ms cm E x.1 x.2
def ck_hw (S : ck_SS) : Prop := ∀ (pc : Nat) (L : List (Option Value)) (st : List Value) (h : List am_C) (k n k' n' : Nat), k ≤ k' → n ≤ n' → S pc L st h k' n' → S pc L st h k n
set_option maxHeartbeats 8000000 in
theorem ck_hand {l : Launch} {G : am_G} (hl : l.stackTraces = false) {y : MethodName} {cc : ByteArray} {nL : Nat} {ret : Option FieldType} {fr lo : Nat} {E : ck_E} {tb : ck_TB} {init : Bool} {cm : Nat → ck_CM} (hy : plainFor y = true) (hnL : E.2.2.2.1 = nL)
    (hdec : ck_dec cc tb E.2.2.2.2.1 = true) (h1 : ck_ok1 y.cls tb) (h2 : ck_puts y.cls init tb) (hin : init = true → y.name = "<init>") (h3 : ck_rj tb.2.2.2.2.2.2.2.2.2.2.2.2 ret) (hfr : 1 ≤ fr) (hlo : 20 ≤ lo)
    (hoi : Cond.instanceMethod objectInit ∈ lw_gw ∧ Cond.code objectInit ⟨#[0xb1]⟩ 1 none ∈ lw_gw) (har : Cond.arrayClass .int ∈ lw_gw ∧ Cond.arrayClass .byte ∈ lw_gw ∧ Cond.arrayClass .long ∈ lw_gw)
    (hpr : ∀ s, am_kon G s → (∀ a w, w ∈ lw_gw → w.before a s = true) ∨ True → ∀ q ∈ E.2.1, 53 ≤ q.1 ∧ q.2 < 59 ∧ am_asg G s q.1 q.2) (hca : ∀ s, am_kon G s → ∀ q ∈ tb.2.2.2.2.2.2.2.1, ∃ nm, Cond.classLink y.cls q.1 nm ∈ lw_gw ∧ ∀ k ∈ q.2, k < 59 ∧ am_isa G s k nm)
    (hv : ∀ q ∈ tb.2.2.2.2.2.2.2.2.1.1, ck_anyL l G y.cls nL fr lo .invokevirtual cm E.2.2.2.2.2.1 q) (hs : ∀ q ∈ tb.2.2.2.2.2.2.2.2.1.2.1, ck_anyL l G y.cls nL fr lo .invokespecial cm E.2.2.2.2.2.1 q) (ht : ∀ q ∈ tb.2.2.2.2.2.2.2.2.1.2.2.1, ck_anyL l G y.cls nL fr lo .invokestatic cm E.2.2.2.2.2.1 q) (hf : ∀ q ∈ tb.2.2.2.2.2.2.2.2.1.2.2.2, ck_anyF l G y.cls nL fr lo cm E.2.2.2.2.2.1 q)
    (hth : ∀ q ∈ tb.2.2.2.2.2.2.2.2.2.1, ∀ Ex, E.2.2.1.2.2.2.2.2[q.2]? = some Ex → ck_anyZ l G y.cls cc nL fr lo q.1 Ex)
    {a : List Value} {h : List am_C} {mc ms : Nat} {Post : am_O → List am_C → Prop} (hay : (am_lay a).length ≤ nL) (H : ∀ (S : ck_SS) (SX : Nat → ck_SX), ck_hs G S SX Post mc ms cm E → (∀ pc, ck_sR G S pc) → ck_hw S → S 0 (am_ent a nL) [] h 0 0) : am_M l G y (.code y cc nL ret) fr lo mc ms a h Post := by
  refine am_M.of hl hy hay fun p e s m args below meth c X9 hname htab => ?_
  have hkon := X9.2.2.2.2.2.1
  refine H (am_S G p l e { frames := fr, cells := mc, slots := ms, locals := lo } s m args below meth c mc ms Post) (am_SX G p l e { frames := fr, cells := mc, slots := ms, locals := lo } s m args below meth c mc ms Post) (fun n x hx => ?_) (fun pc => am_s_retag) (fun pc L st h' k n k' n' hk hn' hh => am_R.widen hk hn' hh)
  have hd := List.all_eq_true.mp hdec x (List.mem_of_getElem? hx)
  split at hd
  · next ins len hdc =>
    split at hd
    · next o ho =>
      exact ck_os_same hd (ck_tr_ok X9 h1 h2 (fun z => hname.trans (hin z)) h3 (hpr s hkon (Or.inr trivial)) (hca s hkon) hnL hfr hlo hoi har rfl rfl
        (fun q hq pc d => by
          have := hv q hq
          unfold ck_anyL at this
          unfold ck_cq
          split
          · next hz => rw [hz] at this; rw [hnL]; exact this p e s m args below meth c mc ms _ cc ret pc X9 d
          · trivial)
        (fun q hq pc d => by
          have := hs q hq
          unfold ck_anyL at this
          unfold ck_cq
          split
          · next hz => rw [hz] at this; rw [hnL]; exact this p e s m args below meth c mc ms _ cc ret pc X9 d
          · trivial)
        (fun q hq pc d => by
          have := ht q hq
          unfold ck_anyL at this
          unfold ck_cq
          split
          · next hz => rw [hz] at this; rw [hnL]; exact this p e s m args below meth c mc ms _ cc ret pc X9 d
          · trivial)
        (fun q hq pc cn d => by
          have := hf q hq
          unfold ck_anyF at this
          unfold ck_cq
          split
          · next hz => rw [hz] at this; rw [hnL]; exact this cn p e s m args below meth c mc ms _ cc ret pc X9 d
          · trivial)
        (fun q hq Ex hE => by rw [hnL]; exact hth q hq Ex hE p e s m args below meth c mc ms _ ret X9 htab) hdc ho)
    · cases hd
  · cases hd
end
section
/-! RAW LISTS IN THE REFERENCE'S WORLD -/
def gc_yJ9_min_7cf53_mlm : ck_KK := (([(0, 80), (1, 80)], [((-1), [((-1), 0), (1, 1)])], [], 0, [(1, 0, (0, [(1, 0)])), (1, 0, (0, [(1, 1)]))]), ((0, []), (0, [])), [], [], ([], [], [], 0, [(1, 0, (0, [(1, 0)]))]), [])
def gt_yJ9_min_7cf53_mlm : ck_TB := ([], [], [], [], [], [], [], [], ([], [], [], []), [], [], [], 0)
def ge_yJ9_min_7cf53_mlm : ck_E := (gT, [], gc_yJ9_min_7cf53_mlm, 2, [(0, (0, 3, 0, 0, 1, 0, [])), (1, (0, 3, 1, 0, 2, 0, [])), (2, (2, 4, 0, 0, 5, 9, [])), (5, (0, 3, 0, 0, 6, 0, [])), (6, (3, 0, 0, 0, 0, 10, [])), (10, (14, 0, 0, 0, 0, 0, []))], [], [], [], [])
theorem gk_yJ9_min_7cf53_mlm : ck_chk ge_yJ9_min_7cf53_mlm 11 = true := by decide +kernel
theorem gd_yJ9_min_7cf53_mlm : ck_dec prog_32_method_69_code gt_yJ9_min_7cf53_mlm ge_yJ9_min_7cf53_mlm.2.2.2.2.1 = true := by decide +kernel
theorem gm_yJ9_min_7cf53_mlm {l : Launch} {G : am_G} {X : ck_XT} (g : gE l G X) : ck_Con (am_cm l G yJ9_min_7cf53 (.code yJ9_min_7cf53 prog_32_method_69_code 2 (some .int)) 1 20) G X gT gc_yJ9_min_7cf53_mlm :=
  ck_meth (E := ge_yJ9_min_7cf53_mlm) (tb := gt_yJ9_min_7cf53_mlm) (init := false) (cm := ck_cms []) g.1 g.2.1 g.2.2.1 g.2.2.2 gT_w (by decide +kernel) rfl rfl rfl (by decide) gk_yJ9_min_7cf53_mlm gd_yJ9_min_7cf53_mlm ⟨(List.forall_mem_nil _), (List.forall_mem_nil _), (List.forall_mem_nil _), (List.forall_mem_nil _), (List.forall_mem_nil _), (List.forall_mem_nil _), (List.forall_mem_nil _), (List.forall_mem_nil _)⟩ (List.forall_mem_nil _) (fun h => nomatch h) ⟨_, rfl, rfl⟩ (by decide) (by decide) g_oi g_ar
    (fun s hk _ => (List.forall_mem_nil _)) (fun s hk => (List.forall_mem_nil _)) (ck_cms_ok trivial)
    (List.forall_mem_nil _) (List.forall_mem_nil _) (List.forall_mem_nil _) (List.forall_mem_nil _)
    (List.forall_mem_nil _)
    (ck_no5 rfl)
def gc_yJ9_max_7cf53_mli : ck_KK := (([(0, 40), (0, 40)], [], [], 0, [(1, 0, (0, [(1, 0)])), (1, 0, (0, [(1, 1)]))]), ((0, []), (0, [])), [], [], ([(0, 40)], [(0, [((-1), 0), (1, 2)]), (0, [((-1), 1), (1, 2)]), (0, [(1, 0), (1, 1), ((-1), 2)])], [], 0, [(1, 0, (0, [(1, 2)]))]), [])
def gt_yJ9_max_7cf53_mli : ck_TB := ([], [], [], [], [], [], [], [], ([], [], [], []), [], [], [], 0)
def ge_yJ9_max_7cf53_mli : ck_E := (gT, [], gc_yJ9_max_7cf53_mli, 2, [(0, (0, 3, 0, 0, 1, 0, [])), (1, (0, 3, 1, 0, 2, 0, [])), (2, (2, 2, 0, 0, 5, 9, [])), (5, (0, 3, 0, 0, 6, 0, [])), (6, (3, 0, 0, 0, 0, 10, [])), (9, (0, 3, 1, 0, 10, 0, [])), (10, (14, 0, 0, 0, 0, 0, []))], [], [], [], [])
theorem gk_yJ9_max_7cf53_mli : ck_chk ge_yJ9_max_7cf53_mli 13 = true := by decide +kernel
theorem gd_yJ9_max_7cf53_mli : ck_dec prog_32_method_65_code gt_yJ9_max_7cf53_mli ge_yJ9_max_7cf53_mli.2.2.2.2.1 = true := by decide +kernel
theorem gm_yJ9_max_7cf53_mli {l : Launch} {G : am_G} {X : ck_XT} (g : gE l G X) : ck_Con (am_cm l G yJ9_max_7cf53 (.code yJ9_max_7cf53 prog_32_method_65_code 2 (some .int)) 1 20) G X gT gc_yJ9_max_7cf53_mli :=
  ck_meth (E := ge_yJ9_max_7cf53_mli) (tb := gt_yJ9_max_7cf53_mli) (init := false) (cm := ck_cms []) g.1 g.2.1 g.2.2.1 g.2.2.2 gT_w (by decide +kernel) rfl rfl rfl (by decide) gk_yJ9_max_7cf53_mli gd_yJ9_max_7cf53_mli ⟨(List.forall_mem_nil _), (List.forall_mem_nil _), (List.forall_mem_nil _), (List.forall_mem_nil _), (List.forall_mem_nil _), (List.forall_mem_nil _), (List.forall_mem_nil _), (List.forall_mem_nil _)⟩ (List.forall_mem_nil _) (fun h => nomatch h) ⟨_, rfl, rfl⟩ (by decide) (by decide) g_oi g_ar
    (fun s hk _ => (List.forall_mem_nil _)) (fun s hk => (List.forall_mem_nil _)) (ck_cms_ok trivial)
    (List.forall_mem_nil _) (List.forall_mem_nil _) (List.forall_mem_nil _) (List.forall_mem_nil _)
    (List.forall_mem_nil _)
    (ck_no5 rfl)
def gc_yJ8_newLength_cabcc_mli : ck_KK := (([(10, 13), (1, 1), (5, 6)], [], [], 0, [(1, 0, (0, [(1, 0)])), (1, 0, (0, [(1, 1)])), (1, 0, (0, [(1, 2)]))]), ((0, []), (0, [])), [], [], ([], [], [], 0, [(1, 0, (0, [(1, 0), (1, 2)]))]), [])
def gt_yJ8_newLength_cabcc_mli : ck_TB := ([(200, 2147483639)], [], [], [], [], [], [], [], ([], [], [(194, 0)], []), [], [], [], 0)
def ge_yJ8_newLength_cabcc_mli : ck_E := (gT, [], gc_yJ8_newLength_cabcc_mli, 4, [(0, (0, 3, 0, 0, 1, 0, [])), (1, (0, 3, 1, 0, 2, 0, [])), (2, (0, 3, 2, 0, 3, 0, [])), (3, (16, 0, 0, 0, 6, 0, [])), (6, (0, 15, 0, 0, 7, 0, [])), (7, (0, 6, 3, 0, 8, 0, [])), (8, (0, 0, 0, 0, 9, 0, [])), (9, (0, 3, 3, 0, 10, 0, [])), (10, (2, 3, 0, 0, 13, 21, [])), (13, (0, 3, 3, 0, 14, 0, [])), (14, (0, 0, 0, 2147483639, 16, 0, [])), (16, (2, 4, 0, 0, 19, 21, [])), (19, (0, 3, 3, 0, 20, 0, [])), (20, (14, 0, 0, 0, 0, 0, []))], [(none, 2, [gc_yJ9_max_7cf53_b])], [], [], [])
theorem gk_yJ8_newLength_cabcc_mli : ck_chk ge_yJ8_newLength_cabcc_mli 19 = true := by decide +kernel
theorem gd_yJ8_newLength_cabcc_mli : ck_dec prog_55_method_27_code gt_yJ8_newLength_cabcc_mli ge_yJ8_newLength_cabcc_mli.2.2.2.2.1 = true := by decide +kernel
theorem gm_yJ8_newLength_cabcc_mli {l : Launch} {G : am_G} {X : ck_XT} (g : gE l G X) : ck_Con (am_cm l G yJ8_newLength_cabcc (.code yJ8_newLength_cabcc prog_55_method_27_code 4 (some .int)) 2 41) G X gT gc_yJ8_newLength_cabcc_mli :=
  ck_meth (E := ge_yJ8_newLength_cabcc_mli) (tb := gt_yJ8_newLength_cabcc_mli) (init := false) (cm := ck_cms [am_cm l G yJ9_max_7cf53 (.code yJ9_max_7cf53 prog_32_method_65_code 2 (some .int)) 1 20]) g.1 g.2.1 g.2.2.1 g.2.2.2 gT_w (by decide +kernel) rfl rfl rfl (by decide) gk_yJ8_newLength_cabcc_mli gd_yJ8_newLength_cabcc_mli ⟨(List.forall_mem_cons.mpr ⟨ck_cst (by decide +kernel) w518, (List.forall_mem_nil _)⟩), (List.forall_mem_nil _), (List.forall_mem_nil _), (List.forall_mem_nil _), (List.forall_mem_nil _), (List.forall_mem_nil _), (List.forall_mem_nil _), (List.forall_mem_nil _)⟩ (List.forall_mem_nil _) (fun h => nomatch h) ⟨_, rfl, rfl⟩ (by decide) (by decide) g_oi g_ar
    (fun s hk _ => (List.forall_mem_nil _)) (fun s hk => (List.forall_mem_nil _)) (ck_cms_ok ⟨(List.forall_mem_cons.mpr ⟨((gm_yJ9_max_7cf53_b g)), (List.forall_mem_nil _)⟩), trivial⟩)
    (List.forall_mem_nil _) (List.forall_mem_nil _) (List.forall_mem_cons.mpr ⟨(ck_kS g_y_yJ9_max_7cf53 w515 w516 (by decide) (by decide)), (List.forall_mem_nil _)⟩) (List.forall_mem_nil _)
    (List.forall_mem_nil _)
    (ck_no5 rfl)
def gc_yJx4a65c_grow_92f84_mre : ck_KK := (([((-2147483648), 2147483647), (1, 1)], [], [(2, 0, 0, 506, (0, 0, (3, []))), (3, 0, 0, 506, (1, 0, (0, [(1, 0)]))), (3, 0, 1, 506, (3, 1, (0, []))), (2, 1, 0, 43056, (0, 0, (0, []))), (3, 0, 2, 506, (1, 0, (0, [])))], 2, [(3, 0, (0, [])), (1, 0, (0, [(1, 1)]))]), ((1, []), (11, [])), [(506, 1)], [], ([(10, 11), (10, 11)], [], [(2, 2, 0, 556, (0, 0, (0, [(1, 2)]))), (5, 2, 0, 0, (0, 0, (0, []))), (6, 2, 4, 556, (0, 0, (0, []))), (3, 0, 1, 506, (3, 2, (0, [])))], 1, [(3, 2, (0, []))]), [])
def gt_yJx4a65c_grow_92f84_mre : ck_TB := ([], [], [], [(9, 6, 1)], [(9, 6, 1, 4)], [], [(7, 56)], [], ([], [], [(79, 0)], []), [], [], [(39, 1, 4)], 4)
def ge_yJx4a65c_grow_92f84_mre : ck_E := (gT, [], gc_yJx4a65c_grow_92f84_mre, 4, [(0, (0, 5, 0, 0, 1, 0, [])), (1, (7, 6, 1, 0, 4, 0, [])), (4, (11, 0, 0, 0, 5, 0, [])), (5, (0, 6, 2, 0, 6, 0, [])), (6, (0, 3, 2, 0, 7, 0, [])), (7, (1, 4, 0, 0, 10, 20, [])), (10, (0, 5, 0, 0, 11, 0, [])), (11, (7, 6, 1, 0, 14, 0, [])), (14, (0, 22, 4, 0, 17, 0, [])), (17, (20, 1, 0, 0, 20, 45, [])), (45, (0, 5, 0, 0, 46, 0, [])), (46, (0, 0, 0, 10, 48, 0, [])), (48, (0, 3, 1, 0, 49, 0, [])), (49, (16, 0, 0, 0, 52, 0, [])), (52, (10, 56, 556, 2, 55, 0, [])), (55, (0, 13, 0, 0, 56, 0, [])), (56, (8, 6, 1, 4, 59, 0, [])), (59, (14, 0, 0, 4, 0, 0, []))], [(none, 2, [gc_yJ9_max_7cf53_mli])], [], [], [])
theorem gk_yJx4a65c_grow_92f84_mre : ck_chk ge_yJx4a65c_grow_92f84_mre 23 = true := by decide +kernel
theorem gd_yJx4a65c_grow_92f84_mre : ck_dec prog_46_method_6_code gt_yJx4a65c_grow_92f84_mre ge_yJx4a65c_grow_92f84_mre.2.2.2.2.1 = true := by decide +kernel
theorem gm_yJx4a65c_grow_92f84_mre {l : Launch} {G : am_G} {X : ck_XT} (g : gE l G X) : ck_Con (am_cm l G yJx4a65c_grow_92f84 (.code yJx4a65c_grow_92f84 prog_46_method_6_code 4 (some (.array (.object "java/lang/Object")))) 5 140) G X gT gc_yJx4a65c_grow_92f84_mre :=
  ck_meth (E := ge_yJx4a65c_grow_92f84_mre) (tb := gt_yJx4a65c_grow_92f84_mre) (init := false) (cm := ck_cms [am_cm l G yJ9_max_7cf53 (.code yJ9_max_7cf53 prog_32_method_65_code 2 (some .int)) 1 20]) g.1 g.2.1 g.2.2.1 g.2.2.2 gT_w (by decide +kernel) rfl rfl rfl (by decide) gk_yJx4a65c_grow_92f84_mre gd_yJx4a65c_grow_92f84_mre ⟨(List.forall_mem_nil _), (List.forall_mem_nil _), (List.forall_mem_nil _), (List.forall_mem_cons.mpr ⟨⟨⟨_, _, _, rfl, Or.inl w1683⟩, by decide, _, _, g_fd6_1⟩, (List.forall_mem_nil _)⟩), (List.forall_mem_nil _), (List.forall_mem_cons.mpr ⟨Or.inl ⟨_, rfl, by decide, by decide, w1871, w1868⟩, (List.forall_mem_nil _)⟩), (List.forall_mem_nil _), (List.forall_mem_cons.mpr ⟨⟨_, List.mem_of_getElem? (i := 5) rfl, w1681, Or.inr ⟨rfl, 4, rfl, rfl⟩⟩, (List.forall_mem_nil _)⟩)⟩ (List.forall_mem_cons.mpr ⟨⟨⟨_, _, _, rfl, Or.inl w1683⟩, by decide, _, Or.inr ⟨_, rfl⟩, Or.inl g_fd6_1⟩, (List.forall_mem_nil _)⟩) (fun h => nomatch h) ⟨_, rfl, Or.inr ⟨_, rfl⟩⟩ (by decide) (by decide) g_oi g_ar
    (fun s hk _ => (List.forall_mem_nil _)) (fun s hk => (List.forall_mem_nil _)) (ck_cms_ok ⟨(List.forall_mem_cons.mpr ⟨((gm_yJ9_max_7cf53_mli g)), (List.forall_mem_nil _)⟩), trivial⟩)
    (List.forall_mem_nil _) (List.forall_mem_nil _) (List.forall_mem_cons.mpr ⟨(ck_kS g_y_yJ9_max_7cf53 w1870 w516 (by decide) (by decide)), (List.forall_mem_nil _)⟩) (List.forall_mem_nil _)
    (List.forall_mem_nil _)
    (ck_no5 rfl)
def gc_yJx4a65c_grow_d5877_mre : ck_KK := (([((-2147483648), 2147483647)], [], [(2, 0, 0, 506, (0, 0, (3, []))), (3, 0, 0, 506, (1, 0, (0, [(1, 0)]))), (3, 0, 1, 506, (3, 1, (0, []))), (2, 1, 0, 43056, (0, 0, (0, []))), (3, 0, 2, 506, (1, 0, (0, [])))], 2, [(3, 0, (0, []))]), ((1, []), (11, [])), [(506, 1)], [], ([(10, 11), (10, 11)], [], [(2, 2, 0, 556, (0, 0, (0, [(1, 1)]))), (5, 2, 0, 0, (0, 0, (0, []))), (6, 2, 4, 556, (0, 0, (0, []))), (3, 0, 1, 506, (3, 2, (0, [])))], 1, [(3, 2, (0, []))]), [])
def gt_yJx4a65c_grow_d5877_mre : ck_TB := ([], [], [], [(48, 6, 2)], [], [], [], [], ([(69, 0)], [], [], []), [], [], [], 4)
def ge_yJx4a65c_grow_d5877_mre : ck_E := (gT, [], gc_yJx4a65c_grow_d5877_mre, 1, [(0, (0, 5, 0, 0, 1, 0, [])), (1, (0, 5, 0, 0, 2, 0, [])), (2, (7, 6, 2, 0, 5, 0, [])), (5, (0, 0, 0, 1, 6, 0, [])), (6, (0, 15, 0, 0, 7, 0, [])), (7, (16, 0, 0, 0, 10, 0, [])), (10, (14, 0, 0, 4, 0, 0, []))], [(some 6, 2, [gc_yJx4a65c_grow_92f84_mre])], [], [], [])
theorem gk_yJx4a65c_grow_d5877_mre : ck_chk ge_yJx4a65c_grow_d5877_mre 12 = true := by decide +kernel
theorem gd_yJx4a65c_grow_d5877_mre : ck_dec prog_46_method_7_code gt_yJx4a65c_grow_d5877_mre ge_yJx4a65c_grow_d5877_mre.2.2.2.2.1 = true := by decide +kernel
theorem gm_yJx4a65c_grow_d5877_mre {l : Launch} {G : am_G} {X : ck_XT} (g : gE l G X) : ck_Con (am_cm l G yJx4a65c_grow_d5877 (.code yJx4a65c_grow_d5877 prog_46_method_7_code 1 (some (.array (.object "java/lang/Object")))) 6 170) G X gT gc_yJx4a65c_grow_d5877_mre :=
  ck_meth (E := ge_yJx4a65c_grow_d5877_mre) (tb := gt_yJx4a65c_grow_d5877_mre) (init := false) (cm := ck_cms [am_cm l G yJx4a65c_grow_92f84 (.code yJx4a65c_grow_92f84 prog_46_method_6_code 4 (some (.array (.object "java/lang/Object")))) 5 140]) g.1 g.2.1 g.2.2.1 g.2.2.2 gT_w (by decide +kernel) rfl rfl rfl (by decide) gk_yJx4a65c_grow_d5877_mre gd_yJx4a65c_grow_d5877_mre ⟨(List.forall_mem_nil _), (List.forall_mem_nil _), (List.forall_mem_nil _), (List.forall_mem_cons.mpr ⟨⟨⟨_, _, _, rfl, Or.inl w1686⟩, by decide, _, _, g_fd6_2⟩, (List.forall_mem_nil _)⟩), (List.forall_mem_nil _), (List.forall_mem_nil _), (List.forall_mem_nil _), (List.forall_mem_nil _)⟩ (List.forall_mem_nil _) (fun h => nomatch h) ⟨_, rfl, Or.inr ⟨_, rfl⟩⟩ (by decide) (by decide) g_oi g_ar
    (fun s hk _ => (List.forall_mem_nil _)) (fun s hk => (List.forall_mem_nil _)) (ck_cms_ok ⟨(List.forall_mem_cons.mpr ⟨((gm_yJx4a65c_grow_92f84_mre g)), (List.forall_mem_nil _)⟩), trivial⟩)
    (List.forall_mem_cons.mpr ⟨(ck_kV g_y_yJx4a65c_grow_92f84 w1829 w1831 w36 (T := TJx4a65c) (N := 3) rfl (by decide) (by decide) (by decide)), (List.forall_mem_nil _)⟩) (List.forall_mem_nil _) (List.forall_mem_nil _) (List.forall_mem_nil _)
    (List.forall_mem_nil _)
    (ck_no5 rfl)
def gc_yJx4a65c_add_72be8_mre : ck_KK := (([((-2147483648), 2147483647)], [], [(2, 0, 0, 506, (0, 0, (3, []))), (3, 0, 0, 506, (1, 0, (0, [(1, 0)]))), (3, 0, 1, 506, (3, 1, (0, []))), (2, 1, 0, 43056, (0, 0, (0, []))), (3, 0, 2, 506, (1, 0, (0, []))), (2, 2, 0, 2550, (0, 0, (2, [])))], 3, [(3, 0, (0, [])), (3, 2, (0, [])), (3, 1, (0, [])), (1, 0, (0, []))]), ((1, []), (11, [])), [(506, 1), (506, 2)], [], ([(10, 11)], [], [(3, 0, 1, 506, (3, 3, (0, []))), (2, 3, 0, 556, (0, 0, (0, [(1, 1)]))), (5, 3, 0, 0, (0, 0, (0, []))), (6, 3, 4, 556, (0, 0, (1, []))), (3, 0, 2, 506, (1, 0, (1, []))), (3, 3, 0, 556, (3, 2, (0, [])))], 1, []), [])
def gt_yJx4a65c_add_72be8_mre : ck_TB := ([], [], [], [], [(48, 6, 2, 0)], [], [], [], ([(129, 0)], [], [], []), [], [], [], 9)
def ge_yJx4a65c_add_72be8_mre : ck_E := (gT, [(56, 50)], gc_yJx4a65c_add_72be8_mre, 4, [(0, (0, 3, 3, 0, 1, 0, [])), (1, (0, 5, 2, 0, 2, 0, [])), (2, (11, 0, 0, 0, 3, 0, [])), (3, (2, 1, 0, 0, 6, 11, [])), (6, (0, 5, 0, 0, 7, 0, [])), (7, (16, 0, 0, 0, 10, 0, [])), (10, (0, 8, 2, 0, 11, 0, [])), (11, (0, 5, 2, 0, 12, 0, [])), (12, (0, 3, 3, 0, 13, 0, [])), (13, (0, 5, 1, 0, 14, 0, [])), (14, (13, 53, 57, 0, 15, 0, [])), (15, (0, 5, 0, 0, 16, 0, [])), (16, (0, 3, 3, 0, 17, 0, [])), (17, (0, 0, 0, 1, 18, 0, [])), (18, (0, 15, 0, 0, 19, 0, [])), (19, (8, 6, 2, 0, 22, 0, [])), (22, (15, 0, 0, 0, 0, 0, []))], [(some 6, 1, [gc_yJx4a65c_grow_d5877_mre])], [], [], [])
theorem gk_yJx4a65c_add_72be8_mre : ck_chk ge_yJx4a65c_add_72be8_mre 22 = true := by decide +kernel
theorem gd_yJx4a65c_add_72be8_mre : ck_dec prog_46_method_24_code gt_yJx4a65c_add_72be8_mre ge_yJx4a65c_add_72be8_mre.2.2.2.2.1 = true := by decide +kernel
theorem gm_yJx4a65c_add_72be8_mre {l : Launch} {G : am_G} {X : ck_XT} (g : gE l G X) : ck_Con (am_cm l G yJx4a65c_add_72be8 (.code yJx4a65c_add_72be8 prog_46_method_24_code 4 none) 7 200) G X gT gc_yJx4a65c_add_72be8_mre :=
  ck_meth (E := ge_yJx4a65c_add_72be8_mre) (tb := gt_yJx4a65c_add_72be8_mre) (init := false) (cm := ck_cms [am_cm l G yJx4a65c_grow_d5877 (.code yJx4a65c_grow_d5877 prog_46_method_7_code 1 (some (.array (.object "java/lang/Object")))) 6 170]) g.1 g.2.1 g.2.2.1 g.2.2.2 gT_w (by decide +kernel) rfl rfl rfl (by decide) gk_yJx4a65c_add_72be8_mre gd_yJx4a65c_add_72be8_mre ⟨(List.forall_mem_nil _), (List.forall_mem_nil _), (List.forall_mem_nil _), (List.forall_mem_nil _), (List.forall_mem_nil _), (List.forall_mem_nil _), (List.forall_mem_nil _), (List.forall_mem_nil _)⟩ (List.forall_mem_cons.mpr ⟨⟨⟨_, _, _, rfl, Or.inl w1686⟩, by decide, _, rfl, Or.inl g_fd6_2⟩, (List.forall_mem_nil _)⟩) (fun h => nomatch h) rfl (by decide) (by decide) g_oi g_ar
    (fun s hk _ => (List.forall_mem_cons.mpr ⟨⟨by decide, by decide, am_asg_arr hk w2528⟩, (List.forall_mem_nil _)⟩)) (fun s hk => (List.forall_mem_nil _)) (ck_cms_ok ⟨(List.forall_mem_cons.mpr ⟨((gm_yJx4a65c_grow_d5877_mre g)), (List.forall_mem_nil _)⟩), trivial⟩)
    (List.forall_mem_cons.mpr ⟨(ck_kV g_y_yJx4a65c_grow_d5877 w1825 w1827 w35 (T := TJx4a65c) (N := 3) rfl (by decide) (by decide) (by decide)), (List.forall_mem_nil _)⟩) (List.forall_mem_nil _) (List.forall_mem_nil _) (List.forall_mem_nil _)
    (List.forall_mem_nil _)
    (ck_no5 rfl)
def gc_yJx4a65c_add_9ea2d_mre : ck_KK := (([((-2147483648), 2147483647)], [], [(2, 0, 0, 506, (0, 0, (3, []))), (3, 0, 0, 506, (1, 0, (0, [(1, 0)]))), (3, 0, 1, 506, (3, 1, (0, []))), (2, 1, 0, 43056, (0, 0, (0, []))), (3, 0, 2, 506, (1, 0, (0, []))), (2, 2, 0, 2550, (0, 0, (2, [])))], 3, [(3, 0, (0, [])), (3, 2, (0, []))]), ((1, []), (11, [])), [(506, 0), (506, 1), (506, 2)], [], ([((-2147483648), 2147483647), (10, 11)], [], [(3, 0, 0, 506, (1, 0, (0, [(1, 1)]))), (3, 0, 1, 506, (3, 3, (0, []))), (2, 3, 0, 556, (0, 0, (0, [(1, 2)]))), (5, 3, 0, 0, (0, 0, (0, []))), (6, 3, 4, 556, (0, 0, (1, []))), (3, 0, 2, 506, (1, 0, (1, []))), (3, 3, 0, 556, (3, 2, (0, [])))], 1, [(1, 0, (1, []))]), [])
def gt_yJx4a65c_add_9ea2d_mre : ck_TB := ([], [], [], [(9, 6, 1), (48, 6, 2), (63, 6, 0)], [(63, 6, 0, 0)], [], [], [], ([(131, 0)], [], [], []), [], [], [], 1)
def ge_yJx4a65c_add_9ea2d_mre : ck_E := (gT, [], gc_yJx4a65c_add_9ea2d_mre, 2, [(0, (0, 5, 0, 0, 1, 0, [])), (1, (0, 12, 0, 0, 2, 0, [])), (2, (7, 6, 0, 0, 5, 0, [])), (5, (0, 0, 0, 1, 6, 0, [])), (6, (0, 15, 0, 0, 7, 0, [])), (7, (8, 6, 0, 0, 10, 0, [])), (10, (0, 5, 0, 0, 11, 0, [])), (11, (0, 5, 1, 0, 12, 0, [])), (12, (0, 5, 0, 0, 13, 0, [])), (13, (7, 6, 1, 0, 16, 0, [])), (16, (0, 5, 0, 0, 17, 0, [])), (17, (7, 6, 2, 0, 20, 0, [])), (20, (16, 0, 0, 0, 23, 0, [])), (23, (0, 0, 0, 1, 24, 0, [])), (24, (14, 0, 0, 1, 0, 0, []))], [(some 6, 4, [gc_yJx4a65c_add_72be8_mre])], [], [], [])
theorem gk_yJx4a65c_add_9ea2d_mre : ck_chk ge_yJx4a65c_add_9ea2d_mre 20 = true := by decide +kernel
theorem gd_yJx4a65c_add_9ea2d_mre : ck_dec prog_46_method_25_code gt_yJx4a65c_add_9ea2d_mre ge_yJx4a65c_add_9ea2d_mre.2.2.2.2.1 = true := by decide +kernel
theorem gm_yJx4a65c_add_9ea2d_mre {l : Launch} {G : am_G} {X : ck_XT} (g : gE l G X) : ck_Con (am_cm l G yJx4a65c_add_9ea2d (.code yJx4a65c_add_9ea2d prog_46_method_25_code 2 (some .boolean)) 8 230) G X gT gc_yJx4a65c_add_9ea2d_mre :=
  ck_meth (E := ge_yJx4a65c_add_9ea2d_mre) (tb := gt_yJx4a65c_add_9ea2d_mre) (init := false) (cm := ck_cms [am_cm l G yJx4a65c_add_72be8 (.code yJx4a65c_add_72be8 prog_46_method_24_code 4 none) 7 200]) g.1 g.2.1 g.2.2.1 g.2.2.2 gT_w (by decide +kernel) rfl rfl rfl (by decide) gk_yJx4a65c_add_9ea2d_mre gd_yJx4a65c_add_9ea2d_mre ⟨(List.forall_mem_nil _), (List.forall_mem_nil _), (List.forall_mem_nil _), (List.forall_mem_cons.mpr ⟨⟨⟨_, _, _, rfl, Or.inl w1683⟩, by decide, _, _, g_fd6_1⟩, (List.forall_mem_cons.mpr ⟨⟨⟨_, _, _, rfl, Or.inl w1686⟩, by decide, _, _, g_fd6_2⟩, (List.forall_mem_cons.mpr ⟨⟨⟨_, _, _, rfl, Or.inr (Or.inr ⟨_, w1690, w1689⟩)⟩, by decide, _, _, g_fd6_0⟩, (List.forall_mem_nil _)⟩)⟩)⟩), (List.forall_mem_nil _), (List.forall_mem_nil _), (List.forall_mem_nil _), (List.forall_mem_nil _)⟩ (List.forall_mem_cons.mpr ⟨⟨⟨_, _, _, rfl, Or.inr (Or.inr ⟨_, w1690, w1689⟩)⟩, by decide, _, rfl, Or.inl g_fd6_0⟩, (List.forall_mem_nil _)⟩) (fun h => nomatch h) ⟨_, rfl, rfl⟩ (by decide) (by decide) g_oi g_ar
    (fun s hk _ => (List.forall_mem_nil _)) (fun s hk => (List.forall_mem_nil _)) (ck_cms_ok ⟨(List.forall_mem_cons.mpr ⟨((gm_yJx4a65c_add_72be8_mre g)), (List.forall_mem_nil _)⟩), trivial⟩)
    (List.forall_mem_cons.mpr ⟨(ck_kV g_y_yJx4a65c_add_72be8 w1821 w1823 w34 (T := TJx4a65c) (N := 3) rfl (by decide) (by decide) (by decide)), (List.forall_mem_nil _)⟩) (List.forall_mem_nil _) (List.forall_mem_nil _) (List.forall_mem_nil _)
    (List.forall_mem_nil _)
    (ck_no5 rfl)
def gc_yJx4a65c_add_72be8_mr0 : ck_KK := (([((-2147483648), 2147483647), (10, 24)], [], [(2, 0, 0, 506, (0, 0, (3, []))), (3, 0, 0, 506, (1, 0, (0, [(1, 0)]))), (3, 0, 1, 506, (3, 1, (0, []))), (2, 1, 0, 556, (0, 0, (0, [(1, 1)]))), (3, 0, 2, 506, (1, 0, (0, []))), (6, 1, 4, 556, (0, 0, (0, []))), (2, 2, 0, 2550, (0, 0, (2, [])))], 3, [(3, 0, (0, [])), (3, 2, (0, [])), (3, 1, (0, [])), (1, 0, (0, []))]), ((0, []), (0, [])), [(506, 2), (556, 0)], [], ([], [], [(3, 0, 2, 506, (1, 0, (1, []))), (3, 1, 0, 556, (3, 2, (0, []))), (6, 1, 4, 556, (0, 0, (1, [])))], 0, []), [])
def gt_yJx4a65c_add_72be8_mr0 : ck_TB := ([], [], [], [], [(48, 6, 2, 0)], [], [], [], ([], [], [], []), [], [], [], 9)
def ge_yJx4a65c_add_72be8_mr0 : ck_E := (gT, [(56, 50)], gc_yJx4a65c_add_72be8_mr0, 4, [(0, (0, 3, 3, 0, 1, 0, [])), (1, (0, 5, 2, 0, 2, 0, [])), (2, (11, 0, 0, 0, 3, 0, [])), (3, (2, 1, 0, 0, 6, 11, [])), (11, (0, 5, 2, 0, 12, 0, [])), (12, (0, 3, 3, 0, 13, 0, [])), (13, (0, 5, 1, 0, 14, 0, [])), (14, (13, 53, 57, 0, 15, 0, [])), (15, (0, 5, 0, 0, 16, 0, [])), (16, (0, 3, 3, 0, 17, 0, [])), (17, (0, 0, 0, 1, 18, 0, [])), (18, (0, 15, 0, 0, 19, 0, [])), (19, (8, 6, 2, 0, 22, 0, [])), (22, (15, 0, 0, 0, 0, 0, []))], [], [], [], [])
theorem gk_yJx4a65c_add_72be8_mr0 : ck_chk ge_yJx4a65c_add_72be8_mr0 19 = true := by decide +kernel
theorem gd_yJx4a65c_add_72be8_mr0 : ck_dec prog_46_method_24_code gt_yJx4a65c_add_72be8_mr0 ge_yJx4a65c_add_72be8_mr0.2.2.2.2.1 = true := by decide +kernel
theorem gm_yJx4a65c_add_72be8_mr0 {l : Launch} {G : am_G} {X : ck_XT} (g : gE l G X) : ck_Con (am_cm l G yJx4a65c_add_72be8 (.code yJx4a65c_add_72be8 prog_46_method_24_code 4 none) 7 200) G X gT gc_yJx4a65c_add_72be8_mr0 :=
  ck_meth (E := ge_yJx4a65c_add_72be8_mr0) (tb := gt_yJx4a65c_add_72be8_mr0) (init := false) (cm := ck_cms []) g.1 g.2.1 g.2.2.1 g.2.2.2 gT_w (by decide +kernel) rfl rfl rfl (by decide) gk_yJx4a65c_add_72be8_mr0 gd_yJx4a65c_add_72be8_mr0 ⟨(List.forall_mem_nil _), (List.forall_mem_nil _), (List.forall_mem_nil _), (List.forall_mem_nil _), (List.forall_mem_nil _), (List.forall_mem_nil _), (List.forall_mem_nil _), (List.forall_mem_nil _)⟩ (List.forall_mem_cons.mpr ⟨⟨⟨_, _, _, rfl, Or.inl w1686⟩, by decide, _, rfl, Or.inl g_fd6_2⟩, (List.forall_mem_nil _)⟩) (fun h => nomatch h) rfl (by decide) (by decide) g_oi g_ar
    (fun s hk _ => (List.forall_mem_cons.mpr ⟨⟨by decide, by decide, am_asg_arr hk w2528⟩, (List.forall_mem_nil _)⟩)) (fun s hk => (List.forall_mem_nil _)) (ck_cms_ok trivial)
    (List.forall_mem_nil _) (List.forall_mem_nil _) (List.forall_mem_nil _) (List.forall_mem_nil _)
    (List.forall_mem_nil _)
    (ck_no5 rfl)
def gc_yJx4a65c_add_9ea2d_mr0 : ck_KK := (([((-2147483648), 2147483647), (10, 24)], [], [(2, 0, 0, 506, (0, 0, (3, []))), (3, 0, 0, 506, (1, 0, (0, [(1, 0)]))), (3, 0, 1, 506, (3, 1, (0, []))), (2, 1, 0, 556, (0, 0, (0, [(1, 1)]))), (3, 0, 2, 506, (1, 0, (0, []))), (6, 1, 4, 556, (0, 0, (0, []))), (2, 2, 0, 2550, (0, 0, (2, [])))], 3, [(3, 0, (0, [])), (3, 2, (0, []))]), ((0, []), (0, [])), [(506, 0), (506, 2), (556, 0)], [], ([((-2147483648), 2147483647)], [], [(3, 0, 0, 506, (1, 0, (0, [(1, 2)]))), (3, 0, 2, 506, (1, 0, (1, []))), (3, 1, 0, 556, (3, 2, (0, []))), (6, 1, 4, 556, (0, 0, (1, [])))], 0, [(1, 0, (1, []))]), [])
def gt_yJx4a65c_add_9ea2d_mr0 : ck_TB := ([], [], [], [(9, 6, 1), (48, 6, 2), (63, 6, 0)], [(63, 6, 0, 0)], [], [], [], ([(131, 0)], [], [], []), [], [], [], 1)
def ge_yJx4a65c_add_9ea2d_mr0 : ck_E := (gT, [], gc_yJx4a65c_add_9ea2d_mr0, 2, [(0, (0, 5, 0, 0, 1, 0, [])), (1, (0, 12, 0, 0, 2, 0, [])), (2, (7, 6, 0, 0, 5, 0, [])), (5, (0, 0, 0, 1, 6, 0, [])), (6, (0, 15, 0, 0, 7, 0, [])), (7, (8, 6, 0, 0, 10, 0, [])), (10, (0, 5, 0, 0, 11, 0, [])), (11, (0, 5, 1, 0, 12, 0, [])), (12, (0, 5, 0, 0, 13, 0, [])), (13, (7, 6, 1, 0, 16, 0, [])), (16, (0, 5, 0, 0, 17, 0, [])), (17, (7, 6, 2, 0, 20, 0, [])), (20, (16, 0, 0, 0, 23, 0, [])), (23, (0, 0, 0, 1, 24, 0, [])), (24, (14, 0, 0, 1, 0, 0, []))], [(some 6, 4, [gc_yJx4a65c_add_72be8_mr0])], [], [], [])
theorem gk_yJx4a65c_add_9ea2d_mr0 : ck_chk ge_yJx4a65c_add_9ea2d_mr0 20 = true := by decide +kernel
theorem gd_yJx4a65c_add_9ea2d_mr0 : ck_dec prog_46_method_25_code gt_yJx4a65c_add_9ea2d_mr0 ge_yJx4a65c_add_9ea2d_mr0.2.2.2.2.1 = true := by decide +kernel
theorem gm_yJx4a65c_add_9ea2d_mr0 {l : Launch} {G : am_G} {X : ck_XT} (g : gE l G X) : ck_Con (am_cm l G yJx4a65c_add_9ea2d (.code yJx4a65c_add_9ea2d prog_46_method_25_code 2 (some .boolean)) 8 230) G X gT gc_yJx4a65c_add_9ea2d_mr0 :=
  ck_meth (E := ge_yJx4a65c_add_9ea2d_mr0) (tb := gt_yJx4a65c_add_9ea2d_mr0) (init := false) (cm := ck_cms [am_cm l G yJx4a65c_add_72be8 (.code yJx4a65c_add_72be8 prog_46_method_24_code 4 none) 7 200]) g.1 g.2.1 g.2.2.1 g.2.2.2 gT_w (by decide +kernel) rfl rfl rfl (by decide) gk_yJx4a65c_add_9ea2d_mr0 gd_yJx4a65c_add_9ea2d_mr0 ⟨(List.forall_mem_nil _), (List.forall_mem_nil _), (List.forall_mem_nil _), (List.forall_mem_cons.mpr ⟨⟨⟨_, _, _, rfl, Or.inl w1683⟩, by decide, _, _, g_fd6_1⟩, (List.forall_mem_cons.mpr ⟨⟨⟨_, _, _, rfl, Or.inl w1686⟩, by decide, _, _, g_fd6_2⟩, (List.forall_mem_cons.mpr ⟨⟨⟨_, _, _, rfl, Or.inr (Or.inr ⟨_, w1690, w1689⟩)⟩, by decide, _, _, g_fd6_0⟩, (List.forall_mem_nil _)⟩)⟩)⟩), (List.forall_mem_nil _), (List.forall_mem_nil _), (List.forall_mem_nil _), (List.forall_mem_nil _)⟩ (List.forall_mem_cons.mpr ⟨⟨⟨_, _, _, rfl, Or.inr (Or.inr ⟨_, w1690, w1689⟩)⟩, by decide, _, rfl, Or.inl g_fd6_0⟩, (List.forall_mem_nil _)⟩) (fun h => nomatch h) ⟨_, rfl, rfl⟩ (by decide) (by decide) g_oi g_ar
    (fun s hk _ => (List.forall_mem_nil _)) (fun s hk => (List.forall_mem_nil _)) (ck_cms_ok ⟨(List.forall_mem_cons.mpr ⟨((gm_yJx4a65c_add_72be8_mr0 g)), (List.forall_mem_nil _)⟩), trivial⟩)
    (List.forall_mem_cons.mpr ⟨(ck_kV g_y_yJx4a65c_add_72be8 w1821 w1823 w34 (T := TJx4a65c) (N := 3) rfl (by decide) (by decide) (by decide)), (List.forall_mem_nil _)⟩) (List.forall_mem_nil _) (List.forall_mem_nil _) (List.forall_mem_nil _)
    (List.forall_mem_nil _)
    (ck_no5 rfl)
def gc_yJx4a65c_add_72be8_mr1 : ck_KK := (([((-2147483648), 2147483647), (10, 24)], [], [(2, 0, 0, 506, (0, 0, (3, []))), (3, 0, 0, 506, (1, 0, (0, [(1, 0)]))), (3, 0, 1, 506, (3, 1, (0, []))), (2, 1, 0, 556, (0, 0, (0, [(1, 1)]))), (3, 0, 2, 506, (1, 0, (1, []))), (6, 1, 4, 556, (0, 0, (1, []))), (2, 2, 0, 2550, (0, 0, (2, [])))], 3, [(3, 0, (0, [])), (3, 2, (0, [])), (3, 1, (0, [])), (1, 0, (1, []))]), ((0, []), (0, [])), [(506, 2), (556, 1)], [], ([], [], [(3, 0, 2, 506, (1, 0, (2, []))), (3, 1, 1, 556, (3, 2, (0, []))), (6, 1, 4, 556, (0, 0, (2, [])))], 0, []), [])
def gt_yJx4a65c_add_72be8_mr1 : ck_TB := ([], [], [], [], [(48, 6, 2, 0)], [], [], [], ([], [], [], []), [], [], [], 9)
def ge_yJx4a65c_add_72be8_mr1 : ck_E := (gT, [(56, 50)], gc_yJx4a65c_add_72be8_mr1, 4, [(0, (0, 3, 3, 0, 1, 0, [])), (1, (0, 5, 2, 0, 2, 0, [])), (2, (11, 0, 0, 0, 3, 0, [])), (3, (2, 1, 0, 0, 6, 11, [])), (11, (0, 5, 2, 0, 12, 0, [])), (12, (0, 3, 3, 0, 13, 0, [])), (13, (0, 5, 1, 0, 14, 0, [])), (14, (13, 53, 57, 0, 15, 0, [])), (15, (0, 5, 0, 0, 16, 0, [])), (16, (0, 3, 3, 0, 17, 0, [])), (17, (0, 0, 0, 1, 18, 0, [])), (18, (0, 15, 0, 0, 19, 0, [])), (19, (8, 6, 2, 0, 22, 0, [])), (22, (15, 0, 0, 0, 0, 0, []))], [], [], [], [])
theorem gk_yJx4a65c_add_72be8_mr1 : ck_chk ge_yJx4a65c_add_72be8_mr1 19 = true := by decide +kernel
theorem gd_yJx4a65c_add_72be8_mr1 : ck_dec prog_46_method_24_code gt_yJx4a65c_add_72be8_mr1 ge_yJx4a65c_add_72be8_mr1.2.2.2.2.1 = true := by decide +kernel
theorem gm_yJx4a65c_add_72be8_mr1 {l : Launch} {G : am_G} {X : ck_XT} (g : gE l G X) : ck_Con (am_cm l G yJx4a65c_add_72be8 (.code yJx4a65c_add_72be8 prog_46_method_24_code 4 none) 7 200) G X gT gc_yJx4a65c_add_72be8_mr1 :=
  ck_meth (E := ge_yJx4a65c_add_72be8_mr1) (tb := gt_yJx4a65c_add_72be8_mr1) (init := false) (cm := ck_cms []) g.1 g.2.1 g.2.2.1 g.2.2.2 gT_w (by decide +kernel) rfl rfl rfl (by decide) gk_yJx4a65c_add_72be8_mr1 gd_yJx4a65c_add_72be8_mr1 ⟨(List.forall_mem_nil _), (List.forall_mem_nil _), (List.forall_mem_nil _), (List.forall_mem_nil _), (List.forall_mem_nil _), (List.forall_mem_nil _), (List.forall_mem_nil _), (List.forall_mem_nil _)⟩ (List.forall_mem_cons.mpr ⟨⟨⟨_, _, _, rfl, Or.inl w1686⟩, by decide, _, rfl, Or.inl g_fd6_2⟩, (List.forall_mem_nil _)⟩) (fun h => nomatch h) rfl (by decide) (by decide) g_oi g_ar
    (fun s hk _ => (List.forall_mem_cons.mpr ⟨⟨by decide, by decide, am_asg_arr hk w2528⟩, (List.forall_mem_nil _)⟩)) (fun s hk => (List.forall_mem_nil _)) (ck_cms_ok trivial)
    (List.forall_mem_nil _) (List.forall_mem_nil _) (List.forall_mem_nil _) (List.forall_mem_nil _)
    (List.forall_mem_nil _)
    (ck_no5 rfl)
def gc_yJx4a65c_add_9ea2d_mr1 : ck_KK := (([((-2147483648), 2147483647), (10, 24)], [], [(2, 0, 0, 506, (0, 0, (3, []))), (3, 0, 0, 506, (1, 0, (0, [(1, 0)]))), (3, 0, 1, 506, (3, 1, (0, []))), (2, 1, 0, 556, (0, 0, (0, [(1, 1)]))), (3, 0, 2, 506, (1, 0, (1, []))), (6, 1, 4, 556, (0, 0, (1, []))), (2, 2, 0, 2550, (0, 0, (2, [])))], 3, [(3, 0, (0, [])), (3, 2, (0, []))]), ((0, []), (0, [])), [(506, 0), (506, 2), (556, 1)], [], ([((-2147483648), 2147483647)], [], [(3, 0, 0, 506, (1, 0, (0, [(1, 2)]))), (3, 0, 2, 506, (1, 0, (2, []))), (3, 1, 1, 556, (3, 2, (0, []))), (6, 1, 4, 556, (0, 0, (2, [])))], 0, [(1, 0, (1, []))]), [])
def gt_yJx4a65c_add_9ea2d_mr1 : ck_TB := ([], [], [], [(9, 6, 1), (48, 6, 2), (63, 6, 0)], [(63, 6, 0, 0)], [], [], [], ([(131, 0)], [], [], []), [], [], [], 1)
def ge_yJx4a65c_add_9ea2d_mr1 : ck_E := (gT, [], gc_yJx4a65c_add_9ea2d_mr1, 2, [(0, (0, 5, 0, 0, 1, 0, [])), (1, (0, 12, 0, 0, 2, 0, [])), (2, (7, 6, 0, 0, 5, 0, [])), (5, (0, 0, 0, 1, 6, 0, [])), (6, (0, 15, 0, 0, 7, 0, [])), (7, (8, 6, 0, 0, 10, 0, [])), (10, (0, 5, 0, 0, 11, 0, [])), (11, (0, 5, 1, 0, 12, 0, [])), (12, (0, 5, 0, 0, 13, 0, [])), (13, (7, 6, 1, 0, 16, 0, [])), (16, (0, 5, 0, 0, 17, 0, [])), (17, (7, 6, 2, 0, 20, 0, [])), (20, (16, 0, 0, 0, 23, 0, [])), (23, (0, 0, 0, 1, 24, 0, [])), (24, (14, 0, 0, 1, 0, 0, []))], [(some 6, 4, [gc_yJx4a65c_add_72be8_mr1])], [], [], [])
theorem gk_yJx4a65c_add_9ea2d_mr1 : ck_chk ge_yJx4a65c_add_9ea2d_mr1 20 = true := by decide +kernel
theorem gd_yJx4a65c_add_9ea2d_mr1 : ck_dec prog_46_method_25_code gt_yJx4a65c_add_9ea2d_mr1 ge_yJx4a65c_add_9ea2d_mr1.2.2.2.2.1 = true := by decide +kernel
theorem gm_yJx4a65c_add_9ea2d_mr1 {l : Launch} {G : am_G} {X : ck_XT} (g : gE l G X) : ck_Con (am_cm l G yJx4a65c_add_9ea2d (.code yJx4a65c_add_9ea2d prog_46_method_25_code 2 (some .boolean)) 8 230) G X gT gc_yJx4a65c_add_9ea2d_mr1 :=
  ck_meth (E := ge_yJx4a65c_add_9ea2d_mr1) (tb := gt_yJx4a65c_add_9ea2d_mr1) (init := false) (cm := ck_cms [am_cm l G yJx4a65c_add_72be8 (.code yJx4a65c_add_72be8 prog_46_method_24_code 4 none) 7 200]) g.1 g.2.1 g.2.2.1 g.2.2.2 gT_w (by decide +kernel) rfl rfl rfl (by decide) gk_yJx4a65c_add_9ea2d_mr1 gd_yJx4a65c_add_9ea2d_mr1 ⟨(List.forall_mem_nil _), (List.forall_mem_nil _), (List.forall_mem_nil _), (List.forall_mem_cons.mpr ⟨⟨⟨_, _, _, rfl, Or.inl w1683⟩, by decide, _, _, g_fd6_1⟩, (List.forall_mem_cons.mpr ⟨⟨⟨_, _, _, rfl, Or.inl w1686⟩, by decide, _, _, g_fd6_2⟩, (List.forall_mem_cons.mpr ⟨⟨⟨_, _, _, rfl, Or.inr (Or.inr ⟨_, w1690, w1689⟩)⟩, by decide, _, _, g_fd6_0⟩, (List.forall_mem_nil _)⟩)⟩)⟩), (List.forall_mem_nil _), (List.forall_mem_nil _), (List.forall_mem_nil _), (List.forall_mem_nil _)⟩ (List.forall_mem_cons.mpr ⟨⟨⟨_, _, _, rfl, Or.inr (Or.inr ⟨_, w1690, w1689⟩)⟩, by decide, _, rfl, Or.inl g_fd6_0⟩, (List.forall_mem_nil _)⟩) (fun h => nomatch h) ⟨_, rfl, rfl⟩ (by decide) (by decide) g_oi g_ar
    (fun s hk _ => (List.forall_mem_nil _)) (fun s hk => (List.forall_mem_nil _)) (ck_cms_ok ⟨(List.forall_mem_cons.mpr ⟨((gm_yJx4a65c_add_72be8_mr1 g)), (List.forall_mem_nil _)⟩), trivial⟩)
    (List.forall_mem_cons.mpr ⟨(ck_kV g_y_yJx4a65c_add_72be8 w1821 w1823 w34 (T := TJx4a65c) (N := 3) rfl (by decide) (by decide) (by decide)), (List.forall_mem_nil _)⟩) (List.forall_mem_nil _) (List.forall_mem_nil _) (List.forall_mem_nil _)
    (List.forall_mem_nil _)
    (ck_no5 rfl)
def gc_yJx4a65c_add_72be8_mr2 : ck_KK := (([((-2147483648), 2147483647), (10, 24)], [], [(2, 0, 0, 506, (0, 0, (3, []))), (3, 0, 0, 506, (1, 0, (0, [(1, 0)]))), (3, 0, 1, 506, (3, 1, (0, []))), (2, 1, 0, 556, (0, 0, (0, [(1, 1)]))), (3, 0, 2, 506, (1, 0, (2, []))), (6, 1, 4, 556, (0, 0, (2, []))), (2, 2, 0, 2550, (0, 0, (2, [])))], 3, [(3, 0, (0, [])), (3, 2, (0, [])), (3, 1, (0, [])), (1, 0, (2, []))]), ((0, []), (0, [])), [(506, 2), (556, 2)], [], ([], [], [(3, 0, 2, 506, (1, 0, (3, []))), (3, 1, 2, 556, (3, 2, (0, []))), (6, 1, 4, 556, (0, 0, (3, [])))], 0, []), [])
def gt_yJx4a65c_add_72be8_mr2 : ck_TB := ([], [], [], [], [(48, 6, 2, 0)], [], [], [], ([], [], [], []), [], [], [], 9)
def ge_yJx4a65c_add_72be8_mr2 : ck_E := (gT, [(56, 50)], gc_yJx4a65c_add_72be8_mr2, 4, [(0, (0, 3, 3, 0, 1, 0, [])), (1, (0, 5, 2, 0, 2, 0, [])), (2, (11, 0, 0, 0, 3, 0, [])), (3, (2, 1, 0, 0, 6, 11, [])), (11, (0, 5, 2, 0, 12, 0, [])), (12, (0, 3, 3, 0, 13, 0, [])), (13, (0, 5, 1, 0, 14, 0, [])), (14, (13, 53, 57, 0, 15, 0, [])), (15, (0, 5, 0, 0, 16, 0, [])), (16, (0, 3, 3, 0, 17, 0, [])), (17, (0, 0, 0, 1, 18, 0, [])), (18, (0, 15, 0, 0, 19, 0, [])), (19, (8, 6, 2, 0, 22, 0, [])), (22, (15, 0, 0, 0, 0, 0, []))], [], [], [], [])
theorem gk_yJx4a65c_add_72be8_mr2 : ck_chk ge_yJx4a65c_add_72be8_mr2 19 = true := by decide +kernel
theorem gd_yJx4a65c_add_72be8_mr2 : ck_dec prog_46_method_24_code gt_yJx4a65c_add_72be8_mr2 ge_yJx4a65c_add_72be8_mr2.2.2.2.2.1 = true := by decide +kernel
theorem gm_yJx4a65c_add_72be8_mr2 {l : Launch} {G : am_G} {X : ck_XT} (g : gE l G X) : ck_Con (am_cm l G yJx4a65c_add_72be8 (.code yJx4a65c_add_72be8 prog_46_method_24_code 4 none) 7 200) G X gT gc_yJx4a65c_add_72be8_mr2 :=
  ck_meth (E := ge_yJx4a65c_add_72be8_mr2) (tb := gt_yJx4a65c_add_72be8_mr2) (init := false) (cm := ck_cms []) g.1 g.2.1 g.2.2.1 g.2.2.2 gT_w (by decide +kernel) rfl rfl rfl (by decide) gk_yJx4a65c_add_72be8_mr2 gd_yJx4a65c_add_72be8_mr2 ⟨(List.forall_mem_nil _), (List.forall_mem_nil _), (List.forall_mem_nil _), (List.forall_mem_nil _), (List.forall_mem_nil _), (List.forall_mem_nil _), (List.forall_mem_nil _), (List.forall_mem_nil _)⟩ (List.forall_mem_cons.mpr ⟨⟨⟨_, _, _, rfl, Or.inl w1686⟩, by decide, _, rfl, Or.inl g_fd6_2⟩, (List.forall_mem_nil _)⟩) (fun h => nomatch h) rfl (by decide) (by decide) g_oi g_ar
    (fun s hk _ => (List.forall_mem_cons.mpr ⟨⟨by decide, by decide, am_asg_arr hk w2528⟩, (List.forall_mem_nil _)⟩)) (fun s hk => (List.forall_mem_nil _)) (ck_cms_ok trivial)
    (List.forall_mem_nil _) (List.forall_mem_nil _) (List.forall_mem_nil _) (List.forall_mem_nil _)
    (List.forall_mem_nil _)
    (ck_no5 rfl)
def gc_yJx4a65c_add_9ea2d_mr2 : ck_KK := (([((-2147483648), 2147483647), (10, 24)], [], [(2, 0, 0, 506, (0, 0, (3, []))), (3, 0, 0, 506, (1, 0, (0, [(1, 0)]))), (3, 0, 1, 506, (3, 1, (0, []))), (2, 1, 0, 556, (0, 0, (0, [(1, 1)]))), (3, 0, 2, 506, (1, 0, (2, []))), (6, 1, 4, 556, (0, 0, (2, []))), (2, 2, 0, 2550, (0, 0, (2, [])))], 3, [(3, 0, (0, [])), (3, 2, (0, []))]), ((0, []), (0, [])), [(506, 0), (506, 2), (556, 2)], [], ([((-2147483648), 2147483647)], [], [(3, 0, 0, 506, (1, 0, (0, [(1, 2)]))), (3, 0, 2, 506, (1, 0, (3, []))), (3, 1, 2, 556, (3, 2, (0, []))), (6, 1, 4, 556, (0, 0, (3, [])))], 0, [(1, 0, (1, []))]), [])
def gt_yJx4a65c_add_9ea2d_mr2 : ck_TB := ([], [], [], [(9, 6, 1), (48, 6, 2), (63, 6, 0)], [(63, 6, 0, 0)], [], [], [], ([(131, 0)], [], [], []), [], [], [], 1)
def ge_yJx4a65c_add_9ea2d_mr2 : ck_E := (gT, [], gc_yJx4a65c_add_9ea2d_mr2, 2, [(0, (0, 5, 0, 0, 1, 0, [])), (1, (0, 12, 0, 0, 2, 0, [])), (2, (7, 6, 0, 0, 5, 0, [])), (5, (0, 0, 0, 1, 6, 0, [])), (6, (0, 15, 0, 0, 7, 0, [])), (7, (8, 6, 0, 0, 10, 0, [])), (10, (0, 5, 0, 0, 11, 0, [])), (11, (0, 5, 1, 0, 12, 0, [])), (12, (0, 5, 0, 0, 13, 0, [])), (13, (7, 6, 1, 0, 16, 0, [])), (16, (0, 5, 0, 0, 17, 0, [])), (17, (7, 6, 2, 0, 20, 0, [])), (20, (16, 0, 0, 0, 23, 0, [])), (23, (0, 0, 0, 1, 24, 0, [])), (24, (14, 0, 0, 1, 0, 0, []))], [(some 6, 4, [gc_yJx4a65c_add_72be8_mr2])], [], [], [])
theorem gk_yJx4a65c_add_9ea2d_mr2 : ck_chk ge_yJx4a65c_add_9ea2d_mr2 20 = true := by decide +kernel
theorem gd_yJx4a65c_add_9ea2d_mr2 : ck_dec prog_46_method_25_code gt_yJx4a65c_add_9ea2d_mr2 ge_yJx4a65c_add_9ea2d_mr2.2.2.2.2.1 = true := by decide +kernel
theorem gm_yJx4a65c_add_9ea2d_mr2 {l : Launch} {G : am_G} {X : ck_XT} (g : gE l G X) : ck_Con (am_cm l G yJx4a65c_add_9ea2d (.code yJx4a65c_add_9ea2d prog_46_method_25_code 2 (some .boolean)) 8 230) G X gT gc_yJx4a65c_add_9ea2d_mr2 :=
  ck_meth (E := ge_yJx4a65c_add_9ea2d_mr2) (tb := gt_yJx4a65c_add_9ea2d_mr2) (init := false) (cm := ck_cms [am_cm l G yJx4a65c_add_72be8 (.code yJx4a65c_add_72be8 prog_46_method_24_code 4 none) 7 200]) g.1 g.2.1 g.2.2.1 g.2.2.2 gT_w (by decide +kernel) rfl rfl rfl (by decide) gk_yJx4a65c_add_9ea2d_mr2 gd_yJx4a65c_add_9ea2d_mr2 ⟨(List.forall_mem_nil _), (List.forall_mem_nil _), (List.forall_mem_nil _), (List.forall_mem_cons.mpr ⟨⟨⟨_, _, _, rfl, Or.inl w1683⟩, by decide, _, _, g_fd6_1⟩, (List.forall_mem_cons.mpr ⟨⟨⟨_, _, _, rfl, Or.inl w1686⟩, by decide, _, _, g_fd6_2⟩, (List.forall_mem_cons.mpr ⟨⟨⟨_, _, _, rfl, Or.inr (Or.inr ⟨_, w1690, w1689⟩)⟩, by decide, _, _, g_fd6_0⟩, (List.forall_mem_nil _)⟩)⟩)⟩), (List.forall_mem_nil _), (List.forall_mem_nil _), (List.forall_mem_nil _), (List.forall_mem_nil _)⟩ (List.forall_mem_cons.mpr ⟨⟨⟨_, _, _, rfl, Or.inr (Or.inr ⟨_, w1690, w1689⟩)⟩, by decide, _, rfl, Or.inl g_fd6_0⟩, (List.forall_mem_nil _)⟩) (fun h => nomatch h) ⟨_, rfl, rfl⟩ (by decide) (by decide) g_oi g_ar
    (fun s hk _ => (List.forall_mem_nil _)) (fun s hk => (List.forall_mem_nil _)) (ck_cms_ok ⟨(List.forall_mem_cons.mpr ⟨((gm_yJx4a65c_add_72be8_mr2 g)), (List.forall_mem_nil _)⟩), trivial⟩)
    (List.forall_mem_cons.mpr ⟨(ck_kV g_y_yJx4a65c_add_72be8 w1821 w1823 w34 (T := TJx4a65c) (N := 3) rfl (by decide) (by decide) (by decide)), (List.forall_mem_nil _)⟩) (List.forall_mem_nil _) (List.forall_mem_nil _) (List.forall_mem_nil _)
    (List.forall_mem_nil _)
    (ck_no5 rfl)
def gc_yJx4a65c_add_72be8_mr3 : ck_KK := (([((-2147483648), 2147483647), (10, 24)], [], [(2, 0, 0, 506, (0, 0, (3, []))), (3, 0, 0, 506, (1, 0, (0, [(1, 0)]))), (3, 0, 1, 506, (3, 1, (0, []))), (2, 1, 0, 556, (0, 0, (0, [(1, 1)]))), (3, 0, 2, 506, (1, 0, (3, []))), (6, 1, 4, 556, (0, 0, (3, []))), (2, 2, 0, 2550, (0, 0, (2, [])))], 3, [(3, 0, (0, [])), (3, 2, (0, [])), (3, 1, (0, [])), (1, 0, (3, []))]), ((0, []), (0, [])), [(506, 2), (556, 3)], [], ([], [], [(3, 0, 2, 506, (1, 0, (4, []))), (3, 1, 3, 556, (3, 2, (0, []))), (6, 1, 4, 556, (0, 0, (4, [])))], 0, []), [])
def gt_yJx4a65c_add_72be8_mr3 : ck_TB := ([], [], [], [], [(48, 6, 2, 0)], [], [], [], ([], [], [], []), [], [], [], 9)
def ge_yJx4a65c_add_72be8_mr3 : ck_E := (gT, [(56, 50)], gc_yJx4a65c_add_72be8_mr3, 4, [(0, (0, 3, 3, 0, 1, 0, [])), (1, (0, 5, 2, 0, 2, 0, [])), (2, (11, 0, 0, 0, 3, 0, [])), (3, (2, 1, 0, 0, 6, 11, [])), (11, (0, 5, 2, 0, 12, 0, [])), (12, (0, 3, 3, 0, 13, 0, [])), (13, (0, 5, 1, 0, 14, 0, [])), (14, (13, 53, 57, 0, 15, 0, [])), (15, (0, 5, 0, 0, 16, 0, [])), (16, (0, 3, 3, 0, 17, 0, [])), (17, (0, 0, 0, 1, 18, 0, [])), (18, (0, 15, 0, 0, 19, 0, [])), (19, (8, 6, 2, 0, 22, 0, [])), (22, (15, 0, 0, 0, 0, 0, []))], [], [], [], [])
theorem gk_yJx4a65c_add_72be8_mr3 : ck_chk ge_yJx4a65c_add_72be8_mr3 19 = true := by decide +kernel
theorem gd_yJx4a65c_add_72be8_mr3 : ck_dec prog_46_method_24_code gt_yJx4a65c_add_72be8_mr3 ge_yJx4a65c_add_72be8_mr3.2.2.2.2.1 = true := by decide +kernel
theorem gm_yJx4a65c_add_72be8_mr3 {l : Launch} {G : am_G} {X : ck_XT} (g : gE l G X) : ck_Con (am_cm l G yJx4a65c_add_72be8 (.code yJx4a65c_add_72be8 prog_46_method_24_code 4 none) 7 200) G X gT gc_yJx4a65c_add_72be8_mr3 :=
  ck_meth (E := ge_yJx4a65c_add_72be8_mr3) (tb := gt_yJx4a65c_add_72be8_mr3) (init := false) (cm := ck_cms []) g.1 g.2.1 g.2.2.1 g.2.2.2 gT_w (by decide +kernel) rfl rfl rfl (by decide) gk_yJx4a65c_add_72be8_mr3 gd_yJx4a65c_add_72be8_mr3 ⟨(List.forall_mem_nil _), (List.forall_mem_nil _), (List.forall_mem_nil _), (List.forall_mem_nil _), (List.forall_mem_nil _), (List.forall_mem_nil _), (List.forall_mem_nil _), (List.forall_mem_nil _)⟩ (List.forall_mem_cons.mpr ⟨⟨⟨_, _, _, rfl, Or.inl w1686⟩, by decide, _, rfl, Or.inl g_fd6_2⟩, (List.forall_mem_nil _)⟩) (fun h => nomatch h) rfl (by decide) (by decide) g_oi g_ar
    (fun s hk _ => (List.forall_mem_cons.mpr ⟨⟨by decide, by decide, am_asg_arr hk w2528⟩, (List.forall_mem_nil _)⟩)) (fun s hk => (List.forall_mem_nil _)) (ck_cms_ok trivial)
    (List.forall_mem_nil _) (List.forall_mem_nil _) (List.forall_mem_nil _) (List.forall_mem_nil _)
    (List.forall_mem_nil _)
    (ck_no5 rfl)
def gc_yJx4a65c_add_9ea2d_mr3 : ck_KK := (([((-2147483648), 2147483647), (10, 24)], [], [(2, 0, 0, 506, (0, 0, (3, []))), (3, 0, 0, 506, (1, 0, (0, [(1, 0)]))), (3, 0, 1, 506, (3, 1, (0, []))), (2, 1, 0, 556, (0, 0, (0, [(1, 1)]))), (3, 0, 2, 506, (1, 0, (3, []))), (6, 1, 4, 556, (0, 0, (3, []))), (2, 2, 0, 2550, (0, 0, (2, [])))], 3, [(3, 0, (0, [])), (3, 2, (0, []))]), ((0, []), (0, [])), [(506, 0), (506, 2), (556, 3)], [], ([((-2147483648), 2147483647)], [], [(3, 0, 0, 506, (1, 0, (0, [(1, 2)]))), (3, 0, 2, 506, (1, 0, (4, []))), (3, 1, 3, 556, (3, 2, (0, []))), (6, 1, 4, 556, (0, 0, (4, [])))], 0, [(1, 0, (1, []))]), [])
def gt_yJx4a65c_add_9ea2d_mr3 : ck_TB := ([], [], [], [(9, 6, 1), (48, 6, 2), (63, 6, 0)], [(63, 6, 0, 0)], [], [], [], ([(131, 0)], [], [], []), [], [], [], 1)
def ge_yJx4a65c_add_9ea2d_mr3 : ck_E := (gT, [], gc_yJx4a65c_add_9ea2d_mr3, 2, [(0, (0, 5, 0, 0, 1, 0, [])), (1, (0, 12, 0, 0, 2, 0, [])), (2, (7, 6, 0, 0, 5, 0, [])), (5, (0, 0, 0, 1, 6, 0, [])), (6, (0, 15, 0, 0, 7, 0, [])), (7, (8, 6, 0, 0, 10, 0, [])), (10, (0, 5, 0, 0, 11, 0, [])), (11, (0, 5, 1, 0, 12, 0, [])), (12, (0, 5, 0, 0, 13, 0, [])), (13, (7, 6, 1, 0, 16, 0, [])), (16, (0, 5, 0, 0, 17, 0, [])), (17, (7, 6, 2, 0, 20, 0, [])), (20, (16, 0, 0, 0, 23, 0, [])), (23, (0, 0, 0, 1, 24, 0, [])), (24, (14, 0, 0, 1, 0, 0, []))], [(some 6, 4, [gc_yJx4a65c_add_72be8_mr3])], [], [], [])
theorem gk_yJx4a65c_add_9ea2d_mr3 : ck_chk ge_yJx4a65c_add_9ea2d_mr3 20 = true := by decide +kernel
theorem gd_yJx4a65c_add_9ea2d_mr3 : ck_dec prog_46_method_25_code gt_yJx4a65c_add_9ea2d_mr3 ge_yJx4a65c_add_9ea2d_mr3.2.2.2.2.1 = true := by decide +kernel
theorem gm_yJx4a65c_add_9ea2d_mr3 {l : Launch} {G : am_G} {X : ck_XT} (g : gE l G X) : ck_Con (am_cm l G yJx4a65c_add_9ea2d (.code yJx4a65c_add_9ea2d prog_46_method_25_code 2 (some .boolean)) 8 230) G X gT gc_yJx4a65c_add_9ea2d_mr3 :=
  ck_meth (E := ge_yJx4a65c_add_9ea2d_mr3) (tb := gt_yJx4a65c_add_9ea2d_mr3) (init := false) (cm := ck_cms [am_cm l G yJx4a65c_add_72be8 (.code yJx4a65c_add_72be8 prog_46_method_24_code 4 none) 7 200]) g.1 g.2.1 g.2.2.1 g.2.2.2 gT_w (by decide +kernel) rfl rfl rfl (by decide) gk_yJx4a65c_add_9ea2d_mr3 gd_yJx4a65c_add_9ea2d_mr3 ⟨(List.forall_mem_nil _), (List.forall_mem_nil _), (List.forall_mem_nil _), (List.forall_mem_cons.mpr ⟨⟨⟨_, _, _, rfl, Or.inl w1683⟩, by decide, _, _, g_fd6_1⟩, (List.forall_mem_cons.mpr ⟨⟨⟨_, _, _, rfl, Or.inl w1686⟩, by decide, _, _, g_fd6_2⟩, (List.forall_mem_cons.mpr ⟨⟨⟨_, _, _, rfl, Or.inr (Or.inr ⟨_, w1690, w1689⟩)⟩, by decide, _, _, g_fd6_0⟩, (List.forall_mem_nil _)⟩)⟩)⟩), (List.forall_mem_nil _), (List.forall_mem_nil _), (List.forall_mem_nil _), (List.forall_mem_nil _)⟩ (List.forall_mem_cons.mpr ⟨⟨⟨_, _, _, rfl, Or.inr (Or.inr ⟨_, w1690, w1689⟩)⟩, by decide, _, rfl, Or.inl g_fd6_0⟩, (List.forall_mem_nil _)⟩) (fun h => nomatch h) ⟨_, rfl, rfl⟩ (by decide) (by decide) g_oi g_ar
    (fun s hk _ => (List.forall_mem_nil _)) (fun s hk => (List.forall_mem_nil _)) (ck_cms_ok ⟨(List.forall_mem_cons.mpr ⟨((gm_yJx4a65c_add_72be8_mr3 g)), (List.forall_mem_nil _)⟩), trivial⟩)
    (List.forall_mem_cons.mpr ⟨(ck_kV g_y_yJx4a65c_add_72be8 w1821 w1823 w34 (T := TJx4a65c) (N := 3) rfl (by decide) (by decide) (by decide)), (List.forall_mem_nil _)⟩) (List.forall_mem_nil _) (List.forall_mem_nil _) (List.forall_mem_nil _)
    (List.forall_mem_nil _)
    (ck_no5 rfl)
def gc_yJx4a65c_add_72be8_mr4 : ck_KK := (([((-2147483648), 2147483647), (10, 24)], [], [(2, 0, 0, 506, (0, 0, (3, []))), (3, 0, 0, 506, (1, 0, (0, [(1, 0)]))), (3, 0, 1, 506, (3, 1, (0, []))), (2, 1, 0, 556, (0, 0, (0, [(1, 1)]))), (3, 0, 2, 506, (1, 0, (4, []))), (6, 1, 4, 556, (0, 0, (4, []))), (2, 2, 0, 2550, (0, 0, (2, [])))], 3, [(3, 0, (0, [])), (3, 2, (0, [])), (3, 1, (0, [])), (1, 0, (4, []))]), ((0, []), (0, [])), [(506, 2), (556, 4)], [], ([], [], [(3, 0, 2, 506, (1, 0, (5, []))), (3, 1, 4, 556, (3, 2, (0, []))), (6, 1, 4, 556, (0, 0, (5, [])))], 0, []), [])
def gt_yJx4a65c_add_72be8_mr4 : ck_TB := ([], [], [], [], [(48, 6, 2, 0)], [], [], [], ([], [], [], []), [], [], [], 9)
def ge_yJx4a65c_add_72be8_mr4 : ck_E := (gT, [(56, 50)], gc_yJx4a65c_add_72be8_mr4, 4, [(0, (0, 3, 3, 0, 1, 0, [])), (1, (0, 5, 2, 0, 2, 0, [])), (2, (11, 0, 0, 0, 3, 0, [])), (3, (2, 1, 0, 0, 6, 11, [])), (11, (0, 5, 2, 0, 12, 0, [])), (12, (0, 3, 3, 0, 13, 0, [])), (13, (0, 5, 1, 0, 14, 0, [])), (14, (13, 53, 57, 0, 15, 0, [])), (15, (0, 5, 0, 0, 16, 0, [])), (16, (0, 3, 3, 0, 17, 0, [])), (17, (0, 0, 0, 1, 18, 0, [])), (18, (0, 15, 0, 0, 19, 0, [])), (19, (8, 6, 2, 0, 22, 0, [])), (22, (15, 0, 0, 0, 0, 0, []))], [], [], [], [])
theorem gk_yJx4a65c_add_72be8_mr4 : ck_chk ge_yJx4a65c_add_72be8_mr4 19 = true := by decide +kernel
theorem gd_yJx4a65c_add_72be8_mr4 : ck_dec prog_46_method_24_code gt_yJx4a65c_add_72be8_mr4 ge_yJx4a65c_add_72be8_mr4.2.2.2.2.1 = true := by decide +kernel
theorem gm_yJx4a65c_add_72be8_mr4 {l : Launch} {G : am_G} {X : ck_XT} (g : gE l G X) : ck_Con (am_cm l G yJx4a65c_add_72be8 (.code yJx4a65c_add_72be8 prog_46_method_24_code 4 none) 7 200) G X gT gc_yJx4a65c_add_72be8_mr4 :=
  ck_meth (E := ge_yJx4a65c_add_72be8_mr4) (tb := gt_yJx4a65c_add_72be8_mr4) (init := false) (cm := ck_cms []) g.1 g.2.1 g.2.2.1 g.2.2.2 gT_w (by decide +kernel) rfl rfl rfl (by decide) gk_yJx4a65c_add_72be8_mr4 gd_yJx4a65c_add_72be8_mr4 ⟨(List.forall_mem_nil _), (List.forall_mem_nil _), (List.forall_mem_nil _), (List.forall_mem_nil _), (List.forall_mem_nil _), (List.forall_mem_nil _), (List.forall_mem_nil _), (List.forall_mem_nil _)⟩ (List.forall_mem_cons.mpr ⟨⟨⟨_, _, _, rfl, Or.inl w1686⟩, by decide, _, rfl, Or.inl g_fd6_2⟩, (List.forall_mem_nil _)⟩) (fun h => nomatch h) rfl (by decide) (by decide) g_oi g_ar
    (fun s hk _ => (List.forall_mem_cons.mpr ⟨⟨by decide, by decide, am_asg_arr hk w2528⟩, (List.forall_mem_nil _)⟩)) (fun s hk => (List.forall_mem_nil _)) (ck_cms_ok trivial)
    (List.forall_mem_nil _) (List.forall_mem_nil _) (List.forall_mem_nil _) (List.forall_mem_nil _)
    (List.forall_mem_nil _)
    (ck_no5 rfl)
def gc_yJx4a65c_add_9ea2d_mr4 : ck_KK := (([((-2147483648), 2147483647), (10, 24)], [], [(2, 0, 0, 506, (0, 0, (3, []))), (3, 0, 0, 506, (1, 0, (0, [(1, 0)]))), (3, 0, 1, 506, (3, 1, (0, []))), (2, 1, 0, 556, (0, 0, (0, [(1, 1)]))), (3, 0, 2, 506, (1, 0, (4, []))), (6, 1, 4, 556, (0, 0, (4, []))), (2, 2, 0, 2550, (0, 0, (2, [])))], 3, [(3, 0, (0, [])), (3, 2, (0, []))]), ((0, []), (0, [])), [(506, 0), (506, 2), (556, 4)], [], ([((-2147483648), 2147483647)], [], [(3, 0, 0, 506, (1, 0, (0, [(1, 2)]))), (3, 0, 2, 506, (1, 0, (5, []))), (3, 1, 4, 556, (3, 2, (0, []))), (6, 1, 4, 556, (0, 0, (5, [])))], 0, [(1, 0, (1, []))]), [])
def gt_yJx4a65c_add_9ea2d_mr4 : ck_TB := ([], [], [], [(9, 6, 1), (48, 6, 2), (63, 6, 0)], [(63, 6, 0, 0)], [], [], [], ([(131, 0)], [], [], []), [], [], [], 1)
def ge_yJx4a65c_add_9ea2d_mr4 : ck_E := (gT, [], gc_yJx4a65c_add_9ea2d_mr4, 2, [(0, (0, 5, 0, 0, 1, 0, [])), (1, (0, 12, 0, 0, 2, 0, [])), (2, (7, 6, 0, 0, 5, 0, [])), (5, (0, 0, 0, 1, 6, 0, [])), (6, (0, 15, 0, 0, 7, 0, [])), (7, (8, 6, 0, 0, 10, 0, [])), (10, (0, 5, 0, 0, 11, 0, [])), (11, (0, 5, 1, 0, 12, 0, [])), (12, (0, 5, 0, 0, 13, 0, [])), (13, (7, 6, 1, 0, 16, 0, [])), (16, (0, 5, 0, 0, 17, 0, [])), (17, (7, 6, 2, 0, 20, 0, [])), (20, (16, 0, 0, 0, 23, 0, [])), (23, (0, 0, 0, 1, 24, 0, [])), (24, (14, 0, 0, 1, 0, 0, []))], [(some 6, 4, [gc_yJx4a65c_add_72be8_mr4])], [], [], [])
theorem gk_yJx4a65c_add_9ea2d_mr4 : ck_chk ge_yJx4a65c_add_9ea2d_mr4 20 = true := by decide +kernel
theorem gd_yJx4a65c_add_9ea2d_mr4 : ck_dec prog_46_method_25_code gt_yJx4a65c_add_9ea2d_mr4 ge_yJx4a65c_add_9ea2d_mr4.2.2.2.2.1 = true := by decide +kernel
theorem gm_yJx4a65c_add_9ea2d_mr4 {l : Launch} {G : am_G} {X : ck_XT} (g : gE l G X) : ck_Con (am_cm l G yJx4a65c_add_9ea2d (.code yJx4a65c_add_9ea2d prog_46_method_25_code 2 (some .boolean)) 8 230) G X gT gc_yJx4a65c_add_9ea2d_mr4 :=
  ck_meth (E := ge_yJx4a65c_add_9ea2d_mr4) (tb := gt_yJx4a65c_add_9ea2d_mr4) (init := false) (cm := ck_cms [am_cm l G yJx4a65c_add_72be8 (.code yJx4a65c_add_72be8 prog_46_method_24_code 4 none) 7 200]) g.1 g.2.1 g.2.2.1 g.2.2.2 gT_w (by decide +kernel) rfl rfl rfl (by decide) gk_yJx4a65c_add_9ea2d_mr4 gd_yJx4a65c_add_9ea2d_mr4 ⟨(List.forall_mem_nil _), (List.forall_mem_nil _), (List.forall_mem_nil _), (List.forall_mem_cons.mpr ⟨⟨⟨_, _, _, rfl, Or.inl w1683⟩, by decide, _, _, g_fd6_1⟩, (List.forall_mem_cons.mpr ⟨⟨⟨_, _, _, rfl, Or.inl w1686⟩, by decide, _, _, g_fd6_2⟩, (List.forall_mem_cons.mpr ⟨⟨⟨_, _, _, rfl, Or.inr (Or.inr ⟨_, w1690, w1689⟩)⟩, by decide, _, _, g_fd6_0⟩, (List.forall_mem_nil _)⟩)⟩)⟩), (List.forall_mem_nil _), (List.forall_mem_nil _), (List.forall_mem_nil _), (List.forall_mem_nil _)⟩ (List.forall_mem_cons.mpr ⟨⟨⟨_, _, _, rfl, Or.inr (Or.inr ⟨_, w1690, w1689⟩)⟩, by decide, _, rfl, Or.inl g_fd6_0⟩, (List.forall_mem_nil _)⟩) (fun h => nomatch h) ⟨_, rfl, rfl⟩ (by decide) (by decide) g_oi g_ar
    (fun s hk _ => (List.forall_mem_nil _)) (fun s hk => (List.forall_mem_nil _)) (ck_cms_ok ⟨(List.forall_mem_cons.mpr ⟨((gm_yJx4a65c_add_72be8_mr4 g)), (List.forall_mem_nil _)⟩), trivial⟩)
    (List.forall_mem_cons.mpr ⟨(ck_kV g_y_yJx4a65c_add_72be8 w1821 w1823 w34 (T := TJx4a65c) (N := 3) rfl (by decide) (by decide) (by decide)), (List.forall_mem_nil _)⟩) (List.forall_mem_nil _) (List.forall_mem_nil _) (List.forall_mem_nil _)
    (List.forall_mem_nil _)
    (ck_no5 rfl)
def gc_yJx4a65c_add_72be8_mr5 : ck_KK := (([((-2147483648), 2147483647), (10, 24)], [], [(2, 0, 0, 506, (0, 0, (3, []))), (3, 0, 0, 506, (1, 0, (0, [(1, 0)]))), (3, 0, 1, 506, (3, 1, (0, []))), (2, 1, 0, 556, (0, 0, (0, [(1, 1)]))), (3, 0, 2, 506, (1, 0, (5, []))), (6, 1, 4, 556, (0, 0, (5, []))), (2, 2, 0, 2550, (0, 0, (2, [])))], 3, [(3, 0, (0, [])), (3, 2, (0, [])), (3, 1, (0, [])), (1, 0, (5, []))]), ((0, []), (0, [])), [(506, 2), (556, 5)], [], ([], [], [(3, 0, 2, 506, (1, 0, (6, []))), (3, 1, 5, 556, (3, 2, (0, []))), (6, 1, 4, 556, (0, 0, (6, [])))], 0, []), [])
def gt_yJx4a65c_add_72be8_mr5 : ck_TB := ([], [], [], [], [(48, 6, 2, 0)], [], [], [], ([], [], [], []), [], [], [], 9)
def ge_yJx4a65c_add_72be8_mr5 : ck_E := (gT, [(56, 50)], gc_yJx4a65c_add_72be8_mr5, 4, [(0, (0, 3, 3, 0, 1, 0, [])), (1, (0, 5, 2, 0, 2, 0, [])), (2, (11, 0, 0, 0, 3, 0, [])), (3, (2, 1, 0, 0, 6, 11, [])), (11, (0, 5, 2, 0, 12, 0, [])), (12, (0, 3, 3, 0, 13, 0, [])), (13, (0, 5, 1, 0, 14, 0, [])), (14, (13, 53, 57, 0, 15, 0, [])), (15, (0, 5, 0, 0, 16, 0, [])), (16, (0, 3, 3, 0, 17, 0, [])), (17, (0, 0, 0, 1, 18, 0, [])), (18, (0, 15, 0, 0, 19, 0, [])), (19, (8, 6, 2, 0, 22, 0, [])), (22, (15, 0, 0, 0, 0, 0, []))], [], [], [], [])
theorem gk_yJx4a65c_add_72be8_mr5 : ck_chk ge_yJx4a65c_add_72be8_mr5 19 = true := by decide +kernel
theorem gd_yJx4a65c_add_72be8_mr5 : ck_dec prog_46_method_24_code gt_yJx4a65c_add_72be8_mr5 ge_yJx4a65c_add_72be8_mr5.2.2.2.2.1 = true := by decide +kernel
theorem gm_yJx4a65c_add_72be8_mr5 {l : Launch} {G : am_G} {X : ck_XT} (g : gE l G X) : ck_Con (am_cm l G yJx4a65c_add_72be8 (.code yJx4a65c_add_72be8 prog_46_method_24_code 4 none) 7 200) G X gT gc_yJx4a65c_add_72be8_mr5 :=
  ck_meth (E := ge_yJx4a65c_add_72be8_mr5) (tb := gt_yJx4a65c_add_72be8_mr5) (init := false) (cm := ck_cms []) g.1 g.2.1 g.2.2.1 g.2.2.2 gT_w (by decide +kernel) rfl rfl rfl (by decide) gk_yJx4a65c_add_72be8_mr5 gd_yJx4a65c_add_72be8_mr5 ⟨(List.forall_mem_nil _), (List.forall_mem_nil _), (List.forall_mem_nil _), (List.forall_mem_nil _), (List.forall_mem_nil _), (List.forall_mem_nil _), (List.forall_mem_nil _), (List.forall_mem_nil _)⟩ (List.forall_mem_cons.mpr ⟨⟨⟨_, _, _, rfl, Or.inl w1686⟩, by decide, _, rfl, Or.inl g_fd6_2⟩, (List.forall_mem_nil _)⟩) (fun h => nomatch h) rfl (by decide) (by decide) g_oi g_ar
    (fun s hk _ => (List.forall_mem_cons.mpr ⟨⟨by decide, by decide, am_asg_arr hk w2528⟩, (List.forall_mem_nil _)⟩)) (fun s hk => (List.forall_mem_nil _)) (ck_cms_ok trivial)
    (List.forall_mem_nil _) (List.forall_mem_nil _) (List.forall_mem_nil _) (List.forall_mem_nil _)
    (List.forall_mem_nil _)
    (ck_no5 rfl)
def gc_yJx4a65c_add_9ea2d_mr5 : ck_KK := (([((-2147483648), 2147483647), (10, 24)], [], [(2, 0, 0, 506, (0, 0, (3, []))), (3, 0, 0, 506, (1, 0, (0, [(1, 0)]))), (3, 0, 1, 506, (3, 1, (0, []))), (2, 1, 0, 556, (0, 0, (0, [(1, 1)]))), (3, 0, 2, 506, (1, 0, (5, []))), (6, 1, 4, 556, (0, 0, (5, []))), (2, 2, 0, 2550, (0, 0, (2, [])))], 3, [(3, 0, (0, [])), (3, 2, (0, []))]), ((0, []), (0, [])), [(506, 0), (506, 2), (556, 5)], [], ([((-2147483648), 2147483647)], [], [(3, 0, 0, 506, (1, 0, (0, [(1, 2)]))), (3, 0, 2, 506, (1, 0, (6, []))), (3, 1, 5, 556, (3, 2, (0, []))), (6, 1, 4, 556, (0, 0, (6, [])))], 0, [(1, 0, (1, []))]), [])
def gt_yJx4a65c_add_9ea2d_mr5 : ck_TB := ([], [], [], [(9, 6, 1), (48, 6, 2), (63, 6, 0)], [(63, 6, 0, 0)], [], [], [], ([(131, 0)], [], [], []), [], [], [], 1)
def ge_yJx4a65c_add_9ea2d_mr5 : ck_E := (gT, [], gc_yJx4a65c_add_9ea2d_mr5, 2, [(0, (0, 5, 0, 0, 1, 0, [])), (1, (0, 12, 0, 0, 2, 0, [])), (2, (7, 6, 0, 0, 5, 0, [])), (5, (0, 0, 0, 1, 6, 0, [])), (6, (0, 15, 0, 0, 7, 0, [])), (7, (8, 6, 0, 0, 10, 0, [])), (10, (0, 5, 0, 0, 11, 0, [])), (11, (0, 5, 1, 0, 12, 0, [])), (12, (0, 5, 0, 0, 13, 0, [])), (13, (7, 6, 1, 0, 16, 0, [])), (16, (0, 5, 0, 0, 17, 0, [])), (17, (7, 6, 2, 0, 20, 0, [])), (20, (16, 0, 0, 0, 23, 0, [])), (23, (0, 0, 0, 1, 24, 0, [])), (24, (14, 0, 0, 1, 0, 0, []))], [(some 6, 4, [gc_yJx4a65c_add_72be8_mr5])], [], [], [])
theorem gk_yJx4a65c_add_9ea2d_mr5 : ck_chk ge_yJx4a65c_add_9ea2d_mr5 20 = true := by decide +kernel
theorem gd_yJx4a65c_add_9ea2d_mr5 : ck_dec prog_46_method_25_code gt_yJx4a65c_add_9ea2d_mr5 ge_yJx4a65c_add_9ea2d_mr5.2.2.2.2.1 = true := by decide +kernel
theorem gm_yJx4a65c_add_9ea2d_mr5 {l : Launch} {G : am_G} {X : ck_XT} (g : gE l G X) : ck_Con (am_cm l G yJx4a65c_add_9ea2d (.code yJx4a65c_add_9ea2d prog_46_method_25_code 2 (some .boolean)) 8 230) G X gT gc_yJx4a65c_add_9ea2d_mr5 :=
  ck_meth (E := ge_yJx4a65c_add_9ea2d_mr5) (tb := gt_yJx4a65c_add_9ea2d_mr5) (init := false) (cm := ck_cms [am_cm l G yJx4a65c_add_72be8 (.code yJx4a65c_add_72be8 prog_46_method_24_code 4 none) 7 200]) g.1 g.2.1 g.2.2.1 g.2.2.2 gT_w (by decide +kernel) rfl rfl rfl (by decide) gk_yJx4a65c_add_9ea2d_mr5 gd_yJx4a65c_add_9ea2d_mr5 ⟨(List.forall_mem_nil _), (List.forall_mem_nil _), (List.forall_mem_nil _), (List.forall_mem_cons.mpr ⟨⟨⟨_, _, _, rfl, Or.inl w1683⟩, by decide, _, _, g_fd6_1⟩, (List.forall_mem_cons.mpr ⟨⟨⟨_, _, _, rfl, Or.inl w1686⟩, by decide, _, _, g_fd6_2⟩, (List.forall_mem_cons.mpr ⟨⟨⟨_, _, _, rfl, Or.inr (Or.inr ⟨_, w1690, w1689⟩)⟩, by decide, _, _, g_fd6_0⟩, (List.forall_mem_nil _)⟩)⟩)⟩), (List.forall_mem_nil _), (List.forall_mem_nil _), (List.forall_mem_nil _), (List.forall_mem_nil _)⟩ (List.forall_mem_cons.mpr ⟨⟨⟨_, _, _, rfl, Or.inr (Or.inr ⟨_, w1690, w1689⟩)⟩, by decide, _, rfl, Or.inl g_fd6_0⟩, (List.forall_mem_nil _)⟩) (fun h => nomatch h) ⟨_, rfl, rfl⟩ (by decide) (by decide) g_oi g_ar
    (fun s hk _ => (List.forall_mem_nil _)) (fun s hk => (List.forall_mem_nil _)) (ck_cms_ok ⟨(List.forall_mem_cons.mpr ⟨((gm_yJx4a65c_add_72be8_mr5 g)), (List.forall_mem_nil _)⟩), trivial⟩)
    (List.forall_mem_cons.mpr ⟨(ck_kV g_y_yJx4a65c_add_72be8 w1821 w1823 w34 (T := TJx4a65c) (N := 3) rfl (by decide) (by decide) (by decide)), (List.forall_mem_nil _)⟩) (List.forall_mem_nil _) (List.forall_mem_nil _) (List.forall_mem_nil _)
    (List.forall_mem_nil _)
    (ck_no5 rfl)
def gc_yJx4a65c_grow_92f84_mbe : ck_KK := (([((-2147483648), 2147483647), (1, 1)], [], [(2, 0, 0, 606, (0, 0, (3, []))), (3, 0, 0, 606, (1, 0, (0, [(1, 0)]))), (3, 0, 1, 606, (3, 1, (0, []))), (2, 1, 0, 43056, (0, 0, (0, []))), (3, 0, 2, 606, (1, 0, (0, [])))], 2, [(3, 0, (0, [])), (1, 0, (0, [(1, 1)]))]), ((1, []), (11, [])), [(606, 1)], [], ([(10, 11), (10, 11)], [], [(2, 2, 0, 656, (0, 0, (0, [(1, 2)]))), (5, 2, 0, 0, (0, 0, (0, []))), (6, 2, 4, 656, (0, 0, (0, []))), (3, 0, 1, 606, (3, 2, (0, [])))], 1, [(3, 2, (0, []))]), [])
def gt_yJx4a65c_grow_92f84_mbe : ck_TB := ([], [], [], [(9, 6, 1)], [(9, 6, 1, 4)], [], [(7, 56)], [], ([], [], [(79, 0)], []), [], [], [(39, 1, 4)], 4)
def ge_yJx4a65c_grow_92f84_mbe : ck_E := (gT, [], gc_yJx4a65c_grow_92f84_mbe, 4, [(0, (0, 5, 0, 0, 1, 0, [])), (1, (7, 6, 1, 0, 4, 0, [])), (4, (11, 0, 0, 0, 5, 0, [])), (5, (0, 6, 2, 0, 6, 0, [])), (6, (0, 3, 2, 0, 7, 0, [])), (7, (1, 4, 0, 0, 10, 20, [])), (10, (0, 5, 0, 0, 11, 0, [])), (11, (7, 6, 1, 0, 14, 0, [])), (14, (0, 22, 4, 0, 17, 0, [])), (17, (20, 1, 0, 0, 20, 45, [])), (45, (0, 5, 0, 0, 46, 0, [])), (46, (0, 0, 0, 10, 48, 0, [])), (48, (0, 3, 1, 0, 49, 0, [])), (49, (16, 0, 0, 0, 52, 0, [])), (52, (10, 56, 656, 2, 55, 0, [])), (55, (0, 13, 0, 0, 56, 0, [])), (56, (8, 6, 1, 4, 59, 0, [])), (59, (14, 0, 0, 4, 0, 0, []))], [(none, 2, [gc_yJ9_max_7cf53_mli])], [], [], [])
theorem gk_yJx4a65c_grow_92f84_mbe : ck_chk ge_yJx4a65c_grow_92f84_mbe 23 = true := by decide +kernel
theorem gd_yJx4a65c_grow_92f84_mbe : ck_dec prog_46_method_6_code gt_yJx4a65c_grow_92f84_mbe ge_yJx4a65c_grow_92f84_mbe.2.2.2.2.1 = true := by decide +kernel
theorem gm_yJx4a65c_grow_92f84_mbe {l : Launch} {G : am_G} {X : ck_XT} (g : gE l G X) : ck_Con (am_cm l G yJx4a65c_grow_92f84 (.code yJx4a65c_grow_92f84 prog_46_method_6_code 4 (some (.array (.object "java/lang/Object")))) 5 140) G X gT gc_yJx4a65c_grow_92f84_mbe :=
  ck_meth (E := ge_yJx4a65c_grow_92f84_mbe) (tb := gt_yJx4a65c_grow_92f84_mbe) (init := false) (cm := ck_cms [am_cm l G yJ9_max_7cf53 (.code yJ9_max_7cf53 prog_32_method_65_code 2 (some .int)) 1 20]) g.1 g.2.1 g.2.2.1 g.2.2.2 gT_w (by decide +kernel) rfl rfl rfl (by decide) gk_yJx4a65c_grow_92f84_mbe gd_yJx4a65c_grow_92f84_mbe ⟨(List.forall_mem_nil _), (List.forall_mem_nil _), (List.forall_mem_nil _), (List.forall_mem_cons.mpr ⟨⟨⟨_, _, _, rfl, Or.inl w1683⟩, by decide, _, _, g_fd6_1⟩, (List.forall_mem_nil _)⟩), (List.forall_mem_nil _), (List.forall_mem_cons.mpr ⟨Or.inl ⟨_, rfl, by decide, by decide, w1871, w1868⟩, (List.forall_mem_nil _)⟩), (List.forall_mem_nil _), (List.forall_mem_cons.mpr ⟨⟨_, List.mem_of_getElem? (i := 5) rfl, w1681, Or.inr ⟨rfl, 4, rfl, rfl⟩⟩, (List.forall_mem_nil _)⟩)⟩ (List.forall_mem_cons.mpr ⟨⟨⟨_, _, _, rfl, Or.inl w1683⟩, by decide, _, Or.inr ⟨_, rfl⟩, Or.inl g_fd6_1⟩, (List.forall_mem_nil _)⟩) (fun h => nomatch h) ⟨_, rfl, Or.inr ⟨_, rfl⟩⟩ (by decide) (by decide) g_oi g_ar
    (fun s hk _ => (List.forall_mem_nil _)) (fun s hk => (List.forall_mem_nil _)) (ck_cms_ok ⟨(List.forall_mem_cons.mpr ⟨((gm_yJ9_max_7cf53_mli g)), (List.forall_mem_nil _)⟩), trivial⟩)
    (List.forall_mem_nil _) (List.forall_mem_nil _) (List.forall_mem_cons.mpr ⟨(ck_kS g_y_yJ9_max_7cf53 w1870 w516 (by decide) (by decide)), (List.forall_mem_nil _)⟩) (List.forall_mem_nil _)
    (List.forall_mem_nil _)
    (ck_no5 rfl)
def gc_yJx4a65c_grow_d5877_mbe : ck_KK := (([((-2147483648), 2147483647)], [], [(2, 0, 0, 606, (0, 0, (3, []))), (3, 0, 0, 606, (1, 0, (0, [(1, 0)]))), (3, 0, 1, 606, (3, 1, (0, []))), (2, 1, 0, 43056, (0, 0, (0, []))), (3, 0, 2, 606, (1, 0, (0, [])))], 2, [(3, 0, (0, []))]), ((1, []), (11, [])), [(606, 1)], [], ([(10, 11), (10, 11)], [], [(2, 2, 0, 656, (0, 0, (0, [(1, 1)]))), (5, 2, 0, 0, (0, 0, (0, []))), (6, 2, 4, 656, (0, 0, (0, []))), (3, 0, 1, 606, (3, 2, (0, [])))], 1, [(3, 2, (0, []))]), [])
def gt_yJx4a65c_grow_d5877_mbe : ck_TB := ([], [], [], [(48, 6, 2)], [], [], [], [], ([(69, 0)], [], [], []), [], [], [], 4)
def ge_yJx4a65c_grow_d5877_mbe : ck_E := (gT, [], gc_yJx4a65c_grow_d5877_mbe, 1, [(0, (0, 5, 0, 0, 1, 0, [])), (1, (0, 5, 0, 0, 2, 0, [])), (2, (7, 6, 2, 0, 5, 0, [])), (5, (0, 0, 0, 1, 6, 0, [])), (6, (0, 15, 0, 0, 7, 0, [])), (7, (16, 0, 0, 0, 10, 0, [])), (10, (14, 0, 0, 4, 0, 0, []))], [(some 6, 2, [gc_yJx4a65c_grow_92f84_mbe])], [], [], [])
theorem gk_yJx4a65c_grow_d5877_mbe : ck_chk ge_yJx4a65c_grow_d5877_mbe 12 = true := by decide +kernel
theorem gd_yJx4a65c_grow_d5877_mbe : ck_dec prog_46_method_7_code gt_yJx4a65c_grow_d5877_mbe ge_yJx4a65c_grow_d5877_mbe.2.2.2.2.1 = true := by decide +kernel
theorem gm_yJx4a65c_grow_d5877_mbe {l : Launch} {G : am_G} {X : ck_XT} (g : gE l G X) : ck_Con (am_cm l G yJx4a65c_grow_d5877 (.code yJx4a65c_grow_d5877 prog_46_method_7_code 1 (some (.array (.object "java/lang/Object")))) 6 170) G X gT gc_yJx4a65c_grow_d5877_mbe :=
  ck_meth (E := ge_yJx4a65c_grow_d5877_mbe) (tb := gt_yJx4a65c_grow_d5877_mbe) (init := false) (cm := ck_cms [am_cm l G yJx4a65c_grow_92f84 (.code yJx4a65c_grow_92f84 prog_46_method_6_code 4 (some (.array (.object "java/lang/Object")))) 5 140]) g.1 g.2.1 g.2.2.1 g.2.2.2 gT_w (by decide +kernel) rfl rfl rfl (by decide) gk_yJx4a65c_grow_d5877_mbe gd_yJx4a65c_grow_d5877_mbe ⟨(List.forall_mem_nil _), (List.forall_mem_nil _), (List.forall_mem_nil _), (List.forall_mem_cons.mpr ⟨⟨⟨_, _, _, rfl, Or.inl w1686⟩, by decide, _, _, g_fd6_2⟩, (List.forall_mem_nil _)⟩), (List.forall_mem_nil _), (List.forall_mem_nil _), (List.forall_mem_nil _), (List.forall_mem_nil _)⟩ (List.forall_mem_nil _) (fun h => nomatch h) ⟨_, rfl, Or.inr ⟨_, rfl⟩⟩ (by decide) (by decide) g_oi g_ar
    (fun s hk _ => (List.forall_mem_nil _)) (fun s hk => (List.forall_mem_nil _)) (ck_cms_ok ⟨(List.forall_mem_cons.mpr ⟨((gm_yJx4a65c_grow_92f84_mbe g)), (List.forall_mem_nil _)⟩), trivial⟩)
    (List.forall_mem_cons.mpr ⟨(ck_kV g_y_yJx4a65c_grow_92f84 w1829 w1831 w36 (T := TJx4a65c) (N := 3) rfl (by decide) (by decide) (by decide)), (List.forall_mem_nil _)⟩) (List.forall_mem_nil _) (List.forall_mem_nil _) (List.forall_mem_nil _)
    (List.forall_mem_nil _)
    (ck_no5 rfl)
def gc_yJx4a65c_add_72be8_mbe : ck_KK := (([((-2147483648), 2147483647)], [], [(2, 0, 0, 606, (0, 0, (3, []))), (3, 0, 0, 606, (1, 0, (0, [(1, 0)]))), (3, 0, 1, 606, (3, 1, (0, []))), (2, 1, 0, 43056, (0, 0, (0, []))), (3, 0, 2, 606, (1, 0, (0, []))), (2, 2, 0, 41002, (0, 0, (1, [])))], 3, [(3, 0, (0, [])), (3, 2, (0, [])), (3, 1, (0, [])), (1, 0, (0, []))]), ((1, []), (11, [])), [(606, 1), (606, 2)], [], ([(10, 11)], [], [(3, 0, 1, 606, (3, 3, (0, []))), (2, 3, 0, 656, (0, 0, (0, [(1, 1)]))), (5, 3, 0, 0, (0, 0, (0, []))), (6, 3, 4, 656, (0, 0, (1, []))), (3, 0, 2, 606, (1, 0, (1, []))), (3, 3, 0, 656, (3, 2, (0, [])))], 1, []), [])
def gt_yJx4a65c_add_72be8_mbe : ck_TB := ([], [], [], [], [(48, 6, 2, 0)], [], [], [], ([(129, 0)], [], [], []), [], [], [], 9)
def ge_yJx4a65c_add_72be8_mbe : ck_E := (gT, [(56, 2)], gc_yJx4a65c_add_72be8_mbe, 4, [(0, (0, 3, 3, 0, 1, 0, [])), (1, (0, 5, 2, 0, 2, 0, [])), (2, (11, 0, 0, 0, 3, 0, [])), (3, (2, 1, 0, 0, 6, 11, [])), (6, (0, 5, 0, 0, 7, 0, [])), (7, (16, 0, 0, 0, 10, 0, [])), (10, (0, 8, 2, 0, 11, 0, [])), (11, (0, 5, 2, 0, 12, 0, [])), (12, (0, 3, 3, 0, 13, 0, [])), (13, (0, 5, 1, 0, 14, 0, [])), (14, (13, 53, 57, 0, 15, 0, [])), (15, (0, 5, 0, 0, 16, 0, [])), (16, (0, 3, 3, 0, 17, 0, [])), (17, (0, 0, 0, 1, 18, 0, [])), (18, (0, 15, 0, 0, 19, 0, [])), (19, (8, 6, 2, 0, 22, 0, [])), (22, (15, 0, 0, 0, 0, 0, []))], [(some 6, 1, [gc_yJx4a65c_grow_d5877_mbe])], [], [], [])
theorem gk_yJx4a65c_add_72be8_mbe : ck_chk ge_yJx4a65c_add_72be8_mbe 22 = true := by decide +kernel
theorem gd_yJx4a65c_add_72be8_mbe : ck_dec prog_46_method_24_code gt_yJx4a65c_add_72be8_mbe ge_yJx4a65c_add_72be8_mbe.2.2.2.2.1 = true := by decide +kernel
theorem gm_yJx4a65c_add_72be8_mbe {l : Launch} {G : am_G} {X : ck_XT} (g : gE l G X) : ck_Con (am_cm l G yJx4a65c_add_72be8 (.code yJx4a65c_add_72be8 prog_46_method_24_code 4 none) 7 200) G X gT gc_yJx4a65c_add_72be8_mbe :=
  ck_meth (E := ge_yJx4a65c_add_72be8_mbe) (tb := gt_yJx4a65c_add_72be8_mbe) (init := false) (cm := ck_cms [am_cm l G yJx4a65c_grow_d5877 (.code yJx4a65c_grow_d5877 prog_46_method_7_code 1 (some (.array (.object "java/lang/Object")))) 6 170]) g.1 g.2.1 g.2.2.1 g.2.2.2 gT_w (by decide +kernel) rfl rfl rfl (by decide) gk_yJx4a65c_add_72be8_mbe gd_yJx4a65c_add_72be8_mbe ⟨(List.forall_mem_nil _), (List.forall_mem_nil _), (List.forall_mem_nil _), (List.forall_mem_nil _), (List.forall_mem_nil _), (List.forall_mem_nil _), (List.forall_mem_nil _), (List.forall_mem_nil _)⟩ (List.forall_mem_cons.mpr ⟨⟨⟨_, _, _, rfl, Or.inl w1686⟩, by decide, _, rfl, Or.inl g_fd6_2⟩, (List.forall_mem_nil _)⟩) (fun h => nomatch h) rfl (by decide) (by decide) g_oi g_ar
    (fun s hk _ => (List.forall_mem_cons.mpr ⟨⟨by decide, by decide, am_asg_obj hk (ci := 2) rfl (by decide) w2503⟩, (List.forall_mem_nil _)⟩)) (fun s hk => (List.forall_mem_nil _)) (ck_cms_ok ⟨(List.forall_mem_cons.mpr ⟨((gm_yJx4a65c_grow_d5877_mbe g)), (List.forall_mem_nil _)⟩), trivial⟩)
    (List.forall_mem_cons.mpr ⟨(ck_kV g_y_yJx4a65c_grow_d5877 w1825 w1827 w35 (T := TJx4a65c) (N := 3) rfl (by decide) (by decide) (by decide)), (List.forall_mem_nil _)⟩) (List.forall_mem_nil _) (List.forall_mem_nil _) (List.forall_mem_nil _)
    (List.forall_mem_nil _)
    (ck_no5 rfl)
def gc_yJx4a65c_add_9ea2d_mbe : ck_KK := (([((-2147483648), 2147483647)], [], [(2, 0, 0, 606, (0, 0, (3, []))), (3, 0, 0, 606, (1, 0, (0, [(1, 0)]))), (3, 0, 1, 606, (3, 1, (0, []))), (2, 1, 0, 43056, (0, 0, (0, []))), (3, 0, 2, 606, (1, 0, (0, []))), (2, 2, 0, 41002, (0, 0, (1, [])))], 3, [(3, 0, (0, [])), (3, 2, (0, []))]), ((1, []), (11, [])), [(606, 0), (606, 1), (606, 2)], [], ([((-2147483648), 2147483647), (10, 11)], [], [(3, 0, 0, 606, (1, 0, (0, [(1, 1)]))), (3, 0, 1, 606, (3, 3, (0, []))), (2, 3, 0, 656, (0, 0, (0, [(1, 2)]))), (5, 3, 0, 0, (0, 0, (0, []))), (6, 3, 4, 656, (0, 0, (1, []))), (3, 0, 2, 606, (1, 0, (1, []))), (3, 3, 0, 656, (3, 2, (0, [])))], 1, [(1, 0, (1, []))]), [])
def gt_yJx4a65c_add_9ea2d_mbe : ck_TB := ([], [], [], [(9, 6, 1), (48, 6, 2), (63, 6, 0)], [(63, 6, 0, 0)], [], [], [], ([(131, 0)], [], [], []), [], [], [], 1)
def ge_yJx4a65c_add_9ea2d_mbe : ck_E := (gT, [], gc_yJx4a65c_add_9ea2d_mbe, 2, [(0, (0, 5, 0, 0, 1, 0, [])), (1, (0, 12, 0, 0, 2, 0, [])), (2, (7, 6, 0, 0, 5, 0, [])), (5, (0, 0, 0, 1, 6, 0, [])), (6, (0, 15, 0, 0, 7, 0, [])), (7, (8, 6, 0, 0, 10, 0, [])), (10, (0, 5, 0, 0, 11, 0, [])), (11, (0, 5, 1, 0, 12, 0, [])), (12, (0, 5, 0, 0, 13, 0, [])), (13, (7, 6, 1, 0, 16, 0, [])), (16, (0, 5, 0, 0, 17, 0, [])), (17, (7, 6, 2, 0, 20, 0, [])), (20, (16, 0, 0, 0, 23, 0, [])), (23, (0, 0, 0, 1, 24, 0, [])), (24, (14, 0, 0, 1, 0, 0, []))], [(some 6, 4, [gc_yJx4a65c_add_72be8_mbe])], [], [], [])
theorem gk_yJx4a65c_add_9ea2d_mbe : ck_chk ge_yJx4a65c_add_9ea2d_mbe 20 = true := by decide +kernel
theorem gd_yJx4a65c_add_9ea2d_mbe : ck_dec prog_46_method_25_code gt_yJx4a65c_add_9ea2d_mbe ge_yJx4a65c_add_9ea2d_mbe.2.2.2.2.1 = true := by decide +kernel
theorem gm_yJx4a65c_add_9ea2d_mbe {l : Launch} {G : am_G} {X : ck_XT} (g : gE l G X) : ck_Con (am_cm l G yJx4a65c_add_9ea2d (.code yJx4a65c_add_9ea2d prog_46_method_25_code 2 (some .boolean)) 8 230) G X gT gc_yJx4a65c_add_9ea2d_mbe :=
  ck_meth (E := ge_yJx4a65c_add_9ea2d_mbe) (tb := gt_yJx4a65c_add_9ea2d_mbe) (init := false) (cm := ck_cms [am_cm l G yJx4a65c_add_72be8 (.code yJx4a65c_add_72be8 prog_46_method_24_code 4 none) 7 200]) g.1 g.2.1 g.2.2.1 g.2.2.2 gT_w (by decide +kernel) rfl rfl rfl (by decide) gk_yJx4a65c_add_9ea2d_mbe gd_yJx4a65c_add_9ea2d_mbe ⟨(List.forall_mem_nil _), (List.forall_mem_nil _), (List.forall_mem_nil _), (List.forall_mem_cons.mpr ⟨⟨⟨_, _, _, rfl, Or.inl w1683⟩, by decide, _, _, g_fd6_1⟩, (List.forall_mem_cons.mpr ⟨⟨⟨_, _, _, rfl, Or.inl w1686⟩, by decide, _, _, g_fd6_2⟩, (List.forall_mem_cons.mpr ⟨⟨⟨_, _, _, rfl, Or.inr (Or.inr ⟨_, w1690, w1689⟩)⟩, by decide, _, _, g_fd6_0⟩, (List.forall_mem_nil _)⟩)⟩)⟩), (List.forall_mem_nil _), (List.forall_mem_nil _), (List.forall_mem_nil _), (List.forall_mem_nil _)⟩ (List.forall_mem_cons.mpr ⟨⟨⟨_, _, _, rfl, Or.inr (Or.inr ⟨_, w1690, w1689⟩)⟩, by decide, _, rfl, Or.inl g_fd6_0⟩, (List.forall_mem_nil _)⟩) (fun h => nomatch h) ⟨_, rfl, rfl⟩ (by decide) (by decide) g_oi g_ar
    (fun s hk _ => (List.forall_mem_nil _)) (fun s hk => (List.forall_mem_nil _)) (ck_cms_ok ⟨(List.forall_mem_cons.mpr ⟨((gm_yJx4a65c_add_72be8_mbe g)), (List.forall_mem_nil _)⟩), trivial⟩)
    (List.forall_mem_cons.mpr ⟨(ck_kV g_y_yJx4a65c_add_72be8 w1821 w1823 w34 (T := TJx4a65c) (N := 3) rfl (by decide) (by decide) (by decide)), (List.forall_mem_nil _)⟩) (List.forall_mem_nil _) (List.forall_mem_nil _) (List.forall_mem_nil _)
    (List.forall_mem_nil _)
    (ck_no5 rfl)
def gc_yJx4a65c_add_72be8_mb0 : ck_KK := (([((-2147483648), 2147483647), (10, 24)], [], [(2, 0, 0, 606, (0, 0, (3, []))), (3, 0, 0, 606, (1, 0, (0, [(1, 0)]))), (3, 0, 1, 606, (3, 1, (0, []))), (2, 1, 0, 656, (0, 0, (0, [(1, 1)]))), (3, 0, 2, 606, (1, 0, (0, []))), (6, 1, 4, 656, (0, 0, (0, []))), (2, 2, 0, 41002, (0, 0, (1, [])))], 3, [(3, 0, (0, [])), (3, 2, (0, [])), (3, 1, (0, [])), (1, 0, (0, []))]), ((0, []), (0, [])), [(606, 2), (656, 0)], [], ([], [], [(3, 0, 2, 606, (1, 0, (1, []))), (3, 1, 0, 656, (3, 2, (0, []))), (6, 1, 4, 656, (0, 0, (1, [])))], 0, []), [])
def gt_yJx4a65c_add_72be8_mb0 : ck_TB := ([], [], [], [], [(48, 6, 2, 0)], [], [], [], ([], [], [], []), [], [], [], 9)
def ge_yJx4a65c_add_72be8_mb0 : ck_E := (gT, [(56, 2)], gc_yJx4a65c_add_72be8_mb0, 4, [(0, (0, 3, 3, 0, 1, 0, [])), (1, (0, 5, 2, 0, 2, 0, [])), (2, (11, 0, 0, 0, 3, 0, [])), (3, (2, 1, 0, 0, 6, 11, [])), (11, (0, 5, 2, 0, 12, 0, [])), (12, (0, 3, 3, 0, 13, 0, [])), (13, (0, 5, 1, 0, 14, 0, [])), (14, (13, 53, 57, 0, 15, 0, [])), (15, (0, 5, 0, 0, 16, 0, [])), (16, (0, 3, 3, 0, 17, 0, [])), (17, (0, 0, 0, 1, 18, 0, [])), (18, (0, 15, 0, 0, 19, 0, [])), (19, (8, 6, 2, 0, 22, 0, [])), (22, (15, 0, 0, 0, 0, 0, []))], [], [], [], [])
theorem gk_yJx4a65c_add_72be8_mb0 : ck_chk ge_yJx4a65c_add_72be8_mb0 19 = true := by decide +kernel
theorem gd_yJx4a65c_add_72be8_mb0 : ck_dec prog_46_method_24_code gt_yJx4a65c_add_72be8_mb0 ge_yJx4a65c_add_72be8_mb0.2.2.2.2.1 = true := by decide +kernel
theorem gm_yJx4a65c_add_72be8_mb0 {l : Launch} {G : am_G} {X : ck_XT} (g : gE l G X) : ck_Con (am_cm l G yJx4a65c_add_72be8 (.code yJx4a65c_add_72be8 prog_46_method_24_code 4 none) 7 200) G X gT gc_yJx4a65c_add_72be8_mb0 :=
  ck_meth (E := ge_yJx4a65c_add_72be8_mb0) (tb := gt_yJx4a65c_add_72be8_mb0) (init := false) (cm := ck_cms []) g.1 g.2.1 g.2.2.1 g.2.2.2 gT_w (by decide +kernel) rfl rfl rfl (by decide) gk_yJx4a65c_add_72be8_mb0 gd_yJx4a65c_add_72be8_mb0 ⟨(List.forall_mem_nil _), (List.forall_mem_nil _), (List.forall_mem_nil _), (List.forall_mem_nil _), (List.forall_mem_nil _), (List.forall_mem_nil _), (List.forall_mem_nil _), (List.forall_mem_nil _)⟩ (List.forall_mem_cons.mpr ⟨⟨⟨_, _, _, rfl, Or.inl w1686⟩, by decide, _, rfl, Or.inl g_fd6_2⟩, (List.forall_mem_nil _)⟩) (fun h => nomatch h) rfl (by decide) (by decide) g_oi g_ar
    (fun s hk _ => (List.forall_mem_cons.mpr ⟨⟨by decide, by decide, am_asg_obj hk (ci := 2) rfl (by decide) w2503⟩, (List.forall_mem_nil _)⟩)) (fun s hk => (List.forall_mem_nil _)) (ck_cms_ok trivial)
    (List.forall_mem_nil _) (List.forall_mem_nil _) (List.forall_mem_nil _) (List.forall_mem_nil _)
    (List.forall_mem_nil _)
    (ck_no5 rfl)
def gc_yJx4a65c_add_9ea2d_mb0 : ck_KK := (([((-2147483648), 2147483647), (10, 24)], [], [(2, 0, 0, 606, (0, 0, (3, []))), (3, 0, 0, 606, (1, 0, (0, [(1, 0)]))), (3, 0, 1, 606, (3, 1, (0, []))), (2, 1, 0, 656, (0, 0, (0, [(1, 1)]))), (3, 0, 2, 606, (1, 0, (0, []))), (6, 1, 4, 656, (0, 0, (0, []))), (2, 2, 0, 41002, (0, 0, (1, [])))], 3, [(3, 0, (0, [])), (3, 2, (0, []))]), ((0, []), (0, [])), [(606, 0), (606, 2), (656, 0)], [], ([((-2147483648), 2147483647)], [], [(3, 0, 0, 606, (1, 0, (0, [(1, 2)]))), (3, 0, 2, 606, (1, 0, (1, []))), (3, 1, 0, 656, (3, 2, (0, []))), (6, 1, 4, 656, (0, 0, (1, [])))], 0, [(1, 0, (1, []))]), [])
def gt_yJx4a65c_add_9ea2d_mb0 : ck_TB := ([], [], [], [(9, 6, 1), (48, 6, 2), (63, 6, 0)], [(63, 6, 0, 0)], [], [], [], ([(131, 0)], [], [], []), [], [], [], 1)
def ge_yJx4a65c_add_9ea2d_mb0 : ck_E := (gT, [], gc_yJx4a65c_add_9ea2d_mb0, 2, [(0, (0, 5, 0, 0, 1, 0, [])), (1, (0, 12, 0, 0, 2, 0, [])), (2, (7, 6, 0, 0, 5, 0, [])), (5, (0, 0, 0, 1, 6, 0, [])), (6, (0, 15, 0, 0, 7, 0, [])), (7, (8, 6, 0, 0, 10, 0, [])), (10, (0, 5, 0, 0, 11, 0, [])), (11, (0, 5, 1, 0, 12, 0, [])), (12, (0, 5, 0, 0, 13, 0, [])), (13, (7, 6, 1, 0, 16, 0, [])), (16, (0, 5, 0, 0, 17, 0, [])), (17, (7, 6, 2, 0, 20, 0, [])), (20, (16, 0, 0, 0, 23, 0, [])), (23, (0, 0, 0, 1, 24, 0, [])), (24, (14, 0, 0, 1, 0, 0, []))], [(some 6, 4, [gc_yJx4a65c_add_72be8_mb0])], [], [], [])
theorem gk_yJx4a65c_add_9ea2d_mb0 : ck_chk ge_yJx4a65c_add_9ea2d_mb0 20 = true := by decide +kernel
theorem gd_yJx4a65c_add_9ea2d_mb0 : ck_dec prog_46_method_25_code gt_yJx4a65c_add_9ea2d_mb0 ge_yJx4a65c_add_9ea2d_mb0.2.2.2.2.1 = true := by decide +kernel
theorem gm_yJx4a65c_add_9ea2d_mb0 {l : Launch} {G : am_G} {X : ck_XT} (g : gE l G X) : ck_Con (am_cm l G yJx4a65c_add_9ea2d (.code yJx4a65c_add_9ea2d prog_46_method_25_code 2 (some .boolean)) 8 230) G X gT gc_yJx4a65c_add_9ea2d_mb0 :=
  ck_meth (E := ge_yJx4a65c_add_9ea2d_mb0) (tb := gt_yJx4a65c_add_9ea2d_mb0) (init := false) (cm := ck_cms [am_cm l G yJx4a65c_add_72be8 (.code yJx4a65c_add_72be8 prog_46_method_24_code 4 none) 7 200]) g.1 g.2.1 g.2.2.1 g.2.2.2 gT_w (by decide +kernel) rfl rfl rfl (by decide) gk_yJx4a65c_add_9ea2d_mb0 gd_yJx4a65c_add_9ea2d_mb0 ⟨(List.forall_mem_nil _), (List.forall_mem_nil _), (List.forall_mem_nil _), (List.forall_mem_cons.mpr ⟨⟨⟨_, _, _, rfl, Or.inl w1683⟩, by decide, _, _, g_fd6_1⟩, (List.forall_mem_cons.mpr ⟨⟨⟨_, _, _, rfl, Or.inl w1686⟩, by decide, _, _, g_fd6_2⟩, (List.forall_mem_cons.mpr ⟨⟨⟨_, _, _, rfl, Or.inr (Or.inr ⟨_, w1690, w1689⟩)⟩, by decide, _, _, g_fd6_0⟩, (List.forall_mem_nil _)⟩)⟩)⟩), (List.forall_mem_nil _), (List.forall_mem_nil _), (List.forall_mem_nil _), (List.forall_mem_nil _)⟩ (List.forall_mem_cons.mpr ⟨⟨⟨_, _, _, rfl, Or.inr (Or.inr ⟨_, w1690, w1689⟩)⟩, by decide, _, rfl, Or.inl g_fd6_0⟩, (List.forall_mem_nil _)⟩) (fun h => nomatch h) ⟨_, rfl, rfl⟩ (by decide) (by decide) g_oi g_ar
    (fun s hk _ => (List.forall_mem_nil _)) (fun s hk => (List.forall_mem_nil _)) (ck_cms_ok ⟨(List.forall_mem_cons.mpr ⟨((gm_yJx4a65c_add_72be8_mb0 g)), (List.forall_mem_nil _)⟩), trivial⟩)
    (List.forall_mem_cons.mpr ⟨(ck_kV g_y_yJx4a65c_add_72be8 w1821 w1823 w34 (T := TJx4a65c) (N := 3) rfl (by decide) (by decide) (by decide)), (List.forall_mem_nil _)⟩) (List.forall_mem_nil _) (List.forall_mem_nil _) (List.forall_mem_nil _)
    (List.forall_mem_nil _)
    (ck_no5 rfl)
def gc_yJx4a65c_add_72be8_mb1 : ck_KK := (([((-2147483648), 2147483647), (10, 24)], [], [(2, 0, 0, 606, (0, 0, (3, []))), (3, 0, 0, 606, (1, 0, (0, [(1, 0)]))), (3, 0, 1, 606, (3, 1, (0, []))), (2, 1, 0, 656, (0, 0, (0, [(1, 1)]))), (3, 0, 2, 606, (1, 0, (1, []))), (6, 1, 4, 656, (0, 0, (1, []))), (2, 2, 0, 41002, (0, 0, (1, [])))], 3, [(3, 0, (0, [])), (3, 2, (0, [])), (3, 1, (0, [])), (1, 0, (1, []))]), ((0, []), (0, [])), [(606, 2), (656, 1)], [], ([], [], [(3, 0, 2, 606, (1, 0, (2, []))), (3, 1, 1, 656, (3, 2, (0, []))), (6, 1, 4, 656, (0, 0, (2, [])))], 0, []), [])
def gt_yJx4a65c_add_72be8_mb1 : ck_TB := ([], [], [], [], [(48, 6, 2, 0)], [], [], [], ([], [], [], []), [], [], [], 9)
def ge_yJx4a65c_add_72be8_mb1 : ck_E := (gT, [(56, 2)], gc_yJx4a65c_add_72be8_mb1, 4, [(0, (0, 3, 3, 0, 1, 0, [])), (1, (0, 5, 2, 0, 2, 0, [])), (2, (11, 0, 0, 0, 3, 0, [])), (3, (2, 1, 0, 0, 6, 11, [])), (11, (0, 5, 2, 0, 12, 0, [])), (12, (0, 3, 3, 0, 13, 0, [])), (13, (0, 5, 1, 0, 14, 0, [])), (14, (13, 53, 57, 0, 15, 0, [])), (15, (0, 5, 0, 0, 16, 0, [])), (16, (0, 3, 3, 0, 17, 0, [])), (17, (0, 0, 0, 1, 18, 0, [])), (18, (0, 15, 0, 0, 19, 0, [])), (19, (8, 6, 2, 0, 22, 0, [])), (22, (15, 0, 0, 0, 0, 0, []))], [], [], [], [])
theorem gk_yJx4a65c_add_72be8_mb1 : ck_chk ge_yJx4a65c_add_72be8_mb1 19 = true := by decide +kernel
theorem gd_yJx4a65c_add_72be8_mb1 : ck_dec prog_46_method_24_code gt_yJx4a65c_add_72be8_mb1 ge_yJx4a65c_add_72be8_mb1.2.2.2.2.1 = true := by decide +kernel
theorem gm_yJx4a65c_add_72be8_mb1 {l : Launch} {G : am_G} {X : ck_XT} (g : gE l G X) : ck_Con (am_cm l G yJx4a65c_add_72be8 (.code yJx4a65c_add_72be8 prog_46_method_24_code 4 none) 7 200) G X gT gc_yJx4a65c_add_72be8_mb1 :=
  ck_meth (E := ge_yJx4a65c_add_72be8_mb1) (tb := gt_yJx4a65c_add_72be8_mb1) (init := false) (cm := ck_cms []) g.1 g.2.1 g.2.2.1 g.2.2.2 gT_w (by decide +kernel) rfl rfl rfl (by decide) gk_yJx4a65c_add_72be8_mb1 gd_yJx4a65c_add_72be8_mb1 ⟨(List.forall_mem_nil _), (List.forall_mem_nil _), (List.forall_mem_nil _), (List.forall_mem_nil _), (List.forall_mem_nil _), (List.forall_mem_nil _), (List.forall_mem_nil _), (List.forall_mem_nil _)⟩ (List.forall_mem_cons.mpr ⟨⟨⟨_, _, _, rfl, Or.inl w1686⟩, by decide, _, rfl, Or.inl g_fd6_2⟩, (List.forall_mem_nil _)⟩) (fun h => nomatch h) rfl (by decide) (by decide) g_oi g_ar
    (fun s hk _ => (List.forall_mem_cons.mpr ⟨⟨by decide, by decide, am_asg_obj hk (ci := 2) rfl (by decide) w2503⟩, (List.forall_mem_nil _)⟩)) (fun s hk => (List.forall_mem_nil _)) (ck_cms_ok trivial)
    (List.forall_mem_nil _) (List.forall_mem_nil _) (List.forall_mem_nil _) (List.forall_mem_nil _)
    (List.forall_mem_nil _)
    (ck_no5 rfl)
def gc_yJx4a65c_add_9ea2d_mb1 : ck_KK := (([((-2147483648), 2147483647), (10, 24)], [], [(2, 0, 0, 606, (0, 0, (3, []))), (3, 0, 0, 606, (1, 0, (0, [(1, 0)]))), (3, 0, 1, 606, (3, 1, (0, []))), (2, 1, 0, 656, (0, 0, (0, [(1, 1)]))), (3, 0, 2, 606, (1, 0, (1, []))), (6, 1, 4, 656, (0, 0, (1, []))), (2, 2, 0, 41002, (0, 0, (1, [])))], 3, [(3, 0, (0, [])), (3, 2, (0, []))]), ((0, []), (0, [])), [(606, 0), (606, 2), (656, 1)], [], ([((-2147483648), 2147483647)], [], [(3, 0, 0, 606, (1, 0, (0, [(1, 2)]))), (3, 0, 2, 606, (1, 0, (2, []))), (3, 1, 1, 656, (3, 2, (0, []))), (6, 1, 4, 656, (0, 0, (2, [])))], 0, [(1, 0, (1, []))]), [])
def gt_yJx4a65c_add_9ea2d_mb1 : ck_TB := ([], [], [], [(9, 6, 1), (48, 6, 2), (63, 6, 0)], [(63, 6, 0, 0)], [], [], [], ([(131, 0)], [], [], []), [], [], [], 1)
def ge_yJx4a65c_add_9ea2d_mb1 : ck_E := (gT, [], gc_yJx4a65c_add_9ea2d_mb1, 2, [(0, (0, 5, 0, 0, 1, 0, [])), (1, (0, 12, 0, 0, 2, 0, [])), (2, (7, 6, 0, 0, 5, 0, [])), (5, (0, 0, 0, 1, 6, 0, [])), (6, (0, 15, 0, 0, 7, 0, [])), (7, (8, 6, 0, 0, 10, 0, [])), (10, (0, 5, 0, 0, 11, 0, [])), (11, (0, 5, 1, 0, 12, 0, [])), (12, (0, 5, 0, 0, 13, 0, [])), (13, (7, 6, 1, 0, 16, 0, [])), (16, (0, 5, 0, 0, 17, 0, [])), (17, (7, 6, 2, 0, 20, 0, [])), (20, (16, 0, 0, 0, 23, 0, [])), (23, (0, 0, 0, 1, 24, 0, [])), (24, (14, 0, 0, 1, 0, 0, []))], [(some 6, 4, [gc_yJx4a65c_add_72be8_mb1])], [], [], [])
theorem gk_yJx4a65c_add_9ea2d_mb1 : ck_chk ge_yJx4a65c_add_9ea2d_mb1 20 = true := by decide +kernel
theorem gd_yJx4a65c_add_9ea2d_mb1 : ck_dec prog_46_method_25_code gt_yJx4a65c_add_9ea2d_mb1 ge_yJx4a65c_add_9ea2d_mb1.2.2.2.2.1 = true := by decide +kernel
theorem gm_yJx4a65c_add_9ea2d_mb1 {l : Launch} {G : am_G} {X : ck_XT} (g : gE l G X) : ck_Con (am_cm l G yJx4a65c_add_9ea2d (.code yJx4a65c_add_9ea2d prog_46_method_25_code 2 (some .boolean)) 8 230) G X gT gc_yJx4a65c_add_9ea2d_mb1 :=
  ck_meth (E := ge_yJx4a65c_add_9ea2d_mb1) (tb := gt_yJx4a65c_add_9ea2d_mb1) (init := false) (cm := ck_cms [am_cm l G yJx4a65c_add_72be8 (.code yJx4a65c_add_72be8 prog_46_method_24_code 4 none) 7 200]) g.1 g.2.1 g.2.2.1 g.2.2.2 gT_w (by decide +kernel) rfl rfl rfl (by decide) gk_yJx4a65c_add_9ea2d_mb1 gd_yJx4a65c_add_9ea2d_mb1 ⟨(List.forall_mem_nil _), (List.forall_mem_nil _), (List.forall_mem_nil _), (List.forall_mem_cons.mpr ⟨⟨⟨_, _, _, rfl, Or.inl w1683⟩, by decide, _, _, g_fd6_1⟩, (List.forall_mem_cons.mpr ⟨⟨⟨_, _, _, rfl, Or.inl w1686⟩, by decide, _, _, g_fd6_2⟩, (List.forall_mem_cons.mpr ⟨⟨⟨_, _, _, rfl, Or.inr (Or.inr ⟨_, w1690, w1689⟩)⟩, by decide, _, _, g_fd6_0⟩, (List.forall_mem_nil _)⟩)⟩)⟩), (List.forall_mem_nil _), (List.forall_mem_nil _), (List.forall_mem_nil _), (List.forall_mem_nil _)⟩ (List.forall_mem_cons.mpr ⟨⟨⟨_, _, _, rfl, Or.inr (Or.inr ⟨_, w1690, w1689⟩)⟩, by decide, _, rfl, Or.inl g_fd6_0⟩, (List.forall_mem_nil _)⟩) (fun h => nomatch h) ⟨_, rfl, rfl⟩ (by decide) (by decide) g_oi g_ar
    (fun s hk _ => (List.forall_mem_nil _)) (fun s hk => (List.forall_mem_nil _)) (ck_cms_ok ⟨(List.forall_mem_cons.mpr ⟨((gm_yJx4a65c_add_72be8_mb1 g)), (List.forall_mem_nil _)⟩), trivial⟩)
    (List.forall_mem_cons.mpr ⟨(ck_kV g_y_yJx4a65c_add_72be8 w1821 w1823 w34 (T := TJx4a65c) (N := 3) rfl (by decide) (by decide) (by decide)), (List.forall_mem_nil _)⟩) (List.forall_mem_nil _) (List.forall_mem_nil _) (List.forall_mem_nil _)
    (List.forall_mem_nil _)
    (ck_no5 rfl)
def gc_yJx4a65c_add_72be8_mb2 : ck_KK := (([((-2147483648), 2147483647), (10, 24)], [], [(2, 0, 0, 606, (0, 0, (3, []))), (3, 0, 0, 606, (1, 0, (0, [(1, 0)]))), (3, 0, 1, 606, (3, 1, (0, []))), (2, 1, 0, 656, (0, 0, (0, [(1, 1)]))), (3, 0, 2, 606, (1, 0, (2, []))), (6, 1, 4, 656, (0, 0, (2, []))), (2, 2, 0, 41002, (0, 0, (1, [])))], 3, [(3, 0, (0, [])), (3, 2, (0, [])), (3, 1, (0, [])), (1, 0, (2, []))]), ((0, []), (0, [])), [(606, 2), (656, 2)], [], ([], [], [(3, 0, 2, 606, (1, 0, (3, []))), (3, 1, 2, 656, (3, 2, (0, []))), (6, 1, 4, 656, (0, 0, (3, [])))], 0, []), [])
def gt_yJx4a65c_add_72be8_mb2 : ck_TB := ([], [], [], [], [(48, 6, 2, 0)], [], [], [], ([], [], [], []), [], [], [], 9)
def ge_yJx4a65c_add_72be8_mb2 : ck_E := (gT, [(56, 2)], gc_yJx4a65c_add_72be8_mb2, 4, [(0, (0, 3, 3, 0, 1, 0, [])), (1, (0, 5, 2, 0, 2, 0, [])), (2, (11, 0, 0, 0, 3, 0, [])), (3, (2, 1, 0, 0, 6, 11, [])), (11, (0, 5, 2, 0, 12, 0, [])), (12, (0, 3, 3, 0, 13, 0, [])), (13, (0, 5, 1, 0, 14, 0, [])), (14, (13, 53, 57, 0, 15, 0, [])), (15, (0, 5, 0, 0, 16, 0, [])), (16, (0, 3, 3, 0, 17, 0, [])), (17, (0, 0, 0, 1, 18, 0, [])), (18, (0, 15, 0, 0, 19, 0, [])), (19, (8, 6, 2, 0, 22, 0, [])), (22, (15, 0, 0, 0, 0, 0, []))], [], [], [], [])
theorem gk_yJx4a65c_add_72be8_mb2 : ck_chk ge_yJx4a65c_add_72be8_mb2 19 = true := by decide +kernel
theorem gd_yJx4a65c_add_72be8_mb2 : ck_dec prog_46_method_24_code gt_yJx4a65c_add_72be8_mb2 ge_yJx4a65c_add_72be8_mb2.2.2.2.2.1 = true := by decide +kernel
theorem gm_yJx4a65c_add_72be8_mb2 {l : Launch} {G : am_G} {X : ck_XT} (g : gE l G X) : ck_Con (am_cm l G yJx4a65c_add_72be8 (.code yJx4a65c_add_72be8 prog_46_method_24_code 4 none) 7 200) G X gT gc_yJx4a65c_add_72be8_mb2 :=
  ck_meth (E := ge_yJx4a65c_add_72be8_mb2) (tb := gt_yJx4a65c_add_72be8_mb2) (init := false) (cm := ck_cms []) g.1 g.2.1 g.2.2.1 g.2.2.2 gT_w (by decide +kernel) rfl rfl rfl (by decide) gk_yJx4a65c_add_72be8_mb2 gd_yJx4a65c_add_72be8_mb2 ⟨(List.forall_mem_nil _), (List.forall_mem_nil _), (List.forall_mem_nil _), (List.forall_mem_nil _), (List.forall_mem_nil _), (List.forall_mem_nil _), (List.forall_mem_nil _), (List.forall_mem_nil _)⟩ (List.forall_mem_cons.mpr ⟨⟨⟨_, _, _, rfl, Or.inl w1686⟩, by decide, _, rfl, Or.inl g_fd6_2⟩, (List.forall_mem_nil _)⟩) (fun h => nomatch h) rfl (by decide) (by decide) g_oi g_ar
    (fun s hk _ => (List.forall_mem_cons.mpr ⟨⟨by decide, by decide, am_asg_obj hk (ci := 2) rfl (by decide) w2503⟩, (List.forall_mem_nil _)⟩)) (fun s hk => (List.forall_mem_nil _)) (ck_cms_ok trivial)
    (List.forall_mem_nil _) (List.forall_mem_nil _) (List.forall_mem_nil _) (List.forall_mem_nil _)
    (List.forall_mem_nil _)
    (ck_no5 rfl)
def gc_yJx4a65c_add_9ea2d_mb2 : ck_KK := (([((-2147483648), 2147483647), (10, 24)], [], [(2, 0, 0, 606, (0, 0, (3, []))), (3, 0, 0, 606, (1, 0, (0, [(1, 0)]))), (3, 0, 1, 606, (3, 1, (0, []))), (2, 1, 0, 656, (0, 0, (0, [(1, 1)]))), (3, 0, 2, 606, (1, 0, (2, []))), (6, 1, 4, 656, (0, 0, (2, []))), (2, 2, 0, 41002, (0, 0, (1, [])))], 3, [(3, 0, (0, [])), (3, 2, (0, []))]), ((0, []), (0, [])), [(606, 0), (606, 2), (656, 2)], [], ([((-2147483648), 2147483647)], [], [(3, 0, 0, 606, (1, 0, (0, [(1, 2)]))), (3, 0, 2, 606, (1, 0, (3, []))), (3, 1, 2, 656, (3, 2, (0, []))), (6, 1, 4, 656, (0, 0, (3, [])))], 0, [(1, 0, (1, []))]), [])
def gt_yJx4a65c_add_9ea2d_mb2 : ck_TB := ([], [], [], [(9, 6, 1), (48, 6, 2), (63, 6, 0)], [(63, 6, 0, 0)], [], [], [], ([(131, 0)], [], [], []), [], [], [], 1)
def ge_yJx4a65c_add_9ea2d_mb2 : ck_E := (gT, [], gc_yJx4a65c_add_9ea2d_mb2, 2, [(0, (0, 5, 0, 0, 1, 0, [])), (1, (0, 12, 0, 0, 2, 0, [])), (2, (7, 6, 0, 0, 5, 0, [])), (5, (0, 0, 0, 1, 6, 0, [])), (6, (0, 15, 0, 0, 7, 0, [])), (7, (8, 6, 0, 0, 10, 0, [])), (10, (0, 5, 0, 0, 11, 0, [])), (11, (0, 5, 1, 0, 12, 0, [])), (12, (0, 5, 0, 0, 13, 0, [])), (13, (7, 6, 1, 0, 16, 0, [])), (16, (0, 5, 0, 0, 17, 0, [])), (17, (7, 6, 2, 0, 20, 0, [])), (20, (16, 0, 0, 0, 23, 0, [])), (23, (0, 0, 0, 1, 24, 0, [])), (24, (14, 0, 0, 1, 0, 0, []))], [(some 6, 4, [gc_yJx4a65c_add_72be8_mb2])], [], [], [])
theorem gk_yJx4a65c_add_9ea2d_mb2 : ck_chk ge_yJx4a65c_add_9ea2d_mb2 20 = true := by decide +kernel
theorem gd_yJx4a65c_add_9ea2d_mb2 : ck_dec prog_46_method_25_code gt_yJx4a65c_add_9ea2d_mb2 ge_yJx4a65c_add_9ea2d_mb2.2.2.2.2.1 = true := by decide +kernel
theorem gm_yJx4a65c_add_9ea2d_mb2 {l : Launch} {G : am_G} {X : ck_XT} (g : gE l G X) : ck_Con (am_cm l G yJx4a65c_add_9ea2d (.code yJx4a65c_add_9ea2d prog_46_method_25_code 2 (some .boolean)) 8 230) G X gT gc_yJx4a65c_add_9ea2d_mb2 :=
  ck_meth (E := ge_yJx4a65c_add_9ea2d_mb2) (tb := gt_yJx4a65c_add_9ea2d_mb2) (init := false) (cm := ck_cms [am_cm l G yJx4a65c_add_72be8 (.code yJx4a65c_add_72be8 prog_46_method_24_code 4 none) 7 200]) g.1 g.2.1 g.2.2.1 g.2.2.2 gT_w (by decide +kernel) rfl rfl rfl (by decide) gk_yJx4a65c_add_9ea2d_mb2 gd_yJx4a65c_add_9ea2d_mb2 ⟨(List.forall_mem_nil _), (List.forall_mem_nil _), (List.forall_mem_nil _), (List.forall_mem_cons.mpr ⟨⟨⟨_, _, _, rfl, Or.inl w1683⟩, by decide, _, _, g_fd6_1⟩, (List.forall_mem_cons.mpr ⟨⟨⟨_, _, _, rfl, Or.inl w1686⟩, by decide, _, _, g_fd6_2⟩, (List.forall_mem_cons.mpr ⟨⟨⟨_, _, _, rfl, Or.inr (Or.inr ⟨_, w1690, w1689⟩)⟩, by decide, _, _, g_fd6_0⟩, (List.forall_mem_nil _)⟩)⟩)⟩), (List.forall_mem_nil _), (List.forall_mem_nil _), (List.forall_mem_nil _), (List.forall_mem_nil _)⟩ (List.forall_mem_cons.mpr ⟨⟨⟨_, _, _, rfl, Or.inr (Or.inr ⟨_, w1690, w1689⟩)⟩, by decide, _, rfl, Or.inl g_fd6_0⟩, (List.forall_mem_nil _)⟩) (fun h => nomatch h) ⟨_, rfl, rfl⟩ (by decide) (by decide) g_oi g_ar
    (fun s hk _ => (List.forall_mem_nil _)) (fun s hk => (List.forall_mem_nil _)) (ck_cms_ok ⟨(List.forall_mem_cons.mpr ⟨((gm_yJx4a65c_add_72be8_mb2 g)), (List.forall_mem_nil _)⟩), trivial⟩)
    (List.forall_mem_cons.mpr ⟨(ck_kV g_y_yJx4a65c_add_72be8 w1821 w1823 w34 (T := TJx4a65c) (N := 3) rfl (by decide) (by decide) (by decide)), (List.forall_mem_nil _)⟩) (List.forall_mem_nil _) (List.forall_mem_nil _) (List.forall_mem_nil _)
    (List.forall_mem_nil _)
    (ck_no5 rfl)
def gc_yJx4a65c_add_72be8_mb3 : ck_KK := (([((-2147483648), 2147483647), (10, 24)], [], [(2, 0, 0, 606, (0, 0, (3, []))), (3, 0, 0, 606, (1, 0, (0, [(1, 0)]))), (3, 0, 1, 606, (3, 1, (0, []))), (2, 1, 0, 656, (0, 0, (0, [(1, 1)]))), (3, 0, 2, 606, (1, 0, (3, []))), (6, 1, 4, 656, (0, 0, (3, []))), (2, 2, 0, 41002, (0, 0, (1, [])))], 3, [(3, 0, (0, [])), (3, 2, (0, [])), (3, 1, (0, [])), (1, 0, (3, []))]), ((0, []), (0, [])), [(606, 2), (656, 3)], [], ([], [], [(3, 0, 2, 606, (1, 0, (4, []))), (3, 1, 3, 656, (3, 2, (0, []))), (6, 1, 4, 656, (0, 0, (4, [])))], 0, []), [])
def gt_yJx4a65c_add_72be8_mb3 : ck_TB := ([], [], [], [], [(48, 6, 2, 0)], [], [], [], ([], [], [], []), [], [], [], 9)
def ge_yJx4a65c_add_72be8_mb3 : ck_E := (gT, [(56, 2)], gc_yJx4a65c_add_72be8_mb3, 4, [(0, (0, 3, 3, 0, 1, 0, [])), (1, (0, 5, 2, 0, 2, 0, [])), (2, (11, 0, 0, 0, 3, 0, [])), (3, (2, 1, 0, 0, 6, 11, [])), (11, (0, 5, 2, 0, 12, 0, [])), (12, (0, 3, 3, 0, 13, 0, [])), (13, (0, 5, 1, 0, 14, 0, [])), (14, (13, 53, 57, 0, 15, 0, [])), (15, (0, 5, 0, 0, 16, 0, [])), (16, (0, 3, 3, 0, 17, 0, [])), (17, (0, 0, 0, 1, 18, 0, [])), (18, (0, 15, 0, 0, 19, 0, [])), (19, (8, 6, 2, 0, 22, 0, [])), (22, (15, 0, 0, 0, 0, 0, []))], [], [], [], [])
theorem gk_yJx4a65c_add_72be8_mb3 : ck_chk ge_yJx4a65c_add_72be8_mb3 19 = true := by decide +kernel
theorem gd_yJx4a65c_add_72be8_mb3 : ck_dec prog_46_method_24_code gt_yJx4a65c_add_72be8_mb3 ge_yJx4a65c_add_72be8_mb3.2.2.2.2.1 = true := by decide +kernel
theorem gm_yJx4a65c_add_72be8_mb3 {l : Launch} {G : am_G} {X : ck_XT} (g : gE l G X) : ck_Con (am_cm l G yJx4a65c_add_72be8 (.code yJx4a65c_add_72be8 prog_46_method_24_code 4 none) 7 200) G X gT gc_yJx4a65c_add_72be8_mb3 :=
  ck_meth (E := ge_yJx4a65c_add_72be8_mb3) (tb := gt_yJx4a65c_add_72be8_mb3) (init := false) (cm := ck_cms []) g.1 g.2.1 g.2.2.1 g.2.2.2 gT_w (by decide +kernel) rfl rfl rfl (by decide) gk_yJx4a65c_add_72be8_mb3 gd_yJx4a65c_add_72be8_mb3 ⟨(List.forall_mem_nil _), (List.forall_mem_nil _), (List.forall_mem_nil _), (List.forall_mem_nil _), (List.forall_mem_nil _), (List.forall_mem_nil _), (List.forall_mem_nil _), (List.forall_mem_nil _)⟩ (List.forall_mem_cons.mpr ⟨⟨⟨_, _, _, rfl, Or.inl w1686⟩, by decide, _, rfl, Or.inl g_fd6_2⟩, (List.forall_mem_nil _)⟩) (fun h => nomatch h) rfl (by decide) (by decide) g_oi g_ar
    (fun s hk _ => (List.forall_mem_cons.mpr ⟨⟨by decide, by decide, am_asg_obj hk (ci := 2) rfl (by decide) w2503⟩, (List.forall_mem_nil _)⟩)) (fun s hk => (List.forall_mem_nil _)) (ck_cms_ok trivial)
    (List.forall_mem_nil _) (List.forall_mem_nil _) (List.forall_mem_nil _) (List.forall_mem_nil _)
    (List.forall_mem_nil _)
    (ck_no5 rfl)
def gc_yJx4a65c_add_9ea2d_mb3 : ck_KK := (([((-2147483648), 2147483647), (10, 24)], [], [(2, 0, 0, 606, (0, 0, (3, []))), (3, 0, 0, 606, (1, 0, (0, [(1, 0)]))), (3, 0, 1, 606, (3, 1, (0, []))), (2, 1, 0, 656, (0, 0, (0, [(1, 1)]))), (3, 0, 2, 606, (1, 0, (3, []))), (6, 1, 4, 656, (0, 0, (3, []))), (2, 2, 0, 41002, (0, 0, (1, [])))], 3, [(3, 0, (0, [])), (3, 2, (0, []))]), ((0, []), (0, [])), [(606, 0), (606, 2), (656, 3)], [], ([((-2147483648), 2147483647)], [], [(3, 0, 0, 606, (1, 0, (0, [(1, 2)]))), (3, 0, 2, 606, (1, 0, (4, []))), (3, 1, 3, 656, (3, 2, (0, []))), (6, 1, 4, 656, (0, 0, (4, [])))], 0, [(1, 0, (1, []))]), [])
def gt_yJx4a65c_add_9ea2d_mb3 : ck_TB := ([], [], [], [(9, 6, 1), (48, 6, 2), (63, 6, 0)], [(63, 6, 0, 0)], [], [], [], ([(131, 0)], [], [], []), [], [], [], 1)
def ge_yJx4a65c_add_9ea2d_mb3 : ck_E := (gT, [], gc_yJx4a65c_add_9ea2d_mb3, 2, [(0, (0, 5, 0, 0, 1, 0, [])), (1, (0, 12, 0, 0, 2, 0, [])), (2, (7, 6, 0, 0, 5, 0, [])), (5, (0, 0, 0, 1, 6, 0, [])), (6, (0, 15, 0, 0, 7, 0, [])), (7, (8, 6, 0, 0, 10, 0, [])), (10, (0, 5, 0, 0, 11, 0, [])), (11, (0, 5, 1, 0, 12, 0, [])), (12, (0, 5, 0, 0, 13, 0, [])), (13, (7, 6, 1, 0, 16, 0, [])), (16, (0, 5, 0, 0, 17, 0, [])), (17, (7, 6, 2, 0, 20, 0, [])), (20, (16, 0, 0, 0, 23, 0, [])), (23, (0, 0, 0, 1, 24, 0, [])), (24, (14, 0, 0, 1, 0, 0, []))], [(some 6, 4, [gc_yJx4a65c_add_72be8_mb3])], [], [], [])
theorem gk_yJx4a65c_add_9ea2d_mb3 : ck_chk ge_yJx4a65c_add_9ea2d_mb3 20 = true := by decide +kernel
theorem gd_yJx4a65c_add_9ea2d_mb3 : ck_dec prog_46_method_25_code gt_yJx4a65c_add_9ea2d_mb3 ge_yJx4a65c_add_9ea2d_mb3.2.2.2.2.1 = true := by decide +kernel
theorem gm_yJx4a65c_add_9ea2d_mb3 {l : Launch} {G : am_G} {X : ck_XT} (g : gE l G X) : ck_Con (am_cm l G yJx4a65c_add_9ea2d (.code yJx4a65c_add_9ea2d prog_46_method_25_code 2 (some .boolean)) 8 230) G X gT gc_yJx4a65c_add_9ea2d_mb3 :=
  ck_meth (E := ge_yJx4a65c_add_9ea2d_mb3) (tb := gt_yJx4a65c_add_9ea2d_mb3) (init := false) (cm := ck_cms [am_cm l G yJx4a65c_add_72be8 (.code yJx4a65c_add_72be8 prog_46_method_24_code 4 none) 7 200]) g.1 g.2.1 g.2.2.1 g.2.2.2 gT_w (by decide +kernel) rfl rfl rfl (by decide) gk_yJx4a65c_add_9ea2d_mb3 gd_yJx4a65c_add_9ea2d_mb3 ⟨(List.forall_mem_nil _), (List.forall_mem_nil _), (List.forall_mem_nil _), (List.forall_mem_cons.mpr ⟨⟨⟨_, _, _, rfl, Or.inl w1683⟩, by decide, _, _, g_fd6_1⟩, (List.forall_mem_cons.mpr ⟨⟨⟨_, _, _, rfl, Or.inl w1686⟩, by decide, _, _, g_fd6_2⟩, (List.forall_mem_cons.mpr ⟨⟨⟨_, _, _, rfl, Or.inr (Or.inr ⟨_, w1690, w1689⟩)⟩, by decide, _, _, g_fd6_0⟩, (List.forall_mem_nil _)⟩)⟩)⟩), (List.forall_mem_nil _), (List.forall_mem_nil _), (List.forall_mem_nil _), (List.forall_mem_nil _)⟩ (List.forall_mem_cons.mpr ⟨⟨⟨_, _, _, rfl, Or.inr (Or.inr ⟨_, w1690, w1689⟩)⟩, by decide, _, rfl, Or.inl g_fd6_0⟩, (List.forall_mem_nil _)⟩) (fun h => nomatch h) ⟨_, rfl, rfl⟩ (by decide) (by decide) g_oi g_ar
    (fun s hk _ => (List.forall_mem_nil _)) (fun s hk => (List.forall_mem_nil _)) (ck_cms_ok ⟨(List.forall_mem_cons.mpr ⟨((gm_yJx4a65c_add_72be8_mb3 g)), (List.forall_mem_nil _)⟩), trivial⟩)
    (List.forall_mem_cons.mpr ⟨(ck_kV g_y_yJx4a65c_add_72be8 w1821 w1823 w34 (T := TJx4a65c) (N := 3) rfl (by decide) (by decide) (by decide)), (List.forall_mem_nil _)⟩) (List.forall_mem_nil _) (List.forall_mem_nil _) (List.forall_mem_nil _)
    (List.forall_mem_nil _)
    (ck_no5 rfl)
def gc_yJx4a65c_add_72be8_mb4 : ck_KK := (([((-2147483648), 2147483647), (10, 24)], [], [(2, 0, 0, 606, (0, 0, (3, []))), (3, 0, 0, 606, (1, 0, (0, [(1, 0)]))), (3, 0, 1, 606, (3, 1, (0, []))), (2, 1, 0, 656, (0, 0, (0, [(1, 1)]))), (3, 0, 2, 606, (1, 0, (4, []))), (6, 1, 4, 656, (0, 0, (4, []))), (2, 2, 0, 41002, (0, 0, (1, [])))], 3, [(3, 0, (0, [])), (3, 2, (0, [])), (3, 1, (0, [])), (1, 0, (4, []))]), ((0, []), (0, [])), [(606, 2), (656, 4)], [], ([], [], [(3, 0, 2, 606, (1, 0, (5, []))), (3, 1, 4, 656, (3, 2, (0, []))), (6, 1, 4, 656, (0, 0, (5, [])))], 0, []), [])
def gt_yJx4a65c_add_72be8_mb4 : ck_TB := ([], [], [], [], [(48, 6, 2, 0)], [], [], [], ([], [], [], []), [], [], [], 9)
def ge_yJx4a65c_add_72be8_mb4 : ck_E := (gT, [(56, 2)], gc_yJx4a65c_add_72be8_mb4, 4, [(0, (0, 3, 3, 0, 1, 0, [])), (1, (0, 5, 2, 0, 2, 0, [])), (2, (11, 0, 0, 0, 3, 0, [])), (3, (2, 1, 0, 0, 6, 11, [])), (11, (0, 5, 2, 0, 12, 0, [])), (12, (0, 3, 3, 0, 13, 0, [])), (13, (0, 5, 1, 0, 14, 0, [])), (14, (13, 53, 57, 0, 15, 0, [])), (15, (0, 5, 0, 0, 16, 0, [])), (16, (0, 3, 3, 0, 17, 0, [])), (17, (0, 0, 0, 1, 18, 0, [])), (18, (0, 15, 0, 0, 19, 0, [])), (19, (8, 6, 2, 0, 22, 0, [])), (22, (15, 0, 0, 0, 0, 0, []))], [], [], [], [])
theorem gk_yJx4a65c_add_72be8_mb4 : ck_chk ge_yJx4a65c_add_72be8_mb4 19 = true := by decide +kernel
theorem gd_yJx4a65c_add_72be8_mb4 : ck_dec prog_46_method_24_code gt_yJx4a65c_add_72be8_mb4 ge_yJx4a65c_add_72be8_mb4.2.2.2.2.1 = true := by decide +kernel
theorem gm_yJx4a65c_add_72be8_mb4 {l : Launch} {G : am_G} {X : ck_XT} (g : gE l G X) : ck_Con (am_cm l G yJx4a65c_add_72be8 (.code yJx4a65c_add_72be8 prog_46_method_24_code 4 none) 7 200) G X gT gc_yJx4a65c_add_72be8_mb4 :=
  ck_meth (E := ge_yJx4a65c_add_72be8_mb4) (tb := gt_yJx4a65c_add_72be8_mb4) (init := false) (cm := ck_cms []) g.1 g.2.1 g.2.2.1 g.2.2.2 gT_w (by decide +kernel) rfl rfl rfl (by decide) gk_yJx4a65c_add_72be8_mb4 gd_yJx4a65c_add_72be8_mb4 ⟨(List.forall_mem_nil _), (List.forall_mem_nil _), (List.forall_mem_nil _), (List.forall_mem_nil _), (List.forall_mem_nil _), (List.forall_mem_nil _), (List.forall_mem_nil _), (List.forall_mem_nil _)⟩ (List.forall_mem_cons.mpr ⟨⟨⟨_, _, _, rfl, Or.inl w1686⟩, by decide, _, rfl, Or.inl g_fd6_2⟩, (List.forall_mem_nil _)⟩) (fun h => nomatch h) rfl (by decide) (by decide) g_oi g_ar
    (fun s hk _ => (List.forall_mem_cons.mpr ⟨⟨by decide, by decide, am_asg_obj hk (ci := 2) rfl (by decide) w2503⟩, (List.forall_mem_nil _)⟩)) (fun s hk => (List.forall_mem_nil _)) (ck_cms_ok trivial)
    (List.forall_mem_nil _) (List.forall_mem_nil _) (List.forall_mem_nil _) (List.forall_mem_nil _)
    (List.forall_mem_nil _)
    (ck_no5 rfl)
def gc_yJx4a65c_add_9ea2d_mb4 : ck_KK := (([((-2147483648), 2147483647), (10, 24)], [], [(2, 0, 0, 606, (0, 0, (3, []))), (3, 0, 0, 606, (1, 0, (0, [(1, 0)]))), (3, 0, 1, 606, (3, 1, (0, []))), (2, 1, 0, 656, (0, 0, (0, [(1, 1)]))), (3, 0, 2, 606, (1, 0, (4, []))), (6, 1, 4, 656, (0, 0, (4, []))), (2, 2, 0, 41002, (0, 0, (1, [])))], 3, [(3, 0, (0, [])), (3, 2, (0, []))]), ((0, []), (0, [])), [(606, 0), (606, 2), (656, 4)], [], ([((-2147483648), 2147483647)], [], [(3, 0, 0, 606, (1, 0, (0, [(1, 2)]))), (3, 0, 2, 606, (1, 0, (5, []))), (3, 1, 4, 656, (3, 2, (0, []))), (6, 1, 4, 656, (0, 0, (5, [])))], 0, [(1, 0, (1, []))]), [])
def gt_yJx4a65c_add_9ea2d_mb4 : ck_TB := ([], [], [], [(9, 6, 1), (48, 6, 2), (63, 6, 0)], [(63, 6, 0, 0)], [], [], [], ([(131, 0)], [], [], []), [], [], [], 1)
def ge_yJx4a65c_add_9ea2d_mb4 : ck_E := (gT, [], gc_yJx4a65c_add_9ea2d_mb4, 2, [(0, (0, 5, 0, 0, 1, 0, [])), (1, (0, 12, 0, 0, 2, 0, [])), (2, (7, 6, 0, 0, 5, 0, [])), (5, (0, 0, 0, 1, 6, 0, [])), (6, (0, 15, 0, 0, 7, 0, [])), (7, (8, 6, 0, 0, 10, 0, [])), (10, (0, 5, 0, 0, 11, 0, [])), (11, (0, 5, 1, 0, 12, 0, [])), (12, (0, 5, 0, 0, 13, 0, [])), (13, (7, 6, 1, 0, 16, 0, [])), (16, (0, 5, 0, 0, 17, 0, [])), (17, (7, 6, 2, 0, 20, 0, [])), (20, (16, 0, 0, 0, 23, 0, [])), (23, (0, 0, 0, 1, 24, 0, [])), (24, (14, 0, 0, 1, 0, 0, []))], [(some 6, 4, [gc_yJx4a65c_add_72be8_mb4])], [], [], [])
theorem gk_yJx4a65c_add_9ea2d_mb4 : ck_chk ge_yJx4a65c_add_9ea2d_mb4 20 = true := by decide +kernel
theorem gd_yJx4a65c_add_9ea2d_mb4 : ck_dec prog_46_method_25_code gt_yJx4a65c_add_9ea2d_mb4 ge_yJx4a65c_add_9ea2d_mb4.2.2.2.2.1 = true := by decide +kernel
theorem gm_yJx4a65c_add_9ea2d_mb4 {l : Launch} {G : am_G} {X : ck_XT} (g : gE l G X) : ck_Con (am_cm l G yJx4a65c_add_9ea2d (.code yJx4a65c_add_9ea2d prog_46_method_25_code 2 (some .boolean)) 8 230) G X gT gc_yJx4a65c_add_9ea2d_mb4 :=
  ck_meth (E := ge_yJx4a65c_add_9ea2d_mb4) (tb := gt_yJx4a65c_add_9ea2d_mb4) (init := false) (cm := ck_cms [am_cm l G yJx4a65c_add_72be8 (.code yJx4a65c_add_72be8 prog_46_method_24_code 4 none) 7 200]) g.1 g.2.1 g.2.2.1 g.2.2.2 gT_w (by decide +kernel) rfl rfl rfl (by decide) gk_yJx4a65c_add_9ea2d_mb4 gd_yJx4a65c_add_9ea2d_mb4 ⟨(List.forall_mem_nil _), (List.forall_mem_nil _), (List.forall_mem_nil _), (List.forall_mem_cons.mpr ⟨⟨⟨_, _, _, rfl, Or.inl w1683⟩, by decide, _, _, g_fd6_1⟩, (List.forall_mem_cons.mpr ⟨⟨⟨_, _, _, rfl, Or.inl w1686⟩, by decide, _, _, g_fd6_2⟩, (List.forall_mem_cons.mpr ⟨⟨⟨_, _, _, rfl, Or.inr (Or.inr ⟨_, w1690, w1689⟩)⟩, by decide, _, _, g_fd6_0⟩, (List.forall_mem_nil _)⟩)⟩)⟩), (List.forall_mem_nil _), (List.forall_mem_nil _), (List.forall_mem_nil _), (List.forall_mem_nil _)⟩ (List.forall_mem_cons.mpr ⟨⟨⟨_, _, _, rfl, Or.inr (Or.inr ⟨_, w1690, w1689⟩)⟩, by decide, _, rfl, Or.inl g_fd6_0⟩, (List.forall_mem_nil _)⟩) (fun h => nomatch h) ⟨_, rfl, rfl⟩ (by decide) (by decide) g_oi g_ar
    (fun s hk _ => (List.forall_mem_nil _)) (fun s hk => (List.forall_mem_nil _)) (ck_cms_ok ⟨(List.forall_mem_cons.mpr ⟨((gm_yJx4a65c_add_72be8_mb4 g)), (List.forall_mem_nil _)⟩), trivial⟩)
    (List.forall_mem_cons.mpr ⟨(ck_kV g_y_yJx4a65c_add_72be8 w1821 w1823 w34 (T := TJx4a65c) (N := 3) rfl (by decide) (by decide) (by decide)), (List.forall_mem_nil _)⟩) (List.forall_mem_nil _) (List.forall_mem_nil _) (List.forall_mem_nil _)
    (List.forall_mem_nil _)
    (ck_no5 rfl)
end
section
/-! KEPT LISTS -/
theorem li_kt {G : am_G} (h : ck_KT G gT) : ck_KT G gTl := fun n d hd => by
  rcases li_lrows hd with ⟨z, -⟩ | ⟨z, -⟩
  · omega
  · exact h n d z
theorem li_gEl {l : Launch} {G : am_G} {X : ck_XT} (g : gE l G X) : gEl l G li_XL := ⟨g.1, li_XLO, li_XL0, li_kt g.2.2.2⟩
theorem li_add_r {l : Launch} {G : am_G} {X : ck_XT} (g : gE l G X) : ck_Con (ck_lift G (am_cn l G yJx4a65c_add_9ea2d (.code yJx4a65c_add_9ea2d prog_46_method_25_code 2 (some .boolean)) 8 230)) G li_X gT (li_addK li_fr) :=
  li_add_con (by decide) (by decide) (by decide) (am_cnG_ok (gm_yJx4a65c_add_9ea2d_zre (li_gEl g)) rfl) (fun k hk => by
    match k, hk with
    | 0, _ => exact ⟨10, by decide, by decide, am_cnG_ok (gm_yJx4a65c_add_9ea2d_zr0 (li_gEl g)) rfl⟩
    | 1, _ => exact ⟨10, by decide, by decide, am_cnG_ok (gm_yJx4a65c_add_9ea2d_zr1 (li_gEl g)) rfl⟩
    | 2, _ => exact ⟨10, by decide, by decide, am_cnG_ok (gm_yJx4a65c_add_9ea2d_zr2 (li_gEl g)) rfl⟩
    | 3, _ => exact ⟨10, by decide, by decide, am_cnG_ok (gm_yJx4a65c_add_9ea2d_zr3 (li_gEl g)) rfl⟩
    | 4, _ => exact ⟨10, by decide, by decide, am_cnG_ok (gm_yJx4a65c_add_9ea2d_zr4 (li_gEl g)) rfl⟩
    | 5, _ => exact ⟨10, by decide, by decide, am_cnG_ok (gm_yJx4a65c_add_9ea2d_zr5 (li_gEl g)) rfl⟩
    | k + 6, hk => exact absurd hk (by show ¬ (((k + 6 : Nat) : Int) < 6); omega)) (fun k h1 h2 => absurd h2 (by show ¬ ((k : Int) < 6); omega))
theorem li_rem_r {l : Launch} {G : am_G} {X : ck_XT} (g : gE l G X) : ck_Con (ck_lift G (am_cn l G yJx4a65c_remove_915e3 (.code yJx4a65c_remove_915e3 prog_46_method_29_code 4 (some (.object "java/lang/Object"))) 3 82)) G li_X gT (li_remK li_fr) :=
  li_rem_con (by decide) (by decide) (by decide) (am_cnG_ok (gm_yJx4a65c_remove_915e3_zr (li_gEl g)) rfl)
theorem li_add_s {l : Launch} {G : am_G} {X : ck_XT} (g : gE l G X) : ck_Con (ck_lift G (am_cn l G yJx4a65c_add_9ea2d (.code yJx4a65c_add_9ea2d prog_46_method_25_code 2 (some .boolean)) 8 230)) G li_X gT (li_addK li_fs) :=
  li_add_con (by decide) (by decide) (by decide) (am_cnG_ok (gm_yJx4a65c_add_9ea2d_zse (li_gEl g)) rfl) (fun k hk => by
    match k, hk with
    | 0, _ => exact ⟨10, by decide, by decide, am_cnG_ok (gm_yJx4a65c_add_9ea2d_zs0 (li_gEl g)) rfl⟩
    | 1, _ => exact ⟨10, by decide, by decide, am_cnG_ok (gm_yJx4a65c_add_9ea2d_zs1 (li_gEl g)) rfl⟩
    | 2, _ => exact ⟨10, by decide, by decide, am_cnG_ok (gm_yJx4a65c_add_9ea2d_zs2 (li_gEl g)) rfl⟩
    | 3, _ => exact ⟨10, by decide, by decide, am_cnG_ok (gm_yJx4a65c_add_9ea2d_zs3 (li_gEl g)) rfl⟩
    | 4, _ => exact ⟨10, by decide, by decide, am_cnG_ok (gm_yJx4a65c_add_9ea2d_zs4 (li_gEl g)) rfl⟩
    | 5, _ => exact ⟨10, by decide, by decide, am_cnG_ok (gm_yJx4a65c_add_9ea2d_zs5 (li_gEl g)) rfl⟩
    | 6, _ => exact ⟨10, by decide, by decide, am_cnG_ok (gm_yJx4a65c_add_9ea2d_zs6 (li_gEl g)) rfl⟩
    | 7, _ => exact ⟨10, by decide, by decide, am_cnG_ok (gm_yJx4a65c_add_9ea2d_zs7 (li_gEl g)) rfl⟩
    | 8, _ => exact ⟨10, by decide, by decide, am_cnG_ok (gm_yJx4a65c_add_9ea2d_zs8 (li_gEl g)) rfl⟩
    | 9, _ => exact ⟨10, by decide, by decide, am_cnG_ok (gm_yJx4a65c_add_9ea2d_zs9 (li_gEl g)) rfl⟩
    | 10, _ => exact ⟨11, by decide, by decide, am_cnG_ok (gm_yJx4a65c_add_9ea2d_zs10 (li_gEl g)) rfl⟩
    | 11, _ => exact ⟨12, by decide, by decide, am_cnG_ok (gm_yJx4a65c_add_9ea2d_zs11 (li_gEl g)) rfl⟩
    | 12, _ => exact ⟨13, by decide, by decide, am_cnG_ok (gm_yJx4a65c_add_9ea2d_zs12 (li_gEl g)) rfl⟩
    | k + 13, hk => exact absurd hk (by show ¬ (((k + 13 : Nat) : Int) < 13); omega)) (fun k h1 h2 => by
    match k, h1, h2 with
    | 10, _, _ => exact am_cnG_ok (gm_yJx4a65c_add_9ea2d_zg10 (li_gEl g)) rfl
    | 11, _, _ => exact am_cnG_ok (gm_yJx4a65c_add_9ea2d_zg11 (li_gEl g)) rfl
    | 12, _, _ => exact am_cnG_ok (gm_yJx4a65c_add_9ea2d_zg12 (li_gEl g)) rfl
    | 0, h1, _ => exact absurd h1 (by decide)
    | 1, h1, _ => exact absurd h1 (by decide)
    | 2, h1, _ => exact absurd h1 (by decide)
    | 3, h1, _ => exact absurd h1 (by decide)
    | 4, h1, _ => exact absurd h1 (by decide)
    | 5, h1, _ => exact absurd h1 (by decide)
    | 6, h1, _ => exact absurd h1 (by decide)
    | 7, h1, _ => exact absurd h1 (by decide)
    | 8, h1, _ => exact absurd h1 (by decide)
    | 9, h1, _ => exact absurd h1 (by decide)
    | k + 13, _, h2 => exact absurd h2 (by show ¬ (((k + 13 : Nat) : Int) < 13); omega))
theorem li_rem_s {l : Launch} {G : am_G} {X : ck_XT} (g : gE l G X) : ck_Con (ck_lift G (am_cn l G yJx4a65c_remove_915e3 (.code yJx4a65c_remove_915e3 prog_46_method_29_code 4 (some (.object "java/lang/Object"))) 3 82)) G li_X gT (li_remK li_fs) :=
  li_rem_con (by decide) (by decide) (by decide) (am_cnG_ok (gm_yJx4a65c_remove_915e3_zs (li_gEl g)) rfl)
theorem li_addb_0 {l : Launch} {G : am_G} {X : ck_XT} (g : gE l G X) : ck_Con (ck_lift G (am_cn l G yJx4a65c_add_9ea2d (.code yJx4a65c_add_9ea2d prog_46_method_25_code 2 (some .boolean)) 8 230)) G li_X gT (li_addbK 0) :=
  li_addb_con (by decide) (am_cnG_ok (gm_yJx4a65c_add_9ea2d_zbe (li_gEl g)) rfl) (fun k hk => by
    match k, hk with
    | 0, _ => exact ⟨10, by decide, by decide, am_cnG_ok (gm_yJx4a65c_add_9ea2d_zb0 (li_gEl g)) rfl⟩
    | 1, _ => exact ⟨10, by decide, by decide, am_cnG_ok (gm_yJx4a65c_add_9ea2d_zb1 (li_gEl g)) rfl⟩
    | 2, _ => exact ⟨10, by decide, by decide, am_cnG_ok (gm_yJx4a65c_add_9ea2d_zb2 (li_gEl g)) rfl⟩
    | 3, _ => exact ⟨10, by decide, by decide, am_cnG_ok (gm_yJx4a65c_add_9ea2d_zb3 (li_gEl g)) rfl⟩
    | 4, _ => exact ⟨10, by decide, by decide, am_cnG_ok (gm_yJx4a65c_add_9ea2d_zb4 (li_gEl g)) rfl⟩
    | k + 5, hk => exact absurd hk (by show ¬ (((k + 5 : Nat) : Int) < 5); omega))
theorem li_remb_0 {l : Launch} {G : am_G} {X : ck_XT} (g : gE l G X) : ck_Con (ck_lift G (am_cn l G yJx4a65c_remove_915e3 (.code yJx4a65c_remove_915e3 prog_46_method_29_code 4 (some (.object "java/lang/Object"))) 3 82)) G li_X gT (li_rembK 0) :=
  li_remb_con (by decide) (am_cnG_ok (gm_yJx4a65c_remove_915e3_zb1 (li_gEl g)) rfl)
theorem li_addb_1 {l : Launch} {G : am_G} {X : ck_XT} (g : gE l G X) : ck_Con (ck_lift G (am_cn l G yJx4a65c_add_9ea2d (.code yJx4a65c_add_9ea2d prog_46_method_25_code 2 (some .boolean)) 8 230)) G li_X gT (li_addbK 1) :=
  li_addb_con (by decide) (am_cnG_ok (gm_yJx4a65c_add_9ea2d_zbe (li_gEl g)) rfl) (fun k hk => by
    match k, hk with
    | 0, _ => exact ⟨10, by decide, by decide, am_cnG_ok (gm_yJx4a65c_add_9ea2d_zb0 (li_gEl g)) rfl⟩
    | 1, _ => exact ⟨10, by decide, by decide, am_cnG_ok (gm_yJx4a65c_add_9ea2d_zb1 (li_gEl g)) rfl⟩
    | 2, _ => exact ⟨10, by decide, by decide, am_cnG_ok (gm_yJx4a65c_add_9ea2d_zb2 (li_gEl g)) rfl⟩
    | 3, _ => exact ⟨10, by decide, by decide, am_cnG_ok (gm_yJx4a65c_add_9ea2d_zb3 (li_gEl g)) rfl⟩
    | 4, _ => exact ⟨10, by decide, by decide, am_cnG_ok (gm_yJx4a65c_add_9ea2d_zb4 (li_gEl g)) rfl⟩
    | k + 5, hk => exact absurd hk (by show ¬ (((k + 5 : Nat) : Int) < 5); omega))
theorem li_remb_1 {l : Launch} {G : am_G} {X : ck_XT} (g : gE l G X) : ck_Con (ck_lift G (am_cn l G yJx4a65c_remove_915e3 (.code yJx4a65c_remove_915e3 prog_46_method_29_code 4 (some (.object "java/lang/Object"))) 3 82)) G li_X gT (li_rembK 1) :=
  li_remb_con (by decide) (am_cnG_ok (gm_yJx4a65c_remove_915e3_zb2 (li_gEl g)) rfl)
theorem li_addb_2 {l : Launch} {G : am_G} {X : ck_XT} (g : gE l G X) : ck_Con (ck_lift G (am_cn l G yJx4a65c_add_9ea2d (.code yJx4a65c_add_9ea2d prog_46_method_25_code 2 (some .boolean)) 8 230)) G li_X gT (li_addbK 2) :=
  li_addb_con (by decide) (am_cnG_ok (gm_yJx4a65c_add_9ea2d_zbe (li_gEl g)) rfl) (fun k hk => by
    match k, hk with
    | 0, _ => exact ⟨10, by decide, by decide, am_cnG_ok (gm_yJx4a65c_add_9ea2d_zb0 (li_gEl g)) rfl⟩
    | 1, _ => exact ⟨10, by decide, by decide, am_cnG_ok (gm_yJx4a65c_add_9ea2d_zb1 (li_gEl g)) rfl⟩
    | 2, _ => exact ⟨10, by decide, by decide, am_cnG_ok (gm_yJx4a65c_add_9ea2d_zb2 (li_gEl g)) rfl⟩
    | 3, _ => exact ⟨10, by decide, by decide, am_cnG_ok (gm_yJx4a65c_add_9ea2d_zb3 (li_gEl g)) rfl⟩
    | 4, _ => exact ⟨10, by decide, by decide, am_cnG_ok (gm_yJx4a65c_add_9ea2d_zb4 (li_gEl g)) rfl⟩
    | k + 5, hk => exact absurd hk (by show ¬ (((k + 5 : Nat) : Int) < 5); omega))
theorem li_remb_2 {l : Launch} {G : am_G} {X : ck_XT} (g : gE l G X) : ck_Con (ck_lift G (am_cn l G yJx4a65c_remove_915e3 (.code yJx4a65c_remove_915e3 prog_46_method_29_code 4 (some (.object "java/lang/Object"))) 3 82)) G li_X gT (li_rembK 2) :=
  li_remb_con (by decide) (am_cnG_ok (gm_yJx4a65c_remove_915e3_zb3 (li_gEl g)) rfl)
theorem li_addb_3 {l : Launch} {G : am_G} {X : ck_XT} (g : gE l G X) : ck_Con (ck_lift G (am_cn l G yJx4a65c_add_9ea2d (.code yJx4a65c_add_9ea2d prog_46_method_25_code 2 (some .boolean)) 8 230)) G li_X gT (li_addbK 3) :=
  li_addb_con (by decide) (am_cnG_ok (gm_yJx4a65c_add_9ea2d_zbe (li_gEl g)) rfl) (fun k hk => by
    match k, hk with
    | 0, _ => exact ⟨10, by decide, by decide, am_cnG_ok (gm_yJx4a65c_add_9ea2d_zb0 (li_gEl g)) rfl⟩
    | 1, _ => exact ⟨10, by decide, by decide, am_cnG_ok (gm_yJx4a65c_add_9ea2d_zb1 (li_gEl g)) rfl⟩
    | 2, _ => exact ⟨10, by decide, by decide, am_cnG_ok (gm_yJx4a65c_add_9ea2d_zb2 (li_gEl g)) rfl⟩
    | 3, _ => exact ⟨10, by decide, by decide, am_cnG_ok (gm_yJx4a65c_add_9ea2d_zb3 (li_gEl g)) rfl⟩
    | 4, _ => exact ⟨10, by decide, by decide, am_cnG_ok (gm_yJx4a65c_add_9ea2d_zb4 (li_gEl g)) rfl⟩
    | k + 5, hk => exact absurd hk (by show ¬ (((k + 5 : Nat) : Int) < 5); omega))
theorem li_remb_3 {l : Launch} {G : am_G} {X : ck_XT} (g : gE l G X) : ck_Con (ck_lift G (am_cn l G yJx4a65c_remove_915e3 (.code yJx4a65c_remove_915e3 prog_46_method_29_code 4 (some (.object "java/lang/Object"))) 3 82)) G li_X gT (li_rembK 3) :=
  li_remb_con (by decide) (am_cnG_ok (gm_yJx4a65c_remove_915e3_zb4 (li_gEl g)) rfl)
theorem li_addb_4 {l : Launch} {G : am_G} {X : ck_XT} (g : gE l G X) : ck_Con (ck_lift G (am_cn l G yJx4a65c_add_9ea2d (.code yJx4a65c_add_9ea2d prog_46_method_25_code 2 (some .boolean)) 8 230)) G li_X gT (li_addbK 4) :=
  li_addb_con (by decide) (am_cnG_ok (gm_yJx4a65c_add_9ea2d_zbe (li_gEl g)) rfl) (fun k hk => by
    match k, hk with
    | 0, _ => exact ⟨10, by decide, by decide, am_cnG_ok (gm_yJx4a65c_add_9ea2d_zb0 (li_gEl g)) rfl⟩
    | 1, _ => exact ⟨10, by decide, by decide, am_cnG_ok (gm_yJx4a65c_add_9ea2d_zb1 (li_gEl g)) rfl⟩
    | 2, _ => exact ⟨10, by decide, by decide, am_cnG_ok (gm_yJx4a65c_add_9ea2d_zb2 (li_gEl g)) rfl⟩
    | 3, _ => exact ⟨10, by decide, by decide, am_cnG_ok (gm_yJx4a65c_add_9ea2d_zb3 (li_gEl g)) rfl⟩
    | 4, _ => exact ⟨10, by decide, by decide, am_cnG_ok (gm_yJx4a65c_add_9ea2d_zb4 (li_gEl g)) rfl⟩
    | k + 5, hk => exact absurd hk (by show ¬ (((k + 5 : Nat) : Int) < 5); omega))
theorem li_remb_4 {l : Launch} {G : am_G} {X : ck_XT} (g : gE l G X) : ck_Con (ck_lift G (am_cn l G yJx4a65c_remove_915e3 (.code yJx4a65c_remove_915e3 prog_46_method_29_code 4 (some (.object "java/lang/Object"))) 3 82)) G li_X gT (li_rembK 4) :=
  li_remb_con (by decide) (am_cnG_ok (gm_yJx4a65c_remove_915e3_zb5 (li_gEl g)) rfl)
end
