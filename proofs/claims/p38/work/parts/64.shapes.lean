/-! WHAT THE LISTS' OWN METHODS DO TO RAW LISTS -/
def li_Ke (F : li_F) : ck_KK := (([(-2147483648, 2147483647)], [], [(2, 0, 0, 506, (0, 0, (3, []))), (3, 0, 0, 506, (1, 0, (0, [(1, 0)]))), (3, 0, 1, 506, (3, 1, (0, []))), (2, 1, 0, 43056, (0, 0, (0, []))), (3, 0, 2, 506, (1, 0, (0, []))), (2, 2, 0, F.2.2.2.1, (0, 0, ((F.2.2.2.2.1 : Int), [])))], 3, [(3, 0, (0, [])), (3, 2, (0, []))]), ((1, []), (11, [])), [(506, 0), (506, 1), (506, 2)], [], ([(-2147483648, 2147483647), (10, 11)], [], [(3, 0, 0, 506, (1, 0, (0, [(1, 1)]))), (3, 0, 1, 506, (3, 3, (0, []))), (2, 3, 0, F.2.2.1, (0, 0, (0, [(1, 2)]))), (5, 3, 0, 0, (0, 0, (0, []))), (6, 3, 4, F.2.2.1, (0, 0, (1, []))), (3, 0, 2, 506, (1, 0, (1, []))), (3, 3, 0, F.2.2.1, (3, 2, (0, [])))], 1, [(1, 0, (1, []))]), [])
def li_Kk (F : li_F) (k : Nat) (lo : Int) : ck_KK := (([(-2147483648, 2147483647), (lo, 24)], [], [(2, 0, 0, 506, (0, 0, (3, []))), (3, 0, 0, 506, (1, 0, (0, [(1, 0)]))), (3, 0, 1, 506, (3, 1, (0, []))), (2, 1, 0, F.2.2.1, (0, 0, (0, [(1, 1)]))), (3, 0, 2, 506, (1, 0, ((k : Int), []))), (6, 1, 4, F.2.2.1, (0, 0, ((k : Int), []))), (2, 2, 0, F.2.2.2.1, (0, 0, ((F.2.2.2.2.1 : Int), [])))], 3, [(3, 0, (0, [])), (3, 2, (0, []))]), ((0, []), (0, [])), [(506, 0), (506, 2), (F.2.2.1, k)], [], ([(-2147483648, 2147483647)], [], [(3, 0, 0, 506, (1, 0, (0, [(1, 2)]))), (3, 0, 2, 506, (1, 0, (((k + 1 : Nat) : Int), []))), (3, 1, k, F.2.2.1, (3, 2, (0, []))), (6, 1, 4, F.2.2.1, (0, 0, (((k + 1 : Nat) : Int), [])))], 0, [(1, 0, (1, []))]), [])
def li_Kg (F : li_F) (k : Nat) : ck_KK := (([(-2147483648, 2147483647)], [], [(2, 0, 0, 506, (0, 0, (3, []))), (3, 0, 0, 506, (1, 0, (0, [(1, 0)]))), (3, 0, 1, 506, (3, 1, (0, []))), (2, 1, 0, F.2.2.1, (0, 0, ((k : Int), []))), (3, 0, 2, 506, (1, 0, ((k : Int), []))), (6, 1, 4, F.2.2.1, (0, 0, ((k : Int), []))), (2, 2, 0, F.2.2.2.1, (0, 0, ((F.2.2.2.2.1 : Int), [])))], 3, [(3, 0, (0, [])), (3, 2, (0, []))]), ((1, []), (20, [])), [(506, 0), (506, 1), (506, 2), (F.2.2.1, 1000)], [], ([(-2147483648, 2147483647), (15, 20)], [], [(3, 0, 0, 506, (1, 0, (0, [(1, 1)]))), (3, 0, 1, 506, (3, 3, (0, []))), (2, 3, 0, F.2.2.1, (0, 0, (0, [(1, 2)]))), (5, 3, 0, 0, (0, 0, (0, []))), (6, 3, 4, F.2.2.1, (0, 0, (((k + 1 : Nat) : Int), []))), (3, 0, 2, 506, (1, 0, (((k + 1 : Nat) : Int), [])))], 1, [(1, 0, (1, []))]), [])
def li_Kr (F : li_F) : ck_KK := (([(-2147483648, 2147483647), (10, 24), (1, 13), (0, 12)], [(0, [(1, 1), (-1, 2)]), (-1, [(1, 2), (-1, 3)])], [(2, 0, 0, 506, (0, 0, (3, []))), (3, 0, 0, 506, (1, 0, (0, [(1, 0)]))), (3, 0, 1, 506, (3, 1, (0, []))), (2, 1, 0, F.2.2.1, (0, 0, (0, [(1, 1)]))), (3, 0, 2, 506, (1, 0, (0, [(1, 2)]))), (6, 1, 4, F.2.2.1, (0, 0, (0, [(1, 2)])))], 2, [(3, 0, (0, [])), (1, 0, (0, [(1, 3)]))]), ((0, []), (0, [])), [(506, 0), (506, 2), (F.2.2.1, 1000)], [], ([(-2147483648, 2147483647)], [], [(2, 2, 0, F.2.2.2.1, (0, 0, ((F.2.2.2.2.1 : Int), []))), (3, 0, 0, 506, (1, 0, (0, [(1, 4)]))), (3, 0, 2, 506, (1, 0, (-1, [(1, 2)]))), (6, 1, 4, F.2.2.1, (0, 0, (-1, [(1, 2)])))], 1, [(3, 2, (0, []))]), [])
/-- the last of k + 1 -/
def li_Kb (F : li_F) (k : Nat) : ck_KK := (([(-2147483648, 2147483647), (10, 24)], [], [(2, 0, 0, 506, (0, 0, (3, []))), (3, 0, 0, 506, (1, 0, (0, [(1, 0)]))), (3, 0, 1, 506, (3, 1, (0, []))), (2, 1, 0, F.2.2.1, (0, 0, (0, [(1, 1)]))), (3, 0, 2, 506, (1, 0, (((k + 1 : Nat) : Int), []))), (6, 1, 4, F.2.2.1, (0, 0, (((k + 1 : Nat) : Int), [])))], 2, [(3, 0, (0, [])), (1, 0, ((k : Int), []))]), ((0, []), (0, [])), [(506, 0), (506, 2), (F.2.2.1, k)], [], ([(-2147483648, 2147483647)], [], [(2, 2, 0, F.2.2.2.1, (0, 0, ((F.2.2.2.2.1 : Int), []))), (3, 0, 0, 506, (1, 0, (0, [(1, 2)]))), (3, 0, 2, 506, (1, 0, ((k : Int), []))), (6, 1, 4, F.2.2.1, (0, 0, ((k : Int), [])))], 1, [(3, 2, (0, []))]), [])
theorem li_in0 : ck_In [] [] := ⟨rfl, fun _ _ _ _ h => nomatch h⟩
theorem li_in {a b x : Int} {V : ck_I} {r : List Int} (h1 : a ≤ x) (h2 : x ≤ b) (H : ck_In V r) : ck_In ((a, b) :: V) (x :: r) := by
  refine ⟨by rw [List.length_cons, List.length_cons, H.1], fun i a' b' x' e1 e2 => ?_⟩
  cases i with
  | zero => cases e1; cases e2; exact ⟨h1, h2⟩
  | succ i => exact H.2 i a' b' x' e1 e2
theorem li_in' {a b x : Int} {V : ck_I} {r : List Int} (H : ck_In ((a, b) :: V) (x :: r)) : a ≤ x ∧ x ≤ b := H.2 0 a b x rfl rfl
theorem li_three {vs : List Value} {a b c : Value} (h : vs.length = 3) (h0 : vs[0]? = some a) (h1 : vs[1]? = some b) (h2 : vs[2]? = some c) : vs = [a, b, c] := by
  match vs, h with
  | [x, y, z], _ => cases h0; cases h1; cases h2; rfl
theorem li_k {r : List Int} {c x : Int} (h : ck_Lv r (c, []) x) : x = c := h.fn (ck_Lv.k r c)
theorem li_i32 (x : Int32) : -2147483648 ≤ x.toInt ∧ x.toInt ≤ 2147483647 := ⟨Int32.le_toInt x, Int32.toInt_le x⟩
/-- a list behind a method: its changes, its row, how many -/
def li_aft (F : li_F) (G : am_G) (K : Int32) (M : List (Nat × Nat)) (h1 h' : List am_C) (q : Nat) (mc2 n2 : Int32) (p2 : Nat) (w2 : List Value) : Prop :=
  ck_HT li_XL gTl K (am_g G h') ∧ ck_Kp M [] (am_g G h1) (am_g G h') ∧ am_g G h' q = some (506, [.int mc2, .ref p2, .int n2]) ∧ am_g G h' p2 = some (F.2.2.1, w2) ∧ 10 ≤ w2.length ∧ w2.length ≤ 24 ∧ ∀ k : Nat, (k : Int) < n2.toInt → ∃ q : Nat, w2[k]? = some (.ref q)
theorem li_len {M : List (Nat × Nat)} {s : List Nat} {G : am_G} {h1 h' : List am_C} (k2 : ck_Kp M (ck_rq [] s) (am_g G h1) (am_g G h')) {q t : Nat} {vs : List Value} (hq : am_g G h1 q = some (t, vs)) : ∃ vs' : List Value, am_g G h' q = some (t, vs') ∧ vs'.length = vs.length := by
  rcases k2 q t vs hq with ⟨z, -⟩ | ⟨vs', z1, z2, -⟩
  · cases z
  · exact ⟨vs', z1, z2⟩
theorem li_one1 {r : List Int} {s : List Nat} {v : Option Value} (h : ck_stk r s [(1, 0, (1, []))] v.toList) : (Sum.inl v : am_O) = .inl (some (.int 1)) := by
  cases v with
  | none => exact h.elim
  | some v =>
    obtain ⟨⟨x, rfl, h2⟩, -⟩ := h
    have : x = 1 := Int32.toInt_inj.mp ((li_k h2).trans (by decide))
    rw [this]
section LISH
variable {G : am_G} {CM : ck_CM} {F : li_F} {K : Int32} {h1 : List am_C} {q p e : Nat} {mc n : Int32} {ws ves : List Value}
set_option maxHeartbeats 2000000 in
theorem li_she (hc : ck_Con (am_grow CM) G li_XL gTl (li_Ke F)) (hH : ck_HT li_XL gTl K (am_g G h1)) (hq : am_g G h1 q = some (506, [.int mc, .ref p, .int n])) (hn : n.toInt = 0) (hp : am_g G h1 p = some (43056, [])) (he : am_g G h1 e = some (F.2.2.2.1, ves)) (hel : ves.length = F.2.2.2.2.1) :
    ∃ P1, CM [.ref q, .ref e] h1 1 11 P1 ∧ ∀ (o : am_O) (h' : List am_C), P1 o h' → o = .inl (some (.int 1)) ∧ h'.length = h1.length + 1 ∧ ∃ (mc2 n2 : Int32) (w2 : List Value), n2.toInt = n.toInt + 1 ∧ li_aft F G K [(506, 0), (506, 1), (506, 2)] h1 h' q mc2 n2 (1000 + h1.length) w2 ∧ w2[n.toInt.toNat]? = some (.ref e) := by
  refine ⟨_, hc K [mc.toInt] [q, p, e] [.ref q, .ref e] h1 hH (li_in (li_i32 mc).1 (li_i32 mc).2 li_in0) (fun c hc => nomatch hc) (List.forall_mem_cons.mpr ⟨?_, List.forall_mem_cons.mpr ⟨?_, List.forall_mem_cons.mpr ⟨?_, List.forall_mem_cons.mpr ⟨?_, List.forall_mem_cons.mpr ⟨?_, List.forall_mem_cons.mpr ⟨?_, List.forall_mem_nil _⟩⟩⟩⟩⟩⟩) rfl ⟨⟨q, rfl, rfl⟩, ⟨e, rfl, rfl⟩, trivial⟩ 1 11 (ck_Lv.k _ 1) (ck_Lv.k _ 11), fun o h' hp9 => ?_⟩
  · exact ⟨q, _, rfl, hq, ck_Lv.k _ 3⟩
  · exact ⟨q, _, _, rfl, hq, rfl, mc, rfl, ck_Lv.x rfl⟩
  · exact ⟨q, _, _, rfl, hq, rfl, p, rfl, rfl⟩
  · exact ⟨p, _, rfl, hp, ck_Lv.k _ 0⟩
  · exact ⟨q, _, _, rfl, hq, rfl, n, rfl, by rw [hn]; exact ck_Lv.k _ 0⟩
  · exact ⟨e, _, rfl, he, by rw [hel]; exact ck_Lv.k _ _⟩
  obtain ⟨⟨k1, k2, k3, k4⟩, k5⟩ := hp9
  cases o with
  | inr E => cases (show E ∈ ([] : List String) from k4)
  | inl v =>
    obtain ⟨r2, s2, m1, m2, m3, m4, m5⟩ := k4
    match r2, m1.1 with
    | [x, y], _ =>
      match s2, m4 with
      | [z], _ =>
        obtain ⟨i1, i2⟩ := li_in' (show ck_In [(10, 11)] [y] from ⟨rfl, fun i a b x' e1 e2 => m1.2 (i + 1) a b x' e1 e2⟩)
        obtain ⟨q1, v1, w1, a1, a2, a3, x1, a4, a5⟩ := m3 (3, 0, 0, 506, (1, 0, (0, [(1, 1)]))) (by unfold li_Ke; simp)
        obtain ⟨q2, v2, y2, b1, b2, b3, z2, b4, b5⟩ := m3 (3, 0, 1, 506, (3, 3, (0, []))) (by unfold li_Ke; simp)
        obtain ⟨q3, v3, c1, c2, c3⟩ := m3 (2, 3, 0, F.2.2.1, (0, 0, (0, [(1, 2)]))) (by unfold li_Ke; simp)
        obtain ⟨q4, d1, d2⟩ := m3 (5, 3, 0, 0, (0, 0, (0, []))) (by unfold li_Ke; simp)
        obtain ⟨q5, v5, x5, e1, e2, e3, e4⟩ := m3 (6, 3, 4, F.2.2.1, (0, 0, (1, []))) (by unfold li_Ke; simp)
        obtain ⟨q6, v6, y6, f1, f2, f3, x6, f4, f5⟩ := m3 (3, 0, 2, 506, (1, 0, (1, []))) (by unfold li_Ke; simp)
        obtain ⟨q7, v7, y7, g1, g2, g3, g4, g5, g6⟩ := m3 (3, 3, 0, F.2.2.1, (3, 2, (0, []))) (by unfold li_Ke; simp)
        cases a1; cases b1; cases c1; cases d1; cases e1; cases f1; cases g1; cases g5; cases b4
        subst a4 f4 g6 b5
        obtain ⟨v9, t1, t2⟩ := li_len k2 hq
        rw [t1] at a2 b2 f2
        cases a2; cases b2; cases f2
        have hv := li_three (t2.trans rfl) a3 b3 f3
        have hx := li_k f5
        have c3 := ck_lv1 c3
        cases c3
        have d2 : 1000 + h1.length ≤ z := d2
        have k3 : h1.length ≤ h'.length := k3
        have hz := am_g_lt (by omega) c2
        have hz2 : z = 1000 + h1.length := by omega
        subst hz2
        have e2 : am_g G h' (1000 + h1.length) = some (F.2.2.1, v5) := e2
        have g2 : am_g G h' (1000 + h1.length) = some (F.2.2.1, v7) := g2
        rw [c2] at e2 g2
        cases e2; cases g2
        have e3 := li_k e3
        subst e3
        have hn2 : x6.toInt = n.toInt + 1 := by omega
        refine ⟨?_, by omega, x1, x6, v3, hn2, ⟨k1, k2, by rw [t1, hv], c2, by omega, by omega, fun k hk => e4 k (by omega)⟩, by rw [hn]; exact g3⟩
        exact li_one1 m5
set_option maxHeartbeats 2000000 in
theorem li_shk {k : Nat} {lo : Int} (h506 : F.2.2.1 ≠ 506) (hc : ck_Con (am_grow CM) G li_XL gTl (li_Kk F k lo)) (hH : ck_HT li_XL gTl K (am_g G h1)) (hq : am_g G h1 q = some (506, [.int mc, .ref p, .int n])) (hn : n.toInt = (k : Int)) (hp : am_g G h1 p = some (F.2.2.1, ws)) (hl : lo ≤ (ws.length : Int) ∧ ws.length ≤ 24) (hlo : 10 ≤ lo) (hk : ∀ j : Nat, (j : Int) < n.toInt → ∃ q : Nat, ws[j]? = some (.ref q)) (he : am_g G h1 e = some (F.2.2.2.1, ves)) (hel : ves.length = F.2.2.2.2.1) :
    ∃ P1, CM [.ref q, .ref e] h1 0 0 P1 ∧ ∀ (o : am_O) (h' : List am_C), P1 o h' → o = .inl (some (.int 1)) ∧ h'.length = h1.length ∧ ∃ (mc2 n2 : Int32) (w2 : List Value), n2.toInt = n.toInt + 1 ∧ li_aft F G K [(506, 0), (506, 2), (F.2.2.1, k)] h1 h' q mc2 n2 p w2 ∧ w2[n.toInt.toNat]? = some (.ref e) ∧ ∀ j : Nat, j ≠ k → k < 1000 → w2[j]? = ws[j]? := by
  refine ⟨_, hc K [mc.toInt, (ws.length : Int)] [q, p, e] [.ref q, .ref e] h1 hH (li_in (li_i32 mc).1 (li_i32 mc).2 (li_in hl.1 (by omega) li_in0)) (fun c hc => nomatch hc) (List.forall_mem_cons.mpr ⟨?_, List.forall_mem_cons.mpr ⟨?_, List.forall_mem_cons.mpr ⟨?_, List.forall_mem_cons.mpr ⟨?_, List.forall_mem_cons.mpr ⟨?_, List.forall_mem_cons.mpr ⟨?_, List.forall_mem_cons.mpr ⟨?_, List.forall_mem_nil _⟩⟩⟩⟩⟩⟩⟩) rfl ⟨⟨q, rfl, rfl⟩, ⟨e, rfl, rfl⟩, trivial⟩ 0 0 (ck_Lv.k _ 0) (ck_Lv.k _ 0), fun o h' hp9 => ?_⟩
  · exact ⟨q, _, rfl, hq, ck_Lv.k _ 3⟩
  · exact ⟨q, _, _, rfl, hq, rfl, mc, rfl, ck_Lv.x rfl⟩
  · exact ⟨q, _, _, rfl, hq, rfl, p, rfl, rfl⟩
  · exact ⟨p, _, rfl, hp, ck_Lv.x rfl⟩
  · exact ⟨q, _, _, rfl, hq, rfl, n, rfl, by rw [hn]; exact ck_Lv.k _ _⟩
  · exact ⟨p, _, _, rfl, hp, ck_Lv.k _ _, fun j hj => hk j (by omega)⟩
  · exact ⟨e, _, rfl, he, by rw [hel]; exact ck_Lv.k _ _⟩
  obtain ⟨⟨k1, k2, k3, k4⟩, k5⟩ := hp9
  cases o with
  | inr E => cases (show E ∈ ([] : List String) from k4)
  | inl v =>
    obtain ⟨r2, s2, m1, m2, m3, m4, m5⟩ := k4
    match r2, m1.1 with
    | [x], _ =>
      match s2, m4 with
      | [], _ =>
        obtain ⟨q1, v1, w1, a1, a2, a3, x1, a4, a5⟩ := m3 (3, 0, 0, 506, (1, 0, (0, [(1, 2)]))) (by unfold li_Kk; simp)
        obtain ⟨q5, v5, x5, e1, e2, e3, e4⟩ := m3 (6, 1, 4, F.2.2.1, (0, 0, (((k + 1 : Nat) : Int), []))) (by unfold li_Kk; simp)
        obtain ⟨q6, v6, y6, f1, f2, f3, x6, f4, f5⟩ := m3 (3, 0, 2, 506, (1, 0, (((k + 1 : Nat) : Int), []))) (by unfold li_Kk; simp)
        obtain ⟨q7, v7, y7, g1, g2, g3, g4, g5, g6⟩ := m3 (3, 1, k, F.2.2.1, (3, 2, (0, []))) (by unfold li_Kk; simp)
        cases a1; cases e1; cases f1; cases g1; cases g5
        subst a4 f4 g6
        have k2' := k2 q 506 _ hq
        rcases k2' with ⟨zz, -⟩ | ⟨v9, t1, t2, t3⟩
        · cases zz
        have b3 : v9[1]? = some (.ref p) := by
          rw [t3 1 (by
            show ck_inM [(506, 0), (506, 2), (F.2.2.1, k)] 506 1 = false
            unfold ck_inM
            simp only [List.any_cons, List.any_nil]
            rw [show (Nat.beq F.2.2.1 506) = false by
              cases hb : Nat.beq F.2.2.1 506
              · rfl
              · exact absurd (ck_beq hb) h506]
            rfl)]
          rfl
        rw [t1] at a2 f2
        cases a2; cases f2
        have hv := li_three (t2.trans rfl) a3 b3 f3
        have hx := li_k f5
        rcases k2 p _ _ hp with ⟨zz, -⟩ | ⟨vp, y1, y2, y3⟩
        · cases zz
        rw [y1] at e2 g2
        cases e2; cases g2
        have e3 := li_k e3
        subst e3
        have k3 : h1.length ≤ h'.length := k3
        have hn2 : x6.toInt = n.toInt + 1 := by omega
        refine ⟨li_one1 m5, by omega, x1, x6, _, hn2, ⟨k1, k2, by rw [t1, hv], y1, by omega, by omega, fun j hj => e4 j (by omega)⟩, by rw [hn]; exact g3, fun j hj hk9 => y3 j ?_⟩
        show ck_inM [(506, 0), (506, 2), (F.2.2.1, k)] F.2.2.1 j = false
        unfold ck_inM
        simp only [List.any_cons, List.any_nil]
        rw [show (Nat.beq 506 F.2.2.1) = false by
          cases hb : Nat.beq 506 F.2.2.1
          · rfl
          · exact absurd (ck_beq hb).symm h506]
        rw [show (Nat.beq k j) = false by
          cases hb : Nat.beq k j
          · rfl
          · exact absurd (ck_beq hb).symm hj]
        rw [show (Nat.beq k 1000) = false by
          cases hb : Nat.beq k 1000
          · rfl
          · exact absurd (ck_beq hb) (by omega)]
        simp
set_option maxHeartbeats 2000000 in
theorem li_shg {k : Nat} (hc : ck_Con (am_grow CM) G li_XL gTl (li_Kg F k)) (hH : ck_HT li_XL gTl K (am_g G h1)) (hq : am_g G h1 q = some (506, [.int mc, .ref p, .int n])) (hn : n.toInt = (k : Int)) (hp : am_g G h1 p = some (F.2.2.1, ws)) (hl : ws.length = k) (hk : ∀ j : Nat, (j : Int) < n.toInt → ∃ q : Nat, ws[j]? = some (.ref q)) (he : am_g G h1 e = some (F.2.2.2.1, ves)) (hel : ves.length = F.2.2.2.2.1) :
    ∃ P1, CM [.ref q, .ref e] h1 1 20 P1 ∧ ∀ (o : am_O) (h' : List am_C), P1 o h' → o = .inl (some (.int 1)) ∧ h'.length = h1.length + 1 ∧ ∃ (mc2 n2 : Int32) (w2 : List Value), n2.toInt = n.toInt + 1 ∧ li_aft F G K [(506, 0), (506, 1), (506, 2), (F.2.2.1, 1000)] h1 h' q mc2 n2 (1000 + h1.length) w2 := by
  refine ⟨_, hc K [mc.toInt] [q, p, e] [.ref q, .ref e] h1 hH (li_in (li_i32 mc).1 (li_i32 mc).2 li_in0) (fun c hc => nomatch hc) (List.forall_mem_cons.mpr ⟨?_, List.forall_mem_cons.mpr ⟨?_, List.forall_mem_cons.mpr ⟨?_, List.forall_mem_cons.mpr ⟨?_, List.forall_mem_cons.mpr ⟨?_, List.forall_mem_cons.mpr ⟨?_, List.forall_mem_cons.mpr ⟨?_, List.forall_mem_nil _⟩⟩⟩⟩⟩⟩⟩) rfl ⟨⟨q, rfl, rfl⟩, ⟨e, rfl, rfl⟩, trivial⟩ 1 20 (ck_Lv.k _ 1) (ck_Lv.k _ 20), fun o h' hp9 => ?_⟩
  · exact ⟨q, _, rfl, hq, ck_Lv.k _ 3⟩
  · exact ⟨q, _, _, rfl, hq, rfl, mc, rfl, ck_Lv.x rfl⟩
  · exact ⟨q, _, _, rfl, hq, rfl, p, rfl, rfl⟩
  · exact ⟨p, _, rfl, hp, by rw [hl]; exact ck_Lv.k _ _⟩
  · exact ⟨q, _, _, rfl, hq, rfl, n, rfl, by rw [hn]; exact ck_Lv.k _ _⟩
  · exact ⟨p, _, _, rfl, hp, ck_Lv.k _ _, fun j hj => hk j (by omega)⟩
  · exact ⟨e, _, rfl, he, by rw [hel]; exact ck_Lv.k _ _⟩
  obtain ⟨⟨k1, k2, k3, k4⟩, k5⟩ := hp9
  cases o with
  | inr E => cases (show E ∈ ([] : List String) from k4)
  | inl v =>
    obtain ⟨r2, s2, m1, m2, m3, m4, m5⟩ := k4
    match r2, m1.1 with
    | [x, y], _ =>
      match s2, m4 with
      | [z], _ =>
        obtain ⟨i1, i2⟩ := li_in' (show ck_In [(15, 20)] [y] from ⟨rfl, fun i a b x' e1 e2 => m1.2 (i + 1) a b x' e1 e2⟩)
        obtain ⟨q1, v1, w1, a1, a2, a3, x1, a4, a5⟩ := m3 (3, 0, 0, 506, (1, 0, (0, [(1, 1)]))) (by unfold li_Kg; simp)
        obtain ⟨q2, v2, y2, b1, b2, b3, z2, b4, b5⟩ := m3 (3, 0, 1, 506, (3, 3, (0, []))) (by unfold li_Kg; simp)
        obtain ⟨q3, v3, c1, c2, c3⟩ := m3 (2, 3, 0, F.2.2.1, (0, 0, (0, [(1, 2)]))) (by unfold li_Kg; simp)
        obtain ⟨q4, d1, d2⟩ := m3 (5, 3, 0, 0, (0, 0, (0, []))) (by unfold li_Kg; simp)
        obtain ⟨q5, v5, x5, e1, e2, e3, e4⟩ := m3 (6, 3, 4, F.2.2.1, (0, 0, (((k + 1 : Nat) : Int), []))) (by unfold li_Kg; simp)
        obtain ⟨q6, v6, y6, f1, f2, f3, x6, f4, f5⟩ := m3 (3, 0, 2, 506, (1, 0, (((k + 1 : Nat) : Int), []))) (by unfold li_Kg; simp)
        cases a1; cases b1; cases c1; cases d1; cases e1; cases f1; cases b4
        subst a4 f4 b5
        obtain ⟨v9, t1, t2⟩ := li_len k2 hq
        rw [t1] at a2 b2 f2
        cases a2; cases b2; cases f2
        have hv := li_three (t2.trans rfl) a3 b3 f3
        have hx := li_k f5
        have c3 := ck_lv1 c3
        cases c3
        have d2 : 1000 + h1.length ≤ z := d2
        have k3 : h1.length ≤ h'.length := k3
        have hz := am_g_lt (by omega) c2
        have hz2 : z = 1000 + h1.length := by omega
        subst hz2
        have e2 : am_g G h' (1000 + h1.length) = some (F.2.2.1, v5) := e2
        rw [c2] at e2
        cases e2
        have e3 := li_k e3
        subst e3
        have hn2 : x6.toInt = n.toInt + 1 := by omega
        exact ⟨li_one1 m5, by omega, x1, x6, v3, hn2, ⟨k1, k2, by rw [t1, hv], c2, by omega, by omega, fun j hj => e4 j (by omega)⟩⟩
/-- an element is taken out; its reference is the answer -/
def li_out (F : li_F) (G : am_G) (h' : List am_C) (o : am_O) : Prop := ∃ (x : Nat) (vx : List Value), o = .inl (some (.ref x)) ∧ am_g G h' x = some (F.2.2.2.1, vx)
set_option maxHeartbeats 2000000 in
theorem li_shr {i : Int32} (h506 : F.2.2.1 ≠ 506) (hc : ck_Con (am_grow CM) G li_XL gTl (li_Kr F)) (hH : ck_HT li_XL gTl K (am_g G h1)) (hq : am_g G h1 q = some (506, [.int mc, .ref p, .int n])) (hn : 1 ≤ n.toInt ∧ n.toInt ≤ 13) (hp : am_g G h1 p = some (F.2.2.1, ws)) (hl : 10 ≤ ws.length ∧ ws.length ≤ 24 ∧ n.toInt ≤ (ws.length : Int)) (hk : ∀ j : Nat, (j : Int) < n.toInt → ∃ q : Nat, ws[j]? = some (.ref q)) (hi : 0 ≤ i.toInt ∧ i.toInt < n.toInt) :
    ∃ P1, CM [.ref q, .int i] h1 0 0 P1 ∧ ∀ (o : am_O) (h' : List am_C), P1 o h' → li_out F G h' o ∧ h'.length = h1.length ∧ ∃ (mc2 n2 : Int32) (w2 : List Value), n2.toInt = n.toInt - 1 ∧ li_aft F G K [(506, 0), (506, 2), (F.2.2.1, 1000)] h1 h' q mc2 n2 p w2 := by
  refine ⟨_, hc K [mc.toInt, (ws.length : Int), n.toInt, i.toInt] [q, p] [.ref q, .int i] h1 hH (li_in (li_i32 mc).1 (li_i32 mc).2 (li_in (by omega) (by omega) (li_in hn.1 hn.2 (li_in hi.1 (by omega) li_in0)))) (List.forall_mem_cons.mpr ⟨?_, List.forall_mem_cons.mpr ⟨?_, List.forall_mem_nil _⟩⟩) (List.forall_mem_cons.mpr ⟨?_, List.forall_mem_cons.mpr ⟨?_, List.forall_mem_cons.mpr ⟨?_, List.forall_mem_cons.mpr ⟨?_, List.forall_mem_cons.mpr ⟨?_, List.forall_mem_cons.mpr ⟨?_, List.forall_mem_nil _⟩⟩⟩⟩⟩⟩) rfl ⟨⟨q, rfl, rfl⟩, ⟨i, rfl, ck_Lv.x rfl⟩, trivial⟩ 0 0 (ck_Lv.k _ 0) (ck_Lv.k _ 0), fun o h' hp9 => ?_⟩
  · exact ⟨ws.length - n.toInt, ⟨by intro t ht; simp at ht; rcases ht with rfl | rfl <;> simp, by show _ = (0 : Int) + (1 * (ws.length : Int) + (-1 * n.toInt + 0)); omega⟩, by omega⟩
  · exact ⟨n.toInt - i.toInt - 1, ⟨by intro t ht; simp at ht; rcases ht with rfl | rfl <;> simp, by show _ = (-1 : Int) + (1 * n.toInt + (-1 * i.toInt + 0)); omega⟩, by omega⟩
  · exact ⟨q, _, rfl, hq, ck_Lv.k _ 3⟩
  · exact ⟨q, _, _, rfl, hq, rfl, mc, rfl, ck_Lv.x rfl⟩
  · exact ⟨q, _, _, rfl, hq, rfl, p, rfl, rfl⟩
  · exact ⟨p, _, rfl, hp, ck_Lv.x rfl⟩
  · exact ⟨q, _, _, rfl, hq, rfl, n, rfl, ck_Lv.x rfl⟩
  · exact ⟨p, _, _, rfl, hp, ck_Lv.x rfl, hk⟩
  obtain ⟨⟨k1, k2, k3, k4⟩, k5⟩ := hp9
  cases o with
  | inr E => cases (show E ∈ ([] : List String) from k4)
  | inl v =>
    obtain ⟨r2, s2, m1, m2, m3, m4, m5⟩ := k4
    match r2, m1.1 with
    | [x], _ =>
      match s2, m4 with
      | [z], _ =>
        obtain ⟨q1, v1, w1, a1, a2, a3, x1, a4, a5⟩ := m3 (3, 0, 0, 506, (1, 0, (0, [(1, 4)]))) (by unfold li_Kr; simp)
        obtain ⟨q3, v3, c1, c2, c3⟩ := m3 (2, 2, 0, F.2.2.2.1, (0, 0, ((F.2.2.2.2.1 : Int), []))) (by unfold li_Kr; simp)
        obtain ⟨q5, v5, x5, e1, e2, e3, e4⟩ := m3 (6, 1, 4, F.2.2.1, (0, 0, (-1, [(1, 2)]))) (by unfold li_Kr; simp)
        obtain ⟨q6, v6, y6, f1, f2, f3, x6, f4, f5⟩ := m3 (3, 0, 2, 506, (1, 0, (-1, [(1, 2)]))) (by unfold li_Kr; simp)
        cases a1; cases c1; cases e1; cases f1
        subst a4 f4
        rcases k2 q 506 _ hq with ⟨zz, -⟩ | ⟨v9, t1, t2, t3⟩
        · cases zz
        have b3 : v9[1]? = some (.ref p) := by
          rw [t3 1 (by
            show ck_inM [(506, 0), (506, 2), (F.2.2.1, 1000)] 506 1 = false
            unfold ck_inM
            simp only [List.any_cons, List.any_nil]
            rw [show (Nat.beq F.2.2.1 506) = false by
              cases hb : Nat.beq F.2.2.1 506
              · rfl
              · exact absurd (ck_beq hb) h506]
            rfl)]
          rfl
        rw [t1] at a2 f2
        cases a2; cases f2
        have hv := li_three (t2.trans rfl) a3 b3 f3
        have hx : x6.toInt = (-1 : Int) + (1 * n.toInt + 0) := f5.2
        rcases k2 p _ _ hp with ⟨zz, -⟩ | ⟨vp, y1, y2, y3⟩
        · cases zz
        rw [y1] at e2
        cases e2
        have e3 : x5 = (-1 : Int) + (1 * n.toInt + 0) := e3.2
        have k3 : h1.length ≤ h'.length := k3
        refine ⟨?_, by omega, x1, x6, _, by omega, ⟨k1, k2, by rw [t1, hv], y1, by omega, by omega, fun j hj => e4 j (by omega)⟩⟩
        cases v with
        | none => exact m5.elim
        | some v =>
          obtain ⟨⟨y, y4, rfl⟩, -⟩ := m5
          cases y4
          exact ⟨_, v3, rfl, c2⟩
set_option maxHeartbeats 2000000 in
theorem li_shb {k : Nat} (h506 : F.2.2.1 ≠ 506) (hc : ck_Con (am_grow CM) G li_XL gTl (li_Kb F k)) (hH : ck_HT li_XL gTl K (am_g G h1)) (hq : am_g G h1 q = some (506, [.int mc, .ref p, .int n])) (hn : n.toInt = ((k + 1 : Nat) : Int)) (hp : am_g G h1 p = some (F.2.2.1, ws)) (hl : 10 ≤ ws.length ∧ ws.length ≤ 24) (hk : ∀ j : Nat, (j : Int) < n.toInt → ∃ q : Nat, ws[j]? = some (.ref q)) {i : Int32} (hi : i.toInt = (k : Int)) (hk9 : k < 1000) :
    ∃ P1, CM [.ref q, .int i] h1 0 0 P1 ∧ ∀ (o : am_O) (h' : List am_C), P1 o h' → li_out F G h' o ∧ h'.length = h1.length ∧ ∃ (mc2 n2 : Int32) (w2 : List Value), n2.toInt = (k : Int) ∧ li_aft F G K [(506, 0), (506, 2), (F.2.2.1, k)] h1 h' q mc2 n2 p w2 ∧ ∀ j : Nat, j ≠ k → w2[j]? = ws[j]? := by
  refine ⟨_, hc K [mc.toInt, (ws.length : Int)] [q, p] [.ref q, .int i] h1 hH (li_in (li_i32 mc).1 (li_i32 mc).2 (li_in (by omega) (by omega) li_in0)) (fun c hc => nomatch hc) (List.forall_mem_cons.mpr ⟨?_, List.forall_mem_cons.mpr ⟨?_, List.forall_mem_cons.mpr ⟨?_, List.forall_mem_cons.mpr ⟨?_, List.forall_mem_cons.mpr ⟨?_, List.forall_mem_cons.mpr ⟨?_, List.forall_mem_nil _⟩⟩⟩⟩⟩⟩) rfl ⟨⟨q, rfl, rfl⟩, ⟨i, rfl, by rw [hi]; exact ck_Lv.k _ _⟩, trivial⟩ 0 0 (ck_Lv.k _ 0) (ck_Lv.k _ 0), fun o h' hp9 => ?_⟩
  · exact ⟨q, _, rfl, hq, ck_Lv.k _ 3⟩
  · exact ⟨q, _, _, rfl, hq, rfl, mc, rfl, ck_Lv.x rfl⟩
  · exact ⟨q, _, _, rfl, hq, rfl, p, rfl, rfl⟩
  · exact ⟨p, _, rfl, hp, ck_Lv.x rfl⟩
  · exact ⟨q, _, _, rfl, hq, rfl, n, rfl, by rw [hn]; exact ck_Lv.k _ _⟩
  · exact ⟨p, _, _, rfl, hp, ck_Lv.k _ _, fun j hj => hk j (by omega)⟩
  obtain ⟨⟨k1, k2, k3, k4⟩, k5⟩ := hp9
  cases o with
  | inr E => cases (show E ∈ ([] : List String) from k4)
  | inl v =>
    obtain ⟨r2, s2, m1, m2, m3, m4, m5⟩ := k4
    match r2, m1.1 with
    | [x], _ =>
      match s2, m4 with
      | [z], _ =>
        obtain ⟨q1, v1, w1, a1, a2, a3, x1, a4, a5⟩ := m3 (3, 0, 0, 506, (1, 0, (0, [(1, 2)]))) (by unfold li_Kb; simp)
        obtain ⟨q3, v3, c1, c2, c3⟩ := m3 (2, 2, 0, F.2.2.2.1, (0, 0, ((F.2.2.2.2.1 : Int), []))) (by unfold li_Kb; simp)
        obtain ⟨q5, v5, x5, e1, e2, e3, e4⟩ := m3 (6, 1, 4, F.2.2.1, (0, 0, ((k : Int), []))) (by unfold li_Kb; simp)
        obtain ⟨q6, v6, y6, f1, f2, f3, x6, f4, f5⟩ := m3 (3, 0, 2, 506, (1, 0, ((k : Int), []))) (by unfold li_Kb; simp)
        cases a1; cases c1; cases e1; cases f1
        subst a4 f4
        rcases k2 q 506 _ hq with ⟨zz, -⟩ | ⟨v9, t1, t2, t3⟩
        · cases zz
        have b3 : v9[1]? = some (.ref p) := by
          rw [t3 1 (by
            show ck_inM [(506, 0), (506, 2), (F.2.2.1, k)] 506 1 = false
            unfold ck_inM
            simp only [List.any_cons, List.any_nil]
            rw [show (Nat.beq F.2.2.1 506) = false by
              cases hb : Nat.beq F.2.2.1 506
              · rfl
              · exact absurd (ck_beq hb) h506]
            rfl)]
          rfl
        rw [t1] at a2 f2
        cases a2; cases f2
        have hv := li_three (t2.trans rfl) a3 b3 f3
        have hx := li_k f5
        rcases k2 p _ _ hp with ⟨zz, -⟩ | ⟨vp, y1, y2, y3⟩
        · cases zz
        rw [y1] at e2
        cases e2
        have e3 := li_k e3
        subst e3
        have k3 : h1.length ≤ h'.length := k3
        refine ⟨?_, by omega, x1, x6, _, hx, ⟨k1, k2, by rw [t1, hv], y1, by omega, by omega, fun j hj => e4 j (by omega)⟩, fun j hj => y3 j ?_⟩
        · cases v with
          | none => exact m5.elim
          | some v =>
            obtain ⟨⟨y, y4, rfl⟩, -⟩ := m5
            cases y4
            exact ⟨_, v3, rfl, c2⟩
        · show ck_inM [(506, 0), (506, 2), (F.2.2.1, k)] F.2.2.1 j = false
          unfold ck_inM
          simp only [List.any_cons, List.any_nil]
          rw [show (Nat.beq 506 F.2.2.1) = false by
            cases hb : Nat.beq 506 F.2.2.1
            · rfl
            · exact absurd (ck_beq hb).symm h506]
          rw [show (Nat.beq k j) = false by
            cases hb : Nat.beq k j
            · rfl
            · exact absurd (ck_beq hb).symm hj]
          rw [show (Nat.beq k 1000) = false by
            cases hb : Nat.beq k 1000
            · rfl
            · exact absurd (ck_beq hb) (by omega)]
          simp
end LISH
