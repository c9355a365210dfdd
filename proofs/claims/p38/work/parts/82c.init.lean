/-! INIT -/
def hd_initP (ts : Nat) (mx : Int) : ck_KK := (([(0, 1), (0, mx)], [], [(2, 0, 0, 17, (0, 0, (2, []))), (2, 1, 0, ts, (0, 0, (0, [(1, 1)])))], 2, [(3, 0, (0, [])), (1, 0, (0, [(1, 0)])), (3, 1, (0, []))]), ((1, []), (0, [(1, 1)])), [], [17], ([], [], [(2, 0, 0, 1017, (0, 0, (2, [])))], 0, []), [])
def hd_initQ (ts : Nat) (mx : Int) : ck_KK := (([(0, 1), (0, mx)], [], [(2, 0, 0, 17, (0, 0, (2, []))), (2, 1, 0, ts, (0, 0, (0, [(1, 1)])))], 2, [(3, 0, (0, [])), (1, 0, (0, [(1, 0)])), (3, 1, (0, []))]), ((1, []), (0, [(1, 1)])), [], [17], ([], [], [(2, 0, 0, 1117, (0, 0, (2, [])))], 0, []), [])
def hd_initR (ts : Nat) (mx : Int) : ck_KK := (([(0, 1), (0, mx)], [], [(2, 0, 0, 17, (0, 0, (2, []))), (2, 1, 0, ts, (0, 0, (0, [(1, 1)])))], 2, [(3, 0, (0, [])), (1, 0, (0, [(1, 0)])), (3, 1, (0, []))]), ((1, []), (0, [(1, 1)])), [], [17], ([(0, 1), (0, mx)], [(0, [(1, 1), ((-1), 3)])], [(2, 0, 0, 217, (0, 0, (2, []))), (3, 0, 0, 217, (1, 0, (0, [(1, 2)]))), (3, 0, 1, 217, (3, 2, (0, []))), (2, 2, 0, 450, (0, 0, (0, [(1, 3)]))), (5, 2, 0, 0, (0, 0, (0, []))), (6, 2, 9, 450, (0, 0, (0, [])))], 1, []), [])
theorem hd_pl_last {ds : List Int} {n : Nat} (h : hd_pl ds n) (d : Int) (e : (ds.take n).getLast? = some d) : d ≠ 0 := by
  by_cases hn : n = 0
  · subst hn; rw [List.take_zero] at e; cases e
  · obtain ⟨d', h1, h2⟩ := h.2.2 (by omega)
    rw [List.getLast?_eq_getElem?, List.length_take, Nat.min_eq_left h.1, List.getElem?_take_of_lt (by omega), h1] at e
    cases e
    exact h2
/-- the walk, at what a contract gives -/
theorem hd_init_core {l : Launch} {G : am_G} (g : gE l G li_X) {ts : Nat} {mx lo hi : Int} (hk : ck_lk gT ts = some (1, lo, hi, [(1, 0, 0, 9)])) (hts : ts % 100 = 50) (hmx : mx ≤ 90) (t0' tn : Nat) (h0' : t0' % 100 = 17) (h2 : tn % 100 = 50)
    {K : Int32} {r : List Int} {s : List Nat} {a : List Value} {h : List am_C} (hH : ck_HT li_X gT K (am_g G h)) (hV : ck_In [(0, 1), (0, mx)] r) (hF0 : ck_fa (am_g G h) 0 r s (2, 0, 0, 17, (0, 0, (2, [])))) (hF1 : ck_fa (am_g G h) 0 r s (2, 1, 0, ts, (0, 0, (0, [(1, 1)])))) (hS : ck_stk r s [(3, 0, (0, [])), (1, 0, (0, [(1, 0)])), (3, 1, (0, []))] a) {mc ms : Nat} (hmc : (mc : Int) = 1) (hms : ck_Lv r (0, [(1, 1)]) (ms : Int)) {Post : am_O → List am_C → Prop}
    (hP : ∀ (q0 : Nat) (vs : List Value) (ds : List Int) (n : Nat) (v : Int), s[0]? = some q0 → 1000 ≤ q0 → am_g G h q0 = some (17, vs) → vs.length = 2 → hd_d ds → hd_pl ds n → (ds.length : Int) ≤ mx → r[1]? = some (ds.length : Int) → 0 ≤ v → v ≤ 1 → Post (.inl none) (am_s (h ++ [(tn, hd_r (ds.take n))]) q0 (t0', [.int (Int32.ofInt v), .ref (1000 + h.length)]))) :
    am_M l G yX12_init (.code yX12_init prog_15_method_1_code 5 none) 1 20 mc ms a h Post := by
  obtain ⟨q0, vs, a1, a2, a3⟩ := hF0
  obtain ⟨qd, wd, c1, c2, c3⟩ := hF1
  have a1 : s[0]? = some q0 := a1
  have a2 : am_g G h q0 = some (17, vs) := a2
  have c1 : s[1]? = some qd := c1
  have c2 : am_g G h qd = some (ts, wd) := c2
  have hl2 := li_k a3
  obtain ⟨d1, d2, d3⟩ := hd_rdy hH c2 hk
  obtain ⟨ds, rfl, e1, e2⟩ := hd_of d1
  rw [hd_r_len] at d3 c3
  have c3 := ck_lv1 c3
  have hms := ck_lv1 hms
  rw [c3] at hms
  have hms : (ds.length : Int) = ms := Option.some.inj hms
  have hq : 1000 ≤ q0 := (hH.2 _ _ _ a2).2.2 rfl
  have hdm : (ds.length : Int) ≤ mx := (hV.2 1 0 mx _ rfl c3).2
  match a, hS with
  | [w1, w2, w3], ⟨⟨p1, f1, f2⟩, ⟨x2, f3, f4⟩, ⟨p3, f5, f6⟩, _⟩ =>
    subst f2 f3 f6
    have f1 : s[0]? = some p1 := f1
    have f5 : s[1]? = some p3 := f5
    rw [a1] at f1; cases f1
    rw [c1] at f5; cases f5
    have f4 := ck_lv1 f4
    obtain ⟨i1, i2⟩ := hV.2 0 0 1 _ rfl f4
    rw [← Int32.ofInt_toInt x2]
    have hl2 : vs.length = 2 := by omega
    match vs, hl2 with
    | [u0, u1], _ =>
      exact hd_init_M g t0' tn hq ⟨i1, i2⟩ (by decide) h0' hts h2 (by omega) e1 a2 c2 (by omega) (by omega) fun n v hn hv1 hv2 => hP q0 _ ds n v a1 hq a2 rfl e1 hn hdm c3 hv1 hv2
