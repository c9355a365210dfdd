/-! LINEAR FORMS over numbered numbers, their least values, what follows from a list of them -/
abbrev ck_L : Type := Int × List (Int × Nat)
abbrev ck_I : Type := List (Int × Int)
def ck_ev (r : List Int) : List (Int × Nat) → Int
  | [] => 0
  | t :: u => t.1 * r.getD t.2 0 + ck_ev r u
def ck_Sc (n : Nat) (e : List (Int × Nat)) : Prop := ∀ t ∈ e, t.2 < n
def ck_Lv (r : List Int) (e : ck_L) (x : Int) : Prop := ck_Sc r.length e.2 ∧ x = e.1 + ck_ev r e.2
theorem ck_getD_app {r q : List Int} {i : Nat} (h : i < r.length) : (r ++ q).getD i 0 = r.getD i 0 := by
  rw [List.getD_eq_getElem?_getD, List.getD_eq_getElem?_getD, List.getElem?_append_left h]
theorem ck_ev_app {r q : List Int} {e : List (Int × Nat)} (h : ck_Sc r.length e) : ck_ev (r ++ q) e = ck_ev r e := by
  induction e with
  | nil => rfl
  | cons t u ih =>
    unfold ck_ev
    rw [ck_getD_app (h t List.mem_cons_self), ih (fun z hz => h z (List.mem_cons_of_mem _ hz))]
theorem ck_Lv.app {r : List Int} {e : ck_L} {x : Int} (h : ck_Lv r e x) (q : List Int) : ck_Lv (r ++ q) e x := by
  refine ⟨fun t ht => ?_, ?_⟩
  · rw [List.length_append]; exact Nat.lt_of_lt_of_le (h.1 t ht) (Nat.le_add_right _ _)
  · rw [ck_ev_app h.1]; exact h.2
theorem ck_Lv.fn {r : List Int} {e : ck_L} {x y : Int} (h : ck_Lv r e x) (h' : ck_Lv r e y) : x = y := h.2.trans h'.2.symm
def ck_ins (c : Int) (v : Nat) : List (Int × Nat) → List (Int × Nat)
  | [] => [(c, v)]
  | t :: u => bif Nat.blt v t.2 then (c, v) :: t :: u else bif Nat.beq v t.2 then (bif c + t.1 == 0 then u else (c + t.1, v) :: u) else t :: ck_ins c v u
theorem ck_ev_ins (r : List Int) (c : Int) (v : Nat) (e : List (Int × Nat)) : ck_ev r (ck_ins c v e) = c * r.getD v 0 + ck_ev r e := by
  induction e with
  | nil => rfl
  | cons t u ih =>
    unfold ck_ins
    cases h1 : Nat.blt v t.2
    · rw [cond_false]
      cases h2 : Nat.beq v t.2
      · rw [cond_false]
        show t.1 * r.getD t.2 0 + ck_ev r (ck_ins c v u) = _
        rw [ih]
        show _ = c * r.getD v 0 + (t.1 * r.getD t.2 0 + ck_ev r u)
        omega
      · rw [cond_true]
        have e2 : v = t.2 := Nat.eq_of_beq_eq_true h2
        cases h3 : (c + t.1 == 0)
        · rw [cond_false]
          show (c + t.1) * r.getD v 0 + ck_ev r u = c * r.getD v 0 + (t.1 * r.getD t.2 0 + ck_ev r u)
          rw [← e2, Int.add_mul]
          omega
        · rw [cond_true]
          have e3 : c + t.1 = 0 := by simpa using h3
          show ck_ev r u = c * r.getD v 0 + (t.1 * r.getD t.2 0 + ck_ev r u)
          rw [← e2, ← Int.add_assoc, ← Int.add_mul, e3, Int.zero_mul, Int.zero_add]
    · rw [cond_true]
      rfl
theorem ck_Sc_ins {n : Nat} {c : Int} {v : Nat} {e : List (Int × Nat)} (hv : v < n) (h : ck_Sc n e) : ck_Sc n (ck_ins c v e) := by
  induction e with
  | nil => intro t ht; rw [show ck_ins c v [] = [(c, v)] from rfl, List.mem_singleton] at ht; rw [ht]; exact hv
  | cons t u ih =>
    have hu : ck_Sc n u := fun z hz => h z (List.mem_cons_of_mem _ hz)
    unfold ck_ins
    cases h1 : Nat.blt v t.2
    · rw [cond_false]
      cases h2 : Nat.beq v t.2
      · rw [cond_false]
        intro z hz
        rcases List.mem_cons.mp hz with hz | hz
        · rw [hz]; exact h t List.mem_cons_self
        · exact ih hu z hz
      · rw [cond_true]
        cases h3 : (c + t.1 == 0)
        · rw [cond_false]
          intro z hz
          rcases List.mem_cons.mp hz with hz | hz
          · rw [hz]; exact hv
          · exact hu z hz
        · rw [cond_true]; exact hu
    · rw [cond_true]
      intro z hz
      rcases List.mem_cons.mp hz with hz | hz
      · rw [hz]; exact hv
      · exact h z hz
def ck_addl (a b : List (Int × Nat)) : List (Int × Nat) := a.foldr (fun t acc => ck_ins t.1 t.2 acc) b
def ck_add (a b : ck_L) : ck_L := (a.1 + b.1, ck_addl a.2 b.2)
def ck_mul (c : Int) (e : ck_L) : ck_L := bif c == 0 then (0, []) else (c * e.1, e.2.map fun t => (c * t.1, t.2))
def ck_sub (a b : ck_L) : ck_L := ck_add a (ck_mul (-1) b)
def ck_k (c : Int) : ck_L := (c, [])
def ck_x (i : Nat) : ck_L := (0, [(1, i)])
theorem ck_ev_addl (r : List Int) (a b : List (Int × Nat)) : ck_ev r (ck_addl a b) = ck_ev r a + ck_ev r b := by
  induction a with
  | nil => show ck_ev r b = 0 + ck_ev r b; omega
  | cons t u ih =>
    show ck_ev r (ck_ins t.1 t.2 (ck_addl u b)) = (t.1 * r.getD t.2 0 + ck_ev r u) + ck_ev r b
    rw [ck_ev_ins, ih]
    omega
theorem ck_Sc_addl {n : Nat} {a b : List (Int × Nat)} (ha : ck_Sc n a) (hb : ck_Sc n b) : ck_Sc n (ck_addl a b) := by
  induction a with
  | nil => exact hb
  | cons t u ih => exact ck_Sc_ins (ha t List.mem_cons_self) (ih fun z hz => ha z (List.mem_cons_of_mem _ hz))
theorem ck_Lv.add {r : List Int} {a b : ck_L} {x y : Int} (ha : ck_Lv r a x) (hb : ck_Lv r b y) : ck_Lv r (ck_add a b) (x + y) := by
  refine ⟨ck_Sc_addl ha.1 hb.1, ?_⟩
  show x + y = (a.1 + b.1) + ck_ev r (ck_addl a.2 b.2)
  rw [ck_ev_addl, ha.2, hb.2]
  omega
theorem ck_ev_map (r : List Int) (c : Int) (e : List (Int × Nat)) : ck_ev r (e.map fun t => (c * t.1, t.2)) = c * ck_ev r e := by
  induction e with
  | nil => show (0 : Int) = c * 0; rw [Int.mul_zero]
  | cons t u ih =>
    show c * t.1 * r.getD t.2 0 + ck_ev r (u.map fun t => (c * t.1, t.2)) = c * (t.1 * r.getD t.2 0 + ck_ev r u)
    rw [ih, Int.mul_add, Int.mul_assoc]
theorem ck_Lv.mul {r : List Int} {a : ck_L} {x : Int} (c : Int) (ha : ck_Lv r a x) : ck_Lv r (ck_mul c a) (c * x) := by
  unfold ck_mul
  cases h : (c == 0)
  · rw [cond_false]
    refine ⟨fun t ht => ?_, ?_⟩
    · obtain ⟨z, hz, e⟩ := List.mem_map.mp ht
      rw [← e]; exact ha.1 z hz
    · show c * x = c * a.1 + ck_ev r (a.2.map fun t => (c * t.1, t.2))
      rw [ck_ev_map, ha.2, Int.mul_add]
  · rw [cond_true]
    have e : c = 0 := by simpa using h
    refine ⟨fun t ht => (nomatch ht), ?_⟩
    rw [e, Int.zero_mul]; rfl
theorem ck_Lv.sub {r : List Int} {a b : ck_L} {x y : Int} (ha : ck_Lv r a x) (hb : ck_Lv r b y) : ck_Lv r (ck_sub a b) (x - y) := by
  have h := ha.add (hb.mul (-1))
  rw [show x + -1 * y = x - y by omega] at h
  exact h
theorem ck_Lv.k (r : List Int) (c : Int) : ck_Lv r (ck_k c) c := ⟨fun t ht => (nomatch ht), by show c = c + 0; omega⟩
theorem ck_Lv.x {r : List Int} {i : Nat} {x : Int} (h : r[i]? = some x) : ck_Lv r (ck_x i) x := by
  refine ⟨fun t ht => ?_, ?_⟩
  · rw [show (ck_x i).2 = [((1 : Int), i)] from rfl, List.mem_singleton] at ht
    rw [ht]
    exact (List.getElem?_eq_some_iff.mp h).1
  · show x = 0 + (1 * r.getD i 0 + 0)
    rw [List.getD_eq_getElem?_getD, h, Option.getD_some]
    omega
/-- the last number -/
theorem ck_Lv.last (r : List Int) (x : Int) : ck_Lv (r ++ [x]) (ck_x r.length) x := ck_Lv.x (by rw [List.getElem?_append_right (Nat.le_refl _)]; simp)
-- least and greatest values
def ck_lot (V : ck_I) : List (Int × Nat) → Int
  | [] => 0
  | t :: u => (match t.1 with
    | .ofNat c => (c : Int) * (V.getD t.2 (0, 0)).1
    | .negSucc c => Int.negSucc c * (V.getD t.2 (0, 0)).2) + ck_lot V u
def ck_lo (V : ck_I) (e : ck_L) : Int := e.1 + ck_lot V e.2
def ck_hi (V : ck_I) (e : ck_L) : Int := -(ck_lo V (ck_mul (-1) e))
def ck_In (V : ck_I) (r : List Int) : Prop := V.length = r.length ∧ ∀ (i : Nat) (a b x : Int), V[i]? = some (a, b) → r[i]? = some x → a ≤ x ∧ x ≤ b
theorem ck_In.at {V : ck_I} {r : List Int} (h : ck_In V r) {i : Nat} (hi : i < r.length) : (V.getD i (0, 0)).1 ≤ r.getD i 0 ∧ r.getD i 0 ≤ (V.getD i (0, 0)).2 := by
  have hV : i < V.length := by rw [h.1]; exact hi
  have h1 : V[i]? = some (V[i]'hV) := List.getElem?_eq_getElem hV
  have h2 : r[i]? = some r[i] := List.getElem?_eq_getElem hi
  rw [List.getD_eq_getElem?_getD, List.getD_eq_getElem?_getD, h1, h2]
  exact h.2 i _ _ _ h1 h2
theorem ck_lot_le {V : ck_I} {r : List Int} (h : ck_In V r) {e : List (Int × Nat)} (hs : ck_Sc r.length e) : ck_lot V e ≤ ck_ev r e := by
  induction e with
  | nil => exact Int.le_refl _
  | cons t u ih =>
    have h1 := ih fun z hz => hs z (List.mem_cons_of_mem _ hz)
    obtain ⟨h2, h3⟩ := h.at (hs t List.mem_cons_self)
    unfold ck_lot ck_ev
    obtain ⟨c, i⟩ := t
    cases c with
    | ofNat c =>
      have : (c : Int) * (V.getD i (0, 0)).1 ≤ (c : Int) * r.getD i 0 := Int.mul_le_mul_of_nonneg_left h2 (Int.natCast_nonneg c)
      show (c : Int) * (V.getD i (0, 0)).1 + ck_lot V u ≤ (c : Int) * r.getD i 0 + ck_ev r u
      omega
    | negSucc c =>
      have : Int.negSucc c * (V.getD i (0, 0)).2 ≤ Int.negSucc c * r.getD i 0 := Int.mul_le_mul_of_nonpos_left (by omega) h3
      show Int.negSucc c * (V.getD i (0, 0)).2 + ck_lot V u ≤ Int.negSucc c * r.getD i 0 + ck_ev r u
      omega
theorem ck_lo_le {V : ck_I} {r : List Int} (h : ck_In V r) {e : ck_L} {x : Int} (he : ck_Lv r e x) : ck_lo V e ≤ x := by
  have := ck_lot_le h he.1
  rw [he.2]
  unfold ck_lo
  omega
theorem ck_hi_ge {V : ck_I} {r : List Int} (h : ck_In V r) {e : ck_L} {x : Int} (he : ck_Lv r e x) : x ≤ ck_hi V e := by
  have := ck_lo_le h (he.mul (-1))
  unfold ck_hi
  omega
def ck_nn (i : Int) : Bool := match i with
  | .ofNat _ => true
  | .negSucc _ => false
theorem ck_nn_ok {i : Int} (h : ck_nn i = true) : 0 ≤ i := by
  cases i with
  | ofNat n => exact Int.natCast_nonneg n
  | negSucc n => cases h
def ck_Co (C : List ck_L) (r : List Int) : Prop := ∀ c ∈ C, ∃ x : Int, ck_Lv r c x ∧ 0 ≤ x
theorem ck_Co.app {C : List ck_L} {r : List Int} (h : ck_Co C r) (q : List Int) : ck_Co C (r ++ q) := fun c hc => by
  obtain ⟨x, h1, h2⟩ := h c hc
  exact ⟨x, h1.app q, h2⟩
def ck_ge (V : ck_I) (C : List ck_L) (g : ck_L) : Bool := ck_nn (ck_lo V g) || (C.any (fun c => ck_nn (ck_lo V (ck_sub g c))) || C.any (fun c => C.any (fun d => ck_nn (ck_lo V (ck_sub (ck_sub g c) d)))))
theorem ck_ge_ok {V : ck_I} {C : List ck_L} {r : List Int} {g : ck_L} {x : Int} (h : ck_ge V C g = true) (hI : ck_In V r) (hC : ck_Co C r) (hg : ck_Lv r g x) : 0 ≤ x := by
  unfold ck_ge at h
  rcases Bool.or_eq_true_iff.mp h with h | h
  · have := ck_lo_le hI hg
    have := ck_nn_ok h
    omega
  · rcases Bool.or_eq_true_iff.mp h with h | h
    · obtain ⟨c, hc, h1⟩ := List.any_eq_true.mp h
      obtain ⟨y, h2, h3⟩ := hC c hc
      have := ck_lo_le hI (hg.sub h2)
      have := ck_nn_ok h1
      omega
    · obtain ⟨c, hc, h1⟩ := List.any_eq_true.mp h
      obtain ⟨d, hd, h4⟩ := List.any_eq_true.mp h1
      obtain ⟨y, h2, h3⟩ := hC c hc
      obtain ⟨z, h5, h6⟩ := hC d hd
      have := ck_lo_le hI ((hg.sub h2).sub h5)
      have := ck_nn_ok h4
      omega
/-- a ≤ b -/
def ck_le (V : ck_I) (C : List ck_L) (a b : ck_L) : Bool := ck_ge V C (ck_sub b a)
theorem ck_le_ok {V : ck_I} {C : List ck_L} {r : List Int} {a b : ck_L} {x y : Int} (h : ck_le V C a b = true) (hI : ck_In V r) (hC : ck_Co C r) (ha : ck_Lv r a x) (hb : ck_Lv r b y) : x ≤ y := by
  have := ck_ge_ok h hI hC (hb.sub ha)
  omega
def ck_eq (a b : ck_L) : Bool := match ck_sub a b with
  | (.ofNat 0, []) => true
  | _ => false
theorem ck_eq_ok {r : List Int} {a b : ck_L} {x y : Int} (h : ck_eq a b = true) (ha : ck_Lv r a x) (hb : ck_Lv r b y) : x = y := by
  have h1 := ha.sub hb
  unfold ck_eq at h
  split at h
  · next e =>
    rw [e] at h1
    have := h1.2
    have h2 : x - y = 0 + 0 := this
    omega
  · cases h
-- a form in other numbers
def ck_sb (th : List ck_L) (e : ck_L) : ck_L := e.2.foldr (fun t acc => ck_add (ck_mul t.1 (th.getD t.2 (0, []))) acc) (e.1, [])
def ck_Th (th : List ck_L) (r r' : List Int) : Prop := th.length = r'.length ∧ ∀ (i : Nat) (e : ck_L) (x : Int), th[i]? = some e → r'[i]? = some x → ck_Lv r e x
theorem ck_sb_ok {th : List ck_L} {r r' : List Int} (h : ck_Th th r r') {e : ck_L} {x : Int} (he : ck_Lv r' e x) : ck_Lv r (ck_sb th e) x := by
  obtain ⟨c, e⟩ := e
  obtain ⟨hs, hx⟩ := he
  unfold ck_sb
  induction e generalizing x with
  | nil => rw [hx]; exact ⟨fun t ht => (nomatch ht), rfl⟩
  | cons t u ih =>
    have h1 := ih (x := c + ck_ev r' u) (fun z hz => hs z (List.mem_cons_of_mem _ hz)) rfl
    have hl : t.2 < r'.length := hs t List.mem_cons_self
    have hT : t.2 < th.length := by rw [h.1]; exact hl
    have h2 : th[t.2]? = some (th[t.2]'hT) := List.getElem?_eq_getElem hT
    have h3 : r'[t.2]? = some (r'[t.2]'hl) := List.getElem?_eq_getElem hl
    have h4 := (h.2 _ _ _ h2 h3).mul t.1
    have h5 := h4.add h1
    have e1 : th.getD t.2 (0, []) = th[t.2] := by rw [List.getD_eq_getElem?_getD, h2, Option.getD_some]
    have e2 : r'.getD t.2 0 = r'[t.2] := by rw [List.getD_eq_getElem?_getD, h3, Option.getD_some]
    show ck_Lv r (ck_add (ck_mul t.1 (th.getD t.2 (0, []))) (u.foldr (fun t acc => ck_add (ck_mul t.1 (th.getD t.2 (0, []))) acc) (c, []))) x
    rw [e1, hx]
    show ck_Lv r _ (c + (t.1 * r'.getD t.2 0 + ck_ev r' u))
    rw [e2, show c + (t.1 * r'[t.2] + ck_ev r' u) = t.1 * r'[t.2] + (c + ck_ev r' u) by omega]
    exact h5
theorem ck_Th.app {th th2 : List ck_L} {r r' q : List Int} (h : ck_Th th r r') (h2 : ck_Th th2 r q) : ck_Th (th ++ th2) r (r' ++ q) := by
  refine ⟨by rw [List.length_append, List.length_append, h.1, h2.1], fun i e x hi hx => ?_⟩
  by_cases hl : i < th.length
  · rw [List.getElem?_append_left hl] at hi
    rw [List.getElem?_append_left (by rw [← h.1]; exact hl)] at hx
    exact h.2 i e x hi hx
  · rw [List.getElem?_append_right (by omega)] at hi
    rw [List.getElem?_append_right (by rw [← h.1]; omega)] at hx
    rw [h.1] at hi
    exact h2.2 _ e x hi hx
theorem ck_Th.mono {th : List ck_L} {r r' : List Int} (h : ck_Th th r r') (q : List Int) : ck_Th th (r ++ q) r' := ⟨h.1, fun i e x h1 h2 => (h.2 i e x h1 h2).app q⟩
theorem ck_In.app {V V2 : ck_I} {r q : List Int} (h : ck_In V r) (h2 : ck_In V2 q) : ck_In (V ++ V2) (r ++ q) := by
  refine ⟨by rw [List.length_append, List.length_append, h.1, h2.1], fun i a b x hi hx => ?_⟩
  by_cases hl : i < V.length
  · rw [List.getElem?_append_left hl] at hi
    rw [List.getElem?_append_left (by rw [← h.1]; exact hl)] at hx
    exact h.2 i a b x hi hx
  · rw [List.getElem?_append_right (by omega)] at hi
    rw [List.getElem?_append_right (by rw [← h.1]; omega)] at hx
    rw [h.1] at hi
    exact h2.2 _ a b x hi hx
theorem ck_In.one {a b x : Int} (h1 : a ≤ x) (h2 : x ≤ b) : ck_In [(a, b)] [x] := by
  refine ⟨rfl, fun i c d y hi hx => ?_⟩
  match i, hi, hx with
  | 0, hi, hx => cases hi; cases hx; exact ⟨h1, h2⟩
theorem ck_In.nil : ck_In [] [] := ⟨rfl, fun i a b x hi => (nomatch hi)⟩
