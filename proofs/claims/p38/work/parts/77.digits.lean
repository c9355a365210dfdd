/-! ROWS OF DIGITS: what is added, taken away, compared -/
def hd_r (ds : List Int) : List Value := ds.map fun d => .int (Int32.ofInt d)
def hd_d (ds : List Int) : Prop := ∀ d ∈ ds, 0 ≤ d ∧ d ≤ 9
def hd_v : List Int → Int
  | [] => 0
  | d :: u => d + 10 * hd_v u
theorem hd_oi {z : Int} (h1 : -2147483648 ≤ z) (h2 : z ≤ 2147483647) : (Int32.ofInt z).toInt = z := Int32.toInt_ofInt_of_le (by omega) (by omega)
theorem hd_r_len (ds : List Int) : (hd_r ds).length = ds.length := by unfold hd_r; rw [List.length_map]
theorem hd_r_get {ds : List Int} {j : Nat} {d : Int} (h : ds[j]? = some d) : (hd_r ds)[j]? = some (.int (Int32.ofInt d)) := by unfold hd_r; rw [List.getElem?_map, h]; rfl
theorem hd_r_set (ds : List Int) (j : Nat) (d : Int) : (hd_r ds).set j (.int (Int32.ofInt d)) = hd_r (ds.set j d) := by unfold hd_r; rw [List.map_set]
theorem hd_d.at {ds : List Int} (h : hd_d ds) {j : Nat} {d : Int} (e : ds[j]? = some d) : 0 ≤ d ∧ d ≤ 9 := h d (List.mem_of_getElem? e)
theorem hd_d.take {ds : List Int} (h : hd_d ds) (n : Nat) : hd_d (ds.take n) := fun d hd => h d (List.mem_of_mem_take hd)
theorem hd_d.drop {ds : List Int} (h : hd_d ds) (n : Nat) : hd_d (ds.drop n) := fun d hd => h d (List.mem_of_mem_drop hd)
theorem hd_d.app {a b : List Int} (h : hd_d a) (h' : hd_d b) : hd_d (a ++ b) := fun d hd => (List.mem_append.mp hd).elim (h d) (h' d)
theorem hd_d.cons {a : Int} {u : List Int} (h : hd_d (a :: u)) : (0 ≤ a ∧ a ≤ 9) ∧ hd_d u := ⟨h a List.mem_cons_self, fun d hd => h d (List.mem_cons_of_mem _ hd)⟩
theorem hd_v_nn {ds : List Int} (h : hd_d ds) : 0 ≤ hd_v ds := by
  induction ds with
  | nil => exact Int.le_refl _
  | cons a u ih => obtain ⟨h1, h2⟩ := h.cons; have := ih h2; show 0 ≤ a + 10 * hd_v u; omega
theorem hd_v_lt {ds : List Int} (h : hd_d ds) : hd_v ds < 10 ^ ds.length := by
  induction ds with
  | nil => show (0 : Int) < 1; decide
  | cons a u ih =>
    obtain ⟨h1, h2⟩ := h.cons
    have := ih h2
    show a + 10 * hd_v u < 10 ^ (u.length + 1)
    rw [Int.pow_succ]
    omega
/-- digits, of a row that holds digits alone -/
theorem hd_of {vs : List Value} (h : ck_dig vs) : ∃ ds : List Int, vs = hd_r ds ∧ hd_d ds ∧ ck_val vs = hd_v ds := by
  induction vs with
  | nil => exact ⟨[], rfl, (fun d hd => nomatch hd), rfl⟩
  | cons v u ih =>
    obtain ⟨x, rfl, h1, h2⟩ := h 0 v rfl
    obtain ⟨ds, rfl, h3, h4⟩ := ih fun j w hw => h (j + 1) w hw
    refine ⟨x.toInt :: ds, ?_, fun d hd => ?_, ?_⟩
    · show _ = Value.int (Int32.ofInt x.toInt) :: hd_r ds
      rw [Int32.ofInt_toInt]
    · rcases List.mem_cons.mp hd with rfl | hd
      · exact ⟨h1, h2⟩
      · exact h3 d hd
    · show x.toInt + 10 * ck_val (hd_r ds) = x.toInt + 10 * hd_v ds
      rw [h4]
theorem hd_to {ds : List Int} (h : hd_d ds) : ck_dig (hd_r ds) ∧ ck_val (hd_r ds) = hd_v ds := by
  refine ⟨fun j v hv => ?_, ?_⟩
  · unfold hd_r at hv
    rw [List.getElem?_map] at hv
    cases hd : ds[j]? with
    | none => rw [hd] at hv; cases hv
    | some d =>
      rw [hd] at hv
      cases hv
      obtain ⟨h1, h2⟩ := h.at hd
      exact ⟨_, rfl, by rw [hd_oi (by omega) (by omega)]; exact h1, by rw [hd_oi (by omega) (by omega)]; exact h2⟩
  · induction ds with
    | nil => rfl
    | cons a u ih =>
      obtain ⟨⟨h1, h2⟩, h3⟩ := h.cons
      show (Int32.ofInt a).toInt + 10 * ck_val (hd_r u) = a + 10 * hd_v u
      rw [hd_oi (by omega) (by omega), ih h3]
/-- the same digits above, another one at a place -/
theorem hd_cmp : ∀ {i : Nat} {A B : List Int} {a b : Int}, hd_d A → hd_d B → A[i]? = some a → B[i]? = some b → A.drop (i + 1) = B.drop (i + 1) → a < b → hd_v A < hd_v B := by
  intro i
  induction i with
  | zero =>
    intro A B a b hA hB ea eb ed hab
    cases A with
    | nil => cases ea
    | cons x A =>
      cases B with
      | nil => cases eb
      | cons y B =>
        cases ea; cases eb
        have ed : A = B := ed
        rw [ed]
        show a + 10 * hd_v B < b + 10 * hd_v B
        omega
  | succ i ih =>
    intro A B a b hA hB ea eb ed hab
    cases A with
    | nil => cases ea
    | cons x A =>
      cases B with
      | nil => cases eb
      | cons y B =>
        obtain ⟨h1, h2⟩ := hA.cons
        obtain ⟨h3, h4⟩ := hB.cons
        have := ih h2 h4 ea eb ed hab
        show x + 10 * hd_v A < y + 10 * hd_v B
        omega
/-- a row and another one added (by = 1) or taken away (by = -1), with what comes over -/
def hd_chg (by_ : Int) : Int → List Int → List Int → List Int
  | _, [], _ => []
  | o, a :: r, s => (if a + o + by_ * s.headD 0 < 0 then a + o + by_ * s.headD 0 + 10 else (a + o + by_ * s.headD 0) % 10) :: hd_chg by_ (if a + o + by_ * s.headD 0 < 0 then -1 else (a + o + by_ * s.headD 0) / 10) r s.tail
def hd_bo (by_ o : Int) : Prop := (by_ = 1 ∧ 0 ≤ o ∧ o ≤ 1) ∨ (by_ = -1 ∧ -1 ≤ o ∧ o ≤ 0)
theorem hd_bo.here {by_ o a b : Int} (h : hd_bo by_ o) (ha : 0 ≤ a ∧ a ≤ 9) (hb : 0 ≤ b ∧ b ≤ 9) : (-10 ≤ a + o + by_ * b ∧ a + o + by_ * b ≤ 19) ∧ hd_bo by_ (if a + o + by_ * b < 0 then -1 else (a + o + by_ * b) / 10) := by
  rcases h with ⟨rfl, h1, h2⟩ | ⟨rfl, h1, h2⟩
  · rw [Int.one_mul]
    refine ⟨by omega, Or.inl ⟨rfl, ?_⟩⟩
    rw [if_neg (by omega)]
    omega
  · rw [show (-1 : Int) * b = -b by omega]
    refine ⟨by omega, Or.inr ⟨rfl, ?_⟩⟩
    split <;> omega
theorem hd_head {s : List Int} (h : hd_d s) : 0 ≤ s.headD 0 ∧ s.headD 0 ≤ 9 := by
  cases s with
  | nil => exact ⟨Int.le_refl _, by decide⟩
  | cons a u => exact h.cons.1
theorem hd_tail {s : List Int} (h : hd_d s) : hd_d s.tail := fun d hd => h d (List.mem_of_mem_tail hd)
theorem hd_chg_ok {by_ : Int} : ∀ {r s : List Int} {o : Int}, hd_d r → hd_d s → hd_bo by_ o → hd_d (hd_chg by_ o r s) ∧ (hd_chg by_ o r s).length = r.length ∧ ∃ c : Int, hd_v (hd_chg by_ o r s) + 10 ^ r.length * c = o + hd_v r + by_ * hd_v (s.take r.length) := by
  intro r
  induction r with
  | nil => exact fun {s o} _ _ _ => ⟨(fun d hd => nomatch hd), rfl, o, by show (0 : Int) + 10 ^ 0 * o = o + 0 + by_ * 0; rw [Int.pow_zero, Int.one_mul, Int.mul_zero]; omega⟩
  | cons a r ih =>
    intro s o hr hs ho
    obtain ⟨ha, hr⟩ := hr.cons
    obtain ⟨h1, h2⟩ := ho.here ha (hd_head hs)
    obtain ⟨i1, i2, c, i3⟩ := ih hr (hd_tail hs) h2
    unfold hd_chg
    refine ⟨fun d hd => ?_, by rw [List.length_cons, i2, List.length_cons], c, ?_⟩
    · rcases List.mem_cons.mp hd with rfl | hd
      · split <;> omega
      · exact i1 d hd
    · have e1 : hd_v (s.take (r.length + 1)) = s.headD 0 + 10 * hd_v (s.tail.take r.length) := by
        cases s with
        | nil => show (0 : Int) = 0 + 10 * hd_v (([] : List Int).take r.length); rw [List.take_nil]; rfl
        | cons b s => rfl
      have e2 : (10 : Int) ^ r.length * 10 * c = 10 * (10 ^ r.length * c) := by rw [Int.mul_assoc, Int.mul_left_comm]
      have e3 : ∀ (d' o' V P Q R b : Int), d' + 10 * o' = a + o + by_ * b → V + P = o' + R + by_ * Q → d' + 10 * V + 10 * P = o + (a + 10 * R) + by_ * (b + 10 * Q) := by
        intro d' o' V P Q R b y1 y2
        rw [Int.mul_add, Int.mul_left_comm]
        omega
      rw [List.length_cons, e1, Int.pow_succ, e2]
      refine e3 _ _ _ _ _ _ _ ?_ i3
      by_cases z : a + o + by_ * s.headD 0 < 0
      · rw [if_pos z, if_pos z]; omega
      · rw [if_neg z, if_neg z]; omega
/-- what is no less can be taken away -/
theorem hd_chg_sub {r s : List Int} (hr : hd_d r) (hs : hd_d s) (h : hd_v (s.take r.length) ≤ hd_v r) : hd_v (hd_chg (-1) 0 r s) = hd_v r - hd_v (s.take r.length) := by
  obtain ⟨h1, h2, c, h3⟩ := hd_chg_ok (by_ := -1) (o := 0) hr hs (Or.inr ⟨rfl, by decide, by decide⟩)
  have h4 := hd_v_lt h1
  have h5 := hd_v_nn h1
  have h6 := hd_v_lt hr
  have h7 := hd_v_nn (hs.take r.length)
  rw [h2] at h4
  have hc : c = 0 := by
    have hp : (0 : Int) < 10 ^ r.length := Int.pow_pos (by decide)
    rcases Int.lt_trichotomy c 0 with hc | hc | hc
    · exfalso
      have : (10 : Int) ^ r.length * c ≤ 10 ^ r.length * (-1) := Int.mul_le_mul_of_nonneg_left (by omega) (by omega)
      omega
    · exact hc
    · exfalso
      have : (10 : Int) ^ r.length * 1 ≤ 10 ^ r.length * c := Int.mul_le_mul_of_nonneg_left (by omega) (by omega)
      omega
  rw [hc, Int.mul_zero] at h3
  omega
theorem hd_chg_nil (by_ o : Int) (s : List Int) : hd_chg by_ o [] s = [] := by unfold hd_chg; rfl
/-- a place further -/
theorem hd_step {by_ o d e : Int} {ds os : List Int} {k z : Nat} (hd : ds[k]? = some d) (ho : os[k - z]? = some e) (hz : z ≤ k) {d' o' : Int} (h1 : d' = if d + o + by_ * e < 0 then d + o + by_ * e + 10 else (d + o + by_ * e) % 10) (h2 : o' = if d + o + by_ * e < 0 then -1 else (d + o + by_ * e) / 10) :
    ds.take k ++ hd_chg by_ o (ds.drop k) (os.drop (k - z)) = (ds.set k d').take (k + 1) ++ hd_chg by_ o' ((ds.set k d').drop (k + 1)) (os.drop (k + 1 - z)) := by
  obtain ⟨hk, hd1⟩ := List.getElem?_eq_some_iff.mp hd
  obtain ⟨hk2, ho1⟩ := List.getElem?_eq_some_iff.mp ho
  have e1 : ds.drop k = d :: ds.drop (k + 1) := by rw [List.drop_eq_getElem_cons hk, hd1]
  have e2 : os.drop (k - z) = e :: os.drop (k + 1 - z) := by rw [List.drop_eq_getElem_cons hk2, ho1, show k - z + 1 = k + 1 - z by omega]
  have e3 : (ds.set k d').take (k + 1) = ds.take k ++ [d'] := by
    rw [List.take_succ_eq_append_getElem (by rw [List.length_set]; exact hk), List.getElem_set_self, List.take_set_of_le (by omega)]
  have e4 : (ds.set k d').drop (k + 1) = ds.drop (k + 1) := List.drop_set_of_lt (by omega)
  rw [e1, e2, e3, e4]
  conv => lhs; unfold hd_chg
  rw [List.headD_cons, List.tail_cons, ← h1, ← h2, List.append_assoc, List.singleton_append]
/-- places ahead of the zeros -/
def hd_pl (ds : List Int) (n : Nat) : Prop := n ≤ ds.length ∧ (∀ (j : Nat) (d : Int), n ≤ j → ds[j]? = some d → d = 0) ∧ (0 < n → ∃ d, ds[n - 1]? = some d ∧ d ≠ 0)
theorem hd_v_app (a b : List Int) : hd_v (a ++ b) = hd_v a + 10 ^ a.length * hd_v b := by
  induction a with
  | nil => show hd_v b = 0 + 10 ^ 0 * hd_v b; omega
  | cons x a ih =>
    show x + 10 * hd_v (a ++ b) = x + 10 * hd_v a + 10 ^ (a.length + 1) * hd_v b
    rw [ih, Int.pow_succ, Int.mul_right_comm, Int.mul_comm (10 ^ a.length * hd_v b) 10]
    omega
theorem hd_v_zero {ds : List Int} (h : ∀ d ∈ ds, d = 0) : hd_v ds = 0 := by
  induction ds with
  | nil => rfl
  | cons a u ih =>
    have h1 := h a List.mem_cons_self
    have h2 := ih fun d hd => h d (List.mem_cons_of_mem _ hd)
    show a + 10 * hd_v u = 0
    omega
theorem hd_pl.take {ds : List Int} {n m : Nat} (h : hd_pl ds n) (hm : n ≤ m) : hd_v (ds.take m) = hd_v ds := by
  have e : hd_v ds = hd_v (ds.take m ++ ds.drop m) := by rw [List.take_append_drop]
  rw [e, hd_v_app, hd_v_zero (ds := ds.drop m), Int.mul_zero, Int.add_zero]
  intro d hd
  obtain ⟨j, hj⟩ := List.getElem?_of_mem hd
  rw [List.getElem?_drop] at hj
  exact h.2.1 (m + j) d (by omega) hj
theorem hd_pl.lt {ds : List Int} {n : Nat} (h : hd_pl ds n) (hd : hd_d ds) : hd_v ds < 10 ^ n := by
  rw [← h.take (Nat.le_refl n)]
  have := hd_v_lt (hd.take n)
  rw [List.length_take, Nat.min_eq_left h.1] at this
  exact this
theorem hd_v_at {ds : List Int} (h : hd_d ds) : ∀ {j : Nat} {d : Int}, ds[j]? = some d → d ≠ 0 → (10 : Int) ^ j ≤ hd_v ds := by
  induction ds with
  | nil => intro j d e; cases e
  | cons a u ih =>
    intro j d e hd
    obtain ⟨h1, h2⟩ := h.cons
    have h3 := hd_v_nn h2
    cases j with
    | zero => cases e; show (1 : Int) ≤ a + 10 * hd_v u; omega
    | succ j =>
      have := ih h2 e hd
      show (10 : Int) ^ (j + 1) ≤ a + 10 * hd_v u
      rw [Int.pow_succ]
      omega
theorem hd_pl.ge {ds : List Int} {n : Nat} (h : hd_pl ds n) (hd : hd_d ds) (hn : 0 < n) : (10 : Int) ^ (n - 1) ≤ hd_v ds := by
  obtain ⟨d, h1, h2⟩ := h.2.2 hn
  exact hd_v_at hd h1 h2
theorem hd_pow {a b : Nat} (h : a ≤ b) : (10 : Int) ^ a ≤ 10 ^ b := by
  obtain ⟨c, rfl⟩ := Nat.exists_eq_add_of_le h
  rw [Int.pow_add]
  have h1 : (0 : Int) < 10 ^ a := Int.pow_pos (by decide)
  have h2 : (0 : Int) < 10 ^ c := Int.pow_pos (by decide)
  have : (10 : Int) ^ a * 1 ≤ 10 ^ a * 10 ^ c := Int.mul_le_mul_of_nonneg_left (by omega) (by omega)
  omega
/-- fewer places: less -/
theorem hd_pl.less {ds os : List Int} {n m : Nat} (h : hd_pl ds n) (h' : hd_pl os m) (hd : hd_d ds) (ho : hd_d os) (hl : n < m) : hd_v ds < hd_v os := by
  have h1 := h.lt hd
  have h2 := h'.ge ho (by omega)
  have := hd_pow (a := n) (b := m - 1) (by omega)
  omega
theorem hd_pl.pos {ds : List Int} {n : Nat} (h : hd_pl ds n) (hd : hd_d ds) (hn : 0 < n) : 1 ≤ hd_v ds := by
  have := h.ge hd hn
  have : (0 : Int) < 10 ^ (n - 1) := Int.pow_pos (by decide)
  omega
/-! THE FRAME'S STEPS WITH WRITTEN NUMBERS -/
section HDS
variable {L : List (Option Value)} {st : List Value} {x y v : Int} {a : Nat}
theorem hd_add : ck_cf 15 0 v L (.int (Int32.ofInt y) :: .int (Int32.ofInt x) :: st) = some (L, .int (Int32.ofInt (x + y)) :: st) := by rw [Int32.ofInt_add]; rfl
theorem hd_sub : ck_cf 15 1 v L (.int (Int32.ofInt y) :: .int (Int32.ofInt x) :: st) = some (L, .int (Int32.ofInt (x - y)) :: st) := by rw [Int32.ofInt_sub]; rfl
theorem hd_mul : ck_cf 15 2 v L (.int (Int32.ofInt y) :: .int (Int32.ofInt x) :: st) = some (L, .int (Int32.ofInt (x * y)) :: st) := by rw [Int32.ofInt_mul]; rfl
theorem hd_i0 (h1 : 0 < y) (h2 : y ≤ 2147483647) : ¬ Int32.ofInt y = 0 := fun z => by
  have := hd_oi (z := y) (by omega) h2
  rw [z, Int32.toInt_zero] at this
  omega
theorem hd_divI (h1 : 0 ≤ x) (h2 : x ≤ 2147483647) (h3 : 0 < y) (h4 : y ≤ 2147483647) : Int32.ofInt x / Int32.ofInt y = Int32.ofInt (x / y) := by
  have hm : Int32.minValue.toInt = -2147483648 := by decide
  have hM : Int32.maxValue.toInt = 2147483647 := by decide
  rw [← Int32.ofInt_tdiv (by omega) (by omega) (by omega) (by omega), Int.tdiv_eq_ediv_of_nonneg h1]
theorem hd_div (h1 : 0 ≤ x) (h2 : x ≤ 2147483647) (h3 : 0 < y) (h4 : y ≤ 2147483647) : ck_cf 15 3 v L (.int (Int32.ofInt y) :: .int (Int32.ofInt x) :: st) = some (L, .int (Int32.ofInt (x / y)) :: st) := by
  rw [← hd_divI h1 h2 h3 h4]
  show (if ck_dz 3 = true ∧ Int32.ofInt y = 0 then none else _) = _
  rw [if_neg (fun z => hd_i0 h3 h4 z.2)]
  rfl
theorem hd_rem (h1 : 0 ≤ x) (h2 : x ≤ 2147483647) (h3 : 0 < y) (h4 : y ≤ 2147483647) : ck_cf 15 4 v L (.int (Int32.ofInt y) :: .int (Int32.ofInt x) :: st) = some (L, .int (Int32.ofInt (x % y)) :: st) := by
  have e : Int32.ofInt x - Int32.ofInt x / Int32.ofInt y * Int32.ofInt y = Int32.ofInt (x % y) := by
    rw [hd_divI h1 h2 h3 h4, ← Int32.ofInt_mul, ← Int32.ofInt_sub, Int.emod_def, Int.mul_comm]
  rw [← e]
  show (if ck_dz 4 = true ∧ Int32.ofInt y = 0 then none else _) = _
  rw [if_neg (fun z => hd_i0 h3 h4 z.2)]
  rfl
theorem hd_inc (h : L[a]? = some (some (.int (Int32.ofInt x)))) : ck_cf 9 a v L st = some (am_put1 L a (.int (Int32.ofInt (x + v))), st) := by
  show (match L[a]? with | some (some (.int x)) => some (am_put1 L a (.int (x + Int32.ofInt v)), st) | _ => none) = _
  rw [h, Int32.ofInt_add]
end HDS
