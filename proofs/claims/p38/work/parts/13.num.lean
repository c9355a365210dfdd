/-! WHAT BECOMES OF BOUNDS AND FORMS: a form is found to be 0 or above; sums, products, quotients, rests -/
abbrev ck_Q : Type := ck_I × List ck_L
def ck_ok (Q : ck_Q) (r : List Int) : Prop := ck_In Q.1 r ∧ ck_Co Q.2 r
def ck_mn (a b : Int) : Int := bif ck_nn (b - a) then a else b
def ck_mx (a b : Int) : Int := bif ck_nn (b - a) then b else a
theorem ck_nn_iff {i : Int} : ck_nn i = true ↔ 0 ≤ i := ⟨ck_nn_ok, fun h => by cases i with
  | ofNat n => rfl
  | negSucc n => exact absurd h (by omega)⟩
theorem ck_mn_or (a b : Int) : (ck_mn a b = a ∧ a ≤ b) ∨ (ck_mn a b = b ∧ b < a) := by
  unfold ck_mn
  cases h : ck_nn (b - a)
  · right
    have : ¬ 0 ≤ b - a := fun z => by rw [ck_nn_iff.mpr z] at h; cases h
    exact ⟨rfl, by omega⟩
  · left
    have := ck_nn_ok h
    exact ⟨rfl, by omega⟩
theorem ck_mx_or (a b : Int) : (ck_mx a b = b ∧ a ≤ b) ∨ (ck_mx a b = a ∧ b < a) := by
  unfold ck_mx
  cases h : ck_nn (b - a)
  · right
    have : ¬ 0 ≤ b - a := fun z => by rw [ck_nn_iff.mpr z] at h; cases h
    exact ⟨rfl, by omega⟩
  · left
    have := ck_nn_ok h
    exact ⟨rfl, by omega⟩
/-- d is found to be 0 or above: none, if it can't be -/
def ck_as (Q : ck_Q) (d : ck_L) : Option ck_Q :=
  bif ck_ge Q.1 Q.2 d then some Q else
  bif ck_ge Q.1 Q.2 (ck_sub (ck_k (-1)) d) then none else
  match d with
  | (c, [(1, v)]) => some (Q.1.set v (ck_mx (Q.1.getD v (0, 0)).1 (-c), (Q.1.getD v (0, 0)).2), Q.2)
  | (c, [(.negSucc 0, v)]) => some (Q.1.set v ((Q.1.getD v (0, 0)).1, ck_mn (Q.1.getD v (0, 0)).2 c), Q.2)
  | d => some (Q.1, d :: Q.2)
theorem ck_In.set {V : ck_I} {r : List Int} (h : ck_In V r) {v : Nat} {a b : Int} (hv : ∀ x : Int, r[v]? = some x → a ≤ x ∧ x ≤ b) : ck_In (V.set v (a, b)) r := by
  refine ⟨by rw [List.length_set]; exact h.1, fun i c d x hi hx => ?_⟩
  by_cases e : v = i
  · subst e
    have hl : v < V.length := by rw [h.1]; exact (List.getElem?_eq_some_iff.mp hx).1
    rw [List.getElem?_set_self hl] at hi
    cases hi
    exact hv x hx
  · rw [List.getElem?_set_ne e] at hi
    exact h.2 i c d x hi hx
theorem ck_as_ok {Q : ck_Q} {d : ck_L} {r : List Int} {x : Int} (h : ck_ok Q r) (hd : ck_Lv r d x) (h0 : 0 ≤ x) : ∃ Q' : ck_Q, ck_as Q d = some Q' ∧ ck_ok Q' r := by
  have hmore : ck_ok (Q.1, d :: Q.2) r := ⟨h.1, fun c hc => by
    rcases List.mem_cons.mp hc with e | e
    · rw [e]; exact ⟨x, hd, h0⟩
    · exact h.2 c e⟩
  unfold ck_as
  cases h1 : ck_ge Q.1 Q.2 d
  · rw [cond_false]
    cases h2 : ck_ge Q.1 Q.2 (ck_sub (ck_k (-1)) d)
    · rw [cond_false]
      split
      · next c v =>
        refine ⟨_, rfl, h.1.set fun y hy => ?_, h.2⟩
        have hl : v < r.length := (List.getElem?_eq_some_iff.mp hy).1
        have h3 := h.1.at hl
        have h4 := hd.2
        have h5 : r.getD v 0 = y := by rw [List.getD_eq_getElem?_getD, hy]; rfl
        have h6 : x = c + (1 * r.getD v 0 + 0) := h4
        have := ck_mx_or (Q.1.getD v (0, 0)).1 (-c)
        omega
      · next c v =>
        refine ⟨_, rfl, h.1.set fun y hy => ?_, h.2⟩
        have hl : v < r.length := (List.getElem?_eq_some_iff.mp hy).1
        have h3 := h.1.at hl
        have h4 := hd.2
        have h5 : r.getD v 0 = y := by rw [List.getD_eq_getElem?_getD, hy]; rfl
        have h6 : x = c + (Int.negSucc 0 * r.getD v 0 + 0) := h4
        have h7 : Int.negSucc 0 = -1 := rfl
        rw [h7] at h6
        have := ck_mn_or (Q.1.getD v (0, 0)).2 c
        omega
      · exact ⟨_, rfl, hmore⟩
    · have := ck_ge_ok h2 h.1 h.2 ((ck_Lv.k r (-1)).sub hd)
      omega
  · rw [cond_true]
    exact ⟨Q, rfl, h⟩
/-- d is found not to be 0 -/
def ck_an (Q : ck_Q) (d : ck_L) : Option ck_Q :=
  bif ck_ge Q.1 Q.2 d then ck_as Q (ck_sub d (ck_k 1)) else
  bif ck_ge Q.1 Q.2 (ck_mul (-1) d) then ck_as Q (ck_sub (ck_mul (-1) d) (ck_k 1)) else some Q
theorem ck_an_ok {Q : ck_Q} {d : ck_L} {r : List Int} {x : Int} (h : ck_ok Q r) (hd : ck_Lv r d x) (h0 : x ≠ 0) : ∃ Q' : ck_Q, ck_an Q d = some Q' ∧ ck_ok Q' r := by
  unfold ck_an
  cases h1 : ck_ge Q.1 Q.2 d
  · rw [cond_false]
    cases h2 : ck_ge Q.1 Q.2 (ck_mul (-1) d)
    · rw [cond_false]
      exact ⟨Q, rfl, h⟩
    · rw [cond_true]
      have := ck_ge_ok h2 h.1 h.2 (hd.mul (-1))
      exact ck_as_ok h ((hd.mul (-1)).sub (ck_Lv.k r 1)) (by omega)
  · rw [cond_true]
    have := ck_ge_ok h1 h.1 h.2 hd
    exact ck_as_ok h (hd.sub (ck_Lv.k r 1)) (by omega)
/-- comparisons with 0: 0 eq, 1 ne, 2 lt, 3 ge, 4 gt, 5 le -/
def ck_cv (c : Nat) (x : Int) : Prop := match c with
  | 0 => x = 0
  | 1 => x ≠ 0
  | 2 => x < 0
  | 3 => 0 ≤ x
  | 4 => 0 < x
  | 5 => x ≤ 0
  | _ => True
def ck_cd (c : Nat) (Q : ck_Q) (d : ck_L) : Option ck_Q := match c with
  | 0 => (ck_as Q d).bind fun P => ck_as P (ck_mul (-1) d)
  | 1 => ck_an Q d
  | 2 => ck_as Q (ck_sub (ck_k (-1)) d)
  | 3 => ck_as Q d
  | 4 => ck_as Q (ck_sub d (ck_k 1))
  | 5 => ck_as Q (ck_mul (-1) d)
  | _ => some Q
theorem ck_cd_ok {c : Nat} {Q : ck_Q} {d : ck_L} {r : List Int} {x : Int} (h : ck_ok Q r) (hd : ck_Lv r d x) (h0 : ck_cv c x) : ∃ Q' : ck_Q, ck_cd c Q d = some Q' ∧ ck_ok Q' r := by
  unfold ck_cd
  unfold ck_cv at h0
  split
  · have h0 : x = 0 := h0
    obtain ⟨P, h1, h2⟩ := ck_as_ok h hd (by omega)
    obtain ⟨P', h3, h4⟩ := ck_as_ok h2 (hd.mul (-1)) (by omega)
    exact ⟨P', by rw [h1]; exact h3, h4⟩
  · exact ck_an_ok h hd h0
  · exact ck_as_ok h ((ck_Lv.k r (-1)).sub hd) (by have : x < 0 := h0; omega)
  · exact ck_as_ok h hd h0
  · exact ck_as_ok h (hd.sub (ck_Lv.k r 1)) (by have : 0 < x := h0; omega)
  · exact ck_as_ok h (hd.mul (-1)) (by have : x ≤ 0 := h0; omega)
  · exact ⟨Q, rfl, h⟩
-- results: an exact form, or bounds and forms in the new number
abbrev ck_R : Type := Option ck_L × Int × Int × List ck_L
def ck_rk (R : ck_R) (r : List Int) (z : Int) : Prop := match R.1 with
  | some e => ck_Lv r e z
  | none => R.2.1 ≤ z ∧ z ≤ R.2.2.1 ∧ ck_Co R.2.2.2 (r ++ [z])
def ck_fu (B : Nat) : ck_R := (none, -(B : Int), (B : Int) - 1, [])
theorem ck_fu_ok {B : Nat} {r : List Int} {z : Int} (h1 : -(B : Int) ≤ z) (h2 : z < (B : Int)) : ck_rk (ck_fu B) r z := ⟨h1, by show z ≤ (B : Int) - 1; omega, fun c hc => (nomatch hc)⟩
theorem ck_bm {B : Nat} (hB : 0 < B) (x : Int) : -(B : Int) ≤ x.bmod (2 * B) ∧ x.bmod (2 * B) < (B : Int) := by
  have h1 := Int.le_bmod (x := x) (m := 2 * B) (by omega)
  have h2 := Int.bmod_lt (x := x) (m := 2 * B) (by omega)
  omega
theorem ck_bm_eq {B : Nat} {x : Int} (h1 : -(B : Int) ≤ x) (h2 : x < (B : Int)) : x.bmod (2 * B) = x := Int.bmod_eq_of_le_mul_two (by omega) (by omega)
/-- the form e, if it is in the machine's bounds -/
def ck_ex (B : Nat) (Q : ck_Q) (e : ck_L) : ck_R := bif ck_le Q.1 Q.2 (ck_k (-(B : Int))) e && ck_le Q.1 Q.2 e (ck_k ((B : Int) - 1)) then (some e, 0, 0, []) else ck_fu B
theorem ck_ex_ok {B : Nat} (hB : 0 < B) {Q : ck_Q} {e : ck_L} {r : List Int} {x : Int} (h : ck_ok Q r) (he : ck_Lv r e x) : ck_rk (ck_ex B Q e) r (x.bmod (2 * B)) := by
  unfold ck_ex
  cases h1 : (ck_le Q.1 Q.2 (ck_k (-(B : Int))) e && ck_le Q.1 Q.2 e (ck_k ((B : Int) - 1)))
  · rw [cond_false]
    have := ck_bm hB x
    exact ck_fu_ok this.1 this.2
  · rw [cond_true]
    obtain ⟨h2, h3⟩ := Bool.and_eq_true_iff.mp h1
    have h4 := ck_le_ok h2 h.1 h.2 (ck_Lv.k r _) he
    have h5 := ck_le_ok h3 h.1 h.2 he (ck_Lv.k r _)
    rw [ck_bm_eq h4 (by omega)]
    exact he
def ck_pr (B : Nat) (Q : ck_Q) (a b : ck_L) : ck_R :=
  let la := ck_lo Q.1 a
  let ha := ck_hi Q.1 a
  let lb := ck_lo Q.1 b
  let hb := ck_hi Q.1 b
  let lo := ck_mn (ck_mn (la * lb) (la * hb)) (ck_mn (ha * lb) (ha * hb))
  let hi := ck_mx (ck_mx (la * lb) (la * hb)) (ck_mx (ha * lb) (ha * hb))
  let z := ck_x Q.1.length
  bif ck_nn (lo + B) && ck_nn (B - 1 - hi) then (none, lo, hi, (bif ck_nn la then [ck_sub z (ck_mul lb a), ck_sub (ck_mul hb a) z] else []) ++ (bif ck_nn lb then [ck_sub z (ck_mul la b), ck_sub (ck_mul ha b) z] else [])) else ck_fu B
theorem ck_mul_le {a b x y : Int} (h1 : a ≤ x) (h2 : x ≤ b) : ck_mn (a * y) (b * y) ≤ x * y ∧ x * y ≤ ck_mx (a * y) (b * y) := by
  rcases Int.le_total 0 y with h | h
  · have h3 := Int.mul_le_mul_of_nonneg_right h1 h
    have h4 := Int.mul_le_mul_of_nonneg_right h2 h
    have := ck_mn_or (a * y) (b * y)
    have := ck_mx_or (a * y) (b * y)
    omega
  · have h3 := Int.mul_le_mul_of_nonpos_right h1 h
    have h4 := Int.mul_le_mul_of_nonpos_right h2 h
    have := ck_mn_or (a * y) (b * y)
    have := ck_mx_or (a * y) (b * y)
    omega
theorem ck_mn_mono {a b c d : Int} (h1 : a ≤ c) (h2 : b ≤ d) : ck_mn a b ≤ ck_mn c d := by
  have := ck_mn_or a b
  have := ck_mn_or c d
  omega
theorem ck_mx_mono {a b c d : Int} (h1 : a ≤ c) (h2 : b ≤ d) : ck_mx a b ≤ ck_mx c d := by
  have := ck_mx_or a b
  have := ck_mx_or c d
  omega
theorem ck_mul_in {a b c d x y : Int} (h1 : a ≤ x) (h2 : x ≤ b) (h3 : c ≤ y) (h4 : y ≤ d) : ck_mn (ck_mn (a * c) (a * d)) (ck_mn (b * c) (b * d)) ≤ x * y ∧ x * y ≤ ck_mx (ck_mx (a * c) (a * d)) (ck_mx (b * c) (b * d)) := by
  have h5 := ck_mul_le (y := y) h1 h2
  have h6 := ck_mul_le (y := a) h3 h4
  have h7 := ck_mul_le (y := b) h3 h4
  rw [Int.mul_comm c a, Int.mul_comm d a, Int.mul_comm y a] at h6
  rw [Int.mul_comm c b, Int.mul_comm d b, Int.mul_comm y b] at h7
  have h8 := ck_mn_mono h6.1 h7.1
  have h9 := ck_mx_mono h6.2 h7.2
  omega
theorem ck_Co.nil {r : List Int} : ck_Co [] r := fun c hc => (nomatch hc)
theorem ck_Co.cons {r : List Int} {c : ck_L} {C : List ck_L} {x : Int} (h : ck_Lv r c x) (h0 : 0 ≤ x) (hC : ck_Co C r) : ck_Co (c :: C) r := fun d hd => by
  rcases List.mem_cons.mp hd with e | e
  · rw [e]; exact ⟨x, h, h0⟩
  · exact hC d e
theorem ck_Co.both {r : List Int} {C D : List ck_L} (h : ck_Co C r) (h' : ck_Co D r) : ck_Co (C ++ D) r := fun c hc => (List.mem_append.mp hc).elim (h c) (h' c)
theorem ck_pr_ok {B : Nat} (hB : 0 < B) {Q : ck_Q} {a b : ck_L} {r : List Int} {x y : Int} (h : ck_ok Q r) (ha : ck_Lv r a x) (hb : ck_Lv r b y) : ck_rk (ck_pr B Q a b) r ((x * y).bmod (2 * B)) := by
  unfold ck_pr
  have h1 := ck_lo_le h.1 ha
  have h2 := ck_hi_ge h.1 ha
  have h3 := ck_lo_le h.1 hb
  have h4 := ck_hi_ge h.1 hb
  have h5 := ck_mul_in h1 h2 h3 h4
  dsimp only
  generalize ck_mn (ck_mn (ck_lo Q.1 a * ck_lo Q.1 b) (ck_lo Q.1 a * ck_hi Q.1 b)) (ck_mn (ck_hi Q.1 a * ck_lo Q.1 b) (ck_hi Q.1 a * ck_hi Q.1 b)) = lo at h5 ⊢
  generalize ck_mx (ck_mx (ck_lo Q.1 a * ck_lo Q.1 b) (ck_lo Q.1 a * ck_hi Q.1 b)) (ck_mx (ck_hi Q.1 a * ck_lo Q.1 b) (ck_hi Q.1 a * ck_hi Q.1 b)) = hi at h5 ⊢
  cases hc : (ck_nn (lo + B) && ck_nn (B - 1 - hi))
  · rw [cond_false]
    have := ck_bm hB (x * y)
    exact ck_fu_ok this.1 this.2
  · rw [cond_true]
    obtain ⟨h6, h7⟩ := Bool.and_eq_true_iff.mp hc
    have h6 := ck_nn_ok h6
    have h7 := ck_nn_ok h7
    rw [ck_bm_eq (by omega) (by omega)]
    refine ⟨h5.1, h5.2, ?_⟩
    have hz : ck_Lv (r ++ [x * y]) (ck_x Q.1.length) (x * y) := by rw [h.1.1]; exact ck_Lv.last r _
    refine ck_Co.both ?_ ?_
    · cases h8 : ck_nn (ck_lo Q.1 a)
      · exact ck_Co.nil
      · have h8 := ck_nn_ok h8
        have e1 := Int.mul_le_mul_of_nonneg_left h3 (show 0 ≤ x by omega)
        have e2 := Int.mul_le_mul_of_nonneg_left h4 (show 0 ≤ x by omega)
        rw [Int.mul_comm] at e1
        have e3 : x * ck_hi Q.1 b = ck_hi Q.1 b * x := Int.mul_comm _ _
        rw [e3] at e2
        exact ck_Co.cons (hz.sub ((ha.app [x * y]).mul _)) (by omega) (ck_Co.cons (((ha.app [x * y]).mul _).sub hz) (by omega) ck_Co.nil)
    · cases h8 : ck_nn (ck_lo Q.1 b)
      · exact ck_Co.nil
      · have h8 := ck_nn_ok h8
        have e1 := Int.mul_le_mul_of_nonneg_right h1 (show 0 ≤ y by omega)
        have e2 := Int.mul_le_mul_of_nonneg_right h2 (show 0 ≤ y by omega)
        exact ck_Co.cons (hz.sub ((hb.app [x * y]).mul _)) (by omega) (ck_Co.cons (((hb.app [x * y]).mul _).sub hz) (by omega) ck_Co.nil)
/-- a product -/
def ck_ti (B : Nat) (Q : ck_Q) (a b : ck_L) : ck_R := match a, b with
  | (c, []), b => ck_ex B Q (ck_mul c b)
  | a, (c, []) => ck_ex B Q (ck_mul c a)
  | a, b => ck_pr B Q a b
theorem ck_ti_ok {B : Nat} (hB : 0 < B) {Q : ck_Q} {a b : ck_L} {r : List Int} {x y : Int} (h : ck_ok Q r) (ha : ck_Lv r a x) (hb : ck_Lv r b y) : ck_rk (ck_ti B Q a b) r ((x * y).bmod (2 * B)) := by
  unfold ck_ti
  split
  · next b' c =>
    have e : x = c := by have h2 : x = c + 0 := ha.2; omega
    rw [e]
    exact ck_ex_ok hB h (hb.mul c)
  · next c _ =>
    have e : y = c := by have h2 : y = c + 0 := hb.2; omega
    rw [e, Int.mul_comm]
    exact ck_ex_ok hB h (ha.mul c)
  · exact ck_pr_ok hB h ha hb
/-- a quotient by what is above 0 -/
def ck_dv (Q : ck_Q) (a b : ck_L) : ck_R :=
  let la := ck_lo Q.1 a
  let ha := ck_hi Q.1 a
  let z := ck_x Q.1.length
  bif ck_nn la then
    match b with
    | (c, []) => (none, la.tdiv c, ha.tdiv c, [ck_sub a (ck_mul c z), ck_sub (ck_add (ck_mul c z) (ck_k (c - 1))) a])
    | b => (none, 0, ha.tdiv (ck_mx 1 (ck_lo Q.1 b)), [ck_sub a z])
  else bif ck_nn (0 - ha) && b.2.isEmpty then (none, la.tdiv b.1, ha.tdiv b.1, [ck_sub (ck_mul b.1 z) a, ck_add (ck_sub a (ck_mul b.1 z)) (ck_k (b.1 - 1))])
  else (none, ck_mn la 0, ck_mx ha 0, [])
theorem ck_tdiv_le {a b : Int} (h : 0 < b) : -(a.natAbs : Int) ≤ a.tdiv b ∧ a.tdiv b ≤ (a.natAbs : Int) ∧ (0 ≤ a → 0 ≤ a.tdiv b ∧ a.tdiv b ≤ a) ∧ (a ≤ 0 → a ≤ a.tdiv b ∧ a.tdiv b ≤ 0) := by
  have h1 := Int.natAbs_tdiv_le_natAbs a b
  have h2 : 0 ≤ a → 0 ≤ a.tdiv b := fun h0 => Int.tdiv_nonneg h0 (by omega)
  have h3 : a ≤ 0 → a.tdiv b ≤ 0 := fun h0 => by
    have := Int.tdiv_nonneg (a := -a) (b := b) (by omega) (by omega)
    rw [Int.neg_tdiv] at this
    omega
  omega
theorem ck_dv_ok {Q : ck_Q} {a b : ck_L} {r : List Int} {x y : Int} (h : ck_ok Q r) (ha : ck_Lv r a x) (hb : ck_Lv r b y) (hy : 1 ≤ y) : ck_rk (ck_dv Q a b) r (x.tdiv y) := by
  unfold ck_dv
  have h1 := ck_lo_le h.1 ha
  have h2 := ck_hi_ge h.1 ha
  have hz : ck_Lv (r ++ [x.tdiv y]) (ck_x Q.1.length) (x.tdiv y) := by rw [h.1.1]; exact ck_Lv.last r _
  have ha' := ha.app [x.tdiv y]
  obtain ⟨q1, q2, q3, q4⟩ := ck_tdiv_le (a := x) (b := y) (by omega)
  dsimp only
  cases hc : ck_nn (ck_lo Q.1 a)
  · rw [cond_false]
    cases hd : (ck_nn (0 - ck_hi Q.1 a) && b.2.isEmpty)
    · rw [cond_false]
      refine ⟨?_, ?_, ck_Co.nil⟩
      · show ck_mn (ck_lo Q.1 a) 0 ≤ _
        have := ck_mn_or (ck_lo Q.1 a) 0
        omega
      · show _ ≤ ck_mx (ck_hi Q.1 a) 0
        have := ck_mx_or (ck_hi Q.1 a) 0
        omega
    · rw [cond_true]
      obtain ⟨hd, he⟩ := Bool.and_eq_true_iff.mp hd
      have hd := ck_nn_ok hd
      have hx : x ≤ 0 := by omega
      have e1 := Int.mul_tdiv_add_tmod x y
      have e2 := Int.tmod_nonneg (a := -x) y (by omega)
      have e3 := Int.tmod_lt_of_pos (-x) (show 0 < y by omega)
      rw [Int.neg_tmod] at e2 e3
      have e : y = b.1 := by
        have h2 : y = b.1 + ck_ev r b.2 := hb.2
        rw [List.isEmpty_iff.mp he] at h2
        have h3 : y = b.1 + 0 := h2
        omega
      rw [← e]
      exact ⟨Int.tdiv_le_tdiv (by omega) h1, Int.tdiv_le_tdiv (by omega) h2, ck_Co.cons ((hz.mul _).sub ha') (by omega) (ck_Co.cons ((ha'.sub (hz.mul _)).add (ck_Lv.k _ _)) (by omega) ck_Co.nil)⟩
  · rw [cond_true]
    have hc := ck_nn_ok hc
    have hx : 0 ≤ x := by omega
    have e1 := Int.mul_tdiv_add_tmod x y
    have e2 := Int.tmod_nonneg y hx
    have e3 := Int.tmod_lt_of_pos x (show 0 < y by omega)
    split
    · next c =>
      have e : y = c := by have h2 : y = c + 0 := hb.2; omega
      subst e
      refine ⟨Int.tdiv_le_tdiv (by omega) h1, Int.tdiv_le_tdiv (by omega) h2, ck_Co.cons (ha'.sub (hz.mul _)) (by omega) (ck_Co.cons (((hz.mul _).add (ck_Lv.k _ _)).sub ha') (by omega) ck_Co.nil)⟩
    · have h3 := ck_lo_le h.1 hb
      refine ⟨q3 hx |>.1, ?_, ck_Co.cons (ha'.sub hz) (by omega) ck_Co.nil⟩
      show x.tdiv y ≤ (ck_hi Q.1 a).tdiv (ck_mx 1 (ck_lo Q.1 b))
      have h4 : 1 ≤ ck_mx 1 (ck_lo Q.1 b) ∧ ck_mx 1 (ck_lo Q.1 b) ≤ y := by
        have := ck_mx_or 1 (ck_lo Q.1 b)
        omega
      refine Int.le_tdiv_of_mul_le (by omega) ?_
      have h5 := Int.mul_le_mul_of_nonneg_left h4.2 (q3 hx).1
      rw [Int.mul_comm y] at e1
      omega
/-- a rest by what is above 0 -/
def ck_rm (Q : ck_Q) (a b : ck_L) : ck_R :=
  let ha := ck_hi Q.1 a
  let hb := ck_hi Q.1 b
  let z := ck_x Q.1.length
  bif ck_nn (ck_lo Q.1 a) then (none, 0, ck_mn ha (hb - 1), [ck_sub (ck_sub b (ck_k 1)) z, ck_sub a z]) else (none, 1 - hb, (bif ck_nn (0 - ha) then 0 else hb - 1), [ck_sub (ck_sub b (ck_k 1)) z, ck_add (ck_sub b (ck_k 1)) z])
theorem ck_rm_ok {Q : ck_Q} {a b : ck_L} {r : List Int} {x y : Int} (h : ck_ok Q r) (ha : ck_Lv r a x) (hb : ck_Lv r b y) (hy : 1 ≤ y) : ck_rk (ck_rm Q a b) r (x.tmod y) := by
  unfold ck_rm
  have h1 := ck_lo_le h.1 ha
  have h2 := ck_hi_ge h.1 ha
  have h4 := ck_hi_ge h.1 hb
  have hz : ck_Lv (r ++ [x.tmod y]) (ck_x Q.1.length) (x.tmod y) := by rw [h.1.1]; exact ck_Lv.last r _
  have ha' := ha.app [x.tmod y]
  have hb' := hb.app [x.tmod y]
  have e3 := Int.tmod_lt_of_pos x (show 0 < y by omega)
  have e4 := Int.lt_tmod_of_pos x (show 0 < y by omega)
  dsimp only
  cases hc : ck_nn (ck_lo Q.1 a)
  · rw [cond_false]
    refine ⟨by show 1 - ck_hi Q.1 b ≤ _; omega, ?_, ck_Co.cons ((hb'.sub (ck_Lv.k _ 1)).sub hz) (by omega) (ck_Co.cons ((hb'.sub (ck_Lv.k _ 1)).add hz) (by omega) ck_Co.nil)⟩
    show _ ≤ (bif ck_nn (0 - ck_hi Q.1 a) then 0 else ck_hi Q.1 b - 1)
    cases hd : ck_nn (0 - ck_hi Q.1 a)
    · rw [cond_false]; omega
    · rw [cond_true]
      have hd := ck_nn_ok hd
      have e5 := Int.tmod_nonneg y (show 0 ≤ -x by omega)
      rw [Int.neg_tmod] at e5
      omega
  · rw [cond_true]
    have hc := ck_nn_ok hc
    have hx : 0 ≤ x := by omega
    have e2 := Int.tmod_nonneg y hx
    have e1 := Int.mul_tdiv_add_tmod x y
    have e5 : 0 ≤ y * x.tdiv y := Int.mul_nonneg (by omega) (Int.tdiv_nonneg hx (by omega))
    refine ⟨e2, ?_, ck_Co.cons ((hb'.sub (ck_Lv.k _ 1)).sub hz) (by omega) (ck_Co.cons (ha'.sub hz) (by omega) ck_Co.nil)⟩
    show _ ≤ ck_mn (ck_hi Q.1 a) (ck_hi Q.1 b - 1)
    have := ck_mn_or (ck_hi Q.1 a) (ck_hi Q.1 b - 1)
    omega
