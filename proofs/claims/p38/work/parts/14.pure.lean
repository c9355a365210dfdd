/-! INSTRUCTIONS THAT TOUCH THE FRAME ALONE: what they do, and what they do to what is known -/
def ck_c32 (c : Nat) (x y : Int32) : Int32 := match c with
  | 0 => x + y
  | 1 => x - y
  | 2 => x * y
  | 3 => x / y
  | 4 => x - x / y * y
  | 5 => x &&& y
  | 6 => x ||| y
  | 7 => x ^^^ y
  | 8 => x <<< (y &&& 31)
  | 9 => x >>> (y &&& 31)
  | _ => (x.toUInt32 >>> (y.toUInt32 &&& Int32.toUInt32 31)).toInt32
def ck_c64 (c : Nat) (x y : Int64) : Int64 := match c with
  | 0 => x + y
  | 1 => x - y
  | 2 => x * y
  | 3 => x / y
  | 4 => x - x / y * y
  | _ => x ^^^ y
def ck_u32 (c : Nat) (x : Int32) : Int32 := match c with
  | 0 => -x
  | 1 => x.toInt8.toInt32
  | _ => (x.toUInt32 % 65536).toInt32
def ck_dz (c : Nat) : Bool := Nat.beq c 3 || Nat.beq c 4
/-- what a frame's instruction does -/
def ck_cf (c a : Nat) (v : Int) (L : List (Option Value)) (st : List Value) : Option (List (Option Value) × List Value) := match c, st with
  | 0, st => some (L, .int (Int32.ofInt v) :: st)
  | 1, st => some (L, .long (Int64.ofInt v) :: st)
  | 2, st => some (L, .null :: st)
  | 3, st => match L[a]? with
    | some (some (.int x)) => some (L, .int x :: st)
    | _ => none
  | 4, st => match L[a]? with
    | some (some (.long x)) => some (L, .long x :: st)
    | _ => none
  | 5, st => match L[a]? with
    | some (some (.ref x)) => some (L, .ref x :: st)
    | some (some .null) => some (L, .null :: st)
    | _ => none
  | 6, .int x :: st => if a < L.length then some (am_put1 L a (.int x), st) else none
  | 7, .long x :: st => if a + 1 < L.length then some (am_put2 L a (.long x), st) else none
  | 8, .ref x :: st => if a < L.length then some (am_put1 L a (.ref x), st) else none
  | 8, .null :: st => if a < L.length then some (am_put1 L a .null, st) else none
  | 9, st => match L[a]? with
    | some (some (.int x)) => some (am_put1 L a (.int (x + Int32.ofInt v)), st)
    | _ => none
  | 10, w :: st => if w.category = 1 then some (L, st) else none
  | 11, .long _ :: st => some (L, st)
  | 12, w :: st => if w.category = 1 then some (L, w :: w :: st) else none
  | 13, u :: w :: st => if u.category = 1 ∧ w.category = 1 then some (L, u :: w :: u :: st) else none
  | 14, u :: w :: st => if u.category = 1 ∧ w.category = 1 then some (L, u :: w :: u :: w :: st) else none
  | 15, .int y :: .int x :: st => if ck_dz a = true ∧ y = 0 then none else some (L, .int (ck_c32 a x y) :: st)
  | 16, .long y :: .long x :: st => if ck_dz a = true ∧ y = 0 then none else some (L, .long (ck_c64 a x y) :: st)
  | 17, .int x :: st => some (L, .int (ck_u32 a x) :: st)
  | 18, .long x :: st => some (L, .long (-x) :: st)
  | 19, .int x :: st => some (L, .long x.toInt64 :: st)
  | 20, .long x :: st => some (L, .int x.toInt32 :: st)
  | 21, .long y :: .long x :: st => some (L, .int (lg_cmp x y) :: st)
  | 22, st => some (L, .ref a :: st)
  | _, _ => none
-- the frame's places
def ck_un : ck_V := (0, 0, (0, []))
def ck_ct (A : List ck_V) (i : Nat) : List ck_V := match i with
  | 0 => A
  | i + 1 => match A[i]? with
    | some a => bif Nat.beq a.1 2 then A.set i ck_un else A
    | none => A
def ck_p1 (A : List ck_V) (i : Nat) (a : ck_V) : List ck_V := (ck_ct A i).set i a
def ck_p2 (A : List ck_V) (i : Nat) (a : ck_V) : List ck_V := ((ck_ct A i).set i a).set (i + 1) ck_un
theorem ck_loc.set {r : List Int} {s : List Nat} {A : List ck_V} {L : List (Option Value)} (h : ck_loc r s A L) {i : Nat} {a : ck_V} {o : Option Value} (ha : a.1 = 0 ∨ ∃ v, o = some v ∧ ck_av r s a v) : ck_loc r s (A.set i a) (L.set i o) := by
  refine ⟨by rw [List.length_set, List.length_set]; exact h.1, fun j b hb => ?_⟩
  by_cases e : i = j
  · subst e
    have hl : i < A.length := by have := (List.getElem?_eq_some_iff.mp hb).1; rw [List.length_set] at this; exact this
    rw [List.getElem?_set_self hl] at hb
    cases hb
    refine ha.imp id fun ⟨v, h1, h2⟩ => ⟨v, ?_, h2⟩
    rw [List.getElem?_set_self (by rw [h.1]; exact hl), h1]
  · rw [List.getElem?_set_ne e] at hb ⊢
    exact h.2 j b hb
theorem ck_av.wide {r : List Int} {s : List Nat} {a : ck_V} {v : Value} (h : ck_av r s a v) (h2 : v.category = 2) : a.1 = 2 := by
  unfold ck_av at h
  split at h
  · obtain ⟨x, h1, -⟩ := h; rw [h1] at h2; cases h2
  · assumption
  · obtain ⟨x, -, h1⟩ := h; rw [h1] at h2; cases h2
  · rw [h] at h2; cases h2
  · obtain ⟨x, h1⟩ := h; rw [h1] at h2; cases h2
  · obtain ⟨x, -, h1⟩ := h
    rw [h1] at h2
    unfold ck_rv at h2
    split at h2 <;> cases h2
  · exact h.elim
theorem ck_loc.cut {r : List Int} {s : List Nat} {A : List ck_V} {L : List (Option Value)} (h : ck_loc r s A L) (i : Nat) : ck_loc r s (ck_ct A i) (am_cut L i) := by
  unfold am_cut
  cases i with
  | zero => rw [if_pos rfl]; exact h
  | succ i =>
    rw [if_neg (by omega), show i + 1 - 1 = i from rfl]
    show ck_loc r s (match A[i]? with
      | some a => bif Nat.beq a.1 2 then A.set i ck_un else A
      | none => A) _
    cases ha : A[i]? with
    | none =>
      by_cases hw : am_wide L[i]? = true
      · exfalso
        have h1 : A.length ≤ i := List.getElem?_eq_none_iff.mp ha
        rw [List.getElem?_eq_none (by rw [h.1]; exact h1)] at hw
        cases hw
      · rw [if_neg hw]; exact h
    | some a =>
      show ck_loc r s (bif Nat.beq a.1 2 then A.set i ck_un else A) _
      by_cases hw : am_wide L[i]? = true
      · rw [if_pos hw]
        cases hb : Nat.beq a.1 2
        · rw [cond_false]
          rcases h.2 i a ha with e | ⟨v, h1, h2⟩
          · have h3 := h.set (i := i) (a := a) (o := none) (Or.inl e)
            have h4 : A.set i a = A := by
              apply List.ext_getElem?
              intro j
              by_cases e2 : i = j
              · subst e2
                rw [List.getElem?_set_self (List.getElem?_eq_some_iff.mp ha).1, ha]
              · rw [List.getElem?_set_ne e2]
            rw [h4] at h3
            exact h3
          · exfalso
            rw [h1] at hw
            have h3 : v.category = 2 := by cases v <;> first | rfl | (cases hw)
            have := h2.wide h3
            rw [this] at hb
            cases hb
        · rw [cond_true]
          exact h.set (Or.inl rfl)
      · rw [if_neg hw]
        cases hb : Nat.beq a.1 2
        · exact h
        · rw [cond_true]
          refine ⟨by rw [List.length_set]; exact h.1, fun j b hj => ?_⟩
          by_cases e : i = j
          · subst e
            rw [List.getElem?_set_self (List.getElem?_eq_some_iff.mp ha).1] at hj
            cases hj
            exact Or.inl rfl
          · rw [List.getElem?_set_ne e] at hj
            exact h.2 j b hj
theorem ck_loc.p1 {r : List Int} {s : List Nat} {A : List ck_V} {L : List (Option Value)} (h : ck_loc r s A L) (i : Nat) {a : ck_V} {v : Value} (hv : ck_av r s a v) : ck_loc r s (ck_p1 A i a) (am_put1 L i v) := (h.cut i).set (Or.inr ⟨v, rfl, hv⟩)
theorem ck_loc.p2 {r : List Int} {s : List Nat} {A : List ck_V} {L : List (Option Value)} (h : ck_loc r s A L) (i : Nat) {a : ck_V} {v : Value} (hv : ck_av r s a v) : ck_loc r s (ck_p2 A i a) (am_put2 L i v) := ((h.cut i).set (Or.inr ⟨v, rfl, hv⟩)).set (Or.inl rfl)
-- results as values
def ck_nm (kd : Nat) (z : Int) (w : Value) : Prop := match kd with
  | 1 => ∃ x : Int32, w = .int x ∧ x.toInt = z
  | 2 => ∃ x : Int64, w = .long x ∧ x.toInt = z
  | _ => False
theorem ck_nm.av {kd : Nat} {z : Int} {w : Value} (h : ck_nm kd z w) {r : List Int} {e : ck_L} (he : ck_Lv r e z) (s : List Nat) : ck_av r s (kd, 0, e) w := by
  unfold ck_nm at h
  unfold ck_av
  split at h
  · obtain ⟨x, h1, h2⟩ := h; exact ⟨x, h1, by rw [h2]; exact he⟩
  · obtain ⟨x, h1, h2⟩ := h; exact ⟨x, h1, by rw [h2]; exact he⟩
  · exact h.elim
-- two numbers
def ck_M32 : Nat := 2147483648
def ck_M64 : Nat := 9223372036854775808
def ck_dr (B : Nat) (c : Nat) (Q : ck_Q) (a b : ck_L) : Option ck_R :=
  bif ck_ge Q.1 Q.2 (ck_sub b (ck_k 1)) then some (bif Nat.beq c 3 then ck_dv Q a b else ck_rm Q a b) else
  bif ck_ge Q.1 Q.2 (ck_sub (ck_k (-1)) b) then some (ck_fu B) else none
def ck_is (Q : ck_Q) (lo hi : Int) (a : ck_L) : Bool := ck_nn (ck_lo Q.1 a - lo) && ck_nn (hi - ck_hi Q.1 a)
def ck_xr (B : Nat) (Q : ck_Q) (a b : ck_L) : ck_R :=
  bif (ck_nn (ck_lo Q.1 a) && ck_nn (ck_lo Q.1 b)) || (ck_nn (-1 - ck_hi Q.1 a) && ck_nn (-1 - ck_hi Q.1 b)) then (none, 0, (B : Int) - 1, []) else
  bif (ck_nn (ck_lo Q.1 a) && ck_nn (-1 - ck_hi Q.1 b)) || (ck_nn (-1 - ck_hi Q.1 a) && ck_nn (ck_lo Q.1 b)) then (none, -(B : Int), -1, []) else ck_fu B
def ck_bi (B : Nat) (c : Nat) (Q : ck_Q) (a b : ck_L) : Option ck_R := match c with
  | 0 => some (ck_ex B Q (ck_add a b))
  | 1 => some (ck_ex B Q (ck_sub a b))
  | 2 => some (ck_ti B Q a b)
  | 3 => ck_dr B 3 Q a b
  | 4 => ck_dr B 4 Q a b
  | 7 => some (ck_xr B Q a b)
  | _ => none
def ck_bi32 (c : Nat) (Q : ck_Q) (a b : ck_L) : Option ck_R := match c with
  | 5 => match b with
    | (.ofNat m, []) => some (none, 0, m, [])
    | _ => none
  | 6 => bif ck_is Q 0 1 a && ck_is Q 0 1 b then some (none, 0, 1, [ck_sub (ck_x Q.1.length) a, ck_sub (ck_x Q.1.length) b]) else some (ck_fu ck_M32)
  | 8 => bif ck_is Q 0 0 b then some (some a, 0, 0, []) else bif ck_is Q 1 1 b then some (ck_ex ck_M32 Q (ck_mul 2 a)) else some (ck_fu ck_M32)
  | 9 => bif ck_is Q 0 0 b then some (some a, 0, 0, []) else bif ck_is Q 1 1 b && ck_nn (ck_lo Q.1 a) then some (ck_dv Q a (ck_k 2)) else some (ck_fu ck_M32)
  | 10 => bif ck_is Q 8 8 b && ck_nn (ck_lo Q.1 a) then some (ck_dv Q a (ck_k 256)) else some (ck_fu ck_M32)
  | c => ck_bi ck_M32 c Q a b
def ck_bi64 (c : Nat) (Q : ck_Q) (a b : ck_L) : Option ck_R := match c with
  | 5 => none
  | 6 => none
  | c => ck_bi ck_M64 c Q a b
theorem ck_i32 (x : Int32) : -(ck_M32 : Int) ≤ x.toInt ∧ x.toInt < (ck_M32 : Int) := ⟨x.le_toInt, x.toInt_lt⟩
theorem ck_i64 (x : Int64) : -(ck_M64 : Int) ≤ x.toInt ∧ x.toInt < (ck_M64 : Int) := ⟨x.le_toInt, x.toInt_lt⟩
theorem ck_is_ok {Q : ck_Q} {lo hi : Int} {a : ck_L} {r : List Int} {x : Int} (h : ck_is Q lo hi a = true) (hQ : ck_ok Q r) (ha : ck_Lv r a x) : lo ≤ x ∧ x ≤ hi := by
  obtain ⟨h1, h2⟩ := Bool.and_eq_true_iff.mp h
  have h1 := ck_nn_ok h1
  have h2 := ck_nn_ok h2
  have h3 := ck_lo_le hQ.1 ha
  have h4 := ck_hi_ge hQ.1 ha
  omega
theorem ck_xr_ok {B : Nat} {Q : ck_Q} {a b : ck_L} {r : List Int} {x y z : Int} (hQ : ck_ok Q r) (ha : ck_Lv r a x) (hb : ck_Lv r b y) (h1 : -(B : Int) ≤ z) (h2 : z < (B : Int)) (hz : z < 0 ↔ ¬ (x < 0 ↔ y < 0)) : ck_rk (ck_xr B Q a b) r z := by
  have e1 := ck_lo_le hQ.1 ha
  have e2 := ck_hi_ge hQ.1 ha
  have e3 := ck_lo_le hQ.1 hb
  have e4 := ck_hi_ge hQ.1 hb
  unfold ck_xr
  cases c1 : ((ck_nn (ck_lo Q.1 a) && ck_nn (ck_lo Q.1 b)) || (ck_nn (-1 - ck_hi Q.1 a) && ck_nn (-1 - ck_hi Q.1 b)))
  · rw [cond_false]
    cases c2 : ((ck_nn (ck_lo Q.1 a) && ck_nn (-1 - ck_hi Q.1 b)) || (ck_nn (-1 - ck_hi Q.1 a) && ck_nn (ck_lo Q.1 b)))
    · exact ck_fu_ok h1 h2
    · rw [cond_true]
      refine ⟨h1, ?_, ck_Co.nil⟩
      show z ≤ -1
      simp only [Bool.or_eq_true, Bool.and_eq_true, ck_nn_iff] at c2
      omega
  · rw [cond_true]
    refine ⟨?_, by show z ≤ (B : Int) - 1; omega, ck_Co.nil⟩
    show 0 ≤ z
    simp only [Bool.or_eq_true, Bool.and_eq_true, ck_nn_iff] at c1
    omega
