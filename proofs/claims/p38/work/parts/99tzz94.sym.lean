/-! WHAT THE LAW KNOWS, BY SYMBOLS -/
/-- a symbol: its kind, a number -/
abbrev cs_S : Type := Nat × Int
/-- the class's cell, the reference's, the answer's; the script's place; the state; where the class's rows lie; what was thrown; both answers -/
abbrev cs_E : Type := Nat × Nat × Nat × Int32 × sp_T × (Nat → Nat) × Int × Int × Int
/-- phase, locals, stack -/
abbrev cs_T : Type := (Nat × Nat) × List cs_S × List cs_S
def cs_sc (G : am_G) (j : Int32) : Option Value := (am_g G [] 0).bind fun c => c.2[j.toInt.toNat]?
def cs_e (G : am_G) (i : Int32) (j : Int) : Int32 := match cs_sc G (i + Int32.ofInt j) with
  | some (.int w) => w
  | _ => 0
/-- 0 anything, 1 the script, 2 the class, 3 the reference, 4 the answer's cell, 5 the place, 6 a constant, 7 a place behind, 8 what stands there, 9 the state's size, 11 what was thrown, 12 the reference's answer, 13 the class's, 14 the reference's as a long -/
def cs_v (G : am_G) (u : cs_E) (s : cs_S) (v : Value) : Prop := match s.1 with
  | 0 => True
  | 1 => v = .ref 0
  | 2 => v = .ref u.1
  | 3 => v = .ref u.2.1
  | 4 => v = .ref u.2.2.1
  | 5 => v = .int u.2.2.2.1
  | 6 => v = .int (Int32.ofInt s.2)
  | 7 => v = .int (u.2.2.2.1 + Int32.ofInt s.2)
  | 8 => v = .int (cs_e G u.2.2.2.1 s.2)
  | 9 => v = .int (Int32.ofInt u.2.2.2.2.1.1.1)
  | 11 => v = .int (Int32.ofInt u.2.2.2.2.2.2.1)
  | 12 => v = .int (Int32.ofInt u.2.2.2.2.2.2.2.2)
  | 13 => v = .long (Int64.ofInt u.2.2.2.2.2.2.2.1)
  | 14 => v = .long (Int32.ofInt u.2.2.2.2.2.2.2.2).toInt64
  | _ => False
/-- the stack; 10: a value or none, at the bottom -/
def cs_st (G : am_G) (u : cs_E) : List cs_S → List Value → Prop
  | [], w => w = []
  | s :: S, w => (∃ (v : Value) (w' : List Value), w = v :: w' ∧ cs_v G u s v ∧ cs_st G u S w') ∨ (s.1 = 10 ∧ S = [] ∧ w.length ≤ 1)
def cs_lo (G : am_G) (u : cs_E) (A : List cs_S) (L : List (Option Value)) : Prop := ∀ (j : Nat) (s : cs_S), A[j]? = some s → s.1 = 0 ∨ (s.1 ≤ 12 ∧ ∃ v : Value, L[j]? = some (some v) ∧ cs_v G u s v)
/-- 0 nothing, 1 the class's cell is new, 2 the class stands, 3 the reference's cell is new, 4 both stand, 5 the answer's cell is new, 6 both at one state, 7 the class is one call ahead, 8 both behind the call, 9 behind it, and nothing was thrown; 10 a knock ahead; 11, 12 as 9, the answer is 0, 1 -/
def cs_ph (G : am_G) (p : Nat × Nat) (u : cs_E) (h : List am_C) : Prop := match p.1 with
  | 0 => True
  | 1 => zi_1 G h u.1
  | 2 => zi_2 G h u.1 u.2.2.2.2.2.1
  | 3 => zi_3 G h u.1 u.2.1 u.2.2.2.2.2.1
  | 4 => zi_4 G h u.1 u.2.1 u.2.2.2.2.2.1
  | 5 => zi_5 G h u.1 u.2.1 u.2.2.1 u.2.2.2.2.2.1
  | 6 => zv_k G h u.1 u.2.1 u.2.2.1 u.2.2.2.2.2.1 u.2.2.2.2.1 u.2.2.2.2.1
  | 7 => ∃ (T' : sp_T) (th0 : Int) (n0 : Int64), zv_w G h u.1 u.2.1 u.2.2.1 u.2.2.2.2.2.1 T' u.2.2.2.2.1 th0 n0 ∧ cs_D p.2 (cs_e G u.2.2.2.1 1).toInt (cs_e G u.2.2.2.1 2).toInt u.2.2.2.2.1 u.2.2.2.2.2.2.2.1 u.2.2.2.2.2.2.1 T' ∧ (u.2.2.2.2.2.2.1 = 0 → n0 = Int64.ofInt u.2.2.2.2.2.2.2.1)
  | 8 => ∃ n0 : Int64, zv_w G h u.1 u.2.1 u.2.2.1 u.2.2.2.2.2.1 u.2.2.2.2.1 u.2.2.2.2.1 u.2.2.2.2.2.2.1 n0 ∧ sp_bd u.2.2.2.2.2.2.2.1 u.2.2.2.2.2.2.1 ∧ (u.2.2.2.2.2.2.1 = 0 → n0 = Int64.ofInt u.2.2.2.2.2.2.2.1 ∧ u.2.2.2.2.2.2.2.1 = u.2.2.2.2.2.2.2.2) ∧ (cs_isb p.2 = true → u.2.2.2.2.2.2.1 = 0 → u.2.2.2.2.2.2.2.1 = 0 ∨ u.2.2.2.2.2.2.2.1 = 1)
  | 9 => zv_w G h u.1 u.2.1 u.2.2.1 u.2.2.2.2.2.1 u.2.2.2.2.1 u.2.2.2.2.1 u.2.2.2.2.2.2.1 (Int64.ofInt u.2.2.2.2.2.2.2.1) ∧ (Int32.ofInt u.2.2.2.2.2.2.2.2).toInt64 = Int64.ofInt u.2.2.2.2.2.2.2.1 ∧ (cs_isb p.2 = true → u.2.2.2.2.2.2.2.1 = 0 ∨ u.2.2.2.2.2.2.2.1 = 1)
  | 10 => ∃ T' : sp_T, zv_k G h u.1 u.2.1 u.2.2.1 u.2.2.2.2.2.1 T' u.2.2.2.2.1 ∧ ∃ v th : Int, cs_D p.2 (cs_e G u.2.2.2.1 1).toInt (cs_e G u.2.2.2.1 2).toInt u.2.2.2.2.1 v th T'
  | 11 => zv_w G h u.1 u.2.1 u.2.2.1 u.2.2.2.2.2.1 u.2.2.2.2.1 u.2.2.2.2.1 u.2.2.2.2.2.2.1 (Int64.ofInt u.2.2.2.2.2.2.2.1) ∧ Int64.ofInt u.2.2.2.2.2.2.2.1 = 0
  | 12 => zv_w G h u.1 u.2.1 u.2.2.1 u.2.2.2.2.2.1 u.2.2.2.2.1 u.2.2.2.2.1 u.2.2.2.2.2.2.1 (Int64.ofInt u.2.2.2.2.2.2.2.1) ∧ Int64.ofInt u.2.2.2.2.2.2.2.1 = 1
  | _ => False
def cs_is (G : am_G) (e : cs_T) (L : List (Option Value)) (w : List Value) (h : List am_C) : Prop := ∃ u : cs_E, cs_ph G e.1 u h ∧ cs_lo G u e.2.1 L ∧ cs_st G u e.2.2 w
def cs_I (G : am_G) (tb : Nat → Option cs_T) (pc : Nat) (L : List (Option Value)) (w : List Value) (h : List am_C) : Prop := ∃ e : cs_T, tb pc = some e ∧ cs_is G e L w h
section CSA
variable {G : am_G} {u u' : cs_E} {s : cs_S} {S A : List cs_S} {v : Value} {w : List Value} {L : List (Option Value)}
theorem cs_v.z (h : s.1 = 0) : cs_v G u s v := by
  unfold cs_v
  rw [h]
  trivial
theorem cs_v.c1 (h : cs_v G u s v) (h0 : s.1 ≠ 0) (h12 : s.1 ≤ 12) : v.category ≠ 2 := by
  unfold cs_v at h
  split at h
  · next e_ => exact absurd e_ h0
  all_goals first | (rw [h]; exact fun y_ => absurd (show (1 : Nat) = 2 from y_) (by decide)) | exact h.elim | (exfalso; omega)
theorem cs_v.a1 (h : cs_v G u s v) (e : s.1 = 1) : v = .ref 0 := by
  unfold cs_v at h
  rw [e] at h
  exact h
theorem cs_v.a5 (h : cs_v G u s v) (e : s.1 = 5) : v = .int u.2.2.2.1 := by
  unfold cs_v at h
  rw [e] at h
  exact h
theorem cs_v.a4 (h : cs_v G u s v) (e : s.1 = 4) : v = .ref u.2.2.1 := by
  unfold cs_v at h
  rw [e] at h
  exact h
theorem cs_v.a6 (h : cs_v G u s v) (e : s.1 = 6) : v = .int (Int32.ofInt s.2) := by
  unfold cs_v at h
  rw [e] at h
  exact h
theorem cs_v.a7 (h : cs_v G u s v) (e : s.1 = 7) : v = .int (u.2.2.2.1 + Int32.ofInt s.2) := by
  unfold cs_v at h
  rw [e] at h
  exact h
theorem cs_st.tl (h : cs_st G u (s :: S) (v :: w)) : cs_st G u S w := by
  rcases h with ⟨v_, w_, e_, -, k_⟩ | ⟨-, e_, l_⟩
  · cases e_
    exact k_
  · rw [e_]
    cases w with
    | nil => rfl
    | cons a_ b_ =>
      simp at l_
theorem cs_st.hd (h : cs_st G u (s :: S) (v :: w)) (h1 : s.1 ≠ 10) : cs_v G u s v := by
  rcases h with ⟨v_, w_, e_, k_, -⟩ | ⟨e_, -⟩
  · cases e_
    exact k_
  · exact absurd e_ h1
theorem cs_st.ne (h : cs_st G u (s :: S) w) (h1 : s.1 ≠ 10) : ∃ (v : Value) (w' : List Value), w = v :: w' ∧ cs_v G u s v ∧ cs_st G u S w' := by
  rcases h with y_ | ⟨e_, -⟩
  · exact y_
  · exact absurd e_ h1
theorem cs_st.le : ∀ {S : List cs_S} {w : List Value}, cs_st G u S w → w.length ≤ S.length := by
  intro S
  induction S with
  | nil =>
    intro w h
    have h_ : w = [] := h
    rw [h_]
    exact Nat.le_refl _
  | cons s_ S_ ih =>
    intro w h
    rcases h with ⟨v_, w_, e_, -, k_⟩ | ⟨-, e_, l_⟩
    · rw [e_, List.length_cons, List.length_cons]
      have := ih k_
      omega
    · rw [List.length_cons]
      omega
theorem cs_st.opt {o : Option Value} : cs_st G u [(10, 0)] (o.toList ++ []) := by
  refine Or.inr ⟨rfl, rfl, ?_⟩
  cases o with
  | none => exact Nat.zero_le _
  | some v_ => exact Nat.le_refl _
theorem cs_cut {i j : Nat} (h : L[j]? = some (some v)) (hc : v.category ≠ 2) : (am_cut L i)[j]? = some (some v) := by
  unfold am_cut
  by_cases h0_ : i = 0
  · rw [if_pos h0_]
    exact h
  · rw [if_neg h0_]
    by_cases h1_ : am_wide L[i - 1]? = true
    · rw [if_pos h1_]
      by_cases h2_ : i - 1 = j
      · exfalso
        rw [h2_, h] at h1_
        cases v <;> first | exact hc rfl | (simp [am_wide] at h1_; done)
      · rw [List.getElem?_set_ne h2_]
        exact h
    · rw [if_neg h1_]
      exact h
theorem cs_lo.put0 (h : cs_lo G u A L) {i : Nat} {z : Value} (h0 : ∀ s, A[i]? = some s → s.1 = 0) : cs_lo G u A (am_put1 L i z) := by
  intro j s hs
  by_cases c_ : s.1 = 0
  · exact Or.inl c_
  rcases h j s hs with y_ | ⟨l_, w_, w1_, w2_⟩
  · exact absurd y_ c_
  have n_ : i ≠ j := fun y_ => c_ (h0 s (by rw [y_]; exact hs))
  refine Or.inr ⟨l_, w_, ?_, w2_⟩
  unfold am_put1
  rw [List.getElem?_set_ne n_]
  exact cs_cut w1_ (w2_.c1 c_ l_)
theorem cs_lo.set (h : cs_lo G u A L) {i : Nat} (hl : i < L.length) (h12 : s.1 ≤ 12) (hv : cs_v G u s v) : cs_lo G u (A.set i s) (am_put1 L i v) := by
  intro j s2 hs
  by_cases e_ : i = j
  · subst e_
    have l_ : i < A.length := by
      have l0_ := (List.getElem?_eq_some_iff.mp hs).1
      rw [List.length_set] at l0_
      exact l0_
    rw [List.getElem?_set_self l_] at hs
    cases hs
    refine Or.inr ⟨h12, v, ?_, hv⟩
    unfold am_put1
    rw [List.getElem?_set_self (by rw [am_cut_len]; exact hl)]
  · rw [List.getElem?_set_ne e_] at hs
    by_cases c_ : s2.1 = 0
    · exact Or.inl c_
    rcases h j s2 hs with y_ | ⟨q_, w_, w1_, w2_⟩
    · exact Or.inl y_
    refine Or.inr ⟨q_, w_, ?_, w2_⟩
    unfold am_put1
    rw [List.getElem?_set_ne e_]
    exact cs_cut w1_ (w2_.c1 c_ q_)
theorem cs_lo.at (h : cs_lo G u A L) {j : Nat} (hs : A[j]? = some s) (hv : L[j]? = some (some v)) : cs_v G u s v := by
  rcases h j s hs with y_ | ⟨-, w_, w1_, w2_⟩
  · exact cs_v.z y_
  · rw [hv] at w1_
    cases w1_
    exact w2_
theorem cs_lo.up (h : cs_lo G u A L) (k : ∀ s ∈ A, ∀ v : Value, cs_v G u s v → cs_v G u' s v) : cs_lo G u' A L := fun j s hs => (h j s hs).imp id fun ⟨hl, v, h1, h2⟩ => ⟨hl, v, h1, k s (List.mem_of_getElem? hs) v h2⟩
end CSA
/-- equal symbols -/
def cs_e1 (a b : cs_S) : Bool := Nat.beq a.1 b.1 && decide (a.2 = b.2)
def cs_eL : List cs_S → List cs_S → Bool
  | [], [] => true
  | a :: u, b :: w => cs_e1 a b && cs_eL u w
  | _, _ => false
def cs_eT (a b : cs_T) : Bool := (Nat.beq a.1.1 b.1.1 && Nat.beq a.1.2 b.1.2) && (cs_eL a.2.1 b.2.1 && cs_eL a.2.2 b.2.2)
theorem cs_eL_ok : ∀ {a b : List cs_S}, cs_eL a b = true → a = b := by
  intro a
  induction a with
  | nil =>
    intro b h
    cases b with
    | nil => rfl
    | cons y_ z_ => cases h
  | cons x_ u_ ih =>
    intro b h
    cases b with
    | nil => cases h
    | cons y_ z_ =>
      obtain ⟨h1_, h2_⟩ := Bool.and_eq_true_iff.mp h
      obtain ⟨h3_, h4_⟩ := Bool.and_eq_true_iff.mp h1_
      rw [ih h2_, Prod.ext (ck_beq h3_) (of_decide_eq_true h4_)]
theorem cs_eT_ok {a b : cs_T} (h : cs_eT a b = true) : a = b := by
  obtain ⟨h1_, h2_⟩ := Bool.and_eq_true_iff.mp h
  obtain ⟨h3_, h4_⟩ := Bool.and_eq_true_iff.mp h1_
  obtain ⟨h5_, h6_⟩ := Bool.and_eq_true_iff.mp h2_
  exact Prod.ext (Prod.ext (ck_beq h3_) (ck_beq h4_)) (Prod.ext (cs_eL_ok h5_) (cs_eL_ok h6_))
/-- what a frame's instruction does to symbols -/
def cs_z (A : List cs_S) (i : Nat) : Bool := match A[i]? with
  | some t => Nat.beq t.1 0
  | none => true
def cs_pu (i : Nat) (s : cs_S) (A S : List cs_S) : Option (List cs_S × List cs_S) := bif Nat.beq s.1 10 then (bif cs_z A i then some (A, S) else none) else bif Nat.ble s.1 12 then some (A.set i s, S) else none
def cs_ad (f2 : Nat) (a b : cs_S) : cs_S := bif Nat.beq f2 0 && (Nat.beq a.1 6 && Nat.beq b.1 5) then (7, a.2) else (0, 0)
def cs_ld (a b : cs_S) : cs_S := bif Nat.beq b.1 1 && Nat.beq a.1 7 then (8, a.2) else (0, 0)
def cs_p (f f2 : Nat) (v : Int) (A S : List cs_S) : Option (List cs_S × List cs_S) := match f, S with
  | 0, S => some (A, (6, v) :: S)
  | 3, S => (A[f2]?).map fun s => (A, s :: S)
  | 5, S => (A[f2]?).map fun s => (A, s :: S)
  | 6, s :: S => cs_pu f2 s A S
  | 8, s :: S => cs_pu f2 s A S
  | 10, _ :: S => some (A, S)
  | 11, _ :: S => some (A, S)
  | 12, s :: S => bif Nat.beq s.1 10 then none else some (A, s :: s :: S)
  | 15, a :: b :: S => some (A, cs_ad f2 a b :: S)
  | 19, a :: S => some (A, (bif Nat.beq a.1 12 then (14, 0) else (0, 0)) :: S)
  | _, _ => none
section CSP
variable {G : am_G} {u : cs_E} {f f2 : Nat} {v : Int} {A S A' S' : List cs_S} {L L' : List (Option Value)} {w w' : List Value}
theorem cs_cf6 (e : ck_cf 6 f2 v L w = some (L', w')) : ∃ x : Int32, w = .int x :: w' ∧ f2 < L.length ∧ L' = am_put1 L f2 (.int x) := by
  match w, e with
  | .int x :: w, e =>
    simp only [ck_cf] at e
    by_cases c_ : f2 < L.length
    · rw [if_pos c_] at e
      cases e
      exact ⟨x, rfl, c_, rfl⟩
    · rw [if_neg c_] at e
      cases e
theorem cs_cf8 (e : ck_cf 8 f2 v L w = some (L', w')) : ∃ x : Value, w = x :: w' ∧ f2 < L.length ∧ L' = am_put1 L f2 x := by
  match w, e with
  | .ref x :: w, e =>
    simp only [ck_cf] at e
    by_cases c_ : f2 < L.length
    · rw [if_pos c_] at e
      cases e
      exact ⟨_, rfl, c_, rfl⟩
    · rw [if_neg c_] at e
      cases e
  | .null :: w, e =>
    simp only [ck_cf] at e
    by_cases c_ : f2 < L.length
    · rw [if_pos c_] at e
      cases e
      exact ⟨_, rfl, c_, rfl⟩
    · rw [if_neg c_] at e
      cases e
theorem cs_cf3 (e : ck_cf 3 f2 v L w = some (L', w')) : ∃ x : Value, L[f2]? = some (some x) ∧ L' = L ∧ w' = x :: w := by
  simp only [ck_cf] at e
  split at e
  · next x_ hx_ =>
    cases e
    exact ⟨_, hx_, rfl, rfl⟩
  · cases e
theorem cs_cf5 (e : ck_cf 5 f2 v L w = some (L', w')) : ∃ x : Value, L[f2]? = some (some x) ∧ L' = L ∧ w' = x :: w := by
  simp only [ck_cf] at e
  split at e
  · next x_ hx_ =>
    cases e
    exact ⟨_, hx_, rfl, rfl⟩
  · next hx_ =>
    cases e
    exact ⟨_, hx_, rfl, rfl⟩
  · cases e
theorem cs_cf9 (e : ck_cf 9 f2 v L w = some (L', w')) : ∃ x : Int32, L[f2]? = some (some (.int x)) ∧ L' = am_put1 L f2 (.int (x + Int32.ofInt v)) ∧ w' = w := by
  simp only [ck_cf] at e
  split at e
  · next x_ hx_ =>
    cases e
    exact ⟨_, hx_, rfl, rfl⟩
  · cases e
theorem cs_cf10 (e : ck_cf 10 f2 v L w = some (L', w')) : ∃ x : Value, w = x :: w' ∧ L' = L := by
  match w, e with
  | x :: w, e =>
    simp only [ck_cf] at e
    by_cases c_ : x.category = 1
    · rw [if_pos c_] at e
      cases e
      exact ⟨x, rfl, rfl⟩
    · rw [if_neg c_] at e
      cases e
theorem cs_cf11 (e : ck_cf 11 f2 v L w = some (L', w')) : ∃ x : Value, w = x :: w' ∧ L' = L := by
  match w, e with
  | .long x :: w, e =>
    simp only [ck_cf] at e
    cases e
    exact ⟨_, rfl, rfl⟩
theorem cs_cf12 (e : ck_cf 12 f2 v L w = some (L', w')) : ∃ (x : Value) (z : List Value), w = x :: z ∧ w' = x :: x :: z ∧ L' = L := by
  match w, e with
  | x :: w, e =>
    simp only [ck_cf] at e
    by_cases c_ : x.category = 1
    · rw [if_pos c_] at e
      cases e
      exact ⟨x, w, rfl, rfl, rfl⟩
    · rw [if_neg c_] at e
      cases e
theorem cs_cf15 (e : ck_cf 15 f2 v L w = some (L', w')) : ∃ (x y : Int32) (z : List Value), w = .int y :: .int x :: z ∧ w' = .int (ck_c32 f2 x y) :: z ∧ L' = L := by
  match w, e with
  | .int y :: .int x :: w, e =>
    simp only [ck_cf] at e
    by_cases c_ : ck_dz f2 = true ∧ y = 0
    · rw [if_pos c_] at e
      cases e
    · rw [if_neg c_] at e
      cases e
      exact ⟨x, y, w, rfl, rfl, rfl⟩
theorem cs_cf19 (e : ck_cf 19 f2 v L w = some (L', w')) : ∃ (x : Int32) (z : List Value), w = .int x :: z ∧ w' = .long x.toInt64 :: z ∧ L' = L := by
  match w, e with
  | .int x :: w, e =>
    simp only [ck_cf] at e
    cases e
    exact ⟨x, w, rfl, rfl, rfl⟩
theorem cs_cf21 (e : ck_cf 21 f2 v L w = some (L', w')) : ∃ (x y : Int64) (z : List Value), w = .long y :: .long x :: z ∧ w' = .int (lg_cmp x y) :: z ∧ L' = L := by
  match w, e with
  | .long y :: .long x :: w, e =>
    simp only [ck_cf] at e
    cases e
    exact ⟨x, y, w, rfl, rfl, rfl⟩
theorem lg_cmp0 (x : Int64) : lg_cmp x x = 0 := by
  unfold lg_cmp
  by_cases c_ : x > x
  · have l_ := Int64.lt_iff_toInt_lt.mp c_
    omega
  · rw [if_neg c_, if_pos rfl]
theorem cs_v.a11 {s : cs_S} {z : Value} (h : cs_v G u s z) (e : s.1 = 11) : z = .int (Int32.ofInt u.2.2.2.2.2.2.1) := by
  unfold cs_v at h
  rw [e] at h
  exact h
theorem cs_v.a12 {s : cs_S} {z : Value} (h : cs_v G u s z) (e : s.1 = 12) : z = .int (Int32.ofInt u.2.2.2.2.2.2.2.2) := by
  unfold cs_v at h
  rw [e] at h
  exact h
theorem cs_pu_ok {i : Nat} {s : cs_S} {z : Value} (ht : cs_pu i s A S = some (A', S')) (h : cs_lo G u A L) (hs : cs_st G u (s :: S) (z :: w)) (hl : i < L.length) : cs_lo G u A' (am_put1 L i z) ∧ cs_st G u S' w := by
  unfold cs_pu at ht
  cases hb_ : Nat.beq s.1 10
  · rw [hb_, cond_false] at ht
    obtain ⟨c_, ht_⟩ := ck_bt' ht
    cases ht_
    exact ⟨h.set hl (Nat.le_of_ble_eq_true c_) (hs.hd fun y_ => by rw [y_] at hb_; cases hb_), hs.tl⟩
  · rw [hb_, cond_true] at ht
    obtain ⟨c_, ht_⟩ := ck_bt' ht
    cases ht_
    refine ⟨h.put0 fun s2 hs2 => ?_, hs.tl⟩
    unfold cs_z at c_
    rw [hs2] at c_
    exact ck_beq c_
theorem cs_p_ok (ht : cs_p f f2 v A S = some (A', S')) (e : ck_cf f f2 v L w = some (L', w')) (h : cs_lo G u A L) (hs : cs_st G u S w) : cs_lo G u A' L' ∧ cs_st G u S' w' := by
  unfold cs_p at ht
  split at ht
  · cases ht
    have e_ : some (L, Value.int (Int32.ofInt v) :: w) = some (L', w') := e
    cases e_
    exact ⟨h, Or.inl ⟨_, _, rfl, rfl, hs⟩⟩
  · obtain ⟨s_, a1_, a2_⟩ := Option.map_eq_some_iff.mp ht
    cases a2_
    obtain ⟨x_, b1_, b2_, b3_⟩ := cs_cf3 e
    rw [b2_, b3_]
    exact ⟨h, Or.inl ⟨_, _, rfl, h.at a1_ b1_, hs⟩⟩
  · obtain ⟨s_, a1_, a2_⟩ := Option.map_eq_some_iff.mp ht
    cases a2_
    obtain ⟨x_, b1_, b2_, b3_⟩ := cs_cf5 e
    rw [b2_, b3_]
    exact ⟨h, Or.inl ⟨_, _, rfl, h.at a1_ b1_, hs⟩⟩
  · obtain ⟨x_, b1_, b2_, b3_⟩ := cs_cf6 e
    rw [b1_] at hs
    rw [b3_]
    exact cs_pu_ok ht h hs b2_
  · obtain ⟨x_, b1_, b2_, b3_⟩ := cs_cf8 e
    rw [b1_] at hs
    rw [b3_]
    exact cs_pu_ok ht h hs b2_
  · cases ht
    obtain ⟨x_, b1_, b2_⟩ := cs_cf10 e
    rw [b1_] at hs
    rw [b2_]
    exact ⟨h, hs.tl⟩
  · cases ht
    obtain ⟨x_, b1_, b2_⟩ := cs_cf11 e
    rw [b1_] at hs
    rw [b2_]
    exact ⟨h, hs.tl⟩
  · next s_ S_ =>
    obtain ⟨x_, z_, b1_, b2_, b3_⟩ := cs_cf12 e
    cases h1_ : Nat.beq s_.1 10
    · rw [h1_, cond_false] at ht
      cases ht
      rw [b1_] at hs
      rw [b2_, b3_]
      have k_ := hs.hd fun y_ => by rw [y_] at h1_; cases h1_
      exact ⟨h, Or.inl ⟨_, _, rfl, k_, Or.inl ⟨_, _, rfl, k_, hs.tl⟩⟩⟩
    · rw [h1_, cond_true] at ht
      cases ht
  · next a_ b_ S_ =>
    cases ht
    obtain ⟨x_, y_, z_, b1_, b2_, b3_⟩ := cs_cf15 e
    rw [b1_] at hs
    rw [b2_, b3_]
    refine ⟨h, Or.inl ⟨_, _, rfl, ?_, hs.tl.tl⟩⟩
    unfold cs_ad
    cases h1_ : (Nat.beq f2 0 && (Nat.beq a_.1 6 && Nat.beq b_.1 5))
    · rw [cond_false]
      exact cs_v.z rfl
    · rw [cond_true]
      obtain ⟨c1_, c2_⟩ := Bool.and_eq_true_iff.mp h1_
      obtain ⟨c3_, c4_⟩ := Bool.and_eq_true_iff.mp c2_
      have d1_ := ck_beq c1_
      have d3_ := ck_beq c3_
      have d4_ := ck_beq c4_
      have k1_ := Value.int.inj ((hs.hd (by omega)).a6 d3_)
      have k2_ := Value.int.inj ((hs.tl.hd (by omega)).a5 d4_)
      rw [d1_, k1_, k2_]
      rfl
  · next a_ S_ =>
    cases ht
    obtain ⟨x_, z_, b1_, b2_, b3_⟩ := cs_cf19 e
    rw [b1_] at hs
    rw [b2_, b3_]
    refine ⟨h, Or.inl ⟨_, _, rfl, ?_, hs.tl⟩⟩
    cases h1_ : Nat.beq a_.1 12
    · rw [cond_false]
      exact cs_v.z rfl
    · rw [cond_true]
      have d_ := ck_beq h1_
      have k_ := Value.int.inj ((hs.hd (by omega)).a12 d_)
      rw [k_]
      rfl
  · cases ht
end CSP
