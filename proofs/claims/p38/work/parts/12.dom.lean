/-! WHAT IS KNOWN OF A STATE: numbers in bounds, forms of 0 or above, rows about references, places of the frame -/
abbrev ck_V : Type := Nat × Nat × ck_L
abbrev ck_F : Type := Nat × Nat × Nat × Nat × ck_V
abbrev ck_Y : Type := Nat × Nat × Int × Int
abbrev ck_D : Type := Nat × Int × Int × List ck_Y
abbrev ck_g : Type := Nat → Option am_C
abbrev ck_TT : Type := List (Nat × ck_D)
abbrev ck_A : Type := ck_I × List ck_L × List ck_F × Nat × List ck_V × List ck_V × ck_L × ck_L
/-- the number of null among references: 999 -/
def ck_rv (q : Nat) : Value := if q = 999 then .null else .ref q
/-- a value: 1 a number, 2 a long, 3 a reference, 4 null, 6 some reference, 7 a reference or null -/
def ck_av (r : List Int) (s : List Nat) (a : ck_V) (v : Value) : Prop := match a.1 with
  | 1 => ∃ x : Int32, v = .int x ∧ ck_Lv r a.2.2 x.toInt
  | 2 => ∃ x : Int64, v = .long x ∧ ck_Lv r a.2.2 x.toInt
  | 3 => ∃ q : Nat, s[a.2.1]? = some q ∧ v = .ref q
  | 4 => v = .null
  | 6 => ∃ q : Nat, v = .ref q
  | 7 => ∃ q : Nat, s[a.2.1]? = some q ∧ v = ck_rv q
  | _ => False
/-- ints of nine digits alone -/
def ck_el (vs : List Value) : Prop := ∀ (j : Nat) (v : Value), vs[j]? = some v → ∃ x : Int32, v = .int x ∧ 0 ≤ x.toInt ∧ x.toInt ≤ 999999999
/-- the number of a row of digits, from the ones on -/
def ck_val : List Value → Int
  | [] => 0
  | .int x :: u => x.toInt + 10 * ck_val u
  | _ :: u => 10 * ck_val u
/-- digits alone -/
def ck_dig (vs : List Value) : Prop := ∀ (j : Nat) (v : Value), vs[j]? = some v → ∃ x : Int32, v = .int x ∧ 0 ≤ x.toInt ∧ x.toInt ≤ 9
/-- what a row of a cell may tell of its places and a number: 0 nine digits; 1 digits, their number; 2 how many are left without needless zeros; 3 digits, the number with zeros behind it (both in one); 4 so many references ahead; 5 zeros from there on; 6 how many zeros; 7 what stands at a place (both in one); 8 the rest of the row from a place on is the number; 9 the last one is not 0; 20 no divisor below; 21 no common divisor -/
def ck_sem (j : Nat) (vs : List Value) (x : Int) : Prop := match j with
  | 0 => ck_el vs
  | 1 => ck_dig vs ∧ x = ck_val vs
  | 2 => ck_dig vs ∧ ∃ n : Nat, x = (n : Int) ∧ n ≤ vs.length ∧ (∀ (k : Nat) (v : Value), n ≤ k → vs[k]? = some v → v = .int 0) ∧ (0 < n → vs[n - 1]? ≠ some (.int 0))
  | 3 => ck_dig vs ∧ ∃ z : Nat, z ≤ 38 ∧ x = 10 ^ 40 * (z : Int) + (ck_val vs * 10 ^ z) % 10 ^ 38
  | 4 => ∀ k : Nat, (k : Int) < x → ∃ q : Nat, vs[k]? = some (.ref q)
  | 5 => ∀ (k : Nat) (v : Value), x ≤ (k : Int) → vs[k]? = some v → v = .int 0
  | 6 => x = ((vs.filter fun v => match v with | .int y => y == 0 | _ => false).length : Int)
  | 7 => ∃ (k : Nat) (y : Int32), k < 4096 ∧ x = 4096 * y.toInt + (k : Int) ∧ vs[k]? = some (.int y)
  | 8 => ck_dig vs ∧ ∃ k : Nat, k < 64 ∧ x = 64 * ck_val (vs.drop k) + (k : Int)
  | 9 => ∀ v : Value, vs.getLast? = some v → v ≠ .int 0
  | 20 => ∃ l p : Nat, p < 1000 ∧ x = 1000 * (l : Int) + (p : Int) ∧ 1 ≤ l ∧ ∀ d : Nat, 2 ≤ d → d < p → ¬ l % d = 0
  | 21 => ∃ a b : Nat, b < 1000 ∧ x = 1000 * (a : Int) + (b : Int) ∧ Nat.gcd a b = 1
  | _ => False
/-- of numbers alone (packed in one): 1 no common divisor, 2 the greatest common divisor, 3 a product, 4 no divisor below -/
def ck_pu (j : Nat) (x : Int) : Prop := match j with
  | 1 => ∃ a b : Nat, b < 1000 ∧ x = 1000 * (a : Int) + (b : Int) ∧ Nat.gcd a b = 1
  | 2 => ∃ z a b : Nat, a < 1000000 ∧ b < 1000000 ∧ x = 1000000000000 * (z : Int) + (1000000 * (a : Int) + (b : Int)) ∧ z = Nat.gcd a b
  | 3 => ∃ p a b : Nat, a < 10 ^ 16 ∧ b < 1000 ∧ x = 10 ^ 19 * (p : Int) + (1000 * (a : Int) + (b : Int)) ∧ p = a * b
  | 4 => ∃ l p : Nat, p < 1000 ∧ x = 1000 * (l : Int) + (p : Int) ∧ 1 ≤ l ∧ ∀ d : Nat, 2 ≤ d → d < p → ¬ l % d = 0
  | _ => False
/-- a comparison, or what is true of numbers -/
def ck_f4 (r : List Int) (f : ck_F) : Prop := match f.2.2.1 with
  | 0 => ∃ x d : Int, r[f.2.1]? = some x ∧ ck_Lv r f.2.2.2.2.2.2 d ∧ (x < 0 ↔ d < 0) ∧ (0 < x ↔ 0 < d)
  | j + 1 => ∃ x : Int, ck_Lv r f.2.2.2.2.2.2 x ∧ ck_pu (j + 1) x
/-- a row: 2 a reference's kind and length, 3 what a place of it holds, 4 a comparison, 5 made here, 8 as 2 but perhaps null -/
def ck_fa (g : ck_g) (z : Nat) (r : List Int) (s : List Nat) (f : ck_F) : Prop := match f.1 with
  | 2 => ∃ (q : Nat) (vs : List Value), s[f.2.1]? = some q ∧ g q = some (f.2.2.2.1, vs) ∧ ck_Lv r f.2.2.2.2.2.2 (vs.length : Int)
  | 3 => ∃ (q : Nat) (vs : List Value) (v : Value), s[f.2.1]? = some q ∧ g q = some (f.2.2.2.1, vs) ∧ vs[f.2.2.1]? = some v ∧ ck_av r s f.2.2.2.2 v
  | 4 => ck_f4 r f
  | 5 => ∃ q : Nat, s[f.2.1]? = some q ∧ z ≤ q
  | 6 => ∃ (q : Nat) (vs : List Value) (x : Int), s[f.2.1]? = some q ∧ g q = some (f.2.2.2.1, vs) ∧ ck_Lv r f.2.2.2.2.2.2 x ∧ ck_sem f.2.2.1 vs x
  | 8 => ∃ q : Nat, s[f.2.1]? = some q ∧ (q = 999 ∨ ∃ vs : List Value, g q = some (f.2.2.2.1, vs) ∧ ck_Lv r f.2.2.2.2.2.2 (vs.length : Int))
  | _ => False
theorem ck_get_app {α : Type} {s q : List α} {i : Nat} {x : α} (h : s[i]? = some x) : (s ++ q)[i]? = some x := by
  rw [List.getElem?_append_left (List.getElem?_eq_some_iff.mp h).1]; exact h
theorem ck_av.app {r : List Int} {s : List Nat} {a : ck_V} {v : Value} (h : ck_av r s a v) (q : List Int) (p : List Nat) : ck_av (r ++ q) (s ++ p) a v := by
  unfold ck_av at h ⊢
  split at h
  · obtain ⟨x, h1, h2⟩ := h; exact ⟨x, h1, h2.app q⟩
  · obtain ⟨x, h1, h2⟩ := h; exact ⟨x, h1, h2.app q⟩
  · obtain ⟨x, h1, h2⟩ := h; exact ⟨x, ck_get_app h1, h2⟩
  · exact h
  · exact h
  · obtain ⟨x, h1, h2⟩ := h; exact ⟨x, ck_get_app h1, h2⟩
  · exact h.elim
theorem ck_f4.app {r : List Int} {f : ck_F} (h : ck_f4 r f) (q : List Int) : ck_f4 (r ++ q) f := by
  unfold ck_f4 at h ⊢
  split at h
  · obtain ⟨x, d, h1, h2, h3⟩ := h; exact ⟨x, d, ck_get_app h1, h2.app q, h3⟩
  · obtain ⟨x, h1, h2⟩ := h; exact ⟨x, h1.app q, h2⟩
theorem ck_fa.app {g : ck_g} {z : Nat} {r : List Int} {s : List Nat} {f : ck_F} (h : ck_fa g z r s f) (q : List Int) (p : List Nat) : ck_fa g z (r ++ q) (s ++ p) f := by
  unfold ck_fa at h ⊢
  split at h
  · obtain ⟨x, vs, h1, h2, h3⟩ := h; exact ⟨x, vs, ck_get_app h1, h2, h3.app q⟩
  · obtain ⟨x, vs, v, h1, h2, h3, h4⟩ := h; exact ⟨x, vs, v, ck_get_app h1, h2, h3, h4.app q p⟩
  · exact ck_f4.app h q
  · obtain ⟨x, h1, h2⟩ := h; exact ⟨x, ck_get_app h1, h2⟩
  · obtain ⟨x, vs, y, h1, h2, h3, h4⟩ := h; exact ⟨x, vs, y, ck_get_app h1, h2, h3.app q, h4⟩
  · obtain ⟨x, h1, h2⟩ := h; exact ⟨x, ck_get_app h1, h2.imp id fun ⟨vs, h3, h4⟩ => ⟨vs, h3, h4.app q⟩⟩
  · exact h.elim
/-- the stack -/
def ck_stk (r : List Int) (s : List Nat) : List ck_V → List Value → Prop
  | [], [] => True
  | a :: A, v :: B => ck_av r s a v ∧ ck_stk r s A B
  | _, _ => False
theorem ck_stk.app {r : List Int} {s : List Nat} {A : List ck_V} {B : List Value} (h : ck_stk r s A B) (q : List Int) (p : List Nat) : ck_stk (r ++ q) (s ++ p) A B := by
  induction A generalizing B with
  | nil => cases B with
    | nil => trivial
    | cons b B => exact h.elim
  | cons a A ih => cases B with
    | nil => exact h.elim
    | cons b B => exact ⟨h.1.app q p, ih h.2⟩
/-- the frame's numbered places -/
def ck_loc (r : List Int) (s : List Nat) (A : List ck_V) (L : List (Option Value)) : Prop := L.length = A.length ∧ ∀ (i : Nat) (a : ck_V), A[i]? = some a → a.1 = 0 ∨ ∃ v : Value, L[i]? = some (some v) ∧ ck_av r s a v
theorem ck_loc.app {r : List Int} {s : List Nat} {A : List ck_V} {L : List (Option Value)} (h : ck_loc r s A L) (q : List Int) (p : List Nat) : ck_loc (r ++ q) (s ++ p) A L :=
  ⟨h.1, fun i a ha => (h.2 i a ha).imp id fun ⟨v, h1, h2⟩ => ⟨v, h1, h2.app q p⟩⟩
-- what a cell of a kind may hold
def ck_ty (K : Int32) (g : ck_g) (y : ck_Y) (v : Value) : Prop := match y.1 with
  | 1 => ∃ x : Int32, v = .int x ∧ y.2.2.1 ≤ x.toInt ∧ x.toInt ≤ y.2.2.2
  | 2 => ∃ x : Int64, v = .long x ∧ y.2.2.1 ≤ x.toInt ∧ x.toInt ≤ y.2.2.2
  | 3 => 1000 ≤ y.2.1 ∧ ∃ (q : Nat) (vs : List Value), v = .ref q ∧ g q = some (y.2.1, vs)
  | 5 => 1000 ≤ y.2.1 ∧ (v = .null ∨ ∃ (q : Nat) (vs : List Value), v = .ref q ∧ g q = some (y.2.1, vs))
  | 6 => v = .int K
  | 8 => True
  | _ => False
def ck_lk (T : ck_TT) (t : Nat) : Option ck_D := match T with
  | [] => none
  | d :: u => bif Nat.beq d.1 t then some d.2 else ck_lk u t
/-- the place j of a cell: an object's own, an array's one -/
def ck_yt (d : ck_D) (j : Nat) : Option ck_Y := bif Nat.beq (d.1 % 2) 0 then d.2.2.2[j]? else d.2.2.2[0]?
def ck_wr (T : ck_TT) (t : Nat) : Bool := match ck_lk T t with
  | some d => Nat.blt d.1 2
  | none => true
def ck_ce (T : ck_TT) (K : Int32) (g : ck_g) (t : Nat) (vs : List Value) : Prop := ∀ d : ck_D, ck_lk T t = some d → (d.2.1 ≤ (vs.length : Int) ∧ (vs.length : Int) ≤ d.2.2.1) ∧ ∀ (j : Nat) (v : Value), vs[j]? = some v → ∃ y : ck_Y, ck_yt d j = some y ∧ ck_ty K g y v
/-- kinds of 40 thousand and above are kept by rules of their own -/
abbrev ck_XT : Type := ck_g → Prop
def ck_HT (X : ck_XT) (T : ck_TT) (K : Int32) (g : ck_g) : Prop := (g 999 = none ∧ X g) ∧ ∀ (q t : Nat) (vs : List Value), g q = some (t, vs) → ck_ce T K g t vs ∧ True ∧ (ck_wr T t = true → 1000 ≤ q)
/-- from g to g' the kinds stay, and cells of 40 thousand and above -/
def ck_Ex (g g' : ck_g) : Prop := ∀ (q t : Nat) (vs : List Value), g q = some (t, vs) → 1000 ≤ t → ∃ vs' : List Value, g' q = some (t, vs') ∧ vs'.length = vs.length ∧ (40000 ≤ t → vs' = vs)
def ck_Ex2 (g g' : ck_g) : Prop := ck_Ex g g' ∧ ∀ (q t : Nat) (vs : List Value), g' q = some (t, vs) → 40000 ≤ t → g q = some (t, vs)
def ck_XO (X : ck_XT) : Prop := ∀ (g g' : ck_g), ck_Ex2 g g' → X g → X g'
theorem ck_ty.ex {K : Int32} {g g' : ck_g} {y : ck_Y} {v : Value} (h : ck_ty K g y v) (e : ∀ (q t : Nat) (vs : List Value), g q = some (t, vs) → 1000 ≤ t → ∃ vs' : List Value, g' q = some (t, vs') ∧ vs'.length = vs.length) : ck_ty K g' y v := by
  unfold ck_ty at h ⊢
  split at h
  · exact h
  · exact h
  · obtain ⟨h0, q, vs, h1, h2⟩ := h
    obtain ⟨vs', h3, -⟩ := e _ _ _ h2 h0
    exact ⟨h0, q, vs', h1, h3⟩
  · obtain ⟨h0, h⟩ := h
    refine ⟨h0, h.imp id fun ⟨q, vs, h1, h2⟩ => ?_⟩
    obtain ⟨vs', h3, -⟩ := e _ _ _ h2 h0
    exact ⟨q, vs', h1, h3⟩
  · exact h
  · trivial
  · exact h.elim
/-- what a method may have written: places (kind, place; 1000 all); one cell (address, its kind) may have got another kind -/
def ck_inM (M : List (Nat × Nat)) (t j : Nat) : Bool := M.any fun m => Nat.beq m.1 t && (Nat.beq m.2 j || Nat.beq m.2 1000)
def ck_Kp (M : List (Nat × Nat)) (rq : List (Nat × Nat)) (g0 g : ck_g) : Prop := ∀ (q t : Nat) (vs : List Value), g0 q = some (t, vs) →
  ((q, t) ∈ rq ∧ ∃ (t' : Nat) (vs' : List Value), g q = some (t', vs') ∧ vs'.length = vs.length) ∨ (∃ vs' : List Value, g q = some (t, vs') ∧ vs'.length = vs.length ∧ ∀ j : Nat, ck_inM M t j = false → vs'[j]? = vs[j]?)
theorem ck_Kp.rf {M : List (Nat × Nat)} {rq : List (Nat × Nat)} {g : ck_g} : ck_Kp M rq g g := fun q t vs h => Or.inr ⟨vs, h, rfl, fun _ _ => rfl⟩
/-- what stays the same for a whole method: G, X, T, K, entry's heap cells' end, entry's cells, entry's numbers and references, M, rq -/
abbrev ck_W : Type := am_G × ck_XT × ck_TT × Int32 × List am_C × List Int × List Nat × List (Nat × Nat) × List (Nat × Nat)
def ck_Hp (w : ck_W) (r : List Int) (s : List Nat) (h : List am_C) : Prop :=
  ck_HT w.2.1 w.2.2.1 w.2.2.2.1 (am_g w.1 h) ∧ ck_Kp w.2.2.2.2.2.2.2.1 w.2.2.2.2.2.2.2.2 (am_g w.1 w.2.2.2.2.1) (am_g w.1 h) ∧ w.2.2.2.2.1.length ≤ h.length ∧ (∃ q, r = w.2.2.2.2.2.1 ++ q) ∧ ∃ q, s = w.2.2.2.2.2.2.1 ++ q
def ck_z (w : ck_W) : Nat := 1000 + w.2.2.2.2.1.length
/-- the state is as A says, with the numbers r and the references s -/
def ck_Ga (w : ck_W) (A : ck_A) (r : List Int) (s : List Nat) (L : List (Option Value)) (st : List Value) (h : List am_C) (k n : Nat) : Prop :=
  ck_In A.1 r ∧ ck_Co A.2.1 r ∧ (∀ f ∈ A.2.2.1, ck_fa (am_g w.1 h) (ck_z w) r s f) ∧ s.length = A.2.2.2.1 ∧ ck_loc r s A.2.2.2.2.1 L ∧ ck_stk r s A.2.2.2.2.2.1 st ∧ ck_Lv r A.2.2.2.2.2.2.1 (k : Int) ∧ ck_Lv r A.2.2.2.2.2.2.2 (n : Int) ∧ ck_Hp w r s h
theorem ck_Hp.app {w : ck_W} {r : List Int} {s : List Nat} {h : List am_C} (H : ck_Hp w r s h) (q : List Int) (p : List Nat) : ck_Hp w (r ++ q) (s ++ p) h := by
  obtain ⟨h1, h2, h3, ⟨a, h4⟩, b, h5⟩ := H
  exact ⟨h1, h2, h3, ⟨a ++ q, by rw [h4, List.append_assoc]⟩, b ++ p, by rw [h5, List.append_assoc]⟩
/-- new numbers, forms, rows and references; the frame anew -/
theorem ck_Ga.more {w : ck_W} {V : ck_I} {C : List ck_L} {F : List ck_F} {nr : Nat} {Ls St : List ck_V} {k n : Nat} {ek en : ck_L} {r : List Int} {s : List Nat} {L : List (Option Value)} {st : List Value} {h : List am_C}
    (H : ck_Ga w (V, C, F, nr, Ls, St, ek, en) r s L st h k n) {V2 : ck_I} {C2 : List ck_L} {F2 : List ck_F} {m : Nat} {Ls' St' : List ck_V} {q : List Int} {p : List Nat} {L' : List (Option Value)} {st' : List Value}
    (hV : ck_In V2 q) (hC : ck_Co C2 (r ++ q)) (hF : ∀ f ∈ F2, ck_fa (am_g w.1 h) (ck_z w) (r ++ q) (s ++ p) f) (hm : p.length = m) (hL : ck_loc (r ++ q) (s ++ p) Ls' L') (hS : ck_stk (r ++ q) (s ++ p) St' st') :
    ck_Ga w (V ++ V2, C2 ++ C, F2 ++ F, nr + m, Ls', St', ek, en) (r ++ q) (s ++ p) L' st' h k n := by
  obtain ⟨h1, h2, h3, h4, h5, h6, h7, h8, h9⟩ := H
  refine ⟨h1.app hV, fun c hc => ?_, fun f hf => ?_, by rw [List.length_append, hm]; exact congrArg (· + m) h4, hL, hS, h7.app q, h8.app q, h9.app q p⟩
  · rcases List.mem_append.mp hc with hc | hc
    · exact hC c hc
    · exact h2.app q c hc
  · rcases List.mem_append.mp hf with hf | hf
    · exact hF f hf
    · exact (h3 f hf).app q p
