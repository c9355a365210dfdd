/-! THE CLASS'S STATE -/
/-- dial, numbers, rows (rest, its dial), bases -/
abbrev sp_S : Type := Int × List Int × List (Int × Int) × List Int
def sp_ok (s : sp_S) : Prop := (-9 ≤ s.1 ∧ s.1 ≤ 400) ∧ (s.2.1.length = 6 ∧ ∀ z ∈ s.2.1, -1000000000000000000000000000000000000 < z ∧ z < 1000000000000000000000000000000000000) ∧ (s.2.2.1.length ≤ 6 ∧ ∀ p ∈ s.2.2.1, 1 ≤ p.2 ∧ p.2 ≤ 999 ∧ 0 ≤ p.1 ∧ p.1 < p.2) ∧ (s.2.2.2.length ≤ 5 ∧ ∀ b ∈ s.2.2.2, 2 ≤ b ∧ b ≤ 999)
/-- a row of references -/
def zc_rl (n : Nat) (f : Nat → Nat) : List Value := (List.range n).map fun i => .ref (f i)
theorem zc_rl_get {n i : Nat} {f : Nat → Nat} (h : i < n) : (zc_rl n f)[i]? = some (.ref (f i)) := by
  unfold zc_rl
  rw [List.getElem?_map, List.getElem?_range h]
  rfl
theorem zc_rl_len {n : Nat} {f : Nat → Nat} : (zc_rl n f).length = n := by unfold zc_rl; simp
/-- a NUMBER of a state, its limbs behind it -/
def zc_n (G : am_G) (h : List am_C) (q : Nat) (z : Int) : Prop := ∃ (n : Nat) (sg : Int) (ls : List Int), am_g G h q = some (sb_c 1407 (q + 1) (n : Int) sg) ∧ am_g G h (q + 1) = some (1450, hd_r ls) ∧ sb_is n sg ls z
theorem zc_n.keep {G : am_G} {h h' : List am_C} {q : Nat} {z : Int} (a : zc_n G h q z) (h1 : am_g G h' q = am_g G h q) (h2 : am_g G h' (q + 1) = am_g G h (q + 1)) : zc_n G h' q z := by
  obtain ⟨n_, sg_, ls_, a1_, a2_, a3_⟩ := a
  exact ⟨n_, sg_, ls_, h1.trans a1_, h2.trans a2_, a3_⟩
theorem zc_n.fr {G : am_G} {h h' : List am_C} {q lo n : Nat} {z : Int} (a : zc_n G h q z) (f : zw_f G h h' lo n) (hd : q + 2 ≤ lo ∨ lo + n ≤ q) : zc_n G h' q z := a.keep (f.2 _ (by omega)) (f.2 _ (by omega))
def zc_sc (s : Nat) (d rc bc : Int) : am_C := (1014, [.int (Int32.ofInt d), .ref (s + 1), .int (Int32.ofInt rc), .ref (s + 2), .ref (s + 3), .int (Int32.ofInt bc), .ref (s + 4)])
/-- the rows behind a state's rests, sizes, bases -/
def zc_r (c : sp_S) (rs zs bs : List Int) : Prop := (rs.length = 6 ∧ zs.length = 6 ∧ bs.length = 5) ∧ ((∀ x ∈ zs, 0 ≤ x ∧ x ≤ 999) ∧ ∀ x ∈ bs, 0 ≤ x ∧ x ≤ 999) ∧ (∀ (i : Nat) (p : Int × Int), c.2.2.1[i]? = some p → rs[i]? = some p.1 ∧ zs[i]? = some p.2) ∧ ∀ (i : Nat) (b : Int), c.2.2.2[i]? = some b → bs[i]? = some b
/-- the state at s, in seventeen cells -/
def zc_s (G : am_G) (h : List am_C) (s : Nat) (c : sp_S) : Prop := ∃ (rs zs bs : List Int),
  am_g G h s = some (zc_sc s c.1 (c.2.2.1.length : Int) (c.2.2.2.length : Int)) ∧ am_g G h (s + 1) = some (1053, zc_rl 6 fun i => s + 5 + 2 * i) ∧
  am_g G h (s + 2) = some (1150, hd_r rs) ∧ am_g G h (s + 3) = some (1250, hd_r zs) ∧ am_g G h (s + 4) = some (1350, hd_r bs) ∧ zc_r c rs zs bs ∧
  ∀ i, i < 6 → zc_n G h (s + 5 + 2 * i) (c.2.1.getD i 0)
theorem zc_s.fr {G : am_G} {h h' : List am_C} {s lo n : Nat} {c : sp_S} (a : zc_s G h s c) (f : zw_f G h h' lo n) (hd : s + 17 ≤ lo ∨ lo + n ≤ s) : zc_s G h' s c := by
  obtain ⟨rs_, zs_, bs_, a1_, a2_, a3_, a4_, a5_, a6_, a7_⟩ := a
  exact ⟨rs_, zs_, bs_, (f.2 _ (by omega)).trans a1_, (f.2 _ (by omega)).trans a2_, (f.2 _ (by omega)).trans a3_, (f.2 _ (by omega)).trans a4_, (f.2 _ (by omega)).trans a5_, a6_, fun i hi => (a7_ i hi).fr f (by omega)⟩
/-- the states ahead of the last changes, in a ring -/
def zc_p (G : am_G) (h : List am_C) (p : Nat) (R : Nat → sp_S) (old cnt : Nat) : Prop := am_g G h p = some (1012, [.ref (p + 1), .int (Int32.ofInt (old : Int)), .int (Int32.ofInt (cnt : Int))]) ∧ am_g G h (p + 1) = some (1054, zc_rl 12 fun i => p + 2 + 17 * i) ∧
  (∀ j, j < 12 → zc_s G h (p + 2 + 17 * j) (R j) ∧ sp_ok (R j)) ∧ old ≤ 11 ∧ cnt ≤ 12
theorem zc_p.fr {G : am_G} {h h' : List am_C} {p lo n : Nat} {R : Nat → sp_S} {old cnt : Nat} (a : zc_p G h p R old cnt) (f : zw_f G h h' lo n) (hd : p + 206 ≤ lo ∨ lo + n ≤ p) : zc_p G h' p R old cnt := by
  obtain ⟨a1_, a2_, a3_, a4_, a5_⟩ := a
  exact ⟨(f.2 _ (by omega)).trans a1_, (f.2 _ (by omega)).trans a2_, fun j hj => ⟨(a3_ j hj).1.fr f (by omega), (a3_ j hj).2⟩, a4_, a5_⟩
/-- a number to work with -/
def zc_w (G : am_G) (h : List am_C) (q : Nat) : Prop := ∃ (n : Nat) (sg : Int) (ls : List Int), am_g G h q = some (sb_c 1007 (q + 1) (n : Int) sg) ∧ am_g G h (q + 1) = some (1050, hd_r ls) ∧ sb_d ls ∧ n ≤ 10
theorem zc_w.fr {G : am_G} {h h' : List am_C} {q lo n : Nat} (a : zc_w G h q) (f : zw_f G h h' lo n) (hd : q + 2 ≤ lo ∨ lo + n ≤ q) : zc_w G h' q := by
  obtain ⟨n_, sg_, ls_, a1_, a2_, a3_⟩ := a
  exact ⟨n_, sg_, ls_, (f.2 _ (by omega)).trans a1_, (f.2 _ (by omega)).trans a2_, a3_⟩
theorem zc_nb {n : Nat} {sg : Int} {ls : List Int} {z : Int} (h : sb_is n sg ls z) : n ≤ 10 := by have := h.2.1.1; have := h.1.1; omega
