/-! THE CLASS AS A WHOLE -/
theorem zc_s.d {G : am_G} {h : List am_C} {s : Nat} {c : sp_S} (a : zc_s G h s c) : am_g G h s = some (zc_sc s c.1 (c.2.2.1.length : Int) (c.2.2.2.length : Int)) := by obtain ⟨_, _, _, a1_, -⟩ := a; exact a1_
theorem zc_s.nr {G : am_G} {h : List am_C} {s : Nat} {c : sp_S} (a : zc_s G h s c) : am_g G h (s + 1) = some (1053, zc_rl 6 fun i => s + 5 + 2 * i) := by obtain ⟨_, _, _, -, a1_, -⟩ := a; exact a1_
theorem zc_s.n {G : am_G} {h : List am_C} {s : Nat} {c : sp_S} (a : zc_s G h s c) {i : Nat} (hi : i < 6) : zc_n G h (s + 5 + 2 * i) (c.2.1.getD i 0) := by obtain ⟨_, _, _, -, -, -, -, -, -, a1_⟩ := a; exact a1_ i hi
theorem zc_s.num {G : am_G} {h h' : List am_C} {s i : Nat} {c : sp_S} {z : Int} (a : zc_s G h s c) (hi : i < 6) (hl : c.2.1.length = 6) (f : ∀ p, p ≠ s + 5 + 2 * i → p ≠ s + 5 + 2 * i + 1 → am_g G h' p = am_g G h p) (hn : zc_n G h' (s + 5 + 2 * i) z) : zc_s G h' s (c.1, c.2.1.set i z, c.2.2) := by
  obtain ⟨rs_, zs_, bs_, a1_, a2_, a3_, a4_, a5_, a6_, a7_⟩ := a
  refine ⟨rs_, zs_, bs_, (f _ (by omega) (by omega)).trans a1_, (f _ (by omega) (by omega)).trans a2_, (f _ (by omega) (by omega)).trans a3_, (f _ (by omega) (by omega)).trans a4_, (f _ (by omega) (by omega)).trans a5_, a6_, fun j hj => ?_⟩
  show zc_n G h' (s + 5 + 2 * j) ((c.2.1.set i z).getD j 0)
  by_cases e_ : j = i
  · rw [e_, List.getD_eq_getElem?_getD, List.getElem?_set_self (by omega), Option.getD_some]
    exact hn
  · rw [sb_sets e_]
    exact (a7_ j hj).keep (f _ (by omega) (by omega)) (f _ (by omega) (by omega))
def zc_cell (x : Nat) (j m k : Int) (r : Nat → Nat) : am_C := (1015, [.ref (x + 1), .ref (x + 18), .int (Int32.ofInt j), .int (Int32.ofInt m), .int (Int32.ofInt k), .ref (x + 224), .ref (x + 226), .ref (r 0), .ref (r 1), .ref (r 2), .ref (r 3), .ref (r 4), .ref (r 5)])
def zc_x (G : am_G) (h : List am_C) (x : Nat) (r : Nat → Nat) (j m k : Int) (c : sp_S) (R : Nat → sp_S) (old cnt : Nat) : Prop :=
  am_g G h x = some (zc_cell x j m k r) ∧ zc_s G h (x + 1) c ∧ sp_ok c ∧ zc_p G h (x + 18) R old cnt ∧ (zc_w G h (x + 224) ∧ zc_w G h (x + 226)) ∧ (∃ (a : Int32) (b d : Int64), am_g G h (r 4) = some (1011, [.int a, .long b, .long d])) ∧ x + 228 ≤ r 4 ∧ 1000 ≤ x
/-- outside the class nothing has changed -/
def zc_fr (G : am_G) (h h' : List am_C) (x : Nat) (r : Nat → Nat) : Prop := h'.length = h.length ∧ ∀ p, (p < x ∨ x + 228 ≤ p) → p ≠ r 4 → am_g G h' p = am_g G h p
theorem zc_fr.rf {G : am_G} {h : List am_C} {x : Nat} {r : Nat → Nat} : zc_fr G h h x r := ⟨rfl, fun _ _ _ => rfl⟩
theorem zc_fr.tr {G : am_G} {h h' h2 : List am_C} {x : Nat} {r : Nat → Nat} (a : zc_fr G h h' x r) (b : zc_fr G h' h2 x r) : zc_fr G h h2 x r := ⟨b.1.trans a.1, fun p h1 h2 => (b.2 p h1 h2).trans (a.2 p h1 h2)⟩
theorem zc_fr.of {G : am_G} {h h' : List am_C} {x lo n : Nat} {r : Nat → Nat} (a : zw_f G h h' lo n) (h1 : x ≤ lo) (h2 : lo + n ≤ x + 228) : zc_fr G h h' x r := ⟨a.1, fun p hp _ => a.2 p (by omega)⟩
section ZCX
variable {G : am_G} {h h' : List am_C} {x : Nat} {r : Nat → Nat} {j m k : Int} {c : sp_S} {R : Nat → sp_S} {old cnt : Nat}
theorem zc_x.st (a : zc_x G h x r j m k c R old cnt) {c2 : sp_S} (f : zw_f G h h' (x + 1) 17) (hs : zc_s G h' (x + 1) c2) (hc : sp_ok c2) : zc_x G h' x r j m k c2 R old cnt := by
  obtain ⟨a1_, a2_, a3_, a4_, ⟨a5_, a6_⟩, ⟨y1_, y2_, y3_, a7_⟩, a8_, a9_⟩ := a
  exact ⟨(f.2 _ (by omega)).trans a1_, hs, hc, a4_.fr f (by omega), ⟨a5_.fr f (by omega), a6_.fr f (by omega)⟩, ⟨y1_, y2_, y3_, (f.2 _ (by omega)).trans a7_⟩, a8_, a9_⟩
theorem zc_x.past (a : zc_x G h x r j m k c R old cnt) {R2 : Nat → sp_S} {old2 cnt2 : Nat} (f : zw_f G h h' (x + 18) 206) (hs : zc_p G h' (x + 18) R2 old2 cnt2) : zc_x G h' x r j m k c R2 old2 cnt2 := by
  obtain ⟨a1_, a2_, a3_, a4_, ⟨a5_, a6_⟩, ⟨y1_, y2_, y3_, a7_⟩, a8_, a9_⟩ := a
  exact ⟨(f.2 _ (by omega)).trans a1_, a2_.fr f (by omega), a3_, hs, ⟨a5_.fr f (by omega), a6_.fr f (by omega)⟩, ⟨y1_, y2_, y3_, (f.2 _ (by omega)).trans a7_⟩, a8_, a9_⟩
theorem zc_x.undo (a : zc_x G h x r j m k c R old cnt) {c2 : sp_S} {R2 : Nat → sp_S} {old2 cnt2 : Nat} (f : zw_f G h h' (x + 1) 18) (hs : zc_p G h' (x + 18) R2 old2 cnt2) (hc : zc_s G h' (x + 1) c2) (hk : sp_ok c2) : zc_x G h' x r j m k c2 R2 old2 cnt2 := by
  obtain ⟨a1_, a2_, a3_, a4_, ⟨a5_, a6_⟩, ⟨y1_, y2_, y3_, a7_⟩, a8_, a9_⟩ := a
  exact ⟨(f.2 _ (by omega)).trans a1_, hc, hk, hs, ⟨a5_.fr f (by omega), a6_.fr f (by omega)⟩, ⟨y1_, y2_, y3_, (f.2 _ (by omega)).trans a7_⟩, a8_, a9_⟩
theorem zc_x.work (a : zc_x G h x r j m k c R old cnt) (f : zw_f G h h' (x + 224) 4) (h1 : zc_w G h' (x + 224)) (h2 : zc_w G h' (x + 226)) : zc_x G h' x r j m k c R old cnt := by
  obtain ⟨a1_, a2_, a3_, a4_, ⟨a5_, a6_⟩, ⟨y1_, y2_, y3_, a7_⟩, a8_, a9_⟩ := a
  exact ⟨(f.2 _ (by omega)).trans a1_, a2_.fr f (by omega), a3_, a4_.fr f (by omega), ⟨h1, h2⟩, ⟨y1_, y2_, y3_, (f.2 _ (by omega)).trans a7_⟩, a8_, a9_⟩
theorem zc_x.own (a : zc_x G h x r j m k c R old cnt) {j2 m2 k2 : Int} (w : hd_w G h h' x (zc_cell x j2 m2 k2 r)) : zc_x G h' x r j2 m2 k2 c R old cnt := by
  obtain ⟨a1_, a2_, a3_, a4_, ⟨a5_, a6_⟩, ⟨y1_, y2_, y3_, a7_⟩, a8_, a9_⟩ := a
  have f_ : zw_f G h h' x 1 := zw_f.w w (by omega) (by omega)
  exact ⟨w.at, a2_.fr f_ (by omega), a3_, a4_.fr f_ (by omega), ⟨a5_.fr f_ (by omega), a6_.fr f_ (by omega)⟩, ⟨y1_, y2_, y3_, (f_.2 _ (by omega)).trans a7_⟩, a8_, a9_⟩
theorem zc_x.join (a : zc_x G h x r j m k c R old cnt) {y1 : Int32} {y2 y3 : Int64} (w : hd_w G h h' (r 4) (1011, [.int y1, .long y2, .long y3])) : zc_x G h' x r j m k c R old cnt := by
  obtain ⟨a1_, a2_, a3_, a4_, ⟨a5_, a6_⟩, -, a8_, a9_⟩ := a
  have f_ : zw_f G h h' (r 4) 1 := zw_f.w w (by omega) (by omega)
  exact ⟨(f_.2 _ (by omega)).trans a1_, a2_.fr f_ (by omega), a3_, a4_.fr f_ (by omega), ⟨a5_.fr f_ (by omega), a6_.fr f_ (by omega)⟩, ⟨y1, y2, y3, w.at⟩, a8_, a9_⟩
end ZCX
/-- the states that may come back, the last one last -/
def zc_l (R : Nat → sp_S) (old cnt : Nat) : List sp_S := (List.range cnt).map fun i => R ((old + i) % 12)
def sp_keep (P : List sp_S) (c : sp_S) : List sp_S := (if P.length < 12 then P else P.tail) ++ [c]
theorem zc_l_len {R : Nat → sp_S} {old cnt : Nat} : (zc_l R old cnt).length = cnt := by unfold zc_l; simp
theorem zc_l_get {R : Nat → sp_S} {old cnt i : Nat} (h : i < cnt) : (zc_l R old cnt)[i]? = some (R ((old + i) % 12)) := by
  unfold zc_l
  rw [List.getElem?_map, List.getElem?_range h]
  rfl
theorem zc_l_keep {R : Nat → sp_S} {old cnt old2 cnt2 : Nat} {c : sp_S} (ho : old ≤ 11) (hn : cnt ≤ 12) (h1 : old2 = (if cnt < 12 then old else (old + 1) % 12)) (h2 : cnt2 = (if cnt < 12 then cnt + 1 else 12)) : zc_l (zc_put R ((old + cnt) % 12) c) old2 cnt2 = sp_keep (zc_l R old cnt) c := by
  apply List.ext_getElem?
  intro i
  unfold sp_keep
  rw [zc_l_len]
  by_cases c_ : cnt < 12
  · rw [if_pos c_] at h1 h2 ⊢
    subst h1 h2
    by_cases ci_ : i < cnt
    · rw [zc_l_get (by omega), List.getElem?_append_left (by rw [zc_l_len]; exact ci_), zc_l_get ci_]
      unfold zc_put
      rw [if_neg (by omega)]
    · by_cases ce_ : i = cnt
      · rw [ce_, zc_l_get (by omega), List.getElem?_append_right (by rw [zc_l_len]; omega), zc_l_len, Nat.sub_self]
        unfold zc_put
        rw [if_pos rfl]
        rfl
      · rw [List.getElem?_eq_none (by rw [zc_l_len]; omega), List.getElem?_eq_none (by rw [List.length_append, zc_l_len, List.length_singleton]; omega)]
  · obtain rfl : cnt = 12 := by omega
    rw [if_neg c_] at h1 h2 ⊢
    subst h1 h2
    have hlt_ : (zc_l R old 12).tail.length = 11 := by rw [List.length_tail, zc_l_len]
    by_cases ci_ : i < 11
    · rw [zc_l_get (by omega), List.getElem?_append_left (by omega), List.getElem?_tail, zc_l_get (by omega)]
      unfold zc_put
      rw [if_neg (by omega), show ((old + 1) % 12 + i) % 12 = (old + (i + 1)) % 12 by omega]
    · by_cases ce_ : i = 11
      · rw [ce_, zc_l_get (by omega), List.getElem?_append_right (by omega), hlt_, Nat.sub_self]
        unfold zc_put
        rw [if_pos (by omega)]
        rfl
      · rw [List.getElem?_eq_none (by rw [zc_l_len]; omega), List.getElem?_eq_none (by rw [List.length_append, hlt_, List.length_singleton]; omega)]
theorem zc_l_back {R : Nat → sp_S} {old cnt : Nat} (h0 : 0 < cnt) : zc_l R old (cnt - 1) = (zc_l R old cnt).dropLast ∧ (zc_l R old cnt).getLast? = some (R ((old + (cnt - 1)) % 12)) := by
  constructor
  · apply List.ext_getElem?
    intro i
    rw [List.getElem?_dropLast, zc_l_len]
    by_cases c_ : i < cnt - 1
    · rw [if_pos c_, zc_l_get c_, zc_l_get (by omega)]
    · rw [if_neg c_, List.getElem?_eq_none (by rw [zc_l_len]; omega)]
  · rw [List.getLast?_eq_getElem?, zc_l_len, zc_l_get (by omega)]
/-- the class with the states that may come back -/
def zc_X (G : am_G) (h : List am_C) (x : Nat) (r : Nat → Nat) (j m k : Int) (c : sp_S) (P : List sp_S) : Prop := ∃ (R : Nat → sp_S) (old cnt : Nat), zc_x G h x r j m k c R old cnt ∧ P = zc_l R old cnt
