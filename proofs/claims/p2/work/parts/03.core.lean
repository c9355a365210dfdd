section
/-! THE ABSTRACT HEAP: a list of cells (kind + 100 * region, contents); a reference below 1000 is a constant of the start, 1000 + i the i-th cell made since the law's entry. -/
abbrev am_C : Type := Nat × List Value
def am_aty (k : Nat) : FieldType := match k with
  | 50 => .int
  | 51 => .byte
  | 52 => .long
  | 53 => .object "Clockhouse$Big"
  | 54 => .object "Clockhouse$State"
  | 55 => .object "ClockhouseModel$Num"
  | 56 => .object "java/lang/Object"
  | 58 => .object "java/lang/Integer"
  | 59 => .int
  | 60 => .byte
  | 61 => .byte
  | _ => .array .int
abbrev am_cl : List vw_C := [(RJ0, TJ0, 4), (RJ4, TJ4, 4), (RJ6, TJ6, 1), (RJx00060, TJx00060, 6), (RJx7c733, TJx7c733, 6), (RJx35411, TJx35411, 4), (RJx4a65c, TJx4a65c, 3), (RX0, TX0, 3), (RX1, TX1, 7), (RX2, TX2, 3), (RX3, TX3, 4), (RX4, TX4, 3), (RX5, TX5, 3), (RX6, TX6, 4), (RX9, TX9, 7), (RX10, TX10, 13), (RX11, TX11, 2), (RX12, TX12, 2), (RX13, TX13, 4), (RX14, TX14, 6)]
/-- the world's fixed numbers: class ids and slots; array class ids; addresses of constants; where the law's own cells begin; the constants' contents -/
abbrev am_G : Type := va_G × (Nat → ClassId) × (Nat → Nat) × Nat × List am_C
def am_ad (G : am_G) (n : Nat) : Nat := if n < 1000 then G.2.2.1 n else G.2.2.2.1 + (n - 1000)
def am_rv (G : am_G) (v : Value) : Value := match v with
  | .ref n => .ref (am_ad G n)
  | v => v
def am_tys (G : am_G) : List (ClassId × FieldType) := [50, 51, 52, 53, 54, 55, 56, 57].map fun k => (G.2.1 k, am_aty k)
/-- arrays of the start whose class is known by its elements alone: the small numbers, the script, the two rows of digits -/
def am_ext (G : am_G) (U : State) : Prop := ∀ k : Nat, 58 ≤ k → k < 62 → ArrOfT U (G.2.1 k) (am_aty k)
theorem am_ext.moved {G : am_G} {u U : State} (hvm : u.vm.Alike U.vm) (h : am_ext G u) : am_ext G U := fun k h1 h2 => arrOfT_moved hvm (h k h1 h2)
def am_K (G : am_G) (s : State) : Prop := va_K G.1 am_cl (am_tys G) s
theorem am_K.moved {G : am_G} {u U : State} (hvm : u.vm.Alike U.vm) (h : am_K G u) : am_K G U := va_K.moved hvm h
def am_ro (G : am_G) (c : am_C) (cell : Cell) : Prop :=
  cell.vm ≠ .unknown ∧ cell.vm.isStatics = false ∧
  (c.1 % 100 < 50 → ∃ r : vw_C, am_cl[c.1 % 100]? = some r ∧ r.2.2 = c.2.length ∧ cell.cls = G.1.1 (c.1 % 100) ∧ ∀ (j : Nat) (v : Value), c.2[j]? = some v → cell.slots[G.1.2 (c.1 % 100) j]? = some (am_rv G v)) ∧
  (50 ≤ c.1 % 100 → c.1 % 100 < 62 → cell.cls = G.2.1 (c.1 % 100) ∧ cell.slots.size = c.2.length ∧ ∀ (j : Nat) (v : Value), c.2[j]? = some v → cell.slots[j]? = some (am_rv G v))
/-- the same of a cell of the start: how long a row is, is known as an int alone -/
def am_rk (G : am_G) (c : am_C) (cell : Cell) : Prop :=
  cell.vm ≠ .unknown ∧ cell.vm.isStatics = false ∧
  (c.1 % 100 < 50 → ∃ r : vw_C, am_cl[c.1 % 100]? = some r ∧ r.2.2 = c.2.length ∧ cell.cls = G.1.1 (c.1 % 100) ∧ ∀ (j : Nat) (v : Value), c.2[j]? = some v → cell.slots[G.1.2 (c.1 % 100) j]? = some (am_rv G v)) ∧
  (50 ≤ c.1 % 100 → c.1 % 100 < 62 → cell.cls = G.2.1 (c.1 % 100) ∧ c.2.length ≤ cell.slots.size ∧ (∀ (j : Nat) (v : Value), c.2[j]? = some v → cell.slots[j]? = some (am_rv G v)) ∧ cell.slots.size.toInt32 = Int32.ofNat c.2.length)
theorem am_ro.rk {G : am_G} {c : am_C} {cell : Cell} (h : am_ro G c cell) : am_rk G c cell := by
  refine ⟨h.1, h.2.1, h.2.2.1, fun h1 h2 => ?_⟩
  obtain ⟨g1, g2, g3⟩ := h.2.2.2 h1 h2
  exact ⟨g1, Nat.le_of_eq g2.symm, g3, by rw [g2]⟩
def am_at (G : am_G) (q : Nat) (c : am_C) (H : Heap) : Prop := ∃ cell : Cell, H[q]? = some cell ∧ am_ro G c cell ∧ cell.vm = .none
def am_kt (G : am_G) (H : Heap) : Prop := ∀ (n : Nat) (c : am_C), G.2.2.2.2[n]? = some c → n < 1000 ∧ (c.1 % 100 < 62 → G.2.2.1 n < G.2.2.2.1 ∧ ∃ cell : Cell, H[G.2.2.1 n]? = some cell ∧ am_rk G c cell)
def am_H (G : am_G) (h : List am_C) (H : Heap) : Prop := H.size = G.2.2.2.1 + h.length ∧ ∀ (i : Nat) (c : am_C), h[i]? = some c → am_at G (G.2.2.2.1 + i) c H
/-- the cell of a reference -/
def am_g (G : am_G) (h : List am_C) (n : Nat) : Option am_C := if n < 1000 then G.2.2.2.2[n]? else h[n - 1000]?
/-- the heap with a cell written -/
def am_s (h : List am_C) (n : Nat) (c : am_C) : List am_C := h.set (n - 1000) c
set_option maxRecDepth 100000 in
theorem am_g_s {G : am_G} {h : List am_C} {n m : Nat} {c : am_C} (hn : 1000 ≤ n) (hl : n - 1000 < h.length) : am_g G (am_s h n c) m = if m = n then some c else am_g G h m := by
  unfold am_g am_s
  by_cases e : m = n
  · subst e
    rw [if_pos rfl, if_neg (by omega), List.getElem?_set_self hl]
  · rw [if_neg e]
    by_cases h1 : m < 1000
    · rw [if_pos h1, if_pos h1]
    · rw [if_neg h1, if_neg h1, List.getElem?_set_ne (by omega)]
theorem am_s_len (h : List am_C) (n : Nat) (c : am_C) : (am_s h n c).length = h.length := by unfold am_s; simp
set_option maxRecDepth 100000 in
theorem am_g_new {G : am_G} {h : List am_C} {m : Nat} {c : am_C} : am_g G (h ++ [c]) m = if m = 1000 + h.length then some c else am_g G h m := by
  unfold am_g
  by_cases e : m = 1000 + h.length
  · subst e
    rw [if_pos rfl, if_neg (by omega), List.getElem?_append_right (by omega)]
    simp
  · rw [if_neg e]
    by_cases h1 : m < 1000
    · rw [if_pos h1, if_pos h1]
    · rw [if_neg h1, if_neg h1]
      by_cases h2 : m - 1000 < h.length
      · rw [List.getElem?_append_left h2]
      · rw [List.getElem?_append_right (by omega), List.getElem?_eq_none (l := h) (by omega), List.getElem?_eq_none (by simp; omega)]
theorem am_g_lt {G : am_G} {h : List am_C} {n : Nat} {c : am_C} (hn : 1000 ≤ n) (hg : am_g G h n = some c) : n - 1000 < h.length := by
  unfold am_g at hg
  rw [if_neg (by omega)] at hg
  exact (List.getElem?_eq_some_iff.mp hg).1
/-- what a reference's cell is in the machine's heap -/
theorem am_cell {G : am_G} {h : List am_C} {H : Heap} (hH : am_H G h H) (hk : am_kt G H) {n : Nat} {c : am_C} (hg : am_g G h n = some c) (h62 : c.1 % 100 < 62) : ∃ cell : Cell, H[am_ad G n]? = some cell ∧ am_rk G c cell := by
  unfold am_g at hg
  unfold am_ad
  by_cases h1 : n < 1000
  · rw [if_pos h1] at hg
    rw [if_pos h1]
    obtain ⟨-, cell, e1, e2⟩ := (hk n c hg).2 h62
    exact ⟨cell, e1, e2⟩
  · rw [if_neg h1] at hg
    rw [if_neg h1]
    obtain ⟨cell, e1, e2, -⟩ := hH.2 _ c hg
    exact ⟨cell, e1, e2.rk⟩
theorem am_cellD {G : am_G} {h : List am_C} {H : Heap} (hH : am_H G h H) {n : Nat} {c : am_C} (hn : 1000 ≤ n) (hg : am_g G h n = some c) : ∃ cell : Cell, H[am_ad G n]? = some cell ∧ am_ro G c cell ∧ cell.vm = .none := by
  unfold am_g at hg
  unfold am_ad
  rw [if_neg (by omega)] at hg
  rw [if_neg (by omega)]
  exact hH.2 _ c hg
theorem am_ad_ge {G : am_G} {n : Nat} (hn : 1000 ≤ n) : G.2.2.2.1 ≤ am_ad G n := by
  unfold am_ad
  rw [if_neg (by omega)]
  omega
set_option maxRecDepth 100000 in
/-- a cell is written in its place -/
theorem am_H.put {G : am_G} {h : List am_C} {H H' : Heap} (hH : am_H G h H) {n : Nat} {c : am_C} (hn : 1000 ≤ n) (hl : n - 1000 < h.length) (hs : H'.size = H.size) (ho : ∀ q : Nat, q ≠ am_ad G n → H'[q]? = H[q]?) (hc : am_at G (am_ad G n) c H') : am_H G (am_s h n c) H' := by
  have ha : am_ad G n = G.2.2.2.1 + (n - 1000) := by unfold am_ad; rw [if_neg (by omega)]
  refine ⟨by rw [hs, am_s_len]; exact hH.1, fun i d hi => ?_⟩
  by_cases e : i = n - 1000
  · subst e
    unfold am_s at hi
    rw [List.getElem?_set_self hl] at hi
    cases hi
    rw [← ha]
    exact hc
  · unfold am_s at hi
    rw [List.getElem?_set_ne (by omega)] at hi
    obtain ⟨cell, e1, e2⟩ := hH.2 i d hi
    exact ⟨cell, by rw [ho _ (by rw [ha]; omega)]; exact e1, e2⟩
set_option maxRecDepth 100000 in
/-- a cell is made -/
theorem am_H.push {G : am_G} {h : List am_C} {H H' : Heap} (hH : am_H G h H) {c : am_C} (hs : H'.size = H.size + 1) (ho : ∀ q : Nat, q < H.size → H'[q]? = H[q]?) (hc : am_at G H.size c H') : am_H G (h ++ [c]) H' := by
  refine ⟨by rw [hs, hH.1, List.length_append, List.length_singleton]; omega, fun i d hi => ?_⟩
  by_cases e : i < h.length
  · rw [List.getElem?_append_left e] at hi
    obtain ⟨cell, e1, e2⟩ := hH.2 i d hi
    exact ⟨cell, by rw [ho _ (by rw [hH.1]; omega)]; exact e1, e2⟩
  · rw [List.getElem?_append_right (by omega)] at hi
    have hz : i - h.length = 0 := by have := (List.getElem?_eq_some_iff.mp hi).1; simp at this; omega
    rw [hz] at hi
    cases hi
    rw [show G.2.2.2.1 + i = H.size by rw [hH.1]; omega]
    exact hc
theorem am_kt.kept {G : am_G} {H H' : Heap} (h : am_kt G H) (ho : ∀ q : Nat, q < G.2.2.2.1 → H'[q]? = H[q]?) : am_kt G H' := by
  intro n c hc
  obtain ⟨h0, h1⟩ := h n c hc
  refine ⟨h0, fun h62 => ?_⟩
  obtain ⟨h2, cell, h3, h4⟩ := h1 h62
  exact ⟨h2, cell, by rw [ho _ h2]; exact h3, h4⟩
/-- positional locals -/
def am_L (G : am_G) (ls : Array Slot) (L : List (Option Value)) : Prop := ls.size = L.length ∧ lv_wf ls ∧ ∀ (i : Nat) (v : Value), L[i]? = some (some v) → ls[i]? = some (.val (am_rv G v))
theorem am_L.at {G : am_G} {ls : Array Slot} {L : List (Option Value)} (h : am_L G ls L) {i : Nat} {v : Value} (hi : L[i]? = some (some v)) : ls[i]? = some (.val (am_rv G v)) := h.2.2 i v hi
theorem am_rv_cat (G : am_G) (v : Value) : (am_rv G v).category = v.category := by cases v <;> rfl
def am_wide (o : Option (Option Value)) : Bool := match o with
  | some (some (.long _)) => true
  | some (some (.double _)) => true
  | _ => false
/-- a local is written: a long ahead of it goes; a long takes two places -/
def am_cut (L : List (Option Value)) (i : Nat) : List (Option Value) := if i = 0 then L else if am_wide L[i - 1]? = true then L.set (i - 1) none else L
def am_put1 (L : List (Option Value)) (i : Nat) (v : Value) : List (Option Value) := (am_cut L i).set i (some v)
def am_put2 (L : List (Option Value)) (i : Nat) (v : Value) : List (Option Value) := ((am_cut L i).set i (some v)).set (i + 1) none
theorem am_wide_of {L : List (Option Value)} {i : Nat} {v : Value} (h : L[i]? = some (some v)) (hc : v.category = 2) : am_wide L[i]? = true := by
  rw [h]
  cases v <;> first | rfl | (simp [Value.category] at hc)
theorem am_cut_len (L : List (Option Value)) (i : Nat) : (am_cut L i).length = L.length := by unfold am_cut; split <;> (try rfl); split <;> simp
theorem am_cut_get {L : List (Option Value)} {i j : Nat} {w : Value} (h : (am_cut L i)[j]? = some (some w)) : L[j]? = some (some w) ∧ ¬ (j + 1 = i ∧ w.category = 2) := by
  unfold am_cut at h
  by_cases h0 : i = 0
  · rw [if_pos h0] at h
    exact ⟨h, fun z => by omega⟩
  · rw [if_neg h0] at h
    by_cases h1 : am_wide L[i - 1]? = true
    · rw [if_pos h1] at h
      by_cases e : i - 1 = j
      · subst e
        have hl : i - 1 < L.length := by have := (List.getElem?_eq_some_iff.mp h).1; simpa using this
        rw [List.getElem?_set_self hl] at h
        cases h
      · rw [List.getElem?_set_ne e] at h
        exact ⟨h, fun z => e (by omega)⟩
    · rw [if_neg h1] at h
      exact ⟨h, fun z => h1 (by rw [show i - 1 = j by omega]; exact am_wide_of h z.2)⟩
theorem am_put1_len (L : List (Option Value)) (i : Nat) (v : Value) : (am_put1 L i v).length = L.length := by unfold am_put1; rw [List.length_set, am_cut_len]
theorem am_put2_len (L : List (Option Value)) (i : Nat) (v : Value) : (am_put2 L i v).length = L.length := by unfold am_put2; rw [List.length_set, List.length_set, am_cut_len]
def am_en (G : am_G) (L : List (Option Value)) : List (Nat × Value) := (List.range L.length).filterMap fun i => match L[i]? with
  | some (some v) => some (i, am_rv G v)
  | _ => none
theorem am_en_mem {G : am_G} {L : List (Option Value)} {q : Nat × Value} : q ∈ am_en G L ↔ ∃ v, L[q.1]? = some (some v) ∧ q.2 = am_rv G v := by
  unfold am_en
  rw [List.mem_filterMap]
  constructor
  · rintro ⟨i, hi, h⟩
    split at h
    · next v hv =>
      cases h
      exact ⟨v, hv, rfl⟩
    · cases h
  · rintro ⟨v, hv, he⟩
    refine ⟨q.1, List.mem_range.mpr (List.getElem?_eq_some_iff.mp hv).1, ?_⟩
    rw [hv]
    show some (q.1, am_rv G v) = some q
    rw [← he]
theorem am_L.to {G : am_G} {ls : Array Slot} {L : List (Option Value)} (h : am_L G ls L) : lv_has ls L.length (am_en G L) := ⟨h.1, h.2.1, fun q hq => by
  obtain ⟨v, hv, he⟩ := am_en_mem.mp hq
  rw [he]
  exact h.2.2 _ _ hv⟩
theorem am_L.of1 {G : am_G} {ls : Array Slot} {L : List (Option Value)} {i : Nat} {v : Value} (h : lv_has ls L.length ((i, am_rv G v) :: (am_en G L).filter (fun q => !(q.1 == i) && !(q.1 + 1 == i && q.2.category == 2)))) : am_L G ls (am_put1 L i v) := by
  refine ⟨by rw [am_put1_len]; exact h.1, h.2.1, fun j w hj => ?_⟩
  by_cases e : i = j
  · subst e
    unfold am_put1 at hj
    have hl : i < (am_cut L i).length := by have := (List.getElem?_eq_some_iff.mp hj).1; simpa using this
    rw [List.getElem?_set_self hl] at hj
    cases hj
    exact h.2.2 (i, am_rv G v) List.mem_cons_self
  · unfold am_put1 at hj
    rw [List.getElem?_set_ne e] at hj
    obtain ⟨h1, h2⟩ := am_cut_get hj
    refine h.2.2 (j, am_rv G w) (List.mem_cons_of_mem _ (List.mem_filter.mpr ⟨am_en_mem.mpr ⟨w, h1, rfl⟩, ?_⟩))
    have e1 : (j == i) = false := by rw [beq_eq_false_iff_ne]; exact fun z => e z.symm
    by_cases e2 : j + 1 = i
    · have e3 : ((am_rv G w).category == 2) = false := by rw [beq_eq_false_iff_ne, am_rv_cat]; exact fun z => h2 ⟨e2, z⟩
      simp [e1, e3]
    · have e3 : (j + 1 == i) = false := by rw [beq_eq_false_iff_ne]; exact e2
      simp [e1, e3]
theorem am_L.of2 {G : am_G} {ls : Array Slot} {L : List (Option Value)} {i : Nat} {v : Value} (h : lv_has ls L.length ((i, am_rv G v) :: (am_en G L).filter (fun q => !(q.1 == i) && (!(q.1 == i + 1) && !(q.1 + 1 == i && q.2.category == 2))))) : am_L G ls (am_put2 L i v) := by
  refine ⟨by rw [am_put2_len]; exact h.1, h.2.1, fun j w hj => ?_⟩
  unfold am_put2 at hj
  by_cases e0 : i + 1 = j
  · subst e0
    have hl : i + 1 < ((am_cut L i).set i (some v)).length := by have := (List.getElem?_eq_some_iff.mp hj).1; simpa using this
    rw [List.getElem?_set_self hl] at hj
    cases hj
  · rw [List.getElem?_set_ne e0] at hj
    by_cases e : i = j
    · subst e
      have hl : i < (am_cut L i).length := by have := (List.getElem?_eq_some_iff.mp hj).1; simpa using this
      rw [List.getElem?_set_self hl] at hj
      cases hj
      exact h.2.2 (i, am_rv G v) List.mem_cons_self
    · rw [List.getElem?_set_ne e] at hj
      obtain ⟨h1, h2⟩ := am_cut_get hj
      refine h.2.2 (j, am_rv G w) (List.mem_cons_of_mem _ (List.mem_filter.mpr ⟨am_en_mem.mpr ⟨w, h1, rfl⟩, ?_⟩))
      have e1 : (j == i) = false := by rw [beq_eq_false_iff_ne]; exact fun z => e z.symm
      have e4 : (j == i + 1) = false := by rw [beq_eq_false_iff_ne]; exact fun z => e0 z.symm
      by_cases e2 : j + 1 = i
      · have e3 : ((am_rv G w).category == 2) = false := by rw [beq_eq_false_iff_ne, am_rv_cat]; exact fun z => h2 ⟨e2, z⟩
        simp [e1, e3, e4]
      · have e3 : (j + 1 == i) = false := by rw [beq_eq_false_iff_ne]; exact e2
        simp [e1, e3, e4]
/-- less is known of the locals -/
theorem am_L.sub {G : am_G} {ls : Array Slot} {L L' : List (Option Value)} (h : am_L G ls L) (hl : L'.length = L.length) (hs : ∀ (i : Nat) (v : Value), L'[i]? = some (some v) → L[i]? = some (some v)) : am_L G ls L' := ⟨by rw [hl]; exact h.1, h.2.1, fun i v hi => h.2.2 i v (hs i v hi)⟩
/-- the locals at a method's entry -/
def am_lay (vs : List Value) : List (Option Value) := vs.flatMap fun v => if v.category = 2 then [some v, none] else [some v]
def am_ent (vs : List Value) (n : Nat) : List (Option Value) := am_lay vs ++ List.replicate (n - (am_lay vs).length) none
theorem am_lay_len (G : am_G) (vs : List Value) : (lg_sl (vs.map (am_rv G))).length = (am_lay vs).length := by
  induction vs with
  | nil => rfl
  | cons v t ih =>
    have e1 : lg_sl ((v :: t).map (am_rv G)) = (if (am_rv G v).category = 2 then [Slot.val (am_rv G v), .second] else [.val (am_rv G v)]) ++ lg_sl (t.map (am_rv G)) := rfl
    have e2 : am_lay (v :: t) = (if v.category = 2 then [some v, none] else [some v]) ++ am_lay t := rfl
    rw [e1, e2, List.length_append, List.length_append, ih, am_rv_cat]
    split <;> rfl
theorem am_lay_mem (G : am_G) (vs : List Value) : ∀ (k i : Nat) (v : Value), (am_lay vs)[i]? = some (some v) → (k + i, am_rv G v) ∈ lv_args k (vs.map (am_rv G)) := by
  induction vs with
  | nil => intro k i v h; cases h
  | cons w t ih =>
    intro k i v h
    have e2 : am_lay (w :: t) = (if w.category = 2 then [some w, none] else [some w]) ++ am_lay t := rfl
    have e1 : lv_args k ((w :: t).map (am_rv G)) = (k, am_rv G w) :: lv_args (if (am_rv G w).category = 2 then k + 2 else k + 1) (t.map (am_rv G)) := rfl
    rw [e2] at h
    rw [e1, am_rv_cat]
    by_cases hc : w.category = 2
    · rw [if_pos hc] at h ⊢
      match i, h with
      | 0, h => cases h; exact List.mem_cons_self
      | 1, h => cases h
      | i + 2, h =>
        have h9 : (am_lay t)[i]? = some (some v) := h
        have := ih (k + 2) i v h9
        rw [show k + 2 + i = k + (i + 2) by omega] at this
        exact List.mem_cons_of_mem _ this
    · rw [if_neg hc] at h ⊢
      match i, h with
      | 0, h => cases h; exact List.mem_cons_self
      | i + 1, h =>
        have h9 : (am_lay t)[i]? = some (some v) := h
        have := ih (k + 1) i v h9
        rw [show k + 1 + i = k + (i + 1) by omega] at this
        exact List.mem_cons_of_mem _ this
theorem am_L.entry {G : am_G} {vs : List Value} {n : Nat} (hn : (am_lay vs).length ≤ n) : am_L G ((lg_sl (vs.map (am_rv G)) ++ List.replicate (n - (lg_sl (vs.map (am_rv G))).length) Slot.unset).toArray) (am_ent vs n) := by
  have h := lv_entry (vs.map (am_rv G)) (n := n) (by rw [am_lay_len]; exact hn)
  refine ⟨?_, h.2.1, fun i v hi => ?_⟩
  · rw [h.1]
    unfold am_ent
    rw [List.length_append, List.length_replicate]
    omega
  · unfold am_ent at hi
    by_cases hl : i < (am_lay vs).length
    · rw [List.getElem?_append_left hl] at hi
      have := am_lay_mem G vs 0 i v hi
      rw [Nat.zero_add] at this
      exact h.2.2 (i, am_rv G v) this
    · rw [List.getElem?_append_right (by omega), List.getElem?_replicate] at hi
      split at hi <;> cases hi
end
section
/-! THE R-LOGIC: W over the abstract heap. -/
def lw_gw : List Cond := lw_tbl.filter goodWord
theorem am_w (i : Nat) {w : Cond} (h : lw_tbl[i]? = some w) (hg : goodWord w = true) : w ∈ lw_gw := List.mem_filter.mpr ⟨List.mem_of_getElem? h, hg⟩
/-- words that the tables alone decide, kept by warming, though not good ones -/
def am_ngw : Cond → Bool
  | .fieldLinkNest .. => true
  | .methodLinkNest .. => true
  | .arrayOver (.object _) => true
  | .arrayOver (.array _) => true
  | .not (.castable _ _) => true
  | w => w.faceAtom && w.onTables
def lw_ng : List Cond := lw_tbl.filter am_ngw
theorem am_ng (i : Nat) {w : Cond} (h : lw_tbl[i]? = some w) (hg : am_ngw w = true) : w ∈ lw_ng := List.mem_filter.mpr ⟨List.mem_of_getElem? h, hg⟩
theorem am_over_alike {t : FieldType} {a a' : Array Value} {U U' : State} (hal : U.vm.Alike U'.vm) (h : (Cond.arrayOver (.array t)).before a U = true) : (Cond.arrayOver (.array t)).before a' U' = true := by
  simp only [Cond.before, Cond.holds, Cond.value] at h ⊢
  rw [hal.findClass]
  cases hf : U.vm.findClass (FieldType.array t).toString with
  | none => rw [hf] at h; simp at h
  | some comp =>
    rw [hf] at h
    simp only [Option.bind_some] at h ⊢
    rw [hal.findIdx_congr _ (fun _ _ _ _ => rfl)]
    generalize hF : (U.vm.classes.findIdx? fun (x : Class) => match x.kind with | .array component _ => component == comp | _ => false) = fi at h ⊢
    cases fi with
    | none => simp at h
    | some c =>
      simp only [Option.bind_some] at h ⊢
      cases hk : U.vm.classes[c]? with
      | none => rw [hk] at h; simp at h
      | some k =>
        obtain ⟨k', hk', ek⟩ := hal.2.2 _ _ hk
        rw [hk] at h
        rw [hk', hal.findClass]
        have ekind : k'.kind = k.kind := by rw [ek]
        simp only [Option.map_some] at h ⊢
        rw [ekind]
        exact h
theorem am_nc_of {C T : String} {U : State} {args : Array Value} (h : va_Nc C T U) : (Cond.not (.castable C T)).before args U = true := by
  obtain ⟨c, t, h1, h2, h3⟩ := h
  simp [Cond.before, Cond.holds, Cond.value, h1, h2, h3]
theorem am_ng_warm {s U : State} (hW : s.WarmedH U.vm) {w : Cond} (hg : am_ngw w = true) (h : va_Nw w s) : va_Nw w U := by
  cases w with
  | fieldLinkNest a i b n d h1 => exact va_Nw.warmF hW h
  | methodLinkNest a i x h1 => exact va_Nw.warmM hW h
  | arrayOver t =>
    cases t with
    | object n => exact Cond.arrayOver_alike hW.alike h
    | array t => exact am_over_alike hW.alike h
    | _ => exfalso; simp [am_ngw, Cond.faceAtom] at hg
  | not v =>
    cases v with
    | castable a b => exact am_nc_of ((va_Nc.of h).moved hW.alike)
    | _ => exfalso; simp [am_ngw, Cond.faceAtom] at hg
  | _ =>
    first
      | (exfalso; simp [am_ngw, Cond.faceAtom] at hg; done)
      | (simp only [am_ngw, Bool.and_eq_true] at hg
         exact va_tabs hg.2 (rfl : (s.setVm U.vm).vm = U.vm) (Cond.faceAtom_setVm hW.alike _ hg.1 h))
def am_A (G : am_G) : Nat → Prop := fun q => G.2.2.2.1 ≤ q
/-- statics of the start: class, name, descriptor, value -/
def am_Z : List (String × String × String × Value) := [("java/lang/String", "COMPACT_STRINGS", "Z", .int 1), ("java/lang/Integer$IntegerCache", "high", "I", .int 127), ("java/lang/Integer$IntegerCache", "cache", "[Ljava/lang/Integer;", .ref 1), ("java/lang/Integer", "DigitTens", "[B", .ref 2), ("java/lang/Integer", "DigitOnes", "[B", .ref 3), ("java/util/ArrayList", "DEFAULTCAPACITY_EMPTY_ELEMENTDATA", "[Ljava/lang/Object;", .ref 4)]
/-- text constants: class, entry, text, reference -/
def am_T : List (String × Nat × String × Nat) := [("Clockhouse", 323, "none", 10), ("Clockhouse", 409, "a slot is 0 to 5", 11), ("Clockhouse", 276, "what is 0 to 3", 12), ("Clockhouse", 416, "a place is 0 or above", 13), ("Clockhouse", 77, "the dial is -9 to 400", 14), ("Clockhouse", 99, "what comes behind is 0 to 999999999", 15), ("Clockhouse", 429, "a number has at most 36 digits", 16), ("Clockhouse", 418, "a rest is -9999 to 9999", 17), ("Clockhouse", 420, "its dial is 1 to 999", 18), ("Clockhouse", 422, "there are 6 congruences", 19), ("Clockhouse", 424, "no congruence is at that place", 20), ("Clockhouse", 162, "a base is 2 to 999", 21), ("Clockhouse", 170, "there are 5, or a base has a common divisor with it", 22), ("Clockhouse", 179, "there is no base", 23), ("Clockhouse", 187, "there is nothing to undo", 24), ("Clockhouse", 205, "jammed", 25), ("Clockhouse", 214, "missed", 26), ("Clockhouse", 299, "what is 0 or 1", 27), ("ClockhouseModel", 200, "", 28), ("ClockhouseModel", 209, "jammed", 29), ("ClockhouseModel", 213, "missed", 30), ("ClockhouseModel", 296, "none", 31), ("ClockhouseModel", 323, ",", 32)]
def am_kon (G : am_G) (U : State) : Prop :=
  am_K G U ∧ am_kt G U.heap ∧ (G.2.2.2.1 ≤ U.heap.size ∧ am_ext G U) ∧ (∀ z ∈ am_Z, va_Z z.1 z.2.1 z.2.2.1 (am_rv G z.2.2.2) (am_A G) U U.heap) ∧ (∀ z ∈ am_T, vk_R z.1 z.2.1 z.2.2.1 (am_ad G z.2.2.2) U) ∧
  (va_Mi "[Ljava/lang/Object;" (am_ad G 5) U ∧ vx_Zq Bundle.tN "UNASSIGNED_STACK" Bundle.steD (am_A G) U U.heap) ∧ vx_Zq Bundle.tN "SUPPRESSED_SENTINEL" Bundle.listD (am_A G) U U.heap ∧ ∀ w ∈ lw_ng, va_Nw w U
abbrev am_O : Type := Option Value ⊕ String
def am_P (G : am_G) (a : List Value) (h : List am_C) : Array Value → State → Prop := fun v U => v = (a.map (am_rv G)).toArray ∧ am_H G h U.heap ∧ am_kon G U
def am_Q (G : am_G) (Post : am_O → List am_C → Prop) : Array Value → State → Outcome → State → Prop := fun _ st o t => ∃ (r : Option Value) (h' : List am_C), o = .returned (r.map (am_rv G)) ∧ Post (.inl r) h' ∧ am_H G h' t.heap ∧ va_F (am_A G) st t
def am_X (G : am_G) (Post : am_O → List am_C → Prop) : String → State → State → Prop := fun E st t => ∃ h' : List am_C, Post (.inr E) h' ∧ am_H G h' t.heap ∧ va_F (am_A G) st t
/-- a method's contract at arguments a and heap h -/
def am_M (l : Launch) (G : am_G) (y : MethodName) (cw : Cond) (fr lo mc ms : Nat) (a : List Value) (h : List am_C) (Post : am_O → List am_C → Prop) : Prop :=
  vx_Met l y (cw :: lw_gw) { frames := fr, cells := mc, slots := ms, locals := lo } (am_P G a h) (am_Q G Post) (am_X G Post) mc ms (am_A G)
/-- what stays while a method runs -/
def am_Cx (l : Launch) (G : am_G) (p : Program) (s : State) (m : MethodId) (args : Array Value) (meth : Method) (c : Code) (own : String) (cc : ByteArray) (nL : Nat) (ret : Option FieldType) : Prop :=
  p.tables.exec = Jvm.exec ∧ c.code = cc ∧ c.maxLocals = nL ∧ s.vm.findClass own = some m.cls ∧ (∀ w ∈ lw_gw, w.before args s = true) ∧ am_kon G s ∧ meth.locks = false ∧ l.stackTraces = false ∧ meth.sig.returnType = ret
def am_R (G : am_G) (p : Program) (l : Launch) (e : Env) (R : Room) (s : State) (m : MethodId) (args : Array Value) (below : List Frame) (meth : Method) (c : Code) (mc ms : Nat) (Post : am_O → List am_C → Prop)
    (pc : Nat) (L : List (Option Value)) (st : List Value) (h : List am_C) (k n : Nat) : Prop :=
  ∀ (ls : Array Slot) (H : Heap) (locs : List Loc), am_L G ls L → am_H G h H → va_S (am_A G) s.heap H locs →
    W p l e R s m args below meth c H locs k n (vx_MQ below (am_Q G Post) (am_X G Post) args s mc ms (am_A G)) (F0 m pc ls (st.map (am_rv G)))
section AMR
variable {G : am_G} {p : Program} {l : Launch} {e : Env} {R : Room} {s : State} {m : MethodId} {args : Array Value} {below : List Frame} {meth : Method} {c : Code} {mc ms : Nat} {Post : am_O → List am_C → Prop}
variable {own : String} {cc : ByteArray} {nL pc : Nat} {ret : Option FieldType} {L : List (Option Value)} {st : List Value} {h : List am_C} {k n : Nat}
theorem am_kt_S {H : Heap} {locs : List Loc} (hk : am_kon G s) (hS : va_S (am_A G) s.heap H locs) : am_kt G H := hk.2.1.kept (fun q hq => hS.2.1 q (Nat.lt_of_lt_of_le hq hk.2.2.1.1) (fun z => by unfold am_A at z; omega))
-- constants
theorem am_R.iconst (X : am_Cx l G p s m args meth c own cc nL ret) {i : Int} {v : Int32} (d : decode cc pc = .ok (.iconst i, 1)) (hv : Int32.ofInt i = v) (kk : am_R G p l e R s m args below meth c mc ms Post (pc + 1) L (.int v :: st) h k n) : am_R G p l e R s m args below meth c mc ms Post pc L st h k n :=
  fun ls H locs hL hH hS => lv_iconst X.1 X.2.1 d hv (kk ls H locs hL hH hS)
theorem am_R.bipush (X : am_Cx l G p s m args meth c own cc nL ret) {i : Int} {v : Int32} (d : decode cc pc = .ok (.bipush i, 2)) (hv : (Int8.ofInt i).toInt32 = v) (kk : am_R G p l e R s m args below meth c mc ms Post (pc + 2) L (.int v :: st) h k n) : am_R G p l e R s m args below meth c mc ms Post pc L st h k n :=
  fun ls H locs hL hH hS => lv_bipush X.1 X.2.1 d hv (kk ls H locs hL hH hS)
theorem am_R.sipush (X : am_Cx l G p s m args meth c own cc nL ret) {i : Int} {v : Int32} (d : decode cc pc = .ok (.sipush i, 3)) (hv : (Int16.ofInt i).toInt32 = v) (kk : am_R G p l e R s m args below meth c mc ms Post (pc + 3) L (.int v :: st) h k n) : am_R G p l e R s m args below meth c mc ms Post pc L st h k n :=
  fun ls H locs hL hH hS => lv_sipush X.1 X.2.1 d hv (kk ls H locs hL hH hS)
theorem am_R.lconst (X : am_Cx l G p s m args meth c own cc nL ret) {i : Fin 2} {v : Int64} (d : decode cc pc = .ok (.lconst i, 1)) (hv : Int64.ofNat (i : Nat) = v) (kk : am_R G p l e R s m args below meth c mc ms Post (pc + 1) L (.long v :: st) h k n) : am_R G p l e R s m args below meth c mc ms Post pc L st h k n :=
  fun ls H locs hL hH hS => lv_lconst X.1 X.2.1 d hv (kk ls H locs hL hH hS)
theorem am_R.ldc (X : am_Cx l G p s m args meth c own cc nL ret) {i : Nat} {v : Int32} (hw : Cond.constant own i v ∈ lw_gw) (d : decode cc pc = .ok (.ldc i, 2)) (kk : am_R G p l e R s m args below meth c mc ms Post (pc + 2) L (.int v :: st) h k n) : am_R G p l e R s m args below meth c mc ms Post pc L st h k n :=
  fun ls H locs hL hH hS => W.ldc X.1 X.2.1 X.2.2.2.1 (X.2.2.2.2.1 _ hw) rfl d (kk ls H locs hL hH hS)
theorem am_R.ldc_w (X : am_Cx l G p s m args meth c own cc nL ret) {i : Nat} {v : Int32} (hw : Cond.constant own i v ∈ lw_gw) (d : decode cc pc = .ok (.ldc_w i, 3)) (kk : am_R G p l e R s m args below meth c mc ms Post (pc + 3) L (.int v :: st) h k n) : am_R G p l e R s m args below meth c mc ms Post pc L st h k n :=
  fun ls H locs hL hH hS => lv_ldcw X.1 X.2.1 X.2.2.2.1 (X.2.2.2.2.1 _ hw) d (kk ls H locs hL hH hS)
theorem am_R.ldc2 (X : am_Cx l G p s m args meth c own cc nL ret) {i : Nat} {v : Int64} (hw : Cond.constantLong own i v ∈ lw_gw) (d : decode cc pc = .ok (.ldc2_w i, 3)) (kk : am_R G p l e R s m args below meth c mc ms Post (pc + 3) L (.long v :: st) h k n) : am_R G p l e R s m args below meth c mc ms Post pc L st h k n :=
  fun ls H locs hL hH hS => W.ldc2 X.1 X.2.1 X.2.2.2.1 (X.2.2.2.2.1 _ hw) rfl d (kk ls H locs hL hH hS)
theorem am_R.null (X : am_Cx l G p s m args meth c own cc nL ret) (d : decode cc pc = .ok (.aconst_null, 1)) (kk : am_R G p l e R s m args below meth c mc ms Post (pc + 1) L (.null :: st) h k n) : am_R G p l e R s m args below meth c mc ms Post pc L st h k n :=
  fun ls H locs hL hH hS => lv_null X.1 X.2.1 d (kk ls H locs hL hH hS)
-- locals
theorem am_R.iload_n (X : am_Cx l G p s m args meth c own cc nL ret) {i : Fin 4} {x : Int32} (d : decode cc pc = .ok (.iload_n i, 1)) (hl : L[(i : Nat)]? = some (some (.int x))) (kk : am_R G p l e R s m args below meth c mc ms Post (pc + 1) L (.int x :: st) h k n) : am_R G p l e R s m args below meth c mc ms Post pc L st h k n :=
  fun ls H locs hL hH hS => lv_iload_n X.1 X.2.1 d rfl (hL.at hl) (kk ls H locs hL hH hS)
theorem am_R.iload (X : am_Cx l G p s m args meth c own cc nL ret) {i : Nat} {x : Int32} (d : decode cc pc = .ok (.iload i, 2)) (hl : L[i]? = some (some (.int x))) (kk : am_R G p l e R s m args below meth c mc ms Post (pc + 2) L (.int x :: st) h k n) : am_R G p l e R s m args below meth c mc ms Post pc L st h k n :=
  fun ls H locs hL hH hS => lv_iload X.1 X.2.1 d (hL.at hl) (kk ls H locs hL hH hS)
theorem am_R.lload_n (X : am_Cx l G p s m args meth c own cc nL ret) {i : Fin 4} {x : Int64} (d : decode cc pc = .ok (.lload_n i, 1)) (hl : L[(i : Nat)]? = some (some (.long x))) (kk : am_R G p l e R s m args below meth c mc ms Post (pc + 1) L (.long x :: st) h k n) : am_R G p l e R s m args below meth c mc ms Post pc L st h k n :=
  fun ls H locs hL hH hS => lv_lload_n X.1 X.2.1 d rfl (hL.at hl) (kk ls H locs hL hH hS)
theorem am_R.lload (X : am_Cx l G p s m args meth c own cc nL ret) {i : Nat} {x : Int64} (d : decode cc pc = .ok (.lload i, 2)) (hl : L[i]? = some (some (.long x))) (kk : am_R G p l e R s m args below meth c mc ms Post (pc + 2) L (.long x :: st) h k n) : am_R G p l e R s m args below meth c mc ms Post pc L st h k n :=
  fun ls H locs hL hH hS => lv_lload X.1 X.2.1 d (hL.at hl) (kk ls H locs hL hH hS)
theorem am_R.aload_n (X : am_Cx l G p s m args meth c own cc nL ret) {i : Fin 4} {x : Nat} (d : decode cc pc = .ok (.aload_n i, 1)) (hl : L[(i : Nat)]? = some (some (.ref x))) (kk : am_R G p l e R s m args below meth c mc ms Post (pc + 1) L (.ref x :: st) h k n) : am_R G p l e R s m args below meth c mc ms Post pc L st h k n :=
  fun ls H locs hL hH hS => lv_aload_n X.1 X.2.1 d rfl (hL.at hl) (kk ls H locs hL hH hS)
theorem am_R.aload (X : am_Cx l G p s m args meth c own cc nL ret) {i : Nat} {x : Nat} (d : decode cc pc = .ok (.aload i, 2)) (hl : L[i]? = some (some (.ref x))) (kk : am_R G p l e R s m args below meth c mc ms Post (pc + 2) L (.ref x :: st) h k n) : am_R G p l e R s m args below meth c mc ms Post pc L st h k n :=
  fun ls H locs hL hH hS => lv_aload X.1 X.2.1 d (hL.at hl) (kk ls H locs hL hH hS)
theorem am_R.istore_n (X : am_Cx l G p s m args meth c own cc nL ret) {i : Fin 4} {x : Int32} (d : decode cc pc = .ok (.istore_n i, 1)) (hi : (i : Nat) < L.length) (kk : am_R G p l e R s m args below meth c mc ms Post (pc + 1) (am_put1 L i (.int x)) st h k n) : am_R G p l e R s m args below meth c mc ms Post pc L (.int x :: st) h k n :=
  fun ls H locs hL hH hS => lv_istore_n X.1 X.2.1 d rfl hL.to hi rfl (fun ls' h' => kk ls' H locs (am_L.of1 (v := .int x) h') hH hS)
theorem am_R.istore (X : am_Cx l G p s m args meth c own cc nL ret) {i : Nat} {x : Int32} (d : decode cc pc = .ok (.istore i, 2)) (hi : i < L.length) (kk : am_R G p l e R s m args below meth c mc ms Post (pc + 2) (am_put1 L i (.int x)) st h k n) : am_R G p l e R s m args below meth c mc ms Post pc L (.int x :: st) h k n :=
  fun ls H locs hL hH hS => lv_istore X.1 X.2.1 d hL.to hi rfl (fun ls' h' => kk ls' H locs (am_L.of1 (v := .int x) h') hH hS)
theorem am_R.astore_n (X : am_Cx l G p s m args meth c own cc nL ret) {i : Fin 4} {x : Nat} (d : decode cc pc = .ok (.astore_n i, 1)) (hi : (i : Nat) < L.length) (kk : am_R G p l e R s m args below meth c mc ms Post (pc + 1) (am_put1 L i (.ref x)) st h k n) : am_R G p l e R s m args below meth c mc ms Post pc L (.ref x :: st) h k n :=
  fun ls H locs hL hH hS => lv_astore_n X.1 X.2.1 d rfl hL.to hi rfl (fun ls' h' => kk ls' H locs (am_L.of1 (v := .ref x) h') hH hS)
theorem am_R.astore (X : am_Cx l G p s m args meth c own cc nL ret) {i : Nat} {x : Nat} (d : decode cc pc = .ok (.astore i, 2)) (hi : i < L.length) (kk : am_R G p l e R s m args below meth c mc ms Post (pc + 2) (am_put1 L i (.ref x)) st h k n) : am_R G p l e R s m args below meth c mc ms Post pc L (.ref x :: st) h k n :=
  fun ls H locs hL hH hS => lv_astore X.1 X.2.1 d hL.to hi rfl (fun ls' h' => kk ls' H locs (am_L.of1 (v := .ref x) h') hH hS)
theorem am_R.lstore_n (X : am_Cx l G p s m args meth c own cc nL ret) {i : Fin 4} {x : Int64} (d : decode cc pc = .ok (.lstore_n i, 1)) (hi : (i : Nat) + 1 < L.length) (kk : am_R G p l e R s m args below meth c mc ms Post (pc + 1) (am_put2 L i (.long x)) st h k n) : am_R G p l e R s m args below meth c mc ms Post pc L (.long x :: st) h k n :=
  fun ls H locs hL hH hS => lv_lstore_n X.1 X.2.1 d rfl hL.to hi rfl (fun ls' h' => kk ls' H locs (am_L.of2 (v := .long x) h') hH hS)
theorem am_R.lstore (X : am_Cx l G p s m args meth c own cc nL ret) {i : Nat} {x : Int64} (d : decode cc pc = .ok (.lstore i, 2)) (hi : i + 1 < L.length) (kk : am_R G p l e R s m args below meth c mc ms Post (pc + 2) (am_put2 L i (.long x)) st h k n) : am_R G p l e R s m args below meth c mc ms Post pc L (.long x :: st) h k n :=
  fun ls H locs hL hH hS => lv_lstore X.1 X.2.1 d hL.to hi rfl (fun ls' h' => kk ls' H locs (am_L.of2 (v := .long x) h') hH hS)
theorem am_R.iinc (X : am_Cx l G p s m args meth c own cc nL ret) {i : Nat} {j : Int} {x : Int32} (d : decode cc pc = .ok (.iinc i j, 3)) (hl : L[i]? = some (some (.int x))) (kk : am_R G p l e R s m args below meth c mc ms Post (pc + 3) (am_put1 L i (.int (x + Int32.ofInt j))) st h k n) : am_R G p l e R s m args below meth c mc ms Post pc L st h k n := by
  intro ls H locs hL hH hS
  obtain ⟨q, hq⟩ := List.getElem?_of_mem (am_en_mem (G := G) (q := (i, .int x)).mpr ⟨_, hl, rfl⟩)
  exact lv_iinc X.1 X.2.1 d hL.to hq rfl (List.getElem?_eq_some_iff.mp hl).1 rfl (fun ls' h' => kk ls' H locs (am_L.of1 (v := .int (x + Int32.ofInt j)) h') hH hS)
end AMR
end
section
section AMR2
variable {G : am_G} {p : Program} {l : Launch} {e : Env} {R : Room} {s : State} {m : MethodId} {args : Array Value} {below : List Frame} {meth : Method} {c : Code} {mc ms : Nat} {Post : am_O → List am_C → Prop}
variable {own : String} {cc : ByteArray} {nL pc : Nat} {ret : Option FieldType} {L : List (Option Value)} {st : List Value} {h : List am_C} {k n : Nat}
theorem am_R.iadd (X : am_Cx l G p s m args meth c own cc nL ret) {x y : Int32} (d : decode cc pc = .ok (.iadd, 1)) (kk : am_R G p l e R s m args below meth c mc ms Post (pc + 1) L (.int (x + y) :: st) h k n) : am_R G p l e R s m args below meth c mc ms Post pc L (.int y :: .int x :: st) h k n :=
  fun ls H locs hL hH hS => lv_iadd X.1 X.2.1 d (kk ls H locs hL hH hS)
theorem am_R.isub (X : am_Cx l G p s m args meth c own cc nL ret) {x y : Int32} (d : decode cc pc = .ok (.isub, 1)) (kk : am_R G p l e R s m args below meth c mc ms Post (pc + 1) L (.int (x - y) :: st) h k n) : am_R G p l e R s m args below meth c mc ms Post pc L (.int y :: .int x :: st) h k n :=
  fun ls H locs hL hH hS => lv_isub X.1 X.2.1 d (kk ls H locs hL hH hS)
theorem am_R.imul (X : am_Cx l G p s m args meth c own cc nL ret) {x y : Int32} (d : decode cc pc = .ok (.imul, 1)) (kk : am_R G p l e R s m args below meth c mc ms Post (pc + 1) L (.int (x * y) :: st) h k n) : am_R G p l e R s m args below meth c mc ms Post pc L (.int y :: .int x :: st) h k n :=
  fun ls H locs hL hH hS => lv_imul X.1 X.2.1 d (kk ls H locs hL hH hS)
theorem am_R.iand (X : am_Cx l G p s m args meth c own cc nL ret) {x y : Int32} (d : decode cc pc = .ok (.iand, 1)) (kk : am_R G p l e R s m args below meth c mc ms Post (pc + 1) L (.int (x &&& y) :: st) h k n) : am_R G p l e R s m args below meth c mc ms Post pc L (.int y :: .int x :: st) h k n :=
  fun ls H locs hL hH hS => lv_iand X.1 X.2.1 d (kk ls H locs hL hH hS)
theorem am_R.ior (X : am_Cx l G p s m args meth c own cc nL ret) {x y : Int32} (d : decode cc pc = .ok (.ior, 1)) (kk : am_R G p l e R s m args below meth c mc ms Post (pc + 1) L (.int (x ||| y) :: st) h k n) : am_R G p l e R s m args below meth c mc ms Post pc L (.int y :: .int x :: st) h k n :=
  fun ls H locs hL hH hS => lv_ior X.1 X.2.1 d (kk ls H locs hL hH hS)
theorem am_R.ixor (X : am_Cx l G p s m args meth c own cc nL ret) {x y : Int32} (d : decode cc pc = .ok (.ixor, 1)) (kk : am_R G p l e R s m args below meth c mc ms Post (pc + 1) L (.int (x ^^^ y) :: st) h k n) : am_R G p l e R s m args below meth c mc ms Post pc L (.int y :: .int x :: st) h k n :=
  fun ls H locs hL hH hS => lv_ixor X.1 X.2.1 d (kk ls H locs hL hH hS)
theorem am_R.ishl (X : am_Cx l G p s m args meth c own cc nL ret) {x y : Int32} (d : decode cc pc = .ok (.ishl, 1)) (kk : am_R G p l e R s m args below meth c mc ms Post (pc + 1) L (.int (x <<< (y &&& 31)) :: st) h k n) : am_R G p l e R s m args below meth c mc ms Post pc L (.int y :: .int x :: st) h k n :=
  fun ls H locs hL hH hS => lv_ishl X.1 X.2.1 d (kk ls H locs hL hH hS)
theorem am_R.ishr (X : am_Cx l G p s m args meth c own cc nL ret) {x y : Int32} (d : decode cc pc = .ok (.ishr, 1)) (kk : am_R G p l e R s m args below meth c mc ms Post (pc + 1) L (.int (x >>> (y &&& 31)) :: st) h k n) : am_R G p l e R s m args below meth c mc ms Post pc L (.int y :: .int x :: st) h k n :=
  fun ls H locs hL hH hS => lv_ishr X.1 X.2.1 d (kk ls H locs hL hH hS)
theorem am_R.idiv (X : am_Cx l G p s m args meth c own cc nL ret) {x y : Int32} (hne : ¬ y = 0) (d : decode cc pc = .ok (.idiv, 1)) (kk : am_R G p l e R s m args below meth c mc ms Post (pc + 1) L (.int (x / y) :: st) h k n) : am_R G p l e R s m args below meth c mc ms Post pc L (.int y :: .int x :: st) h k n :=
  fun ls H locs hL hH hS => lv_idiv X.1 X.2.1 d hne (kk ls H locs hL hH hS)
theorem am_R.irem (X : am_Cx l G p s m args meth c own cc nL ret) {x y : Int32} (hne : ¬ y = 0) (d : decode cc pc = .ok (.irem, 1)) (kk : am_R G p l e R s m args below meth c mc ms Post (pc + 1) L (.int (x - x / y * y) :: st) h k n) : am_R G p l e R s m args below meth c mc ms Post pc L (.int y :: .int x :: st) h k n :=
  fun ls H locs hL hH hS => lv_irem X.1 X.2.1 d hne (kk ls H locs hL hH hS)
theorem am_R.ineg (X : am_Cx l G p s m args meth c own cc nL ret) {x : Int32} (d : decode cc pc = .ok (.ineg, 1)) (kk : am_R G p l e R s m args below meth c mc ms Post (pc + 1) L (.int (-x) :: st) h k n) : am_R G p l e R s m args below meth c mc ms Post pc L (.int x :: st) h k n :=
  fun ls H locs hL hH hS => lv_ineg X.1 X.2.1 d (kk ls H locs hL hH hS)
theorem am_R.ladd (X : am_Cx l G p s m args meth c own cc nL ret) {x y : Int64} (d : decode cc pc = .ok (.ladd, 1)) (kk : am_R G p l e R s m args below meth c mc ms Post (pc + 1) L (.long (x + y) :: st) h k n) : am_R G p l e R s m args below meth c mc ms Post pc L (.long y :: .long x :: st) h k n :=
  fun ls H locs hL hH hS => lv_ladd X.1 X.2.1 d (kk ls H locs hL hH hS)
theorem am_R.lsub (X : am_Cx l G p s m args meth c own cc nL ret) {x y : Int64} (d : decode cc pc = .ok (.lsub, 1)) (kk : am_R G p l e R s m args below meth c mc ms Post (pc + 1) L (.long (x - y) :: st) h k n) : am_R G p l e R s m args below meth c mc ms Post pc L (.long y :: .long x :: st) h k n :=
  fun ls H locs hL hH hS => lv_lsub X.1 X.2.1 d (kk ls H locs hL hH hS)
theorem am_R.lmul (X : am_Cx l G p s m args meth c own cc nL ret) {x y : Int64} (d : decode cc pc = .ok (.lmul, 1)) (kk : am_R G p l e R s m args below meth c mc ms Post (pc + 1) L (.long (x * y) :: st) h k n) : am_R G p l e R s m args below meth c mc ms Post pc L (.long y :: .long x :: st) h k n :=
  fun ls H locs hL hH hS => lv_lmul X.1 X.2.1 d (kk ls H locs hL hH hS)
theorem am_R.lxor (X : am_Cx l G p s m args meth c own cc nL ret) {x y : Int64} (d : decode cc pc = .ok (.lxor, 1)) (kk : am_R G p l e R s m args below meth c mc ms Post (pc + 1) L (.long (x ^^^ y) :: st) h k n) : am_R G p l e R s m args below meth c mc ms Post pc L (.long y :: .long x :: st) h k n :=
  fun ls H locs hL hH hS => lv_lxor X.1 X.2.1 d (kk ls H locs hL hH hS)
theorem am_R.ldiv (X : am_Cx l G p s m args meth c own cc nL ret) {x y : Int64} (hne : ¬ y = 0) (d : decode cc pc = .ok (.ldiv, 1)) (kk : am_R G p l e R s m args below meth c mc ms Post (pc + 1) L (.long (x / y) :: st) h k n) : am_R G p l e R s m args below meth c mc ms Post pc L (.long y :: .long x :: st) h k n :=
  fun ls H locs hL hH hS => lv_ldiv X.1 X.2.1 d hne (kk ls H locs hL hH hS)
theorem am_R.lrem (X : am_Cx l G p s m args meth c own cc nL ret) {x y : Int64} (hne : ¬ y = 0) (d : decode cc pc = .ok (.lrem, 1)) (kk : am_R G p l e R s m args below meth c mc ms Post (pc + 1) L (.long (x - x / y * y) :: st) h k n) : am_R G p l e R s m args below meth c mc ms Post pc L (.long y :: .long x :: st) h k n :=
  fun ls H locs hL hH hS => lv_lrem X.1 X.2.1 d hne (kk ls H locs hL hH hS)
theorem am_R.lneg (X : am_Cx l G p s m args meth c own cc nL ret) {x : Int64} (d : decode cc pc = .ok (.lneg, 1)) (kk : am_R G p l e R s m args below meth c mc ms Post (pc + 1) L (.long (-x) :: st) h k n) : am_R G p l e R s m args below meth c mc ms Post pc L (.long x :: st) h k n :=
  fun ls H locs hL hH hS => lv_lneg X.1 X.2.1 d (kk ls H locs hL hH hS)
theorem am_R.i2l (X : am_Cx l G p s m args meth c own cc nL ret) {x : Int32} (d : decode cc pc = .ok (.i2l, 1)) (kk : am_R G p l e R s m args below meth c mc ms Post (pc + 1) L (.long x.toInt64 :: st) h k n) : am_R G p l e R s m args below meth c mc ms Post pc L (.int x :: st) h k n :=
  fun ls H locs hL hH hS => lv_i2l X.1 X.2.1 d rfl (kk ls H locs hL hH hS)
theorem am_R.l2i (X : am_Cx l G p s m args meth c own cc nL ret) {x : Int64} (d : decode cc pc = .ok (.l2i, 1)) (kk : am_R G p l e R s m args below meth c mc ms Post (pc + 1) L (.int x.toInt32 :: st) h k n) : am_R G p l e R s m args below meth c mc ms Post pc L (.long x :: st) h k n :=
  fun ls H locs hL hH hS => lv_l2i X.1 X.2.1 d rfl (kk ls H locs hL hH hS)
theorem am_R.i2b (X : am_Cx l G p s m args meth c own cc nL ret) {x : Int32} (d : decode cc pc = .ok (.i2b, 1)) (kk : am_R G p l e R s m args below meth c mc ms Post (pc + 1) L (.int x.toInt8.toInt32 :: st) h k n) : am_R G p l e R s m args below meth c mc ms Post pc L (.int x :: st) h k n :=
  fun ls H locs hL hH hS => lv_i2b X.1 X.2.1 d rfl (kk ls H locs hL hH hS)
theorem am_R.i2c (X : am_Cx l G p s m args meth c own cc nL ret) {x : Int32} (d : decode cc pc = .ok (.i2c, 1)) (kk : am_R G p l e R s m args below meth c mc ms Post (pc + 1) L (.int (x.toUInt32 % 65536).toInt32 :: st) h k n) : am_R G p l e R s m args below meth c mc ms Post pc L (.int x :: st) h k n :=
  fun ls H locs hL hH hS => lv_i2c X.1 X.2.1 d rfl (kk ls H locs hL hH hS)
theorem am_R.iushr (X : am_Cx l G p s m args meth c own cc nL ret) {x y : Int32} (d : decode cc pc = .ok (.iushr, 1)) (kk : am_R G p l e R s m args below meth c mc ms Post (pc + 1) L (.int (x.toUInt32 >>> (y.toUInt32 &&& Int32.toUInt32 31)).toInt32 :: st) h k n) : am_R G p l e R s m args below meth c mc ms Post pc L (.int y :: .int x :: st) h k n :=
  fun ls H locs hL hH hS => lv_iushr X.1 X.2.1 d rfl (kk ls H locs hL hH hS)
theorem am_R.lcmp (X : am_Cx l G p s m args meth c own cc nL ret) {x y : Int64} (d : decode cc pc = .ok (.lcmp, 1)) (kk : am_R G p l e R s m args below meth c mc ms Post (pc + 1) L (.int (lg_cmp x y) :: st) h k n) : am_R G p l e R s m args below meth c mc ms Post pc L (.long y :: .long x :: st) h k n :=
  fun ls H locs hL hH hS => W.lcmp X.1 X.2.1 d (kk ls H locs hL hH hS)
theorem am_R.dup (X : am_Cx l G p s m args meth c own cc nL ret) {va : Value} (hva : va.category = 1) (d : decode cc pc = .ok (.dup, 1)) (kk : am_R G p l e R s m args below meth c mc ms Post (pc + 1) L (va :: va :: st) h k n) : am_R G p l e R s m args below meth c mc ms Post pc L (va :: st) h k n :=
  fun ls H locs hL hH hS => lv_dup X.1 X.2.1 d (by rw [am_rv_cat]; exact hva) (kk ls H locs hL hH hS)
theorem am_R.pop (X : am_Cx l G p s m args meth c own cc nL ret) {va : Value} (hva : va.category = 1) (d : decode cc pc = .ok (.pop, 1)) (kk : am_R G p l e R s m args below meth c mc ms Post (pc + 1) L (st) h k n) : am_R G p l e R s m args below meth c mc ms Post pc L (va :: st) h k n :=
  fun ls H locs hL hH hS => lv_pop X.1 X.2.1 d (by rw [am_rv_cat]; exact hva) (kk ls H locs hL hH hS)
theorem am_R.dup_x1 (X : am_Cx l G p s m args meth c own cc nL ret) {va vb : Value} (hva : va.category = 1) (hvb : vb.category = 1) (d : decode cc pc = .ok (.dup_x1, 1)) (kk : am_R G p l e R s m args below meth c mc ms Post (pc + 1) L (va :: vb :: va :: st) h k n) : am_R G p l e R s m args below meth c mc ms Post pc L (va :: vb :: st) h k n :=
  fun ls H locs hL hH hS => lv_dup_x1 X.1 X.2.1 d (by rw [am_rv_cat]; exact hva) (by rw [am_rv_cat]; exact hvb) (kk ls H locs hL hH hS)
theorem am_R.dup2 (X : am_Cx l G p s m args meth c own cc nL ret) {va vb : Value} (hva : va.category = 1) (hvb : vb.category = 1) (d : decode cc pc = .ok (.dup2, 1)) (kk : am_R G p l e R s m args below meth c mc ms Post (pc + 1) L (va :: vb :: va :: vb :: st) h k n) : am_R G p l e R s m args below meth c mc ms Post pc L (va :: vb :: st) h k n :=
  fun ls H locs hL hH hS => lv_dup2_11 X.1 X.2.1 d (by rw [am_rv_cat]; exact hva) (by rw [am_rv_cat]; exact hvb) (kk ls H locs hL hH hS)
theorem am_R.if_eq (X : am_Cx l G p s m args meth c own cc nL ret) {x : Int32} {off : Int} (tgt : Nat) (d : decode cc pc = .ok (.ifCond .eq off, 3)) (ht : (pc : Int) + off = (tgt : Int)) (kt : x = 0 → am_R G p l e R s m args below meth c mc ms Post tgt L st h k n) (kf : ¬ (x = 0) → am_R G p l e R s m args below meth c mc ms Post (pc + 3) L st h k n) : am_R G p l e R s m args below meth c mc ms Post pc L (.int x :: st) h k n :=
  fun ls H locs hL hH hS => lv_if_eq X.1 X.2.1 d ht (fun z => kt z ls H locs hL hH hS) (fun z => kf z ls H locs hL hH hS)
theorem am_R.icmp_eq (X : am_Cx l G p s m args meth c own cc nL ret) {x y : Int32} {off : Int} (tgt : Nat) (d : decode cc pc = .ok (.if_icmp .eq off, 3)) (ht : (pc : Int) + off = (tgt : Int)) (kt : x = y → am_R G p l e R s m args below meth c mc ms Post tgt L st h k n) (kf : ¬ (x = y) → am_R G p l e R s m args below meth c mc ms Post (pc + 3) L st h k n) : am_R G p l e R s m args below meth c mc ms Post pc L (.int y :: .int x :: st) h k n :=
  fun ls H locs hL hH hS => lv_icmp_eq X.1 X.2.1 d ht (fun z => kt z ls H locs hL hH hS) (fun z => kf z ls H locs hL hH hS)
theorem am_R.if_ne (X : am_Cx l G p s m args meth c own cc nL ret) {x : Int32} {off : Int} (tgt : Nat) (d : decode cc pc = .ok (.ifCond .ne off, 3)) (ht : (pc : Int) + off = (tgt : Int)) (kt : x ≠ 0 → am_R G p l e R s m args below meth c mc ms Post tgt L st h k n) (kf : x = 0 → am_R G p l e R s m args below meth c mc ms Post (pc + 3) L st h k n) : am_R G p l e R s m args below meth c mc ms Post pc L (.int x :: st) h k n :=
  fun ls H locs hL hH hS => lv_if_ne X.1 X.2.1 d ht (fun z => kt z ls H locs hL hH hS) (fun z => kf z ls H locs hL hH hS)
theorem am_R.icmp_ne (X : am_Cx l G p s m args meth c own cc nL ret) {x y : Int32} {off : Int} (tgt : Nat) (d : decode cc pc = .ok (.if_icmp .ne off, 3)) (ht : (pc : Int) + off = (tgt : Int)) (kt : x ≠ y → am_R G p l e R s m args below meth c mc ms Post tgt L st h k n) (kf : x = y → am_R G p l e R s m args below meth c mc ms Post (pc + 3) L st h k n) : am_R G p l e R s m args below meth c mc ms Post pc L (.int y :: .int x :: st) h k n :=
  fun ls H locs hL hH hS => lv_icmp_ne X.1 X.2.1 d ht (fun z => kt z ls H locs hL hH hS) (fun z => kf z ls H locs hL hH hS)
theorem am_R.if_lt (X : am_Cx l G p s m args meth c own cc nL ret) {x : Int32} {off : Int} (tgt : Nat) (d : decode cc pc = .ok (.ifCond .lt off, 3)) (ht : (pc : Int) + off = (tgt : Int)) (kt : x < 0 → am_R G p l e R s m args below meth c mc ms Post tgt L st h k n) (kf : ¬ (x < 0) → am_R G p l e R s m args below meth c mc ms Post (pc + 3) L st h k n) : am_R G p l e R s m args below meth c mc ms Post pc L (.int x :: st) h k n :=
  fun ls H locs hL hH hS => lv_if_lt X.1 X.2.1 d ht (fun z => kt z ls H locs hL hH hS) (fun z => kf z ls H locs hL hH hS)
theorem am_R.icmp_lt (X : am_Cx l G p s m args meth c own cc nL ret) {x y : Int32} {off : Int} (tgt : Nat) (d : decode cc pc = .ok (.if_icmp .lt off, 3)) (ht : (pc : Int) + off = (tgt : Int)) (kt : x < y → am_R G p l e R s m args below meth c mc ms Post tgt L st h k n) (kf : ¬ (x < y) → am_R G p l e R s m args below meth c mc ms Post (pc + 3) L st h k n) : am_R G p l e R s m args below meth c mc ms Post pc L (.int y :: .int x :: st) h k n :=
  fun ls H locs hL hH hS => lv_icmp_lt X.1 X.2.1 d ht (fun z => kt z ls H locs hL hH hS) (fun z => kf z ls H locs hL hH hS)
theorem am_R.if_ge (X : am_Cx l G p s m args meth c own cc nL ret) {x : Int32} {off : Int} (tgt : Nat) (d : decode cc pc = .ok (.ifCond .ge off, 3)) (ht : (pc : Int) + off = (tgt : Int)) (kt : 0 ≤ x → am_R G p l e R s m args below meth c mc ms Post tgt L st h k n) (kf : ¬ (0 ≤ x) → am_R G p l e R s m args below meth c mc ms Post (pc + 3) L st h k n) : am_R G p l e R s m args below meth c mc ms Post pc L (.int x :: st) h k n :=
  fun ls H locs hL hH hS => lv_if_ge X.1 X.2.1 d ht (fun z => kt z ls H locs hL hH hS) (fun z => kf z ls H locs hL hH hS)
theorem am_R.icmp_ge (X : am_Cx l G p s m args meth c own cc nL ret) {x y : Int32} {off : Int} (tgt : Nat) (d : decode cc pc = .ok (.if_icmp .ge off, 3)) (ht : (pc : Int) + off = (tgt : Int)) (kt : y ≤ x → am_R G p l e R s m args below meth c mc ms Post tgt L st h k n) (kf : ¬ (y ≤ x) → am_R G p l e R s m args below meth c mc ms Post (pc + 3) L st h k n) : am_R G p l e R s m args below meth c mc ms Post pc L (.int y :: .int x :: st) h k n :=
  fun ls H locs hL hH hS => lv_icmp_ge X.1 X.2.1 d ht (fun z => kt z ls H locs hL hH hS) (fun z => kf z ls H locs hL hH hS)
theorem am_R.if_gt (X : am_Cx l G p s m args meth c own cc nL ret) {x : Int32} {off : Int} (tgt : Nat) (d : decode cc pc = .ok (.ifCond .gt off, 3)) (ht : (pc : Int) + off = (tgt : Int)) (kt : 0 < x → am_R G p l e R s m args below meth c mc ms Post tgt L st h k n) (kf : ¬ (0 < x) → am_R G p l e R s m args below meth c mc ms Post (pc + 3) L st h k n) : am_R G p l e R s m args below meth c mc ms Post pc L (.int x :: st) h k n :=
  fun ls H locs hL hH hS => lv_if_gt X.1 X.2.1 d ht (fun z => kt z ls H locs hL hH hS) (fun z => kf z ls H locs hL hH hS)
theorem am_R.icmp_gt (X : am_Cx l G p s m args meth c own cc nL ret) {x y : Int32} {off : Int} (tgt : Nat) (d : decode cc pc = .ok (.if_icmp .gt off, 3)) (ht : (pc : Int) + off = (tgt : Int)) (kt : y < x → am_R G p l e R s m args below meth c mc ms Post tgt L st h k n) (kf : ¬ (y < x) → am_R G p l e R s m args below meth c mc ms Post (pc + 3) L st h k n) : am_R G p l e R s m args below meth c mc ms Post pc L (.int y :: .int x :: st) h k n :=
  fun ls H locs hL hH hS => lv_icmp_gt X.1 X.2.1 d ht (fun z => kt z ls H locs hL hH hS) (fun z => kf z ls H locs hL hH hS)
theorem am_R.if_le (X : am_Cx l G p s m args meth c own cc nL ret) {x : Int32} {off : Int} (tgt : Nat) (d : decode cc pc = .ok (.ifCond .le off, 3)) (ht : (pc : Int) + off = (tgt : Int)) (kt : x ≤ 0 → am_R G p l e R s m args below meth c mc ms Post tgt L st h k n) (kf : ¬ (x ≤ 0) → am_R G p l e R s m args below meth c mc ms Post (pc + 3) L st h k n) : am_R G p l e R s m args below meth c mc ms Post pc L (.int x :: st) h k n :=
  fun ls H locs hL hH hS => lv_if_le X.1 X.2.1 d ht (fun z => kt z ls H locs hL hH hS) (fun z => kf z ls H locs hL hH hS)
theorem am_R.icmp_le (X : am_Cx l G p s m args meth c own cc nL ret) {x y : Int32} {off : Int} (tgt : Nat) (d : decode cc pc = .ok (.if_icmp .le off, 3)) (ht : (pc : Int) + off = (tgt : Int)) (kt : x ≤ y → am_R G p l e R s m args below meth c mc ms Post tgt L st h k n) (kf : ¬ (x ≤ y) → am_R G p l e R s m args below meth c mc ms Post (pc + 3) L st h k n) : am_R G p l e R s m args below meth c mc ms Post pc L (.int y :: .int x :: st) h k n :=
  fun ls H locs hL hH hS => lv_icmp_le X.1 X.2.1 d ht (fun z => kt z ls H locs hL hH hS) (fun z => kf z ls H locs hL hH hS)
theorem am_R.goto (X : am_Cx l G p s m args meth c own cc nL ret) {off : Int} (tgt : Nat) (d : decode cc pc = .ok (.goto off, 3)) (ht : (pc : Int) + off = (tgt : Int)) (kk : am_R G p l e R s m args below meth c mc ms Post tgt L st h k n) : am_R G p l e R s m args below meth c mc ms Post pc L st h k n :=
  fun ls H locs hL hH hS => lv_goto X.1 X.2.1 d ht (kk ls H locs hL hH hS)
theorem am_R.ifnonnull (X : am_Cx l G p s m args meth c own cc nL ret) {x : Nat} {off : Int} (tgt : Nat) (d : decode cc pc = .ok (.ifnonnull off, 3)) (ht : (pc : Int) + off = (tgt : Int)) (kk : am_R G p l e R s m args below meth c mc ms Post tgt L st h k n) : am_R G p l e R s m args below meth c mc ms Post pc L (.ref x :: st) h k n :=
  fun ls H locs hL hH hS => lv_ifnonnull X.1 X.2.1 d ht (kk ls H locs hL hH hS)
theorem am_R.ifnonnullN (X : am_Cx l G p s m args meth c own cc nL ret) {off : Int} (d : decode cc pc = .ok (.ifnonnull off, 3)) (kk : am_R G p l e R s m args below meth c mc ms Post (pc + 3) L st h k n) : am_R G p l e R s m args below meth c mc ms Post pc L (.null :: st) h k n :=
  fun ls H locs hL hH hS => lv_ifnonnullN X.1 X.2.1 d (kk ls H locs hL hH hS)
theorem am_R.ifnull (X : am_Cx l G p s m args meth c own cc nL ret) {x : Nat} {off : Int} (d : decode cc pc = .ok (.ifnull off, 3)) (kk : am_R G p l e R s m args below meth c mc ms Post (pc + 3) L st h k n) : am_R G p l e R s m args below meth c mc ms Post pc L (.ref x :: st) h k n :=
  fun ls H locs hL hH hS => lv_ifnull X.1 X.2.1 d (kk ls H locs hL hH hS)
theorem am_R.ifnullN (X : am_Cx l G p s m args meth c own cc nL ret) {off : Int} (tgt : Nat) (d : decode cc pc = .ok (.ifnull off, 3)) (ht : (pc : Int) + off = (tgt : Int)) (kk : am_R G p l e R s m args below meth c mc ms Post tgt L st h k n) : am_R G p l e R s m args below meth c mc ms Post pc L (.null :: st) h k n :=
  fun ls H locs hL hH hS => lv_ifnullN X.1 X.2.1 d ht (kk ls H locs hL hH hS)
theorem am_R.aload_nN (X : am_Cx l G p s m args meth c own cc nL ret) {i : Fin 4} (d : decode cc pc = .ok (.aload_n i, 1)) (hl : L[(i : Nat)]? = some (some .null)) (kk : am_R G p l e R s m args below meth c mc ms Post (pc + 1) L (.null :: st) h k n) : am_R G p l e R s m args below meth c mc ms Post pc L st h k n :=
  fun ls H locs hL hH hS => lv_aload_nN X.1 X.2.1 d rfl (hL.at hl) (kk ls H locs hL hH hS)
theorem am_R.aloadN (X : am_Cx l G p s m args meth c own cc nL ret) {i : Nat} (d : decode cc pc = .ok (.aload i, 2)) (hl : L[i]? = some (some .null)) (kk : am_R G p l e R s m args below meth c mc ms Post (pc + 2) L (.null :: st) h k n) : am_R G p l e R s m args below meth c mc ms Post pc L st h k n :=
  fun ls H locs hL hH hS => lv_aloadN X.1 X.2.1 d (hL.at hl) (kk ls H locs hL hH hS)
theorem am_R.astore_nN (X : am_Cx l G p s m args meth c own cc nL ret) {i : Fin 4} (d : decode cc pc = .ok (.astore_n i, 1)) (hi : (i : Nat) < L.length) (kk : am_R G p l e R s m args below meth c mc ms Post (pc + 1) (am_put1 L i .null) st h k n) : am_R G p l e R s m args below meth c mc ms Post pc L (.null :: st) h k n :=
  fun ls H locs hL hH hS => lv_astore_nN X.1 X.2.1 d rfl hL.to hi rfl (fun ls' h' => kk ls' H locs (am_L.of1 (v := .null) h') hH hS)
theorem am_R.astoreN (X : am_Cx l G p s m args meth c own cc nL ret) {i : Nat} (d : decode cc pc = .ok (.astore i, 2)) (hi : i < L.length) (kk : am_R G p l e R s m args below meth c mc ms Post (pc + 2) (am_put1 L i .null) st h k n) : am_R G p l e R s m args below meth c mc ms Post pc L (.null :: st) h k n :=
  fun ls H locs hL hH hS => lv_astoreN X.1 X.2.1 d hL.to hi rfl (fun ls' h' => kk ls' H locs (am_L.of1 (v := .null) h') hH hS)
theorem am_R.tableOut (X : am_Cx l G p s m args meth c own cc nL ret) {dflt lo hi : Int} {offs : Array Int} {len : Nat} {x : Int32} (tgt : Nat) (d : decode cc pc = .ok (.tableswitch dflt lo hi offs, len)) (hx : x.toInt < lo ∨ hi < x.toInt) (ht : (pc : Int) + dflt = (tgt : Int)) (kk : am_R G p l e R s m args below meth c mc ms Post tgt L st h k n) : am_R G p l e R s m args below meth c mc ms Post pc L (.int x :: st) h k n :=
  fun ls H locs hL hH hS => lv_tableOut X.1 X.2.1 d hx ht (kk ls H locs hL hH hS)
theorem am_R.tableIn (X : am_Cx l G p s m args meth c own cc nL ret) {dflt lo hi : Int} {offs : Array Int} {len : Nat} {x : Int32} {off : Int} (tgt : Nat) (d : decode cc pc = .ok (.tableswitch dflt lo hi offs, len)) (h1 : ¬ x.toInt < lo) (h2 : ¬ hi < x.toInt) (ho : offs[(x.toInt - lo).toNat]? = some off) (ht : (pc : Int) + off = (tgt : Int)) (kk : am_R G p l e R s m args below meth c mc ms Post tgt L st h k n) : am_R G p l e R s m args below meth c mc ms Post pc L (.int x :: st) h k n :=
  fun ls H locs hL hH hS => lv_tableIn X.1 X.2.1 d h1 h2 ho ht (kk ls H locs hL hH hS)
theorem am_R.lookup (X : am_Cx l G p s m args meth c own cc nL ret) {dflt : Int} {ps : Array (Int × Int)} {len : Nat} {x : Int32} {off : Int} (tgt : Nat) (d : decode cc pc = .ok (.lookupswitch dflt ps, len)) (hp : (ps.toList.zip (ps.toList.drop 1)).all (fun (a, next) => a.1 < next.1) = true) (ho : Op.lookupswitch.offset ps.toList dflt x.toInt = off) (ht : (pc : Int) + off = (tgt : Int)) (kk : am_R G p l e R s m args below meth c mc ms Post tgt L st h k n) : am_R G p l e R s m args below meth c mc ms Post pc L (.int x :: st) h k n :=
  fun ls H locs hL hH hS => lv_lookup X.1 X.2.1 d hp ho ht (kk ls H locs hL hH hS)
theorem am_R.locals (L' : List (Option Value)) (hl : L'.length = L.length) (hs : ∀ (i : Nat) (v : Value), L'[i]? = some (some v) → L[i]? = some (some v)) (kk : am_R G p l e R s m args below meth c mc ms Post pc L' st h k n) : am_R G p l e R s m args below meth c mc ms Post pc L st h k n :=
  fun ls H locs hL hH hS => kk ls H locs (hL.sub hl hs) hH hS
theorem am_R.widen {k' n' : Nat} (h1 : k ≤ k') (h2 : n ≤ n') (kk : am_R G p l e R s m args below meth c mc ms Post pc L st h k' n') : am_R G p l e R s m args below meth c mc ms Post pc L st h k n :=
  fun ls H locs hL hH hS => W.widen h1 h2 (kk ls H locs hL hH hS)
end AMR2
end
section
section AMH
variable {G : am_G} {p : Program} {l : Launch} {e : Env} {R : Room} {s : State} {m : MethodId} {args : Array Value} {below : List Frame} {meth : Method} {c : Code} {mc ms : Nat} {Post : am_O → List am_C → Prop}
variable {own : String} {cc : ByteArray} {nL pc : Nat} {ret : Option FieldType} {L : List (Option Value)} {st : List Value} {h : List am_C} {k n : Nat}
/-- a field: the class numbered ci, its place j, final or not, its type -/
def am_fd (ci j : Nat) (fin : Bool) (ty : FieldType) : Prop :=
  ∃ (C : String) (T : u_T) (N : Nat) (ty0 : Nat → FieldType), am_cl[ci]? = some (C, T, N) ∧ j < N ∧ (∀ w ∈ u_ws C T N, w ∈ lw_gw) ∧ (∀ k, k < N → parseFieldDescriptor (T k).2.2.1 = some (ty0 k)) ∧ (∀ a, a < N → ∀ b, b < N → a ≠ b → (T a).2.1 ≠ (T b).2.1) ∧ (T j).2.2.2 = fin ∧ parseFieldDescriptor (T j).2.2.1 = some ty
/-- the constant pool's entry i of the class own names that field -/
def am_fl (own : String) (i ci j : Nat) : Prop :=
  ∃ (C : String) (T : u_T) (N : Nat), am_cl[ci]? = some (C, T, N) ∧ (Cond.fieldLink own i (T j).1 (T j).2.1 (T j).2.2.1 ∈ lw_gw ∨ (∃ host : String, Cond.fieldLinkNest own i (T j).1 (T j).2.1 (T j).2.2.1 host ∈ lw_ng) ∨ ∃ ref : String, Cond.fieldLink own i ref (T j).2.1 (T j).2.2.1 ∈ lw_gw ∧ Cond.sameField ref (T j).1 (T j).2.1 (T j).2.2.1 ∈ lw_gw)
/-- an inherited field under its two names -/
theorem am_sameF {A : Array Value} {s : State} {ref owner name desc : String} {r : ClassId × Class × Nat × Field} (w : (Cond.sameField ref owner name desc).before A s = true) (h : s.fieldFound? owner name desc = some r) : s.fieldFound? ref name desc = some r := by
  obtain ⟨a, b, c, d⟩ := r
  cases hr : s.fieldFound? ref name desc with
  | none =>
    simp [Cond.before, Cond.holds, Cond.value, hr] at w
  | some y =>
    obtain ⟨c1, k1, i1, f1⟩ := y
    have := Cond.sameField_spec hr w
    rw [this] at h
    exact h
theorem am_R.getf (X : am_Cx l G p s m args meth c own cc nL ret) {i ci j a t : Nat} {fin : Bool} {ty : FieldType} {vs : List Value} {v : Value} (hf : am_fd ci j fin ty) (hl : am_fl own i ci j) (hg : am_g G h a = some (t, vs)) (ht : t % 100 = ci) (hci : ci < 50) (hv : vs[j]? = some v)
    (d : decode cc pc = .ok (.getfield i, 3)) (kk : am_R G p l e R s m args below meth c mc ms Post (pc + 3) L (v :: st) h k n) : am_R G p l e R s m args below meth c mc ms Post pc L (.ref a :: st) h k n := by
  intro ls H locs hL hH hS
  obtain ⟨C, T, N, ty0, e1, hj, hin, -, -, -, -⟩ := hf
  obtain ⟨C', T', N', e1', hl⟩ := hl
  cases e1.symm.trans e1'
  obtain ⟨cell, q1, q2, q3, q4, -⟩ := am_cell hH (am_kt_S X.2.2.2.2.2.1 hS) hg (by show t % 100 < 62; omega)
  obtain ⟨r, h1, -, h3, h4⟩ := q4 (by show t % 100 < 50; omega)
  have h1' : am_cl[t % 100]? = some r := h1
  rw [ht, e1] at h1'
  cases h1'
  obtain ⟨hK, -⟩ := X.2.2.2.2.2.1.1
  obtain ⟨hSl, hfc, kC, hkC, hkind⟩ := hK ci _ e1
  obtain ⟨cf, kf, fi, f, hi, hsl⟩ := hSl j hj
  have h4' := h4 j v hv
  have ht' : ((t, vs).1 % 100) = ci := ht
  rw [ht'] at h4'
  have hst := (u_facts hfc hkC (u_lays X.2.2.2.2.1 hin hj) hi).1
  rcases hl with hl | ⟨host, hl⟩ | ⟨ref, hl, hsm⟩
  · exact W.getf X.1 X.2.1 X.2.2.2.1 (X.2.2.2.2.1 _ hl) hi hst q1 q2 (v := am_rv G v) (by rw [hsl]; exact h4') rfl rfl d (kk ls H locs hL hH hS)
  rotate_left
  · exact W.getf X.1 X.2.1 X.2.2.2.1 (X.2.2.2.2.1 _ hl) (am_sameF (X.2.2.2.2.1 _ hsm) hi) hst q1 q2 (v := am_rv G v) (by rw [hsl]; exact h4') rfl rfl d (kk ls H locs hL hH hS)
  · exact va_Wgetf X.1 X.2.1 X.2.2.2.1 (va_Nw.use rfl (X.2.2.2.2.2.1.2.2.2.2.2.2.2 _ hl)) hi hst q1 q2 (v := am_rv G v) (by rw [hsl]; exact h4') rfl rfl d (kk ls H locs hL hH hS)
theorem am_ro.set {t j : Nat} {vs : List Value} {v : Value} {cell : Cell} {C : String} {T : u_T} {N ci : Nat} (hq : am_ro G (t, vs) cell) (ht : t % 100 = ci) (hci : ci < 50) (hc : am_cl[ci]? = some (C, T, N)) (hj : j < N) (hap : ∀ x y, x < N → y < N → x ≠ y → G.1.2 ci x ≠ G.1.2 ci y) (hlt : G.1.2 ci j < cell.slots.size) : am_ro G (t, vs.set j v) (cell.setSlot (G.1.2 ci j) (am_rv G v)) := by
  obtain ⟨q2, q3, q4, -⟩ := hq
  refine ⟨q2, q3, fun _ => ?_, fun z => by exfalso; have : 50 ≤ t % 100 := z; omega⟩
  obtain ⟨r, h1, h2, h3, h4⟩ := q4 (by show t % 100 < 50; omega)
  have h1' : am_cl[t % 100]? = some r := h1
  rw [ht, hc] at h1'
  cases h1'
  refine ⟨_, h1, by simpa using h2, h3, fun i w hw => ?_⟩
  have hw' : (vs.set j v)[i]? = some w := hw
  show (cell.setSlot (G.1.2 ci j) (am_rv G v)).slots[G.1.2 (t % 100) i]? = _
  rw [ht]
  by_cases e : j = i
  · subst e
    have hl : j < vs.length := by have := (List.getElem?_eq_some_iff.mp hw').1; simpa using this
    rw [List.getElem?_set_self hl] at hw'
    cases hw'
    exact Cell.slots_setSlot_self _ hlt
  · rw [List.getElem?_set_ne e] at hw'
    have hi : i < N := by
      have h2' : N = vs.length := h2
      rw [h2']
      exact (List.getElem?_eq_some_iff.mp hw').1
    rw [slot_ne _ _ (hap j i hj hi e)]
    have := h4 i w hw'
    have ht' : ((t, vs).1 % 100) = ci := ht
    rw [ht'] at this
    exact this
theorem am_R.putf (X : am_Cx l G p s m args meth c own cc nL ret) {i ci j a t : Nat} {ty : FieldType} {vs : List Value} {v : Value} (hf : am_fd ci j false ty) (hl : am_fl own i ci j) (ha : 1000 ≤ a) (hg : am_g G h a = some (t, vs)) (ht : t % 100 = ci) (hci : ci < 50) (hn : narrow ty (am_rv G v) = am_rv G v) (hfit : fits ty (am_rv G v) = true)
    (d : decode cc pc = .ok (.putfield i, 3)) (kk : am_R G p l e R s m args below meth c mc ms Post (pc + 3) L st (am_s h a (t, vs.set j v)) k n) : am_R G p l e R s m args below meth c mc ms Post pc L (v :: .ref a :: st) h k n := by
  intro ls H locs hL hH hS
  obtain ⟨C, T, N, ty0, e1, hj, hin, hty, hnm, hfin, hd⟩ := hf
  obtain ⟨C', T', N', e1', hl⟩ := hl
  cases e1.symm.trans e1'
  obtain ⟨cell, q1, q2, q3⟩ := am_cellD hH ha hg
  have hap := va_apart (own := own) X.2.2.2.2.1 hin ty0 hty hnm X.2.2.2.2.2.1.1 e1
  obtain ⟨r, h1, h2, h3, h4⟩ := q2.2.2.1 (by show t % 100 < 50; omega)
  have h1' : am_cl[t % 100]? = some r := h1
  rw [ht, e1] at h1'
  cases h1'
  have h3' : cell.cls = G.1.1 ci := by rw [← ht]; exact h3
  obtain ⟨hK, -⟩ := X.2.2.2.2.2.1.1
  obtain ⟨hSl, hfc, kC, hkC, hkind⟩ := hK ci _ e1
  obtain ⟨cf, kf, fi, f, hi, hsl⟩ := hSl j hj
  have hlay := X.2.2.2.2.1 _ (hin _ (u_in_lay hj))
  unfold u_lay at hlay
  rw [if_neg (by rw [hfin]; decide)] at hlay
  have hst := (u_facts hfc hkC (u_lays X.2.2.2.2.1 hin hj) hi).1
  have h6 := u_store hfc hkC hkind hlay hi hd hn hfit
  have hlv : j < vs.length := by have h2' : N = vs.length := h2; omega
  have hlt : G.1.2 ci j < cell.slots.size := by
    have := h4 j _ (List.getElem?_eq_getElem hlv)
    have ht' : ((t, vs).1 % 100) = ci := ht
    rw [ht'] at this
    exact (Array.getElem?_eq_some_iff.mp this).1
  have fin : ∀ H' : Heap, H'[am_ad G a]? = some (cell.setSlot f.slot (am_rv G v)) → H'.size = H.size → (∀ q, q ≠ am_ad G a → H'[q]? = H[q]?) → W p l e R s m args below meth c H' (locs ++ [⟨am_ad G a, f.slot⟩]) k n (vx_MQ below (am_Q G Post) (am_X G Post) args s mc ms (am_A G)) (F0 m (pc + 3) ls (st.map (am_rv G))) := by
    intro H' f1 f2 f3
    rw [hsl] at f1
    exact kk ls H' _ hL (hH.put ha (am_g_lt ha hg) f2 f3 ⟨_, f1, q2.set ht hci e1 hj hap hlt, q3⟩) (hS.put f2 f3 (am_ad_ge ha))
  rcases hl with hl | ⟨host, hl⟩ | ⟨ref, hl, hsm⟩
  rotate_right
  · exact W.putK X.1 X.2.1 (f := f) ⟨X.2.2.2.1, X.2.2.2.2.1 _ hl, ⟨_, _, _, am_sameF (X.2.2.2.2.1 _ hsm) hi⟩, hst⟩ (by rw [h3']; exact h6) q1 q3 (by rw [hsl]; exact hlt) rfl rfl d fin
  · exact W.putK X.1 X.2.1 (f := f) ⟨X.2.2.2.1, X.2.2.2.2.1 _ hl, ⟨_, _, _, hi⟩, hst⟩ (by rw [h3']; exact h6) q1 q3 (by rw [hsl]; exact hlt) rfl rfl d fin
  · exact va_WputK X.1 X.2.1 X.2.2.2.1 (va_Nw.use rfl (X.2.2.2.2.2.1.2.2.2.2.2.2.2 _ hl)) hi hst (by rw [h3']; exact h6) q1 q3 (by rw [hsl]; exact hlt) rfl rfl d fin
/-- a final field, in its class's constructor -/
theorem am_R.putF (X : am_Cx l G p s m args meth c own cc nL ret) (hin2 : meth.name = "<init>") {i ci j a t : Nat} {ty : FieldType} {vs : List Value} {v : Value} (hf : am_fd ci j true ty) (hl : am_fl own i ci j) (hdecl : ∀ r, am_cl[ci]? = some r → (r.2.1 j).1 = own) (ha : 1000 ≤ a) (hg : am_g G h a = some (t, vs)) (ht : t % 100 = ci) (hci : ci < 50) (hn : narrow ty (am_rv G v) = am_rv G v) (hfit : fits ty (am_rv G v) = true)
    (d : decode cc pc = .ok (.putfield i, 3)) (kk : am_R G p l e R s m args below meth c mc ms Post (pc + 3) L st (am_s h a (t, vs.set j v)) k n) : am_R G p l e R s m args below meth c mc ms Post pc L (v :: .ref a :: st) h k n := by
  intro ls H locs hL hH hS
  obtain ⟨C, T, N, ty0, e1, hj, hin, hty, hnm, hfin, hd⟩ := hf
  obtain ⟨C', T', N', e1', hl⟩ := hl
  cases e1.symm.trans e1'
  obtain ⟨cell, q1, q2, q3⟩ := am_cellD hH ha hg
  have hap := va_apart (own := own) X.2.2.2.2.1 hin ty0 hty hnm X.2.2.2.2.2.1.1 e1
  obtain ⟨r, h1, h2, h3, h4⟩ := q2.2.2.1 (by show t % 100 < 50; omega)
  have h1' : am_cl[t % 100]? = some r := h1
  rw [ht, e1] at h1'
  cases h1'
  have h3' : cell.cls = G.1.1 ci := by rw [← ht]; exact h3
  obtain ⟨hK, -⟩ := X.2.2.2.2.2.1.1
  obtain ⟨hSl, hfc, kC, hkC, hkind⟩ := hK ci _ e1
  obtain ⟨cf, kf, fi, f, hi, hsl⟩ := hSl j hj
  have hlay := X.2.2.2.2.1 _ (hin _ (u_in_lay hj))
  unfold u_lay at hlay
  rw [if_pos hfin] at hlay
  have hst := (u_facts hfc hkC (u_lays X.2.2.2.2.1 hin hj) hi).1
  have hcf : m.cls = cf := by
    obtain ⟨_, _, c', _, _, _, -, -, hf', -, -, -, hown2, -⟩ := Cond.laysFinal_spec hlay
    have e1 : c' = cf := by have := hi.symm.trans hf'; simp at this; exact this.1.symm
    rw [show (T j).1 = own from hdecl _ (by assumption)] at hown2
    rw [← e1]; exact Option.some.inj (X.2.2.2.1.symm.trans hown2)
  have h6 := u_fits hfc hkC hkind (Or.inr hlay) hi hd hn hfit
  have hlv : j < vs.length := by have h2' : N = vs.length := h2; omega
  have hlt : G.1.2 ci j < cell.slots.size := by
    have := h4 j _ (List.getElem?_eq_getElem hlv)
    have ht' : ((t, vs).1 % 100) = ci := ht
    rw [ht'] at this
    exact (Array.getElem?_eq_some_iff.mp this).1
  rcases hl with hl | ⟨host, hl⟩ | ⟨ref, hl, hsm⟩
  rotate_right
  · refine W.putFinK X.1 X.2.1 X.2.2.2.1 (X.2.2.2.2.1 _ hl) (am_sameF (X.2.2.2.2.1 _ hsm) hi) hst hcf hin2 (by rw [h3']; exact h6) q1 q3 (by rw [hsl]; exact hlt) rfl rfl d fun H' f1 f2 f3 => ?_
    rw [hsl] at f1
    exact kk ls H' _ hL (hH.put ha (am_g_lt ha hg) f2 f3 ⟨_, f1, q2.set ht hci e1 hj hap hlt, q3⟩) (hS.put f2 f3 (am_ad_ge ha))
  · refine W.putFinK X.1 X.2.1 X.2.2.2.1 (X.2.2.2.2.1 _ hl) hi hst hcf hin2 (by rw [h3']; exact h6) q1 q3 (by rw [hsl]; exact hlt) rfl rfl d fun H' f1 f2 f3 => ?_
    rw [hsl] at f1
    exact kk ls H' _ hL (hH.put ha (am_g_lt ha hg) f2 f3 ⟨_, f1, q2.set ht hci e1 hj hap hlt, q3⟩) (hS.put f2 f3 (am_ad_ge ha))
  · have ha9 : am_ad G a < H.size := (Array.getElem?_eq_some_iff.mp q1).1
    refine va_Wputf X.1 X.2.1 X.2.2.2.1 (va_Nw.use rfl (X.2.2.2.2.2.1.2.2.2.2.2.2.2 _ hl)) hi hst (Or.inr ⟨hcf, hin2⟩) q1 (by rw [q3]; exact fun h => by cases h) (by rw [hsl]; exact hlt) h6.1 (by rw [h3', q3]; exact h6.2) rfl rfl d ?_
    have f1 : (H.setIfInBounds (am_ad G a) (cell.setSlot f.slot (am_rv G v)))[am_ad G a]? = some (cell.setSlot f.slot (am_rv G v)) := by simp [Array.getElem?_setIfInBounds, ha9]
    have f2 : (H.setIfInBounds (am_ad G a) (cell.setSlot f.slot (am_rv G v))).size = H.size := by simp
    have f3 : ∀ q, q ≠ am_ad G a → (H.setIfInBounds (am_ad G a) (cell.setSlot f.slot (am_rv G v)))[q]? = H[q]? := fun q hq => by simp [Array.getElem?_setIfInBounds, Ne.symm hq]
    rw [hsl] at f1 f2 f3 ⊢
    exact kk ls _ _ hL (hH.put ha (am_g_lt ha hg) f2 f3 ⟨_, f1, q2.set ht hci e1 hj hap hlt, q3⟩) (hS.put f2 f3 (am_ad_ge ha))
end AMH
end
