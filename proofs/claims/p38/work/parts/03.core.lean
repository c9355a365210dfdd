/-! THE ABSTRACT HEAP: a list of cells (kind + 100 * region, contents); a reference below 1000 is a constant of the start, 1000 + i the i-th cell made since the law's entry. -/
abbrev am_C : Type := Nat × List Value
def am_aty (k : Nat) : FieldType := match k with
  | 50 => .int
  | 51 => .byte
  | 52 => .long
  | 53 => .object "Clockhouse$Big"
  | 54 => .object "Clockhouse$State"
  | 55 => .object "ClockhouseModel$Num"
  | 56 => .object "java/lang/Object"
  | 58 => .object "java/lang/Integer"
  | 59 => .int
  | 60 => .byte
  | 61 => .byte
  | _ => .array .int
abbrev am_cl : List vw_C := [(RJ0, TJ0, 4), (RJ4, TJ4, 4), (RJ6, TJ6, 1), (RJx00060, TJx00060, 6), (RJx7c733, TJx7c733, 6), (RJx35411, TJx35411, 4), (RJx4a65c, TJx4a65c, 3), (RX0, TX0, 3), (RX1, TX1, 7), (RX2, TX2, 3), (RX3, TX3, 4), (RX4, TX4, 3), (RX5, TX5, 3), (RX6, TX6, 4), (RX9, TX9, 7), (RX10, TX10, 13), (RX11, TX11, 2), (RX12, TX12, 2), (RX13, TX13, 4), (RX14, TX14, 6)]
/-- the world's fixed numbers: class ids and slots; array class ids; addresses of constants; where the law's own cells begin; the constants' contents -/
abbrev am_G : Type := va_G × (Nat → ClassId) × (Nat → Nat) × Nat × List am_C
def am_ad (G : am_G) (n : Nat) : Nat := if n < 1000 then G.2.2.1 n else G.2.2.2.1 + (n - 1000)
def am_rv (G : am_G) (v : Value) : Value := match v with
  | .ref n => .ref (am_ad G n)
  | v => v
def am_tys (G : am_G) : List (ClassId × FieldType) := [50, 51, 52, 53, 54, 55, 56, 57].map fun k => (G.2.1 k, am_aty k)
/-- arrays of the start whose class is known by its elements alone: the small numbers, the script, the two rows of digits -/
def am_ext (G : am_G) (U : State) : Prop := ∀ k : Nat, 58 ≤ k → k < 62 → ArrOfT U (G.2.1 k) (am_aty k)
theorem am_ext.moved {G : am_G} {u U : State} (hvm : u.vm.Alike U.vm) (h : am_ext G u) : am_ext G U := fun k h1 h2 => arrOfT_moved hvm (h k h1 h2)
def am_K (G : am_G) (s : State) : Prop := va_K G.1 am_cl (am_tys G) s
theorem am_K.moved {G : am_G} {u U : State} (hvm : u.vm.Alike U.vm) (h : am_K G u) : am_K G U := va_K.moved hvm h
def am_ro (G : am_G) (c : am_C) (cell : Cell) : Prop :=
  cell.vm ≠ .unknown ∧ cell.vm.isStatics = false ∧
  (c.1 % 100 < 50 → ∃ r : vw_C, am_cl[c.1 % 100]? = some r ∧ r.2.2 = c.2.length ∧ cell.cls = G.1.1 (c.1 % 100) ∧ ∀ (j : Nat) (v : Value), c.2[j]? = some v → cell.slots[G.1.2 (c.1 % 100) j]? = some (am_rv G v)) ∧
  (50 ≤ c.1 % 100 → c.1 % 100 < 62 → cell.cls = G.2.1 (c.1 % 100) ∧ cell.slots.size = c.2.length ∧ ∀ (j : Nat) (v : Value), c.2[j]? = some v → cell.slots[j]? = some (am_rv G v))
/-- the same of a cell of the start: how long a row is, is known as an int alone -/
def am_rk (G : am_G) (c : am_C) (cell : Cell) : Prop :=
  cell.vm ≠ .unknown ∧ cell.vm.isStatics = false ∧
  (c.1 % 100 < 50 → ∃ r : vw_C, am_cl[c.1 % 100]? = some r ∧ r.2.2 = c.2.length ∧ cell.cls = G.1.1 (c.1 % 100) ∧ ∀ (j : Nat) (v : Value), c.2[j]? = some v → cell.slots[G.1.2 (c.1 % 100) j]? = some (am_rv G v)) ∧
  (50 ≤ c.1 % 100 → c.1 % 100 < 62 → cell.cls = G.2.1 (c.1 % 100) ∧ c.2.length ≤ cell.slots.size ∧ (∀ (j : Nat) (v : Value), c.2[j]? = some v → cell.slots[j]? = some (am_rv G v)) ∧ cell.slots.size.toInt32 = Int32.ofNat c.2.length)
theorem am_ro.rk {G : am_G} {c : am_C} {cell : Cell} (h : am_ro G c cell) : am_rk G c cell := by
  refine ⟨h.1, h.2.1, h.2.2.1, fun h1 h2 => ?_⟩
  obtain ⟨g1, g2, g3⟩ := h.2.2.2 h1 h2
  exact ⟨g1, Nat.le_of_eq g2.symm, g3, by rw [g2]⟩
def am_at (G : am_G) (q : Nat) (c : am_C) (H : Heap) : Prop := ∃ cell : Cell, H[q]? = some cell ∧ am_ro G c cell ∧ cell.vm = .none
def am_kt (G : am_G) (H : Heap) : Prop := ∀ (n : Nat) (c : am_C), G.2.2.2.2[n]? = some c → n < 1000 ∧ (c.1 % 100 < 62 → G.2.2.1 n < G.2.2.2.1 ∧ ∃ cell : Cell, H[G.2.2.1 n]? = some cell ∧ am_rk G c cell)
def am_H (G : am_G) (h : List am_C) (H : Heap) : Prop := H.size = G.2.2.2.1 + h.length ∧ ∀ (i : Nat) (c : am_C), h[i]? = some c → am_at G (G.2.2.2.1 + i) c H
/-- the cell of a reference -/
def am_g (G : am_G) (h : List am_C) (n : Nat) : Option am_C := if n < 1000 then G.2.2.2.2[n]? else h[n - 1000]?
/-- the heap with a cell written -/
def am_s (h : List am_C) (n : Nat) (c : am_C) : List am_C := h.set (n - 1000) c
set_option maxRecDepth 100000 in
theorem am_g_s {G : am_G} {h : List am_C} {n m : Nat} {c : am_C} (hn : 1000 ≤ n) (hl : n - 1000 < h.length) : am_g G (am_s h n c) m = if m = n then some c else am_g G h m := by
  unfold am_g am_s
  by_cases e : m = n
  · subst e
    rw [if_pos rfl, if_neg (by omega), List.getElem?_set_self hl]
  · rw [if_neg e]
    by_cases h1 : m < 1000
    · rw [if_pos h1, if_pos h1]
    · rw [if_neg h1, if_neg h1, List.getElem?_set_ne (by omega)]
theorem am_s_len (h : List am_C) (n : Nat) (c : am_C) : (am_s h n c).length = h.length := by unfold am_s; simp
set_option maxRecDepth 100000 in
theorem am_g_new {G : am_G} {h : List am_C} {m : Nat} {c : am_C} : am_g G (h ++ [c]) m = if m = 1000 + h.length then some c else am_g G h m := by
  unfold am_g
  by_cases e : m = 1000 + h.length
  · subst e
    rw [if_pos rfl, if_neg (by omega), List.getElem?_append_right (by omega)]
    simp
  · rw [if_neg e]
    by_cases h1 : m < 1000
    · rw [if_pos h1, if_pos h1]
    · rw [if_neg h1, if_neg h1]
      by_cases h2 : m - 1000 < h.length
      · rw [List.getElem?_append_left h2]
      · rw [List.getElem?_append_right (by omega), List.getElem?_eq_none (l := h) (by omega), List.getElem?_eq_none (by simp; omega)]
theorem am_g_lt {G : am_G} {h : List am_C} {n : Nat} {c : am_C} (hn : 1000 ≤ n) (hg : am_g G h n = some c) : n - 1000 < h.length := by
  unfold am_g at hg
  rw [if_neg (by omega)] at hg
  exact (List.getElem?_eq_some_iff.mp hg).1
/-- what a reference's cell is in the machine's heap -/
theorem am_cell {G : am_G} {h : List am_C} {H : Heap} (hH : am_H G h H) (hk : am_kt G H) {n : Nat} {c : am_C} (hg : am_g G h n = some c) (h62 : c.1 % 100 < 62) : ∃ cell : Cell, H[am_ad G n]? = some cell ∧ am_rk G c cell := by
  unfold am_g at hg
  unfold am_ad
  by_cases h1 : n < 1000
  · rw [if_pos h1] at hg
    rw [if_pos h1]
    obtain ⟨-, cell, e1, e2⟩ := (hk n c hg).2 h62
    exact ⟨cell, e1, e2⟩
  · rw [if_neg h1] at hg
    rw [if_neg h1]
    obtain ⟨cell, e1, e2, -⟩ := hH.2 _ c hg
    exact ⟨cell, e1, e2.rk⟩
theorem am_cellD {G : am_G} {h : List am_C} {H : Heap} (hH : am_H G h H) {n : Nat} {c : am_C} (hn : 1000 ≤ n) (hg : am_g G h n = some c) : ∃ cell : Cell, H[am_ad G n]? = some cell ∧ am_ro G c cell ∧ cell.vm = .none := by
  unfold am_g at hg
  unfold am_ad
  rw [if_neg (by omega)] at hg
  rw [if_neg (by omega)]
  exact hH.2 _ c hg
theorem am_ad_ge {G : am_G} {n : Nat} (hn : 1000 ≤ n) : G.2.2.2.1 ≤ am_ad G n := by
  unfold am_ad
  rw [if_neg (by omega)]
  omega
set_option maxRecDepth 100000 in
/-- a cell is written in its place -/
theorem am_H.put {G : am_G} {h : List am_C} {H H' : Heap} (hH : am_H G h H) {n : Nat} {c : am_C} (hn : 1000 ≤ n) (hl : n - 1000 < h.length) (hs : H'.size = H.size) (ho : ∀ q : Nat, q ≠ am_ad G n → H'[q]? = H[q]?) (hc : am_at G (am_ad G n) c H') : am_H G (am_s h n c) H' := by
  have ha : am_ad G n = G.2.2.2.1 + (n - 1000) := by unfold am_ad; rw [if_neg (by omega)]
  refine ⟨by rw [hs, am_s_len]; exact hH.1, fun i d hi => ?_⟩
  by_cases e : i = n - 1000
  · subst e
    unfold am_s at hi
    rw [List.getElem?_set_self hl] at hi
    cases hi
    rw [← ha]
    exact hc
  · unfold am_s at hi
    rw [List.getElem?_set_ne (by omega)] at hi
    obtain ⟨cell, e1, e2⟩ := hH.2 i d hi
    exact ⟨cell, by rw [ho _ (by rw [ha]; omega)]; exact e1, e2⟩
set_option maxRecDepth 100000 in
/-- a cell is made -/
theorem am_H.push {G : am_G} {h : List am_C} {H H' : Heap} (hH : am_H G h H) {c : am_C} (hs : H'.size = H.size + 1) (ho : ∀ q : Nat, q < H.size → H'[q]? = H[q]?) (hc : am_at G H.size c H') : am_H G (h ++ [c]) H' := by
  refine ⟨by rw [hs, hH.1, List.length_append, List.length_singleton]; omega, fun i d hi => ?_⟩
  by_cases e : i < h.length
  · rw [List.getElem?_append_left e] at hi
    obtain ⟨cell, e1, e2⟩ := hH.2 i d hi
    exact ⟨cell, by rw [ho _ (by rw [hH.1]; omega)]; exact e1, e2⟩
  · rw [List.getElem?_append_right (by omega)] at hi
    have hz : i - h.length = 0 := by have := (List.getElem?_eq_some_iff.mp hi).1; simp at this; omega
    rw [hz] at hi
    cases hi
    rw [show G.2.2.2.1 + i = H.size by rw [hH.1]; omega]
    exact hc
theorem am_kt.kept {G : am_G} {H H' : Heap} (h : am_kt G H) (ho : ∀ q : Nat, q < G.2.2.2.1 → H'[q]? = H[q]?) : am_kt G H' := by
  intro n c hc
  obtain ⟨h0, h1⟩ := h n c hc
  refine ⟨h0, fun h62 => ?_⟩
  obtain ⟨h2, cell, h3, h4⟩ := h1 h62
  exact ⟨h2, cell, by rw [ho _ h2]; exact h3, h4⟩
/-- positional locals -/
def am_L (G : am_G) (ls : Array Slot) (L : List (Option Value)) : Prop := ls.size = L.length ∧ lv_wf ls ∧ ∀ (i : Nat) (v : Value), L[i]? = some (some v) → ls[i]? = some (.val (am_rv G v))
theorem am_L.at {G : am_G} {ls : Array Slot} {L : List (Option Value)} (h : am_L G ls L) {i : Nat} {v : Value} (hi : L[i]? = some (some v)) : ls[i]? = some (.val (am_rv G v)) := h.2.2 i v hi
theorem am_rv_cat (G : am_G) (v : Value) : (am_rv G v).category = v.category := by cases v <;> rfl
def am_wide (o : Option (Option Value)) : Bool := match o with
  | some (some (.long _)) => true
  | some (some (.double _)) => true
  | _ => false
/-- a local is written: a long ahead of it goes; a long takes two places -/
def am_cut (L : List (Option Value)) (i : Nat) : List (Option Value) := if i = 0 then L else if am_wide L[i - 1]? = true then L.set (i - 1) none else L
def am_put1 (L : List (Option Value)) (i : Nat) (v : Value) : List (Option Value) := (am_cut L i).set i (some v)
def am_put2 (L : List (Option Value)) (i : Nat) (v : Value) : List (Option Value) := ((am_cut L i).set i (some v)).set (i + 1) none
theorem am_wide_of {L : List (Option Value)} {i : Nat} {v : Value} (h : L[i]? = some (some v)) (hc : v.category = 2) : am_wide L[i]? = true := by
  rw [h]
  cases v <;> first | rfl | (simp [Value.category] at hc)
theorem am_cut_len (L : List (Option Value)) (i : Nat) : (am_cut L i).length = L.length := by unfold am_cut; split <;> (try rfl); split <;> simp
theorem am_cut_get {L : List (Option Value)} {i j : Nat} {w : Value} (h : (am_cut L i)[j]? = some (some w)) : L[j]? = some (some w) ∧ ¬ (j + 1 = i ∧ w.category = 2) := by
  unfold am_cut at h
  by_cases h0 : i = 0
  · rw [if_pos h0] at h
    exact ⟨h, fun z => by omega⟩
  · rw [if_neg h0] at h
    by_cases h1 : am_wide L[i - 1]? = true
    · rw [if_pos h1] at h
      by_cases e : i - 1 = j
      · subst e
        have hl : i - 1 < L.length := by have := (List.getElem?_eq_some_iff.mp h).1; simpa using this
        rw [List.getElem?_set_self hl] at h
        cases h
      · rw [List.getElem?_set_ne e] at h
        exact ⟨h, fun z => e (by omega)⟩
    · rw [if_neg h1] at h
      exact ⟨h, fun z => h1 (by rw [show i - 1 = j by omega]; exact am_wide_of h z.2)⟩
theorem am_put1_len (L : List (Option Value)) (i : Nat) (v : Value) : (am_put1 L i v).length = L.length := by unfold am_put1; rw [List.length_set, am_cut_len]
theorem am_put2_len (L : List (Option Value)) (i : Nat) (v : Value) : (am_put2 L i v).length = L.length := by unfold am_put2; rw [List.length_set, List.length_set, am_cut_len]
def am_en (G : am_G) (L : List (Option Value)) : List (Nat × Value) := (List.range L.length).filterMap fun i => match L[i]? with
  | some (some v) => some (i, am_rv G v)
  | _ => none
theorem am_en_mem {G : am_G} {L : List (Option Value)} {q : Nat × Value} : q ∈ am_en G L ↔ ∃ v, L[q.1]? = some (some v) ∧ q.2 = am_rv G v := by
  unfold am_en
  rw [List.mem_filterMap]
  constructor
  · rintro ⟨i, hi, h⟩
    split at h
    · next v hv =>
      cases h
      exact ⟨v, hv, rfl⟩
    · cases h
  · rintro ⟨v, hv, he⟩
    refine ⟨q.1, List.mem_range.mpr (List.getElem?_eq_some_iff.mp hv).1, ?_⟩
    rw [hv]
    show some (q.1, am_rv G v) = some q
    rw [← he]
theorem am_L.to {G : am_G} {ls : Array Slot} {L : List (Option Value)} (h : am_L G ls L) : lv_has ls L.length (am_en G L) := ⟨h.1, h.2.1, fun q hq => by
  obtain ⟨v, hv, he⟩ := am_en_mem.mp hq
  rw [he]
  exact h.2.2 _ _ hv⟩
theorem am_L.of1 {G : am_G} {ls : Array Slot} {L : List (Option Value)} {i : Nat} {v : Value} (h : lv_has ls L.length ((i, am_rv G v) :: (am_en G L).filter (fun q => !(q.1 == i) && !(q.1 + 1 == i && q.2.category == 2)))) : am_L G ls (am_put1 L i v) := by
  refine ⟨by rw [am_put1_len]; exact h.1, h.2.1, fun j w hj => ?_⟩
  by_cases e : i = j
  · subst e
    unfold am_put1 at hj
    have hl : i < (am_cut L i).length := by have := (List.getElem?_eq_some_iff.mp hj).1; simpa using this
    rw [List.getElem?_set_self hl] at hj
    cases hj
    exact h.2.2 (i, am_rv G v) List.mem_cons_self
  · unfold am_put1 at hj
    rw [List.getElem?_set_ne e] at hj
    obtain ⟨h1, h2⟩ := am_cut_get hj
    refine h.2.2 (j, am_rv G w) (List.mem_cons_of_mem _ (List.mem_filter.mpr ⟨am_en_mem.mpr ⟨w, h1, rfl⟩, ?_⟩))
    have e1 : (j == i) = false := by rw [beq_eq_false_iff_ne]; exact fun z => e z.symm
    by_cases e2 : j + 1 = i
    · have e3 : ((am_rv G w).category == 2) = false := by rw [beq_eq_false_iff_ne, am_rv_cat]; exact fun z => h2 ⟨e2, z⟩
      simp [e1, e3]
    · have e3 : (j + 1 == i) = false := by rw [beq_eq_false_iff_ne]; exact e2
      simp [e1, e3]
theorem am_L.of2 {G : am_G} {ls : Array Slot} {L : List (Option Value)} {i : Nat} {v : Value} (h : lv_has ls L.length ((i, am_rv G v) :: (am_en G L).filter (fun q => !(q.1 == i) && (!(q.1 == i + 1) && !(q.1 + 1 == i && q.2.category == 2))))) : am_L G ls (am_put2 L i v) := by
  refine ⟨by rw [am_put2_len]; exact h.1, h.2.1, fun j w hj => ?_⟩
  unfold am_put2 at hj
  by_cases e0 : i + 1 = j
  · subst e0
    have hl : i + 1 < ((am_cut L i).set i (some v)).length := by have := (List.getElem?_eq_some_iff.mp hj).1; simpa using this
    rw [List.getElem?_set_self hl] at hj
    cases hj
  · rw [List.getElem?_set_ne e0] at hj
    by_cases e : i = j
    · subst e
      have hl : i < (am_cut L i).length := by have := (List.getElem?_eq_some_iff.mp hj).1; simpa using this
      rw [List.getElem?_set_self hl] at hj
      cases hj
      exact h.2.2 (i, am_rv G v) List.mem_cons_self
    · rw [List.getElem?_set_ne e] at hj
      obtain ⟨h1, h2⟩ := am_cut_get hj
      refine h.2.2 (j, am_rv G w) (List.mem_cons_of_mem _ (List.mem_filter.mpr ⟨am_en_mem.mpr ⟨w, h1, rfl⟩, ?_⟩))
      have e1 : (j == i) = false := by rw [beq_eq_false_iff_ne]; exact fun z => e z.symm
      have e4 : (j == i + 1) = false := by rw [beq_eq_false_iff_ne]; exact fun z => e0 z.symm
      by_cases e2 : j + 1 = i
      · have e3 : ((am_rv G w).category == 2) = false := by rw [beq_eq_false_iff_ne, am_rv_cat]; exact fun z => h2 ⟨e2, z⟩
        simp [e1, e3, e4]
      · have e3 : (j + 1 == i) = false := by rw [beq_eq_false_iff_ne]; exact e2
        simp [e1, e3, e4]
/-- less is known of the locals -/
theorem am_L.sub {G : am_G} {ls : Array Slot} {L L' : List (Option Value)} (h : am_L G ls L) (hl : L'.length = L.length) (hs : ∀ (i : Nat) (v : Value), L'[i]? = some (some v) → L[i]? = some (some v)) : am_L G ls L' := ⟨by rw [hl]; exact h.1, h.2.1, fun i v hi => h.2.2 i v (hs i v hi)⟩
/-- the locals at a method's entry -/
def am_lay (vs : List Value) : List (Option Value) := vs.flatMap fun v => if v.category = 2 then [some v, none] else [some v]
def am_ent (vs : List Value) (n : Nat) : List (Option Value) := am_lay vs ++ List.replicate (n - (am_lay vs).length) none
theorem am_lay_len (G : am_G) (vs : List Value) : (lg_sl (vs.map (am_rv G))).length = (am_lay vs).length := by
  induction vs with
  | nil => rfl
  | cons v t ih =>
    have e1 : lg_sl ((v :: t).map (am_rv G)) = (if (am_rv G v).category = 2 then [Slot.val (am_rv G v), .second] else [.val (am_rv G v)]) ++ lg_sl (t.map (am_rv G)) := rfl
    have e2 : am_lay (v :: t) = (if v.category = 2 then [some v, none] else [some v]) ++ am_lay t := rfl
    rw [e1, e2, List.length_append, List.length_append, ih, am_rv_cat]
    split <;> rfl
theorem am_lay_mem (G : am_G) (vs : List Value) : ∀ (k i : Nat) (v : Value), (am_lay vs)[i]? = some (some v) → (k + i, am_rv G v) ∈ lv_args k (vs.map (am_rv G)) := by
  induction vs with
  | nil => intro k i v h; cases h
  | cons w t ih =>
    intro k i v h
    have e2 : am_lay (w :: t) = (if w.category = 2 then [some w, none] else [some w]) ++ am_lay t := rfl
    have e1 : lv_args k ((w :: t).map (am_rv G)) = (k, am_rv G w) :: lv_args (if (am_rv G w).category = 2 then k + 2 else k + 1) (t.map (am_rv G)) := rfl
    rw [e2] at h
    rw [e1, am_rv_cat]
    by_cases hc : w.category = 2
    · rw [if_pos hc] at h ⊢
      match i, h with
      | 0, h => cases h; exact List.mem_cons_self
      | 1, h => cases h
      | i + 2, h =>
        have h9 : (am_lay t)[i]? = some (some v) := h
        have := ih (k + 2) i v h9
        rw [show k + 2 + i = k + (i + 2) by omega] at this
        exact List.mem_cons_of_mem _ this
    · rw [if_neg hc] at h ⊢
      match i, h with
      | 0, h => cases h; exact List.mem_cons_self
      | i + 1, h =>
        have h9 : (am_lay t)[i]? = some (some v) := h
        have := ih (k + 1) i v h9
        rw [show k + 1 + i = k + (i + 1) by omega] at this
        exact List.mem_cons_of_mem _ this
theorem am_L.entry {G : am_G} {vs : List Value} {n : Nat} (hn : (am_lay vs).length ≤ n) : am_L G ((lg_sl (vs.map (am_rv G)) ++ List.replicate (n - (lg_sl (vs.map (am_rv G))).length) Slot.unset).toArray) (am_ent vs n) := by
  have h := lv_entry (vs.map (am_rv G)) (n := n) (by rw [am_lay_len]; exact hn)
  refine ⟨?_, h.2.1, fun i v hi => ?_⟩
  · rw [h.1]
    unfold am_ent
    rw [List.length_append, List.length_replicate]
    omega
  · unfold am_ent at hi
    by_cases hl : i < (am_lay vs).length
    · rw [List.getElem?_append_left hl] at hi
      have := am_lay_mem G vs 0 i v hi
      rw [Nat.zero_add] at this
      exact h.2.2 (i, am_rv G v) this
    · rw [List.getElem?_append_right (by omega), List.getElem?_replicate] at hi
      split at hi <;> cases hi
