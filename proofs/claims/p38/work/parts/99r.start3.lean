/-! THE START: the constants -/
def st_t (i : Nat) : Nat := if i = 18 then 3100 else if i = 22 then 3200 else 3000
def st_u (i : Nat) : Nat := if i = 18 then 3251 else if i = 22 then 3351 else 3051
def st_lo (i : Nat) : Int := if i = 22 then 1 else 0
def st_hi (i : Nat) : Int := if i = 18 then 0 else if i = 22 then 1 else 3400
def st_n (i : Nat) : Nat := ((st_S[i]?).getD ("", 0, 0)).2.2
theorem st_Si : ∀ i : Nat, i < 23 → st_S[i]? = some ((st_S[i]?).getD ("", 0, 0)) := by decide +kernel
theorem st_nb : ∀ i : Nat, i < 23 → st_lo i ≤ (st_n i : Int) ∧ (st_n i : Int) ≤ st_hi i := by decide +kernel
theorem st_e3000 : ck_lk gT 3000 = some (2, 4, 4, [(3, 3051, 0, 0), (1, 0, 0, 0), (1, 0, (-2147483648), 2147483647), (1, 0, 0, 1)]) := rfl
theorem st_e3100 : ck_lk gT 3100 = some (2, 4, 4, [(3, 3251, 0, 0), (1, 0, 0, 0), (1, 0, (-2147483648), 2147483647), (1, 0, 0, 1)]) := rfl
theorem st_e3200 : ck_lk gT 3200 = some (2, 4, 4, [(3, 3351, 0, 0), (1, 0, 0, 0), (1, 0, (-2147483648), 2147483647), (1, 0, 0, 1)]) := rfl
theorem st_e3051 : ck_lk gT 3051 = some (3, 0, 3400, [(1, 0, (-128), 127)]) := rfl
theorem st_e3251 : ck_lk gT 3251 = some (3, 0, 0, [(1, 0, (-128), 127)]) := rfl
theorem st_e3351 : ck_lk gT 3351 = some (3, 1, 1, [(1, 0, (-128), 127)]) := rfl
theorem st_et (i : Nat) : ck_lk gT (st_t i) = some (2, 4, 4, [(3, st_u i, 0, 0), (1, 0, 0, 0), (1, 0, (-2147483648), 2147483647), (1, 0, 0, 1)]) := by
  unfold st_t st_u
  by_cases a : i = 18
  · rw [if_pos a, if_pos a]; exact st_e3100
  · rw [if_neg a, if_neg a]
    by_cases c : i = 22
    · rw [if_pos c, if_pos c]; exact st_e3200
    · rw [if_neg c, if_neg c]; exact st_e3000
theorem st_eu (i : Nat) : ck_lk gT (st_u i) = some (3, st_lo i, st_hi i, [(1, 0, (-128), 127)]) := by
  unfold st_u st_lo st_hi
  by_cases a : i = 18
  · subst a; exact st_e3251
  · rw [if_neg a, if_neg a]
    by_cases c : i = 22
    · rw [if_pos c, if_pos c, if_pos c]; exact st_e3351
    · rw [if_neg c, if_neg c, if_neg c]; exact st_e3051
theorem st_tm : ∀ i : Nat, i < 23 → st_t i % 100 = 0 ∧ st_u i % 100 = 51 ∧ 1000 ≤ st_u i := by decide +kernel
theorem st_zt : ∀ z ∈ am_T, Cond.stringRef z.1 z.2.1 z.2.2.1 ∈ lw_tbl ∧ 10 ≤ z.2.2.2 ∧ z.2.2.2 < 33 ∧ (st_S[z.2.2.2 - 10]?).map (fun q => (q.1, q.2.1)) = some (z.1, z.2.1) := by decide +kernel
abbrev st_TX : Type := Nat → Nat × Nat × Int32 × Int32 × List Value
/-- the constants: 0 the script, 1 the small numbers' row, 2 and 3 the digits' rows, 4 the empty row, 5 a class's object, 10 .. 32 the texts, 33 .. 55 their rows, 56 .. 311 the small numbers -/
def st_f (b tA tT tO tE tM : Nat) (xs tens ones : List Value) (ad : Nat → Nat) (S : st_TX) (n : Nat) : Nat × am_C :=
  if n < 10 then (match n with
    | 1 => (tA, 43058, (List.range 256).map fun j => .ref (56 + j))
    | 2 => (tT, 3160, tens)
    | 3 => (tO, 3161, ones)
    | 4 => (tE, 43056, [])
    | 5 => (tM, 43099, [])
    | _ => (b, 3059, xs))
  else if n < 33 then ((S (n - 10)).1, st_t (n - 10), [.ref (33 + (n - 10)), .int 0, .int (S (n - 10)).2.2.1, .int (S (n - 10)).2.2.2.1])
  else if n < 56 then ((S (n - 33)).2.1, st_u (n - 33), (S (n - 33)).2.2.2.2)
  else (ad (n - 56), 41002, [.int (vb_c (n - 56))])
section STF
variable {b tA tT tO tE tM : Nat} {xs tens ones : List Value} {ad : Nat → Nat} {S : st_TX}
theorem st_f10 {i : Nat} (h : i < 23) : st_f b tA tT tO tE tM xs tens ones ad S (10 + i) = ((S i).1, st_t i, [.ref (33 + i), .int 0, .int (S i).2.2.1, .int (S i).2.2.2.1]) := by
  unfold st_f
  rw [if_neg (by omega), if_pos (by omega), show 10 + i - 10 = i by omega]
theorem st_f33 {i : Nat} (h : i < 23) : st_f b tA tT tO tE tM xs tens ones ad S (33 + i) = ((S i).2.1, st_u i, (S i).2.2.2.2) := by
  unfold st_f
  rw [if_neg (by omega), if_neg (by omega), if_pos (by omega), show 33 + i - 33 = i by omega]
theorem st_f56 (j : Nat) : st_f b tA tT tO tE tM xs tens ones ad S (56 + j) = (ad j, 41002, [.int (vb_c j)]) := by
  unfold st_f
  rw [if_neg (by omega), if_neg (by omega), if_neg (by omega), show 56 + j - 56 = j by omega]
end STF
theorem st_cases {P : Nat → Prop} (h0 : P 0) (h1 : P 1) (h2 : P 2) (h3 : P 3) (h4 : P 4) (h5 : P 5) (h6 : P 6) (h7 : P 7) (h8 : P 8) (h9 : P 9) (hs : ∀ i : Nat, i < 23 → P (10 + i)) (hr : ∀ i : Nat, i < 23 → P (33 + i)) (hi : ∀ j : Nat, j < 256 → P (56 + j)) : ∀ n : Nat, n < 312 → P n := by
  intro n hn
  by_cases a : n < 10
  · have : n = 0 ∨ n = 1 ∨ n = 2 ∨ n = 3 ∨ n = 4 ∨ n = 5 ∨ n = 6 ∨ n = 7 ∨ n = 8 ∨ n = 9 := by omega
    rcases this with rfl | rfl | rfl | rfl | rfl | rfl | rfl | rfl | rfl | rfl <;> assumption
  · by_cases c : n < 33
    · rw [show n = 10 + (n - 10) by omega]; exact hs _ (by omega)
    · by_cases d : n < 56
      · rw [show n = 33 + (n - 33) by omega]; exact hr _ (by omega)
      · rw [show n = 56 + (n - 56) by omega]; exact hi _ (by omega)
def st_con (f : Nat → Nat × am_C) : List am_C := (List.range 312).map fun n => (f n).2
theorem st_put {f : Nat → Nat × am_C} {n : Nat} (h : n < 312) : (st_con f)[n]? = some (f n).2 := by
  unfold st_con
  rw [List.getElem?_map, List.getElem?_range h]
  rfl
theorem st_get {f : Nat → Nat × am_C} {n : Nat} {c : am_C} (h : (st_con f)[n]? = some c) : n < 312 ∧ (f n).2 = c := by
  have hl : n < 312 := by
    have := (List.getElem?_eq_some_iff.mp h).1
    simpa [st_con] using this
  rw [st_put hl] at h
  exact ⟨hl, Option.some.inj h⟩
def st_G (D : va_G) (fA : Nat → ClassId) (f : Nat → Nat × am_C) (N : Nat) : am_G := (D, fA, fun n => (f n).1, N, st_con f)
section STG
variable {D : va_G} {fA : Nat → ClassId} {f : Nat → Nat × am_C} {N : Nat}
theorem st_ag {q : Nat} (h : q < 312) : am_g (st_G D fA f N) [] q = some (f q).2 := by
  unfold am_g
  rw [if_pos (by omega)]
  exact st_put h
theorem st_ga {q : Nat} {c : am_C} (h : am_g (st_G D fA f N) [] q = some c) : q < 312 ∧ (f q).2 = c := by
  unfold am_g at h
  split at h
  · exact st_get h
  · cases h
theorem st_ad {n : Nat} (h : n < 1000) : am_ad (st_G D fA f N) n = (f n).1 := by
  unfold am_ad
  rw [if_pos h]
  rfl
theorem st_kt {H : Heap} (h : ∀ n : Nat, n < 312 → (f n).2.1 % 100 < 62 → (f n).1 < N ∧ ∃ cell : Cell, H[(f n).1]? = some cell ∧ am_rk (st_G D fA f N) (f n).2 cell) : am_kt (st_G D fA f N) H := by
  intro n c hc
  obtain ⟨h1, h2⟩ := st_get hc
  subst h2
  exact ⟨by omega, fun h62 => h n h1 h62⟩
/-- the kinds of constants, and what is one alone -/
def st_tags : List Nat := [3059, 43058, 3160, 3161, 43056, 43099, 3000, 3100, 3200, 3051, 3251, 3351, 41002]
theorem st_tg : ∀ t ∈ st_tags, ck_wr gT t = false ∧ (∀ F ∈ li_Fs, F.1 ≠ t) ∧ t ≠ 42150 ∧ t ≠ 42350 := by decide +kernel
theorem st_HT (htag : ∀ n : Nat, n < 312 → (f n).2.1 ∈ st_tags) (h4 : ∀ n : Nat, n < 312 → (f n).2.1 = 43056 → n = 4) (h5 : ∀ n : Nat, n < 312 → (f n).2.1 = 43099 → n = 5)
    (hce : ∀ n : Nat, n < 312 → ck_ce gT 0 (am_g (st_G D fA f N) []) (f n).2.1 (f n).2.2) : ck_HT li_X gT 0 (am_g (st_G D fA f N) []) := by
  have key : ∀ (q t : Nat) (vs : List Value), am_g (st_G D fA f N) [] q = some (t, vs) → q < 312 ∧ (f q).2.1 = t ∧ (f q).2.2 = vs := by
    intro q t vs h
    obtain ⟨a, c⟩ := st_ga h
    exact ⟨a, by rw [c], by rw [c]⟩
  have noF : ∀ (q t : Nat) (vs : List Value), am_g (st_G D fA f N) [] q = some (t, vs) → (∃ F ∈ li_Fs, F.1 = t) → False := by
    intro q t vs h hF
    obtain ⟨a, c, -⟩ := key q t vs h
    obtain ⟨F, hF, e⟩ := hF
    exact (st_tg _ (htag q a)).2.1 F hF (e.trans c.symm)
  refine ⟨⟨?_, ?_, ?_, ?_, ?_, ?_⟩, ?_⟩
  · cases h : am_g (st_G D fA f N) [] 999 with
    | none => rfl
    | some c => exact absurd (st_ga h).1 (by decide)
  · intro F hF q vs h
    exact (noF q _ vs h ⟨F, hF, rfl⟩).elim
  · intro q q' t t' r tr vs vs' ws ht ht' g1
    exact (noF q _ vs g1 ht).elim
  · intro q r mc n ws g1
    exact (noF q _ _ g1 ⟨li_fb, by decide, rfl⟩).elim
  · intro t q q' vs vs' ht g1 g2
    obtain ⟨a1, c1, -⟩ := key q t vs g1
    obtain ⟨a2, c2, -⟩ := key q' t vs' g2
    rcases ht with rfl | rfl
    · rw [h5 q a1 c1, h5 q' a2 c2]
    · rw [h4 q a1 c1, h4 q' a2 c2]
  · intro q t vs ht g1
    obtain ⟨a1, c1, -⟩ := key q t vs g1
    have h9 := (st_tg _ (htag q a1)).2.2
    rw [c1] at h9
    rcases ht with rfl | rfl
    · exact absurd rfl h9.1
    · exact absurd rfl h9.2
  · intro q t vs g1
    obtain ⟨a1, c1, c2⟩ := key q t vs g1
    subst c1 c2
    refine ⟨hce q a1, trivial, fun hw => ?_⟩
    rw [(st_tg _ (htag q a1)).1] at hw
    cases hw
/-- the table's rows of constants -/
def st_rt (n : Nat) : Nat := if n < 10 then (match n with
    | 1 => 43058
    | 2 => 3160
    | 3 => 3161
    | 4 => 43056
    | _ => 43099) else st_t (n - 10)
def st_rl (n : Nat) : Int := if n < 10 then (match n with
    | 1 => 256
    | 2 => 100
    | 3 => 100
    | _ => 0) else 4
theorem st_rw : ∀ q ∈ gT, 100000 ≤ q.1 → ((1 ≤ q.1 - 100000 ∧ q.1 - 100000 ≤ 5) ∨ 10 ≤ q.1 - 100000) ∧ q.1 - 100000 < 33 ∧ q.2.1 = st_rt (q.1 - 100000) ∧ q.2.2.1 = st_rl (q.1 - 100000) := by decide +kernel
theorem st_KT (h : ∀ n : Nat, ((1 ≤ n ∧ n ≤ 5) ∨ 10 ≤ n) → n < 33 → (f n).2.1 = st_rt n ∧ ((f n).2.2.length : Int) = st_rl n) : ck_KT (st_G D fA f N) gT := by
  intro n d hd
  obtain ⟨h1, h2, h3, h4⟩ := st_rw _ (ck_lk_mem hd) (Nat.le_add_right _ _)
  have e : 100000 + n - 100000 = n := by omega
  rw [e] at h1 h2 h3 h4
  obtain ⟨g1, g2⟩ := h n h1 h2
  refine ⟨by omega, (f n).2.2, ?_, ?_⟩
  · show (st_con f)[n]? = _
    rw [st_put (by omega)]
    show some ((f n).2.1, (f n).2.2) = _
    rw [g1, h3]
  · rw [g2, h4]
end STG
/-- an object of the start; a row of the start -/
theorem st_rkO {G : am_G} {c : am_C} {cell : Cell} {r : vw_C} (h0 : cell.vm ≠ .unknown) (h1 : cell.vm.isStatics = false) (h50 : c.1 % 100 < 50) (hr : am_cl[c.1 % 100]? = some r) (hl : r.2.2 = c.2.length) (hc : cell.cls = G.1.1 (c.1 % 100)) (hs : ∀ (j : Nat) (v : Value), c.2[j]? = some v → cell.slots[G.1.2 (c.1 % 100) j]? = some (am_rv G v)) : am_rk G c cell :=
  ⟨h0, h1, fun _ => ⟨r, hr, hl, hc, hs⟩, fun h _ => absurd h (by omega)⟩
theorem st_rkA {G : am_G} {c : am_C} {cell : Cell} (h0 : cell.vm ≠ .unknown) (h1 : cell.vm.isStatics = false) (h50 : 50 ≤ c.1 % 100) (hc : cell.cls = G.2.1 (c.1 % 100)) (hn : c.2.length ≤ cell.slots.size) (hz : cell.slots.size.toInt32 = Int32.ofNat c.2.length) (hs : ∀ (j : Nat) (v : Value), c.2[j]? = some v → cell.slots[j]? = some (am_rv G v)) : am_rk G c cell :=
  ⟨h0, h1, fun h => absurd h (by omega), fun _ _ => ⟨hc, hn, hs, hz⟩⟩
/-- rows and objects keep to the table -/
theorem st_ceR {g : ck_g} {t : Nat} {lo hi a z : Int} {p : Nat} {vs : List Value} (e : ck_lk gT t = some (3, lo, hi, [(1, p, a, z)])) (hl : lo ≤ (vs.length : Int) ∧ (vs.length : Int) ≤ hi) (hv : ∀ (j : Nat) (v : Value), vs[j]? = some v → ∃ x : Int32, v = .int x ∧ a ≤ x.toInt ∧ x.toInt ≤ z) : ck_ce gT 0 g t vs := by
  intro d hd
  rw [e] at hd
  cases hd
  exact ⟨hl, fun j v hj => ⟨(1, p, a, z), by simp [ck_yt, Nat.beq], hv j v hj⟩⟩
theorem st_i32 (x : Int32) : -2147483648 ≤ x.toInt ∧ x.toInt ≤ 2147483647 := by
  have h1 := Int32.le_toInt x
  have h2 := Int32.toInt_lt x
  constructor
  · exact h1
  · have : x.toInt < 2147483648 := h2
    omega
theorem st_ceS {g : ck_g} {t u q : Nat} {h z : Int32} {ws : List Value} (e : ck_lk gT t = some (2, 4, 4, [(3, u, 0, 0), (1, 0, 0, 0), (1, 0, (-2147483648), 2147483647), (1, 0, 0, 1)])) (hu : 1000 ≤ u) (hg : g q = some (u, ws)) (z0 : 0 ≤ z.toInt) (z1 : z.toInt ≤ 1) : ck_ce gT 0 g t [.ref q, .int 0, .int h, .int z] := by
  intro d hd
  rw [e] at hd
  cases hd
  refine ⟨⟨(show (4 : Int) ≤ 4 by decide), (show (4 : Int) ≤ 4 by decide)⟩, fun j v hj => ?_⟩
  match j, hj with
  | 0, hj =>
    cases hj
    refine ⟨(3, u, 0, 0), by simp [ck_yt], ?_⟩
    exact ⟨hu, q, ws, rfl, hg⟩
  | 1, hj =>
    cases hj
    refine ⟨(1, 0, 0, 0), by simp [ck_yt], ?_⟩
    exact ⟨0, rfl, by decide, by decide⟩
  | 2, hj =>
    cases hj
    refine ⟨(1, 0, (-2147483648), 2147483647), by simp [ck_yt], ?_⟩
    exact ⟨h, rfl, st_i32 h⟩
  | 3, hj =>
    cases hj
    refine ⟨(1, 0, 0, 1), by simp [ck_yt], ?_⟩
    exact ⟨z, rfl, z0, z1⟩
  | j + 4, hj => cases hj
