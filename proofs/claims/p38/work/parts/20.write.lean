/-! STEPS THAT WRITE AND MAKE CELLS -/
def ck_sU (G : am_G) (S : ck_SS) (pc nx ci j jt : Nat) : Prop := ∀ (L : List (Option Value)) (st : List Value) (h : List am_C) (k n q t : Nat) (vs : List Value) (v : Value), 1000 ≤ q → am_g G h q = some (t, vs) → t % 100 = ci → ck_fv jt v → S nx L st (am_s h q (t, vs.set j v)) k n → S pc L (v :: .ref q :: st) h k n
def ck_fits (T : ck_TT) (Q : ck_Q) (F : List ck_F) (t j : Nat) (a : ck_V) : Bool := match ck_lk T t with
  | none => true
  | some d => match ck_yt d j with
    | none => true
    | some y => ck_ft Q F a y
theorem ck_fits_ok {T : ck_TT} {Q : ck_Q} {F : List ck_F} {t j : Nat} {a : ck_V} (h : ck_fits T Q F t j a = true) : ∀ d, ck_lk T t = some d → ∀ y, ck_yt d j = some y → ck_ft Q F a y = true := by
  intro d hd y hy
  unfold ck_fits at h
  rw [hd] at h
  dsimp only at h
  rw [hy] at h
  exact h
def ck_tU (T : ck_TT) (M : List (Nat × Nat)) (rt : List Nat) (nx ci j jt : Nat) (A : ck_A) : Option (List (Nat × ck_A)) := match A with
  | (V, C, F, nr, Ls, a :: (3, i, _) :: St, ek, en) => match ck_f2 F i with
    | some f => bif (Nat.beq (f.2.2.2.1 % 100) ci && (Nat.blt f.2.2.2.1 40000 && ck_wr T f.2.2.2.1)) && ((ck_le V C (ck_k (j + 1)) f.2.2.2.2.2.2 && ck_sh (V, C) jt a) && (ck_mk M rt F i f.2.2.2.1 j && ck_fits T (V, C) F f.2.2.2.1 j a)) then
        some [(nx, (V, C, (3, i, j, f.2.2.2.1, a) :: F.filter (ck_kl f.2.2.2.1 (some j)), nr, Ls, St, ek, en))] else none
    | none => none
  | _ => none
theorem ck_tU_ok {w : ck_W} (hX : ck_XO w.2.1) (hX0 : ck_X0 w.2.1) {rt : List Nat} (hR : ck_Rt w rt) {S : ck_SS} {pc nx ci j jt : Nat} {A : ck_A} {l : List (Nat × ck_A)} (hs : ck_sU w.1 S pc nx ci j jt) (ht : ck_tU w.2.2.1 w.2.2.2.2.2.2.2.1 rt nx ci j jt A = some l) (hK : ck_K w S l)
    {r : List Int} {s : List Nat} {L : List (Option Value)} {st : List Value} {h : List am_C} {k n : Nat} (H : ck_Ga w A r s L st h k n) : S pc L st h k n := by
  unfold ck_tU at ht
  split at ht
  · next V C F nr Ls a i u St ek en =>
    obtain ⟨h1, h2, h3, h4, hL, hS, h7, h8, h9⟩ := id H
    match st, hS with
    | v :: v0 :: st, hS =>
      have ha := hS.1
      obtain ⟨q, g1, rfl⟩ := hS.2.1
      split at ht
      · next f hf =>
        obtain ⟨q', vs, g2, g3, g4⟩ := ck_f2_ok h3 hf
        rw [g1] at g2
        cases g2
        obtain ⟨hc, ht⟩ := ck_bt rfl ht
        cases ht
        obtain ⟨c1, c2⟩ := Bool.and_eq_true_iff.mp hc
        obtain ⟨c1, c3⟩ := Bool.and_eq_true_iff.mp c1
        obtain ⟨c3, c4⟩ := Bool.and_eq_true_iff.mp c3
        obtain ⟨c2, c5⟩ := Bool.and_eq_true_iff.mp c2
        obtain ⟨c2, c6⟩ := Bool.and_eq_true_iff.mp c2
        obtain ⟨c5, c7⟩ := Bool.and_eq_true_iff.mp c5
        have hjl := ck_le_ok c2 h1 h2 (ck_Lv.k r _) g4
        obtain ⟨p1, p2, p3, p4⟩ := ck_put_ok hX hX0 hR (jk := some j) h3 h9 ⟨h1, h2⟩ g1 g3 ha (fun j' _ e => by rw [← e]; exact c5) (Or.inr rfl) (Nat.blt_eq.mp c3) c4 (ck_fits_ok c7)
        refine hs L st h k n q _ vs v p1 g3 (ck_beq c1) (ck_sh_ok c6 ⟨h1, h2⟩ ha) (hK _ (List.mem_singleton.mpr rfl) r s L st _ k n ⟨h1, h2, fun f' hf' => ?_, h4, hL, hS.2.2, h7, h8, p2⟩)
        rcases List.mem_cons.mp hf' with e | e
        · rw [e]; exact ⟨q, _, v, g1, p4, List.getElem?_set_self (by omega), ha⟩
        · exact p3 f' e
      · cases ht
  · cases ht
/-- an array is written; ka: kinds, pr: what references of a kind may be put into what -/
def ck_fw (pr : List (Nat × Nat)) (g : ck_g) (ka : Nat) (v : Value) : Prop :=
  (ka = 50 ∧ ∃ x : Int32, v = .int x) ∨ (ka = 51 ∧ ∃ x : Int32, v = .int x ∧ -128 ≤ x.toInt ∧ x.toInt ≤ 127) ∨ (ka = 52 ∧ ∃ x : Int64, v = .long x) ∨ (ka = 56 ∧ v = .null) ∨ (∃ (q t : Nat) (vs : List Value), v = .ref q ∧ g q = some (t, vs) ∧ (ka, t % 100) ∈ pr)
def ck_sB (G : am_G) (pr : List (Nat × Nat)) (S : ck_SS) (pc nx lo hi : Nat) : Prop := ∀ (L : List (Option Value)) (st : List Value) (h : List am_C) (k n q t : Nat) (x : Int32) (vs : List Value) (v : Value), 1000 ≤ q → am_g G h q = some (t, vs) → lo ≤ t % 100 → t % 100 ≤ hi → 0 ≤ x.toInt → x.toInt.toNat < vs.length → ck_fw pr (am_g G h) (t % 100) v → S nx L st (am_s h q (t, vs.set x.toInt.toNat v)) k n → S pc L (v :: .int x :: .ref q :: st) h k n
def ck_sw (pr : List (Nat × Nat)) (Q : ck_Q) (F : List ck_F) (ka : Nat) (a : ck_V) : Bool :=
  (Nat.beq ka 50 && Nat.beq a.1 1) || ((Nat.beq ka 51 && ck_sh Q 2 a) || ((Nat.beq ka 52 && Nat.beq a.1 2) || ((Nat.beq ka 56 && Nat.beq a.1 4) || (Nat.beq a.1 3 && (match ck_f2 F a.2.1 with
    | some f => pr.any fun p => Nat.beq p.1 ka && Nat.beq p.2 (f.2.2.2.1 % 100)
    | none => false)))))
theorem ck_sw_ok {pr : List (Nat × Nat)} {Q : ck_Q} {F : List ck_F} {ka : Nat} {a : ck_V} {g : ck_g} {z : Nat} {r : List Int} {s : List Nat} {v : Value} (h : ck_sw pr Q F ka a = true) (hF : ∀ f ∈ F, ck_fa g z r s f) (hQ : ck_ok Q r) (ha : ck_av r s a v) : ck_fw pr g ka v := by
  unfold ck_sw at h
  rcases Bool.or_eq_true_iff.mp h with h | h
  · obtain ⟨c1, c2⟩ := Bool.and_eq_true_iff.mp h
    obtain ⟨x, e, -⟩ := ha.int (ck_beq c2)
    exact Or.inl ⟨ck_beq c1, x, e⟩
  · rcases Bool.or_eq_true_iff.mp h with h | h
    · obtain ⟨c1, c2⟩ := Bool.and_eq_true_iff.mp h
      exact Or.inr (Or.inl ⟨ck_beq c1, ck_sh_ok c2 hQ ha⟩)
    · rcases Bool.or_eq_true_iff.mp h with h | h
      · obtain ⟨c1, c2⟩ := Bool.and_eq_true_iff.mp h
        obtain ⟨x, e, -⟩ := ha.long (ck_beq c2)
        exact Or.inr (Or.inr (Or.inl ⟨ck_beq c1, x, e⟩))
      · rcases Bool.or_eq_true_iff.mp h with h | h
        · obtain ⟨c1, c2⟩ := Bool.and_eq_true_iff.mp h
          unfold ck_av at ha
          rw [ck_beq c2] at ha
          exact Or.inr (Or.inr (Or.inr (Or.inl ⟨ck_beq c1, ha⟩)))
        · obtain ⟨c1, c2⟩ := Bool.and_eq_true_iff.mp h
          unfold ck_av at ha
          rw [ck_beq c1] at ha
          obtain ⟨q, a1, a2⟩ := ha
          split at c2
          · next f hf =>
            obtain ⟨q', vs, b1, b2, -⟩ := ck_f2_ok hF hf
            rw [a1] at b1
            cases b1
            obtain ⟨p, p1, p2⟩ := List.any_eq_true.mp c2
            obtain ⟨p2, p3⟩ := Bool.and_eq_true_iff.mp p2
            refine Or.inr (Or.inr (Or.inr (Or.inr ⟨q, _, vs, a2, b2, ?_⟩)))
            rw [← ck_beq p2, ← ck_beq p3]
            exact p1
          · cases c2
def ck_fita (T : ck_TT) (Q : ck_Q) (F : List ck_F) (t : Nat) (a : ck_V) : Bool := match ck_lk T t with
  | none => true
  | some d => Nat.beq (d.1 % 2) 1 && ck_fits T Q F t 0 a
theorem ck_fita_ok {T : ck_TT} {Q : ck_Q} {F : List ck_F} {t : Nat} {a : ck_V} (h : ck_fita T Q F t a = true) (j : Nat) : ∀ d, ck_lk T t = some d → ∀ y, ck_yt d j = some y → ck_ft Q F a y = true := by
  intro d hd y hy
  unfold ck_fita at h
  rw [hd] at h
  obtain ⟨h1, h2⟩ := Bool.and_eq_true_iff.mp h
  rw [ck_yt_arr h1] at hy
  exact ck_fits_ok h2 d hd y hy
def ck_me (i t : Nat) (a : ck_V) (o : Option Nat) : List ck_F := match o with
  | some c => [(3, i, c, t, a)]
  | none => []
/-- nine digits stay, where such a number is written -/
def ck_m6 (Q : ck_Q) (F : List ck_F) (i t : Nat) (a : ck_V) : List ck_F := bif ck_f6 F i t && ck_ft Q F a (1, 0, 0, 999999999) then [(6, i, 0, t, (0, 0, (0, [])))] else []
/-- other rows of the cell i behind a store of a at e -/
def ck_m9 (Q : ck_Q) (F : List ck_F) (i t : Nat) (e : ck_L) (a : ck_V) : List ck_F := F.filterMap fun f => bif Nat.beq f.1 6 && (Nat.beq f.2.1 i && Nat.beq f.2.2.2.1 t) then (match f.2.2.1 with
  | 5 => bif ck_le Q.1 Q.2 (ck_add e (ck_k 1)) f.2.2.2.2.2.2 then some f else none
  | 4 => bif Nat.beq a.1 3 then (bif ck_le Q.1 Q.2 e f.2.2.2.2.2.2 then (bif ck_le Q.1 Q.2 f.2.2.2.2.2.2 e then some (6, i, 4, t, (0, 0, ck_add f.2.2.2.2.2.2 (ck_k 1))) else some f) else none) else (bif ck_le Q.1 Q.2 f.2.2.2.2.2.2 e then some f else bif ck_le Q.1 Q.2 e f.2.2.2.2.2.2 then some (6, i, 4, t, (0, 0, e)) else none)
  | _ => none) else none
theorem ck_m9_ok {g g' : ck_g} {z : Nat} {r : List Int} {s : List Nat} {Q : ck_Q} {F : List ck_F} (hF : ∀ f ∈ F, ck_fa g z r s f) (hQ : ck_ok Q r) {i t q j : Nat} {e : ck_L} {a : ck_V} {v : Value} {vs : List Value} (he : ck_Lv r e (j : Int)) (hq : s[i]? = some q) (hg : g q = some (t, vs)) (hl : j < vs.length) (ha : ck_av r s a v) (hg' : g' q = some (t, vs.set j v)) : ∀ f ∈ ck_m9 Q F i t e a, ck_fa g' z r s f := by
  intro f hf
  obtain ⟨f0, f1, f2⟩ := List.mem_filterMap.mp hf
  cases hc : (Nat.beq f0.1 6 && (Nat.beq f0.2.1 i && Nat.beq f0.2.2.2.1 t))
  · rw [hc] at f2; cases f2
  · rw [hc, cond_true] at f2
    obtain ⟨c1, c2⟩ := Bool.and_eq_true_iff.mp hc
    obtain ⟨c2, c3⟩ := Bool.and_eq_true_iff.mp c2
    have h0 := hF f0 f1
    obtain ⟨o1, o2, o3, o4, o5, o6, o7⟩ := f0
    have k1 : o1 = 6 := ck_beq c1
    have k2 : o2 = i := ck_beq c2
    have k3 : o4 = t := ck_beq c3
    clear c1 c2 c3 hc
    subst k1 k2 k3
    obtain ⟨q', vs', x, e1, e2, e3, e4⟩ := h0
    have e1 : s[o2]? = some q' := e1
    rw [hq] at e1
    cases e1
    have e2 : g q = some (o4, vs') := e2
    rw [hg] at e2
    cases e2
    have e3 : ck_Lv r o7 x := e3
    have e4 : ck_sem o3 vs x := e4
    have hset : ∀ k : Nat, (vs.set j v)[k]? = if j = k then some v else vs[k]? := fun k => by
      by_cases e : j = k
      · subst e; rw [if_pos rfl, List.getElem?_set_self hl]
      · rw [if_neg e, List.getElem?_set_ne e]
    split at f2
    · next h5 =>
      obtain ⟨d1, f2⟩ := ck_bt rfl f2
      subst f2
      have h5 : o3 = 5 := h5
      subst h5
      have d2 := ck_le_ok d1 hQ.1 hQ.2 (he.add (ck_Lv.k r 1)) e3
      refine ⟨q, _, x, hq, hg', e3, fun k u hk hu => ?_⟩
      rw [hset, if_neg (by omega)] at hu
      exact e4 k u hk hu
    · next h5 =>
      have h5 : o3 = 4 := h5
      subst h5
      cases h3 : Nat.beq a.1 3
      · rw [h3, cond_false] at f2
        cases d1 : ck_le Q.1 Q.2 o7 e
        · rw [show ck_le Q.1 Q.2 (6, o2, 4, o4, o5, o6, o7).2.2.2.2.2.2 e = ck_le Q.1 Q.2 o7 e from rfl, d1, cond_false] at f2
          obtain ⟨d2, f2⟩ := ck_bt rfl f2
          subst f2
          have d3 := ck_le_ok d2 hQ.1 hQ.2 he e3
          refine ⟨q, _, (j : Int), hq, hg', he, fun k hk => ?_⟩
          rw [hset, if_neg (by omega)]
          exact e4 k (by omega)
        · rw [show ck_le Q.1 Q.2 (6, o2, 4, o4, o5, o6, o7).2.2.2.2.2.2 e = ck_le Q.1 Q.2 o7 e from rfl, d1, cond_true] at f2
          cases f2
          have d2 := ck_le_ok d1 hQ.1 hQ.2 e3 he
          refine ⟨q, _, x, hq, hg', e3, fun k hk => ?_⟩
          rw [hset, if_neg (by omega)]
          exact e4 k hk
      · rw [h3, cond_true] at f2
        have ha3 : ∃ qq : Nat, v = .ref qq := by
          unfold ck_av at ha
          rw [ck_beq h3] at ha
          obtain ⟨qq, -, z⟩ := ha
          exact ⟨qq, z⟩
        obtain ⟨qq, hqq⟩ := ha3
        cases d1 : ck_le Q.1 Q.2 e o7
        · rw [show ck_le Q.1 Q.2 e (6, o2, 4, o4, o5, o6, o7).2.2.2.2.2.2 = ck_le Q.1 Q.2 e o7 from rfl, d1, cond_false] at f2
          cases f2
        · rw [show ck_le Q.1 Q.2 e (6, o2, 4, o4, o5, o6, o7).2.2.2.2.2.2 = ck_le Q.1 Q.2 e o7 from rfl, d1, cond_true] at f2
          cases d2 : ck_le Q.1 Q.2 o7 e
          · rw [show ck_le Q.1 Q.2 (6, o2, 4, o4, o5, o6, o7).2.2.2.2.2.2 e = ck_le Q.1 Q.2 o7 e from rfl, d2, cond_false] at f2
            cases f2
            refine ⟨q, _, x, hq, hg', e3, fun k hk => ?_⟩
            rw [hset]
            by_cases e : j = k
            · rw [if_pos e, hqq]; exact ⟨qq, rfl⟩
            · rw [if_neg e]; exact e4 k hk
          · rw [show ck_le Q.1 Q.2 (6, o2, 4, o4, o5, o6, o7).2.2.2.2.2.2 e = ck_le Q.1 Q.2 o7 e from rfl, d2, cond_true] at f2
            cases f2
            have d3 := ck_le_ok d2 hQ.1 hQ.2 e3 he
            have d4 := ck_le_ok d1 hQ.1 hQ.2 he e3
            refine ⟨q, _, x + 1, hq, hg', e3.add (ck_Lv.k r 1), fun k hk => ?_⟩
            rw [hset]
            by_cases e : j = k
            · rw [if_pos e, hqq]; exact ⟨qq, rfl⟩
            · rw [if_neg e]; exact e4 k (by omega)
    · cases f2
def ck_tB (pr : List (Nat × Nat)) (T : ck_TT) (M : List (Nat × Nat)) (rt : List Nat) (nx lo hi : Nat) (A : ck_A) : Option (List (Nat × ck_A)) := match A with
  | (V, C, F, nr, Ls, a :: (1, _, e) :: (3, i, _) :: St, ek, en) => match ck_f2 F i with
    | some f => bif ((Nat.ble lo (f.2.2.2.1 % 100) && Nat.ble (f.2.2.2.1 % 100) hi) && (Nat.blt f.2.2.2.1 40000 && ck_wr T f.2.2.2.1)) && (((ck_ge V C e && ck_le V C (ck_add e (ck_k 1)) f.2.2.2.2.2.2) && ck_sw pr (V, C) F (f.2.2.2.1 % 100) a) && (ck_mk M rt F i f.2.2.2.1 ((ck_ci e).getD 1000) && ck_fita T (V, C) F f.2.2.2.1 a)) then
        some [(nx, (V, C, ck_me i f.2.2.2.1 a (ck_ci e) ++ (ck_m6 (V, C) F i f.2.2.2.1 a ++ (ck_m9 (V, C) F i f.2.2.2.1 e a ++ F.filter (ck_kl f.2.2.2.1 (ck_ci e)))), nr, Ls, St, ek, en))] else none
    | none => none
  | _ => none
theorem ck_inM_all {M : List (Nat × Nat)} {t j : Nat} (h : ck_inM M t 1000 = true) (hj : j < 1000 ∨ ∀ m ∈ M, Nat.beq m.2 1000 = true → True) : ∃ m ∈ M, m.1 = t ∧ m.2 = 1000 := by
  obtain ⟨m, h1, h2⟩ := List.any_eq_true.mp h
  obtain ⟨h2, h3⟩ := Bool.and_eq_true_iff.mp h2
  refine ⟨m, h1, ck_beq h2, ?_⟩
  rcases Bool.or_eq_true_iff.mp h3 with h3 | h3 <;> exact ck_beq h3
theorem ck_mk_any {M : List (Nat × Nat)} {rt : List Nat} {F : List ck_F} {i t j : Nat} (h : ck_mk M rt F i t 1000 = true) : ck_mk M rt F i t j = true := by
  unfold ck_mk at h ⊢
  rcases Bool.or_eq_true_iff.mp h with h | h
  · obtain ⟨m, h1, h2, h3⟩ := ck_inM_all (j := j) h (Or.inr fun _ _ _ => trivial)
    refine Bool.or_eq_true_iff.mpr (Or.inl (List.any_eq_true.mpr ⟨m, h1, ?_⟩))
    rw [h2, h3]
    simp
  · exact Bool.or_eq_true_iff.mpr (Or.inr h)
theorem ck_tB_ok {pr : List (Nat × Nat)} {w : ck_W} (hX : ck_XO w.2.1) (hX0 : ck_X0 w.2.1) {rt : List Nat} (hR : ck_Rt w rt) {S : ck_SS} {pc nx lo hi : Nat} {A : ck_A} {l : List (Nat × ck_A)} (hs : ck_sB w.1 pr S pc nx lo hi) (ht : ck_tB pr w.2.2.1 w.2.2.2.2.2.2.2.1 rt nx lo hi A = some l) (hK : ck_K w S l)
    {r : List Int} {s : List Nat} {L : List (Option Value)} {st : List Value} {h : List am_C} {k n : Nat} (H : ck_Ga w A r s L st h k n) : S pc L st h k n := by
  unfold ck_tB at ht
  split at ht
  · next V C F nr Ls a i0 e i u St ek en =>
    obtain ⟨h1, h2, h3, h4, hL, hS, h7, h8, h9⟩ := id H
    match st, hS with
    | v :: v1 :: v0 :: st, hS =>
      have ha := hS.1
      obtain ⟨x, rfl, gx⟩ := hS.2.1.int rfl
      obtain ⟨q, g1, rfl⟩ := hS.2.2.1
      split at ht
      · next f hf =>
        obtain ⟨q', vs, g2, g3, g4⟩ := ck_f2_ok h3 hf
        rw [g1] at g2
        cases g2
        obtain ⟨hc, ht⟩ := ck_bt rfl ht
        cases ht
        obtain ⟨c1, c2⟩ := Bool.and_eq_true_iff.mp hc
        obtain ⟨c1, c3⟩ := Bool.and_eq_true_iff.mp c1
        obtain ⟨c1, c4⟩ := Bool.and_eq_true_iff.mp c1
        obtain ⟨c3, c5⟩ := Bool.and_eq_true_iff.mp c3
        obtain ⟨c2, c6⟩ := Bool.and_eq_true_iff.mp c2
        obtain ⟨c6, c9⟩ := Bool.and_eq_true_iff.mp c6
        obtain ⟨c2, c7⟩ := Bool.and_eq_true_iff.mp c2
        obtain ⟨c2, c8⟩ := Bool.and_eq_true_iff.mp c2
        have k1 := ck_ge_ok c2 h1 h2 gx
        have k2 := ck_le_ok c8 h1 h2 (gx.add (ck_Lv.k r 1)) g4
        have hjl : x.toInt.toNat < vs.length := by omega
        have hci : ck_ci e = none ∨ ck_ci e = some x.toInt.toNat := by
          cases he : ck_ci e with
          | none => exact Or.inl rfl
          | some c =>
            have := ck_ci_ok he gx
            exact Or.inr (by rw [show c = x.toInt.toNat by omega])
        have hmk : ck_mk w.2.2.2.2.2.2.2.1 rt F i f.2.2.2.1 x.toInt.toNat = true := by
          rcases hci with e1 | e1
          · rw [e1] at c6; exact ck_mk_any c6
          · rw [e1] at c6; exact c6
        obtain ⟨p1, p2, p3, p4⟩ := ck_put_ok hX hX0 hR (j := x.toInt.toNat) (jk := ck_ci e) h3 h9 ⟨h1, h2⟩ g1 g3 ha (fun j' _ e1 => by rw [← e1]; exact hmk) hci (Nat.blt_eq.mp c3) c5 (ck_fita_ok c9 _)
        refine hs L st h k n q _ x vs v p1 g3 (Nat.le_of_ble_eq_true c1) (Nat.le_of_ble_eq_true c4) k1 hjl (ck_sw_ok c7 h3 ⟨h1, h2⟩ ha) (hK _ (List.mem_singleton.mpr rfl) r s L st _ k n ⟨h1, h2, fun f' hf' => ?_, h4, hL, hS.2.2.2, h7, h8, p2⟩)
        rcases List.mem_append.mp hf' with e1 | e1
        · rcases hci with e2 | e2
          · rw [e2] at e1; cases e1
          · rw [e2] at e1
            rw [List.mem_singleton.mp e1]
            exact ⟨q, _, v, g1, p4, List.getElem?_set_self hjl, ha⟩
        · rcases List.mem_append.mp e1 with e1 | e1
          · unfold ck_m6 at e1
            cases hc6 : (ck_f6 F i f.2.2.2.1 && ck_ft (V, C) F a (1, 0, 0, 999999999))
            · rw [hc6] at e1; cases e1
            · rw [hc6, cond_true] at e1
              obtain ⟨d1, d2⟩ := Bool.and_eq_true_iff.mp hc6
              have d3 := ck_f6_ok h3 d1 g1 g3
              have d4 : ∃ x : Int32, v = .int x ∧ 0 ≤ x.toInt ∧ x.toInt ≤ 999999999 := ck_ft_ok (K := w.2.2.2.1) h3 ⟨h1, h2⟩ d2 ha
              rw [List.mem_singleton.mp e1]
              refine ⟨q, _, 0, g1, p4, ck_Lv.k r 0, fun j' v' hv' => ?_⟩
              by_cases e9 : x.toInt.toNat = j'
              · subst e9
                rw [List.getElem?_set_self hjl] at hv'
                cases hv'
                exact d4
              · rw [List.getElem?_set_ne e9] at hv'
                exact d3 j' v' hv'
          · rcases List.mem_append.mp e1 with e1 | e1
            · exact ck_m9_ok h3 ⟨h1, h2⟩ (j := x.toInt.toNat) (by rw [show ((x.toInt.toNat : Nat) : Int) = x.toInt by omega]; exact gx) g1 g3 hjl ha p4 f' e1
            · exact p3 f' e1
      · cases ht
  · cases ht
-- new cells
def ck_d0 (d : Nat) : Value := match d with
  | 0 => .int 0
  | 1 => .long 0
  | _ => .null
def ck_da (d : Nat) : ck_V := match d with
  | 0 => (1, 0, (0, []))
  | 1 => (2, 0, (0, []))
  | _ => (4, 0, (0, []))
theorem ck_da_ok (r : List Int) (s : List Nat) (d : Nat) : ck_av r s (ck_da d) (ck_d0 d) := by
  match d with
  | 0 => exact ⟨0, rfl, ck_Lv.k r 0⟩
  | 1 => exact ⟨0, rfl, ck_Lv.k r 0⟩
  | n + 2 => rfl
def ck_dm (i t : Nat) : Nat → List Nat → List ck_F
  | _, [] => []
  | j, d :: u => (3, i, j, t, ck_da d) :: ck_dm i t (j + 1) u
theorem ck_dm_ok {g : ck_g} {z : Nat} {r : List Int} {s : List Nat} {i t q : Nat} {ds : List Nat} (hq : s[i]? = some q) (hg : g q = some (t, ds.map ck_d0)) : ∀ (j : Nat) (u : List Nat), ds.drop j = u → ∀ f ∈ ck_dm i t j u, ck_fa g z r s f := by
  intro j u
  induction u generalizing j with
  | nil => intro _ f hf; cases hf
  | cons d u ih =>
    intro e f hf
    rcases List.mem_cons.mp hf with hf | hf
    · rw [hf]
      have h1 : ds[j]? = some d := by rw [← List.head?_drop, e]; rfl
      exact ⟨q, _, ck_d0 d, hq, hg, by rw [List.getElem?_map, h1]; rfl, ck_da_ok r s d⟩
    · refine ih (j + 1) ?_ f hf
      rw [← List.drop_drop, e]
      rfl
def ck_sW (S : ck_SS) (Rc Rs : Nat) (pc nx ci : Nat) (ds : List Nat) : Prop := ∀ (t : Nat) (L : List (Option Value)) (st : List Value) (h : List am_C) (k n : Nat), t % 100 = ci → k + 1 ≤ Rc → n + ds.length ≤ Rs → S nx L (.ref (1000 + h.length) :: st) (h ++ [(t, ds.map ck_d0)]) (k + 1) (n + ds.length) → S pc L st h k n
def ck_tW (T : ck_TT) (eC eS : ck_L) (nx ci t : Nat) (ds : List Nat) (A : ck_A) : Option (List (Nat × ck_A)) := match A with
  | (V, C, F, nr, Ls, St, ek, en) => bif (Nat.beq (t % 100) ci && (Nat.blt t 1000 && (match ck_lk T t with
    | none => true
    | some _ => false))) && (ck_le V C (ck_add ek (ck_k 1)) eC && ck_le V C (ck_add en (ck_k ds.length)) eS) then
      some [(nx, (V ++ [], [] ++ C, ((2, nr, 0, t, (0, 0, ck_k ds.length)) :: (5, nr, 0, 0, (0, 0, (0, []))) :: ck_dm nr t 0 ds) ++ F, nr + 1, Ls, (3, nr, (0, [])) :: St, ck_add ek (ck_k 1), ck_add en (ck_k ds.length)))] else none
def ck_Rm (w : ck_W) (eC eS : ck_L) (Rc Rs : Nat) : Prop := ck_Lv w.2.2.2.2.2.1 eC (Rc : Int) ∧ ck_Lv w.2.2.2.2.2.1 eS (Rs : Int)
theorem ck_Rm.at {w : ck_W} {eC eS : ck_L} {Rc Rs : Nat} (h : ck_Rm w eC eS Rc Rs) {r : List Int} {s : List Nat} {hh : List am_C} (H : ck_Hp w r s hh) : ck_Lv r eC (Rc : Int) ∧ ck_Lv r eS (Rs : Int) := by
  obtain ⟨q, e⟩ := H.2.2.2.1
  rw [e]
  exact ⟨h.1.app q, h.2.app q⟩
theorem ck_Ga.made {w : ck_W} {A : ck_A} {r : List Int} {s : List Nat} {L : List (Option Value)} {st : List Value} {h : List am_C} {k n : Nat} (H : ck_Ga w A r s L st h k n) {t : Nat} {vs : List Value} (hp : ck_Hp w r s (h ++ [(t, vs)])) : ck_Ga w A r s L st (h ++ [(t, vs)]) k n := by
  obtain ⟨h1, h2, h3, h4, h5, h6, h7, h8, h9⟩ := H
  refine ⟨h1, h2, fun f hf => (h3 f hf).heap fun q1 t1 vs1 e1 e2 => ?_, h4, h5, h6, h7, h8, hp⟩
  refine ⟨vs1, ?_, rfl, fun _ => rfl, fun _ => rfl⟩
  rw [am_g_new, if_neg (fun e => ?_)]
  · exact e1
  · rw [e] at e1
    unfold am_g at e1
    rw [if_neg (by omega), List.getElem?_eq_none (by omega)] at e1
    cases e1
theorem ck_Ga.count {w : ck_W} {V : ck_I} {C : List ck_L} {F : List ck_F} {nr : Nat} {Ls St : List ck_V} {k n : Nat} {ek en : ck_L} {r : List Int} {s : List Nat} {L : List (Option Value)} {st : List Value} {h : List am_C}
    (H : ck_Ga w (V, C, F, nr, Ls, St, ek, en) r s L st h k n) {k' n' : Nat} {ek' en' : ck_L} (hk : ck_Lv r ek' (k' : Int)) (hn : ck_Lv r en' (n' : Int)) : ck_Ga w (V, C, F, nr, Ls, St, ek', en') r s L st h k' n' := by
  obtain ⟨h1, h2, h3, h4, h5, h6, -, -, h9⟩ := H
  exact ⟨h1, h2, h3, h4, h5, h6, hk, hn, h9⟩
theorem ck_tW_ok {w : ck_W} (hX : ck_XO w.2.1) (hX0 : ck_X0 w.2.1) {eC eS : ck_L} {Rc Rs : Nat} (hR : ck_Rm w eC eS Rc Rs) {S : ck_SS} {pc nx ci t : Nat} {ds : List Nat} {A : ck_A} {l : List (Nat × ck_A)} (hs : ck_sW S Rc Rs pc nx ci ds) (ht : ck_tW w.2.2.1 eC eS nx ci t ds A = some l) (hK : ck_K w S l)
    {r : List Int} {s : List Nat} {L : List (Option Value)} {st : List Value} {h : List am_C} {k n : Nat} (H : ck_Ga w A r s L st h k n) : S pc L st h k n := by
  obtain ⟨V, C, F, nr, Ls, St, ek, en⟩ := A
  unfold ck_tW at ht
  dsimp only at ht
  obtain ⟨hc, ht⟩ := ck_bt rfl ht
  cases ht
  obtain ⟨h1, h2, h3, h4, hL, hS, h7, h8, h9⟩ := id H
  obtain ⟨c1, c2⟩ := Bool.and_eq_true_iff.mp hc
  obtain ⟨c1, c3⟩ := Bool.and_eq_true_iff.mp c1
  obtain ⟨c3, c4⟩ := Bool.and_eq_true_iff.mp c3
  obtain ⟨c2, c5⟩ := Bool.and_eq_true_iff.mp c2
  obtain ⟨m1, m2⟩ := hR.at h9
  have k1 := h7.add (ck_Lv.k r 1)
  have k2 := h8.add (ck_Lv.k r (ds.length : Int))
  have b1 := ck_le_ok c2 h1 h2 k1 m1
  have b2 := ck_le_ok c5 h1 h2 k2 m2
  have hno : ck_lk w.2.2.1 t = none := by
    cases e : ck_lk w.2.2.1 t with
    | none => rfl
    | some d => rw [e] at c4; cases c4
  have hp : ck_Hp w r s (h ++ [(t, ds.map ck_d0)]) := h9.make hX hX0 (by have := Nat.blt_eq.mp c3; omega) (fun g' d hd => by rw [hno] at hd; cases hd)
  have hgn : am_g w.1 (h ++ [(t, ds.map ck_d0)]) (1000 + h.length) = some (t, ds.map ck_d0) := by rw [am_g_new, if_pos rfl]
  have sl : (s ++ [1000 + h.length])[nr]? = some (1000 + h.length) := by rw [← show s.length = nr from h4, List.getElem?_append_right (Nat.le_refl _)]; simp
  refine hs t L st h k n (ck_beq c1) (by omega) (by omega) (hK _ (List.mem_singleton.mpr rfl) (r ++ []) (s ++ [1000 + h.length]) L _ _ _ _ (ck_Ga.more ((H.made hp).count (k' := k + 1) (n' := n + ds.length) (by exact k1) (by exact k2)) ck_In.nil (fun c hc => (nomatch hc)) (fun f hf => ?_) rfl (hL.app _ _) ⟨⟨_, sl, rfl⟩, hS.app _ _⟩))
  rcases List.mem_cons.mp hf with e | hf
  · rw [e]
    exact ⟨_, _, sl, hgn, by rw [List.length_map]; exact ck_Lv.k _ _⟩
  · rcases List.mem_cons.mp hf with e | hf
    · rw [e]
      exact ⟨_, sl, by unfold ck_z; have := h9.2.2.1; omega⟩
    · exact ck_dm_ok sl hgn 0 ds rfl f hf
def ck_sE (S : ck_SS) (Rc Rs : Nat) (pc nx kq : Nat) (d : Nat) : Prop := ∀ (t : Nat) (L : List (Option Value)) (st : List Value) (h : List am_C) (x : Int32) (N k n : Nat), t % 100 = kq → x.toInt = (N : Int) → N ≤ 1000000 → k + 1 ≤ Rc → n + N ≤ Rs → S nx L (.ref (1000 + h.length) :: st) (h ++ [(t, List.replicate N (ck_d0 d))]) (k + 1) (n + N) → S pc L (.int x :: st) h k n
/-- a made array fits its kind -/
def ck_fe (T : ck_TT) (Q : ck_Q) (t d : Nat) (e : ck_L) : Bool := match ck_lk T t with
  | none => true
  | some D => Nat.beq (D.1 % 2) 1 && ((ck_le Q.1 Q.2 (ck_k D.2.1) e && ck_le Q.1 Q.2 e (ck_k D.2.2.1)) && (match ck_yt D 0 with
    | some y => (Nat.blt d 2 && (Nat.beq y.1 (d + 1) && (ck_nn (-y.2.2.1) && ck_nn y.2.2.2))) || (Nat.beq d 2 && (Nat.beq y.1 5 && Nat.ble 1000 y.2.1))
    | none => false))
/-- kinds of 500 to 999: zeros, no references yet -/
def ck_e9 (i t d : Nat) : List ck_F := bif Nat.ble 500 t && Nat.blt t 1000 then (match d with
  | 0 => [(6, i, 5, t, (0, 0, (0, [])))]
  | 2 => [(6, i, 4, t, (0, 0, (0, [])))]
  | _ => []) else []
theorem ck_e9_ok {g : ck_g} {z : Nat} {r : List Int} {s : List Nat} {i q t d N : Nat} (hq : s[i]? = some q) (hg : g q = some (t, List.replicate N (ck_d0 d))) : ∀ f ∈ ck_e9 i t d, ck_fa g z r s f := by
  intro f hf
  unfold ck_e9 at hf
  cases hc : (Nat.ble 500 t && Nat.blt t 1000)
  · rw [hc] at hf; cases hf
  · rw [hc, cond_true] at hf
    match d, hf, hg with
    | 0, hf, hg =>
      rw [List.mem_singleton.mp hf]
      refine ⟨q, _, 0, hq, hg, ck_Lv.k r 0, fun k v _ hv => ?_⟩
      rw [List.getElem?_replicate] at hv
      split at hv
      · cases hv; rfl
      · cases hv
    | 1, hf, hg => cases hf
    | 2, hf, hg =>
      rw [List.mem_singleton.mp hf]
      exact ⟨q, _, 0, hq, hg, ck_Lv.k r 0, fun k hk => by omega⟩
    | n + 3, hf, hg => cases hf
def ck_tE (T : ck_TT) (eC eS : ck_L) (nx kq t d : Nat) (A : ck_A) : Option (List (Nat × ck_A)) := match A with
  | (V, C, F, nr, Ls, (1, _, e) :: St, ek, en) => bif (Nat.beq (t % 100) kq && (Nat.blt t 40000 && (ck_ge V C e && ck_le V C e (ck_k 1000000)))) && ((ck_le V C (ck_add ek (ck_k 1)) eC && ck_le V C (ck_add en e) eS) && ck_fe T (V, C) t d e) then
      some [(nx, (V ++ [], [] ++ C, ((2, nr, 0, t, (0, 0, e)) :: (5, nr, 0, 0, (0, 0, (0, []))) :: ck_e9 nr t d) ++ F, nr + 1, Ls, (3, nr, (0, [])) :: St, ck_add ek (ck_k 1), ck_add en e))] else none
  | _ => none
theorem ck_tE_ok {w : ck_W} (hX : ck_XO w.2.1) (hX0 : ck_X0 w.2.1) {eC eS : ck_L} {Rc Rs : Nat} (hR : ck_Rm w eC eS Rc Rs) {S : ck_SS} {pc nx kq t d : Nat} {A : ck_A} {l : List (Nat × ck_A)} (hs : ck_sE S Rc Rs pc nx kq d) (ht : ck_tE w.2.2.1 eC eS nx kq t d A = some l) (hK : ck_K w S l)
    {r : List Int} {s : List Nat} {L : List (Option Value)} {st : List Value} {h : List am_C} {k n : Nat} (H : ck_Ga w A r s L st h k n) : S pc L st h k n := by
  unfold ck_tE at ht
  split at ht
  · next V C F nr Ls i0 e St ek en =>
    obtain ⟨hc, ht⟩ := ck_bt rfl ht
    cases ht
    obtain ⟨h1, h2, h3, h4, hL, hS, h7, h8, h9⟩ := id H
    match st, hS with
    | v1 :: st, hS =>
      obtain ⟨x, rfl, gx⟩ := hS.1.int rfl
      obtain ⟨c1, c2⟩ := Bool.and_eq_true_iff.mp hc
      obtain ⟨c1, c3⟩ := Bool.and_eq_true_iff.mp c1
      obtain ⟨c3, c4⟩ := Bool.and_eq_true_iff.mp c3
      obtain ⟨c4, c5⟩ := Bool.and_eq_true_iff.mp c4
      obtain ⟨c2, c6⟩ := Bool.and_eq_true_iff.mp c2
      obtain ⟨c2, c7⟩ := Bool.and_eq_true_iff.mp c2
      obtain ⟨m1, m2⟩ := hR.at h9
      have k1 := h7.add (ck_Lv.k r 1)
      have k2 := h8.add gx
      have b1 := ck_le_ok c2 h1 h2 k1 m1
      have b2 := ck_le_ok c7 h1 h2 k2 m2
      have b3 := ck_ge_ok c4 h1 h2 gx
      have b4 := ck_le_ok c5 h1 h2 gx (ck_Lv.k r _)
      obtain ⟨N, hN⟩ : ∃ N : Nat, x.toInt = (N : Int) := ⟨x.toInt.toNat, by omega⟩
      have gx' : ck_Lv r e (N : Int) := by rw [← hN]; exact gx
      have hp : ck_Hp w r s (h ++ [(t, List.replicate N (ck_d0 d))]) := by
        refine h9.make hX hX0 (Nat.blt_eq.mp c3) (fun g' D hd => ?_)
        unfold ck_fe at c6
        rw [hd] at c6
        obtain ⟨e1, e2⟩ := Bool.and_eq_true_iff.mp c6
        obtain ⟨e2, e3⟩ := Bool.and_eq_true_iff.mp e2
        obtain ⟨e2, e4⟩ := Bool.and_eq_true_iff.mp e2
        refine ⟨by rw [List.length_replicate]; exact ⟨ck_le_ok e2 h1 h2 (ck_Lv.k r _) gx', ck_le_ok e4 h1 h2 gx' (ck_Lv.k r _)⟩, fun j v hv => ?_⟩
        have hv : v = ck_d0 d := by
          rw [List.getElem?_replicate] at hv
          split at hv
          · cases hv; rfl
          · cases hv
        rw [ck_yt_arr e1]
        split at e3
        · next y hy =>
          refine ⟨y, hy, ?_⟩
          rw [hv]
          unfold ck_ty
          rcases Bool.or_eq_true_iff.mp e3 with e3 | e3
          · obtain ⟨f1, f2⟩ := Bool.and_eq_true_iff.mp e3
            obtain ⟨f2, f3⟩ := Bool.and_eq_true_iff.mp f2
            obtain ⟨f3, f4⟩ := Bool.and_eq_true_iff.mp f3
            have f3 := ck_nn_ok f3
            have f4 := ck_nn_ok f4
            rw [ck_beq f2]
            have hd2 : d < 2 := Nat.blt_eq.mp f1
            match d, hd2 with
            | 0, _ => exact ⟨0, rfl, by show y.2.2.1 ≤ 0; omega, f4⟩
            | 1, _ => exact ⟨0, rfl, by show y.2.2.1 ≤ 0; omega, f4⟩
          · obtain ⟨f1, f2⟩ := Bool.and_eq_true_iff.mp e3
            obtain ⟨f2, f3⟩ := Bool.and_eq_true_iff.mp f2
            rw [ck_beq f2, ck_beq f1]
            exact ⟨Nat.le_of_ble_eq_true f3, Or.inl rfl⟩
        · cases e3
      have hgn : am_g w.1 (h ++ [(t, List.replicate N (ck_d0 d))]) (1000 + h.length) = some (t, List.replicate N (ck_d0 d)) := by rw [am_g_new, if_pos rfl]
      have sl : (s ++ [1000 + h.length])[nr]? = some (1000 + h.length) := by rw [← show s.length = nr from h4, List.getElem?_append_right (Nat.le_refl _)]; simp
      refine hs t L st h x N k n (ck_beq c1) hN (by omega) (by omega) (by omega) (hK _ (List.mem_singleton.mpr rfl) (r ++ []) (s ++ [1000 + h.length]) L _ _ _ _ (ck_Ga.more ((H.made hp).count (k' := k + 1) (n' := n + N) (by exact k1) (by rw [hN] at k2; exact k2)) ck_In.nil (fun c hc => (nomatch hc)) (fun f hf => ?_) rfl (hL.app _ _) ⟨⟨_, sl, rfl⟩, hS.2.app _ _⟩))
      rcases List.mem_cons.mp hf with e1 | hf
      · rw [e1]
        exact ⟨_, _, sl, hgn, by rw [List.length_replicate]; exact gx'.app _⟩
      · rcases List.mem_cons.mp hf with e1 | hf
        · rw [e1]
          exact ⟨_, sl, by unfold ck_z; have := h9.2.2.1; omega⟩
        · exact ck_e9_ok sl hgn f hf
  · cases ht
