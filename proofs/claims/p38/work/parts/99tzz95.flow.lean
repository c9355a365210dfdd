/-! THE LAW'S INSTRUCTIONS OVER SYMBOLS -/
def cs_F : List cs_S := [(1, 0), (2, 0), (3, 0), (4, 0), (5, 0), (0, 0), (0, 0)]
def cs_A3 : List cs_S := [(1, 0), (2, 0), (3, 0), (4, 0), (0, 0), (0, 0), (0, 0)]
def cs_A2 : List cs_S := [(1, 0), (2, 0), (3, 0), (0, 0), (0, 0), (0, 0), (0, 0)]
def cs_A1 : List cs_S := [(1, 0), (2, 0), (0, 0), (0, 0), (0, 0), (0, 0), (0, 0)]
def cs_A0 : List cs_S := [(1, 0), (0, 0), (0, 0), (0, 0), (0, 0), (0, 0), (0, 0)]
def cs_nl : List Nat → List Nat → Bool
  | [], [] => true
  | a :: u, b :: w => Nat.beq a b && cs_nl u w
  | _, _ => false
theorem cs_nl_ok : ∀ {a b : List Nat}, cs_nl a b = true → a = b := by
  intro a
  induction a with
  | nil =>
    intro b h
    cases b with
    | nil => rfl
    | cons y_ z_ => cases h
  | cons x_ u_ ih =>
    intro b h
    cases b with
    | nil => cases h
    | cons y_ z_ =>
      obtain ⟨h1_, h2_⟩ := Bool.and_eq_true_iff.mp h
      rw [ih h2_, ck_beq h1_]
/-- new cells -/
def cs_nw (f : Nat) (ds : List Nat) (e : cs_T) : Option cs_T := match f, e with
  | 15, ((0, _), A, []) => bif cs_eL A cs_A0 && cs_nl ds [2, 2, 0, 0, 0, 2, 2, 2, 2, 2, 2, 2, 2] then some ((1, 0), A, [(2, 0)]) else none
  | 19, ((2, _), A, []) => bif cs_eL A cs_A1 && cs_nl ds [0, 2, 2, 0, 0, 0] then some ((3, 0), A, [(3, 0)]) else none
  | 16, ((4, _), A, []) => bif cs_eL A cs_A2 && cs_nl ds [1, 2] then some ((5, 0), A, [(4, 0)]) else none
  | _, _ => none
/-- the script's place is set -/
def cs_i4 (e : cs_T) : Option cs_T := match e with
  | ((6, _), A, [_]) => bif cs_eL A cs_A3 then some ((6, 0), cs_F, []) else none
  | _ => none
/-- the script's place grows -/
def cs_c4 (e : cs_T) : Option cs_T := match e with
  | ((6, _), A, []) => bif cs_eL A cs_F then some ((6, 0), cs_F, []) else none
  | _ => none
/-- where a branch leads: what was thrown is nothing; an answer that is 0 or 1 -/
def cs_tg (f : Nat) (s : cs_S) (p : Nat × Nat) : Nat × Nat := bif Nat.beq f 0 && (Nat.beq s.1 12 && (Nat.beq p.1 9 && cs_isb p.2)) then (11, 0) else p
def cs_nx (f : Nat) (s : cs_S) (p : Nat × Nat) : Nat × Nat := bif Nat.beq f 1 && (Nat.beq s.1 11 && Nat.beq p.1 8) then (9, p.2) else bif Nat.beq f 0 && (Nat.beq s.1 12 && (Nat.beq p.1 9 && cs_isb p.2)) then (12, 0) else p
def cs_lk (p : Nat × Nat) (v : Int) : cs_S := bif (Nat.beq p.1 11 && decide (v = 0)) || (Nat.beq p.1 12 && decide (v = 1)) then (13, 0) else (0, 0)
/-- both answers compared -/
def cs_lc (e : cs_T) : Option cs_T := match e with
  | ((9, n), A, (14, _) :: (13, _) :: U) => some ((9, n), A, (6, 0) :: U)
  | (p, A, (13, _) :: (13, _) :: U) => some (p, A, (6, 0) :: U)
  | (p, A, _ :: _ :: U) => some (p, A, (0, 0) :: U)
  | _ => none
/-- what is asked for may know less -/
def cs_leL : List cs_S → List cs_S → Bool
  | [], [] => true
  | a :: u, b :: w => (Nat.beq b.1 0 || cs_e1 a b) && cs_leL u w
  | _, _ => false
def cs_leP (a b : Nat × Nat) : Bool := (Nat.beq a.1 b.1 && Nat.beq a.2 b.2) || (Nat.beq b.1 6 && (Nat.beq a.1 6 || (Nat.beq a.1 8 || (Nat.beq a.1 9 || (Nat.beq a.1 11 || Nat.beq a.1 12)))))
def cs_le (a b : cs_T) : Bool := cs_leP a.1 b.1 && (cs_leL a.2.1 b.2.1 && cs_eL a.2.2 b.2.2)
theorem cs_e1_ok {a b : cs_S} (h : cs_e1 a b = true) : a = b := by
  obtain ⟨h3_, h4_⟩ := Bool.and_eq_true_iff.mp h
  exact Prod.ext (ck_beq h3_) (of_decide_eq_true h4_)
theorem cs_leL_ok {G : am_G} {u : cs_E} : ∀ {A B : List cs_S} {L : List (Option Value)}, cs_leL A B = true → cs_lo G u A L → cs_lo G u B L := by
  intro A
  induction A with
  | nil =>
    intro B L hb h
    cases B with
    | nil => exact h
    | cons y_ z_ => cases hb
  | cons a_ A_ ih =>
    intro B L hb h
    cases B with
    | nil => cases hb
    | cons b_ B_ =>
      obtain ⟨h1_, h2_⟩ := Bool.and_eq_true_iff.mp hb
      intro j s hs
      cases j with
      | zero =>
        have s_ : some b_ = some s := hs
        cases s_
        rcases Bool.or_eq_true_iff.mp h1_ with y_ | y_
        · exact Or.inl (ck_beq y_)
        · rw [← cs_e1_ok y_]
          exact h 0 a_ rfl
      | succ n_ =>
        have s_ : B_[n_]? = some s := by
          rw [List.getElem?_cons_succ] at hs
          exact hs
        have t_ : cs_lo G u A_ L.tail := fun j2 s2 hs2 => by
          have k_ := h (j2 + 1) s2 (by rw [List.getElem?_cons_succ]; exact hs2)
          rw [List.getElem?_tail]
          exact k_
        have k_ := ih h2_ t_ n_ s s_
        rw [List.getElem?_tail] at k_
        exact k_
theorem cs_leP_ok {G : am_G} {u : cs_E} {a b : Nat × Nat} {h : List am_C} (hb : cs_leP a b = true) (p : cs_ph G a u h) : cs_ph G b u h := by
  rcases Bool.or_eq_true_iff.mp hb with y_ | y_
  · obtain ⟨h3_, h4_⟩ := Bool.and_eq_true_iff.mp y_
    have e_ : a = b := Prod.ext (ck_beq h3_) (ck_beq h4_)
    rw [← e_]
    exact p
  · obtain ⟨a1, a2⟩ := a
    obtain ⟨b1, b2⟩ := b
    obtain ⟨h3_, h4_⟩ := Bool.and_eq_true_iff.mp y_
    have b_ : b1 = 6 := ck_beq h3_
    subst b_
    rcases Bool.or_eq_true_iff.mp h4_ with z_ | z_
    · have a_ : a1 = 6 := ck_beq z_
      subst a_
      exact p
    · rcases Bool.or_eq_true_iff.mp z_ with z2_ | z2_
      · have a_ : a1 = 8 := ck_beq z2_
        subst a_
        obtain ⟨n0_, w_, -⟩ := p
        exact w_.k
      · rcases Bool.or_eq_true_iff.mp z2_ with z3_ | z3_
        · have a_ : a1 = 9 := ck_beq z3_
          subst a_
          exact p.1.k
        · rcases Bool.or_eq_true_iff.mp z3_ with z4_ | z4_
          · have a_ : a1 = 11 := ck_beq z4_
            subst a_
            exact p.1.k
          · have a_ : a1 = 12 := ck_beq z4_
            subst a_
            exact p.1.k
theorem cs_le_ok {G : am_G} {a b : cs_T} {L : List (Option Value)} {w : List Value} {h : List am_C} (hb : cs_le a b = true) (I : cs_is G a L w h) : cs_is G b L w h := by
  obtain ⟨h1_, h2_⟩ := Bool.and_eq_true_iff.mp hb
  obtain ⟨h3_, h4_⟩ := Bool.and_eq_true_iff.mp h2_
  obtain ⟨u_, p_, lo_, st_⟩ := I
  refine ⟨u_, cs_leP_ok h1_ p_, cs_leL_ok h3_ lo_, ?_⟩
  rw [← cs_eL_ok h4_]
  exact st_
/-- a row of the law's table holds -/
def cs_at (tb : Nat → Option cs_T) (pc : Nat) (e : cs_T) : Bool := match tb pc with
  | some d => cs_le e d
  | none => false
theorem cs_wk {G : am_G} {tb : Nat → Option cs_T} {pc : Nat} {e : cs_T} {L : List (Option Value)} {w : List Value} {h : List am_C} (hb : cs_at tb pc e = true) (I : cs_is G e L w h) : cs_I G tb pc L w h := by
  unfold cs_at at hb
  split at hb
  · next d_ hd_ => exact ⟨d_, hd_, cs_le_ok hb I⟩
  · cases hb
def cs_stp (o : ck_O) (e : cs_T) : Option (List (Nat × cs_T)) := match o with
  | (c, f, f2, v, nx, tg, ex) => match c with
    | 0 => bif Nat.beq f 6 && Nat.beq f2 4 then (cs_i4 e).map fun z => [(nx, z)] else bif Nat.beq f 21 then (cs_lc e).map fun z => [(nx, z)] else bif Nat.beq f 1 then some [(nx, (e.1, e.2.1, cs_lk e.1 v :: e.2.2))] else bif Nat.beq f 9 then (bif Nat.beq f2 4 then (cs_c4 e).map fun z => [(nx, z)] else none) else (cs_p f f2 v e.2.1 e.2.2).map fun z => [(nx, (e.1, z.1, z.2))]
    | 1 => match e.2.2 with
      | s :: U => some [(tg, (cs_tg f s e.1, e.2.1, U)), (nx, (cs_nx f s e.1, e.2.1, U))]
      | _ => none
    | 2 => match e.2.2 with
      | _ :: _ :: U => some [(tg, (e.1, e.2.1, U)), (nx, (e.1, e.2.1, U))]
      | _ => none
    | 3 => some [(tg, e)]
    | 6 => match e.2.2 with
      | _ :: U => some ((tg, (e.1, e.2.1, U)) :: ex.map fun q => (q.2, (e.1, e.2.1, U)))
      | _ => none
    | 7 => match e.2.2 with
      | s :: U => some [(nx, (e.1, e.2.1, (bif Nat.beq s.1 4 && (Nat.beq e.1.1 9 && (Nat.beq f 16 && Nat.beq f2 0)) then (13, 0) else (0, 0)) :: U))]
      | _ => none
    | 9 => (cs_nw f (ex.map fun q => q.2) e).map fun z => [(nx, z)]
    | 11 => match e.2.2 with
      | _ :: U => some [(nx, (e.1, e.2.1, (0, 0) :: U))]
      | _ => none
    | 12 => match e.2.2 with
      | a :: b :: U => some [(nx, (e.1, e.2.1, cs_ld a b :: U))]
      | _ => none
    | 14 => some []
    | _ => none
section CSF
variable {G : am_G} {u : cs_E} {L : List (Option Value)} {w : List Value} {h : List am_C}
theorem cs_v.i4 {s : cs_S} {v : Value} (k : cs_v G u s v) (h4 : s.1 ≤ 4) (x : Int32) : cs_v G (u.1, u.2.1, u.2.2.1, x, u.2.2.2.2) s v := by
  obtain ⟨s1, s2⟩ := s
  have h4_ : s1 ≤ 4 := h4
  match s1, h4_, k with
  | 0, _, _ => trivial
  | 1, _, k =>
    have k_ : v = .ref 0 := k
    exact k_
  | 2, _, k =>
    have k_ : v = .ref u.1 := k
    exact k_
  | 3, _, k =>
    have k_ : v = .ref u.2.1 := k
    exact k_
  | 4, _, k =>
    have k_ : v = .ref u.2.2.1 := k
    exact k_
  | n_ + 5, h4_, _ => exact absurd h4_ (by omega)
theorem cs_lo.i4 {s : cs_S} (lo : cs_lo G u [(1, 0), (2, 0), (3, 0), (4, 0), s, (0, 0), (0, 0)] L) (hl : 4 < L.length) (x : Int32) : cs_lo G (u.1, u.2.1, u.2.2.1, x, u.2.2.2.2) cs_F (am_put1 L 4 (.int x)) := by
  have k_ : ∀ (j : Nat) (s2 : cs_S), ([(1, 0), (2, 0), (3, 0), (4, 0), s, (0, 0), (0, 0)] : List cs_S)[j]? = some s2 → s2.1 ≤ 4 → s2.1 = 0 ∨ (s2.1 ≤ 12 ∧ ∃ v : Value, L[j]? = some (some v) ∧ cs_v G (u.1, u.2.1, u.2.2.1, x, u.2.2.2.2) s2 v) := fun j s2 hs h4 => (lo j s2 hs).imp id fun ⟨hl, v, h1, h2⟩ => ⟨hl, v, h1, h2.i4 h4 x⟩
  have a_ : cs_lo G (u.1, u.2.1, u.2.2.1, x, u.2.2.2.2) cs_A3 L := fun j s2 hs => by
    unfold cs_A3 at hs
    match j, hs with
    | 0, hs =>
      cases hs
      exact k_ 0 _ rfl (by decide)
    | 1, hs =>
      cases hs
      exact k_ 1 _ rfl (by decide)
    | 2, hs =>
      cases hs
      exact k_ 2 _ rfl (by decide)
    | 3, hs =>
      cases hs
      exact k_ 3 _ rfl (by decide)
    | 4, hs =>
      cases hs
      exact Or.inl rfl
    | 5, hs =>
      cases hs
      exact Or.inl rfl
    | 6, hs =>
      cases hs
      exact Or.inl rfl
  have b_ := a_.set (s := (5, 0)) (v := .int x) hl (by decide) rfl
  exact b_
theorem cs_nw_ok {f t : Nat} {ds : List Nat} {e e' : cs_T} (ht : cs_nw f ds e = some e') (h15 : t % 100 = f) (I : cs_is G e L w h) : cs_is G e' L (.ref (1000 + h.length) :: w) (h ++ [(t, ds.map ck_d0)]) := by
  obtain ⟨u_, p_, lo_, st_⟩ := I
  unfold cs_nw at ht
  split at ht
  · next A_ =>
    obtain ⟨c_, d_⟩ := ck_bt' ht
    cases d_
    obtain ⟨c1_, c2_⟩ := Bool.and_eq_true_iff.mp c_
    rw [cs_nl_ok c2_]
    have A0_ := cs_eL_ok c1_
    subst A0_
    refine ⟨(1000 + h.length, u_.2), zi_1.new h15, ?_, Or.inl ⟨_, _, rfl, rfl, st_⟩⟩
    have m_ : ∀ s ∈ ([(1, 0), (0, 0), (0, 0), (0, 0), (0, 0), (0, 0), (0, 0)] : List cs_S), ∀ v : Value, cs_v G u_ s v → cs_v G (1000 + h.length, u_.2) s v := List.forall_mem_cons.mpr ⟨fun _ k_ => k_, List.forall_mem_cons.mpr ⟨fun _ k_ => k_, List.forall_mem_cons.mpr ⟨fun _ k_ => k_, List.forall_mem_cons.mpr ⟨fun _ k_ => k_, List.forall_mem_cons.mpr ⟨fun _ k_ => k_, List.forall_mem_cons.mpr ⟨fun _ k_ => k_, List.forall_mem_cons.mpr ⟨fun _ k_ => k_, List.forall_mem_nil _⟩⟩⟩⟩⟩⟩⟩
    exact cs_lo.up (A := cs_A0) lo_ m_
  · next A_ =>
    obtain ⟨c_, d_⟩ := ck_bt' ht
    cases d_
    obtain ⟨c1_, c2_⟩ := Bool.and_eq_true_iff.mp c_
    rw [cs_nl_ok c2_]
    have A0_ := cs_eL_ok c1_
    subst A0_
    have p2_ : zi_2 G h u_.1 u_.2.2.2.2.2.1 := p_
    refine ⟨(u_.1, 1000 + h.length, u_.2.2), p2_.new h15, ?_, Or.inl ⟨_, _, rfl, rfl, st_⟩⟩
    have m_ : ∀ s ∈ ([(1, 0), (2, 0), (0, 0), (0, 0), (0, 0), (0, 0), (0, 0)] : List cs_S), ∀ v : Value, cs_v G u_ s v → cs_v G (u_.1, 1000 + h.length, u_.2.2) s v := List.forall_mem_cons.mpr ⟨fun _ k_ => k_, List.forall_mem_cons.mpr ⟨fun _ k_ => k_, List.forall_mem_cons.mpr ⟨fun _ k_ => k_, List.forall_mem_cons.mpr ⟨fun _ k_ => k_, List.forall_mem_cons.mpr ⟨fun _ k_ => k_, List.forall_mem_cons.mpr ⟨fun _ k_ => k_, List.forall_mem_cons.mpr ⟨fun _ k_ => k_, List.forall_mem_nil _⟩⟩⟩⟩⟩⟩⟩
    exact cs_lo.up (A := cs_A1) lo_ m_
  · next A_ =>
    obtain ⟨c_, d_⟩ := ck_bt' ht
    cases d_
    obtain ⟨c1_, c2_⟩ := Bool.and_eq_true_iff.mp c_
    rw [cs_nl_ok c2_]
    have A0_ := cs_eL_ok c1_
    subst A0_
    have p2_ : zi_4 G h u_.1 u_.2.1 u_.2.2.2.2.2.1 := p_
    refine ⟨(u_.1, u_.2.1, 1000 + h.length, u_.2.2.2), p2_.new h15, ?_, Or.inl ⟨_, _, rfl, rfl, st_⟩⟩
    have m_ : ∀ s ∈ ([(1, 0), (2, 0), (3, 0), (0, 0), (0, 0), (0, 0), (0, 0)] : List cs_S), ∀ v : Value, cs_v G u_ s v → cs_v G (u_.1, u_.2.1, 1000 + h.length, u_.2.2.2) s v := List.forall_mem_cons.mpr ⟨fun _ k_ => k_, List.forall_mem_cons.mpr ⟨fun _ k_ => k_, List.forall_mem_cons.mpr ⟨fun _ k_ => k_, List.forall_mem_cons.mpr ⟨fun _ k_ => k_, List.forall_mem_cons.mpr ⟨fun _ k_ => k_, List.forall_mem_cons.mpr ⟨fun _ k_ => k_, List.forall_mem_cons.mpr ⟨fun _ k_ => k_, List.forall_mem_nil _⟩⟩⟩⟩⟩⟩⟩
    exact cs_lo.up (A := cs_A2) lo_ m_
  · cases ht
theorem cs_i4_ok {e e' : cs_T} {v : Int} {L' : List (Option Value)} {w' : List Value} (ht : cs_i4 e = some e') (I : cs_is G e L w h) (hc : ck_cf 6 4 v L w = some (L', w')) : cs_is G e' L' w' h := by
  obtain ⟨u_, p_, lo_, st_⟩ := I
  unfold cs_i4 at ht
  split at ht
  · next q_ A_ s_ =>
    obtain ⟨c_, d_⟩ := ck_bt' ht
    cases d_
    have A0_ := cs_eL_ok c_
    subst A0_
    obtain ⟨x_, b1_, b2_, b3_⟩ := cs_cf6 hc
    rw [b1_] at st_
    rw [b3_]
    have p6_ : zv_k G h u_.1 u_.2.1 u_.2.2.1 u_.2.2.2.2.2.1 u_.2.2.2.2.1 u_.2.2.2.2.1 := p_
    have w_ : w' = [] := st_.tl
    exact ⟨(u_.1, u_.2.1, u_.2.2.1, x_, u_.2.2.2.2), p6_, cs_lo.i4 lo_ b2_ x_, w_⟩
  · cases ht
theorem cs_c4_ok {e e' : cs_T} {v : Int} {L' : List (Option Value)} {w' : List Value} (ht : cs_c4 e = some e') (I : cs_is G e L w h) (hc : ck_cf 9 4 v L w = some (L', w')) : cs_is G e' L' w' h := by
  obtain ⟨u_, p_, lo_, st_⟩ := I
  unfold cs_c4 at ht
  split at ht
  · next q_ A_ =>
    obtain ⟨c_, d_⟩ := ck_bt' ht
    cases d_
    have A0_ := cs_eL_ok c_
    subst A0_
    obtain ⟨x_, b1_, b2_, b3_⟩ := cs_cf9 hc
    rw [b2_, b3_]
    have p6_ : zv_k G h u_.1 u_.2.1 u_.2.2.1 u_.2.2.2.2.2.1 u_.2.2.2.2.1 u_.2.2.2.2.1 := p_
    have w_ : w = [] := st_
    exact ⟨(u_.1, u_.2.1, u_.2.2.1, x_ + Int32.ofInt v, u_.2.2.2.2), p6_, cs_lo.i4 lo_ (List.getElem?_eq_some_iff.mp b1_).1 _, w_⟩
  · cases ht
theorem cs_lc_ok {e e' : cs_T} {f2 : Nat} {v : Int} {L' : List (Option Value)} {w' : List Value} (ht : cs_lc e = some e') (I : cs_is G e L w h) (hc : ck_cf 21 f2 v L w = some (L', w')) : cs_is G e' L' w' h := by
  obtain ⟨u_, p_, lo_, st_⟩ := I
  obtain ⟨x_, y_, z_, b1_, b2_, b3_⟩ := cs_cf21 hc
  rw [b1_] at st_
  rw [b2_, b3_]
  unfold cs_lc at ht
  split at ht
  · cases ht
    have k_ := st_
    have a1_ : Value.long y_ = .long (Int32.ofInt u_.2.2.2.2.2.2.2.2).toInt64 := k_.hd (by show (14 : Nat) ≠ 10; decide)
    have a2_ : Value.long x_ = .long (Int64.ofInt u_.2.2.2.2.2.2.2.1) := k_.tl.hd (by show (13 : Nat) ≠ 10; decide)
    have q_ : (Int32.ofInt u_.2.2.2.2.2.2.2.2).toInt64 = Int64.ofInt u_.2.2.2.2.2.2.2.1 := p_.2.1
    have e_ : x_ = y_ := by rw [Value.long.inj a1_, Value.long.inj a2_, q_]
    refine ⟨u_, p_, lo_, Or.inl ⟨_, _, rfl, ?_, k_.tl.tl⟩⟩
    rw [e_, lg_cmp0]
    rfl
  · cases ht
    have k_ := st_
    have a1_ : Value.long y_ = .long (Int64.ofInt u_.2.2.2.2.2.2.2.1) := k_.hd (by show (13 : Nat) ≠ 10; decide)
    have a2_ : Value.long x_ = .long (Int64.ofInt u_.2.2.2.2.2.2.2.1) := k_.tl.hd (by show (13 : Nat) ≠ 10; decide)
    have e_ : x_ = y_ := by rw [Value.long.inj a1_, Value.long.inj a2_]
    refine ⟨u_, p_, lo_, Or.inl ⟨_, _, rfl, ?_, k_.tl.tl⟩⟩
    rw [e_, lg_cmp0]
    rfl
  · cases ht
    have k_ := st_
    exact ⟨u_, p_, lo_, Or.inl ⟨_, _, rfl, cs_v.z rfl, k_.tl.tl⟩⟩
  · cases ht
/-- the class's answer is read -/
theorem zv_w.get {x m out : Nat} {r : Nat → Nat} {T Tm : sp_T} {th : Int} {n0 : Int64} (I : zv_w G h x m out r T Tm th n0) {q t : Nat} {vs : List Value} {v : Value} (hq : q = out) (hg : am_g G h q = some (t, vs)) (ht : t % 100 = 16) (hv : vs[0]? = some v) : v = .long n0 := by
  obtain ⟨-, -, -, h2_, e_, -, -, s0_, g_⟩ := I
  subst hq
  have z_ := (e_.ti.g hg g_ (show 1016 % 100 = t % 100 by rw [ht]) (show t % 100 < 62 by rw [ht]; decide)).2.2 0 _ _ hv rfl
  exact zb_rvl z_.symm
theorem cs_ph.up9 {n : Nat} {u : cs_E} (p : cs_ph G (8, n) u h) (h0 : u.2.2.2.2.2.2.1 = 0) : cs_ph G (9, n) u h := by
  obtain ⟨n0_, w_, ⟨-, b_⟩, c_, o_⟩ := p
  obtain ⟨c1_, c2_⟩ := c_ h0
  obtain ⟨b1_, b2_⟩ := b_ h0
  rw [c1_] at w_
  refine ⟨w_, ?_, fun hb => o_ hb h0⟩
  rw [← c2_]
  exact hd_i2lv b1_ b2_
theorem cs_ph.no {n : Nat} {u : cs_E} {x : Int32} (p : cs_ph G (9, n) u h) (hx : x = Int32.ofInt u.2.2.2.2.2.2.2.2) (h0 : x.toInt = 0) : cs_ph G (11, 0) u h := by
  obtain ⟨w_, q_, -⟩ := p
  refine ⟨w_, ?_⟩
  have x0_ : x = 0 := Int32.toInt_inj.mp h0
  rw [← q_, ← hx, x0_]
  decide
theorem cs_ph.yes {n : Nat} {u : cs_E} {x : Int32} (p : cs_ph G (9, n) u h) (hn : cs_isb n = true) (hx : x = Int32.ofInt u.2.2.2.2.2.2.2.2) (h0 : ¬ x.toInt = 0) : cs_ph G (12, 0) u h := by
  obtain ⟨w_, q_, o_⟩ := p
  refine ⟨w_, ?_⟩
  rcases o_ hn with y_ | y_
  · exfalso
    apply h0
    rw [← hx, y_] at q_
    have z_ := congrArg Int64.toInt q_
    rw [Int32.toInt_toInt64] at z_
    rw [z_]
    decide
  · rw [y_]
    decide
theorem cs_tg_ok {f : Nat} {s : cs_S} {p : Nat × Nat} {u : cs_E} {x : Int32} {S : List cs_S} (k : cs_ph G p u h) (st : cs_st G u (s :: S) (.int x :: w)) (hc : ck_cv f x.toInt) : cs_ph G (cs_tg f s p) u h := by
  unfold cs_tg
  cases h1_ : (Nat.beq f 0 && (Nat.beq s.1 12 && (Nat.beq p.1 9 && cs_isb p.2)))
  · rw [cond_false]
    exact k
  · rw [cond_true]
    obtain ⟨c1_, c2_⟩ := Bool.and_eq_true_iff.mp h1_
    obtain ⟨c3_, c4_⟩ := Bool.and_eq_true_iff.mp c2_
    obtain ⟨c5_, c6_⟩ := Bool.and_eq_true_iff.mp c4_
    have f_ := ck_beq c1_
    have s2_ := ck_beq c3_
    obtain ⟨q1, q2⟩ := p
    have p9_ : q1 = 9 := ck_beq c5_
    subst p9_
    subst f_
    have x_ := Value.int.inj ((st.hd (by omega)).a12 s2_)
    exact cs_ph.no (n := q2) k x_ hc
theorem cs_nx_ok {f : Nat} {s : cs_S} {p : Nat × Nat} {u : cs_E} {x : Int32} {S : List cs_S} (k : cs_ph G p u h) (st : cs_st G u (s :: S) (.int x :: w)) (hc : ¬ ck_cv f x.toInt) : cs_ph G (cs_nx f s p) u h := by
  unfold cs_nx
  cases h1_ : (Nat.beq f 1 && (Nat.beq s.1 11 && Nat.beq p.1 8))
  · rw [cond_false]
    cases h2_ : (Nat.beq f 0 && (Nat.beq s.1 12 && (Nat.beq p.1 9 && cs_isb p.2)))
    · rw [cond_false]
      exact k
    · rw [cond_true]
      obtain ⟨c1_, c2_⟩ := Bool.and_eq_true_iff.mp h2_
      obtain ⟨c3_, c4_⟩ := Bool.and_eq_true_iff.mp c2_
      obtain ⟨c5_, c6_⟩ := Bool.and_eq_true_iff.mp c4_
      have f_ := ck_beq c1_
      have s2_ := ck_beq c3_
      obtain ⟨q1, q2⟩ := p
      have p9_ : q1 = 9 := ck_beq c5_
      subst p9_
      subst f_
      have x_ := Value.int.inj ((st.hd (by omega)).a12 s2_)
      exact cs_ph.yes (n := q2) k c6_ x_ hc
  · rw [cond_true]
    obtain ⟨c1_, c2_⟩ := Bool.and_eq_true_iff.mp h1_
    obtain ⟨c3_, c4_⟩ := Bool.and_eq_true_iff.mp c2_
    have f_ := ck_beq c1_
    have s2_ := ck_beq c3_
    obtain ⟨q1, q2⟩ := p
    have p8_ : q1 = 8 := ck_beq c4_
    subst p8_
    subst f_
    have x_ := Value.int.inj ((st.hd (by omega)).a11 s2_)
    have p9_ : cs_ph G (8, q2) u h := k
    refine p9_.up9 ?_
    obtain ⟨n0_, -, ⟨⟨b1_, b2_⟩, -⟩, -⟩ := p9_
    have z_ : x.toInt = 0 := by
      apply Classical.byContradiction
      intro z_
      exact hc z_
    rw [x_, hd_oi (by omega) (by omega)] at z_
    exact z_
theorem cs_lk_ok {p : Nat × Nat} {u : cs_E} {v : Int} (k : cs_ph G p u h) : cs_v G u (cs_lk p v) (.long (Int64.ofInt v)) := by
  unfold cs_lk
  cases h1_ : ((Nat.beq p.1 11 && decide (v = 0)) || (Nat.beq p.1 12 && decide (v = 1)))
  · rw [cond_false]
    exact cs_v.z rfl
  · rw [cond_true]
    obtain ⟨q1, q2⟩ := p
    show Value.long (Int64.ofInt v) = .long (Int64.ofInt u.2.2.2.2.2.2.2.1)
    rcases Bool.or_eq_true_iff.mp h1_ with y_ | y_
    · obtain ⟨a_, b_⟩ := Bool.and_eq_true_iff.mp y_
      have p_ : q1 = 11 := ck_beq a_
      subst p_
      have e_ : Int64.ofInt u.2.2.2.2.2.2.2.1 = 0 := k.2
      rw [e_, of_decide_eq_true b_]
      rfl
    · obtain ⟨a_, b_⟩ := Bool.and_eq_true_iff.mp y_
      have p_ : q1 = 12 := ck_beq a_
      subst p_
      have e_ : Int64.ofInt u.2.2.2.2.2.2.2.1 = 1 := k.2
      rw [e_, of_decide_eq_true b_]
      rfl
/-- what stands in the script -/
theorem cs_row (hr : ∀ (j : Int32) (v : Value), cs_sc G j = some v → ∃ x : Int32, v = .int x) {q t : Nat} {x : Int32} {vs : List Value} {v : Value} {a b : cs_S} {U : List cs_S} (hg : am_g G h q = some (t, vs)) (hv : vs[x.toInt.toNat]? = some v) (k : cs_st G u (a :: b :: U) (.int x :: .ref q :: w)) : cs_v G u (cs_ld a b) v := by
  unfold cs_ld
  cases h1_ : (Nat.beq b.1 1 && Nat.beq a.1 7)
  · rw [cond_false]
    exact cs_v.z rfl
  · rw [cond_true]
    obtain ⟨c1_, c2_⟩ := Bool.and_eq_true_iff.mp h1_
    have d1_ := ck_beq c1_
    have d2_ := ck_beq c2_
    have k1_ := Value.int.inj ((k.hd (by omega)).a7 d2_)
    have k2_ := Value.ref.inj ((k.tl.hd (by omega)).a1 d1_)
    have g_ : am_g G [] 0 = some (t, vs) := by
      rw [k2_] at hg
      unfold am_g at hg ⊢
      rw [if_pos (by decide)] at hg ⊢
      exact hg
    have s_ : cs_sc G (u.2.2.2.1 + Int32.ofInt a.2) = some v := by
      unfold cs_sc
      rw [g_, ← k1_]
      exact hv
    obtain ⟨z_, hz_⟩ := hr _ _ s_
    show v = .int (cs_e G u.2.2.2.1 a.2)
    unfold cs_e
    rw [s_, hz_]
theorem cs_stp_ok (hr : ∀ (j : Int32) (v : Value), cs_sc G j = some v → ∃ x : Int32, v = .int x) {tb : Nat → Option cs_T} {pc : Nat} {o : ck_O} {e : cs_T} {l : List (Nat × cs_T)} {cm cm' : Nat → ck_CM} (h1 : o.1 ≠ 1) (h7 : o.1 ≠ 7) (he : tb pc = some e) (hs : cs_stp o e = some l) (hl : ∀ y ∈ l, cs_at tb y.1 y.2 = true) : cn_st G (cs_I G tb) cm cm' pc o := by
  obtain ⟨c, f, f2, v, nx, tg, ex⟩ := o
  unfold cs_stp at hs
  dsimp only at hs
  unfold cn_st
  dsimp only
  have at_ : ∀ {L : List (Option Value)} {w : List Value} {h : List am_C}, cs_I G tb pc L w h → cs_is G e L w h := fun hI => by
    obtain ⟨e_, t_, i_⟩ := hI
    rw [he] at t_
    cases t_
    exact i_
  split at hs
  · intro L w L' w' h e1 hI
    have I_ := at_ hI
    cases hb_ : (Nat.beq f 6 && Nat.beq f2 4)
    · rw [hb_, cond_false] at hs
      cases hd_ : Nat.beq f 21
      case true =>
        rw [hd_, cond_true] at hs
        obtain ⟨z_, z1_, z2_⟩ := Option.map_eq_some_iff.mp hs
        subst z2_
        have f_ := ck_beq hd_
        subst f_
        exact cs_wk (hl _ List.mem_cons_self) (cs_lc_ok z1_ I_ e1)
      rw [hd_, cond_false] at hs
      cases hk_ : Nat.beq f 1
      case true =>
        rw [hk_, cond_true] at hs
        cases hs
        have f_ := ck_beq hk_
        subst f_
        have e_ : some (L, Value.long (Int64.ofInt v) :: w) = some (L', w') := e1
        cases e_
        obtain ⟨u_, p_, lo_, st_⟩ := I_
        exact cs_wk (hl _ List.mem_cons_self) ⟨u_, p_, lo_, Or.inl ⟨_, _, rfl, cs_lk_ok p_, st_⟩⟩
      rw [hk_, cond_false] at hs
      cases hc_ : Nat.beq f 9
      · rw [hc_, cond_false] at hs
        obtain ⟨z_, z1_, z2_⟩ := Option.map_eq_some_iff.mp hs
        subst z2_
        obtain ⟨u_, p_, lo_, st_⟩ := I_
        obtain ⟨y1_, y2_⟩ := cs_p_ok (A' := z_.1) (S' := z_.2) z1_ e1 lo_ st_
        exact cs_wk (hl _ List.mem_cons_self) ⟨u_, p_, y1_, y2_⟩
      · rw [hc_, cond_true] at hs
        obtain ⟨d_, hs_⟩ := ck_bt' hs
        obtain ⟨z_, z1_, z2_⟩ := Option.map_eq_some_iff.mp hs_
        subst z2_
        have f_ := ck_beq hc_
        have g_ := ck_beq d_
        subst f_
        subst g_
        exact cs_wk (hl _ List.mem_cons_self) (cs_c4_ok z1_ I_ e1)
    · rw [hb_, cond_true] at hs
      obtain ⟨d1_, d2_⟩ := Bool.and_eq_true_iff.mp hb_
      obtain ⟨z_, z1_, z2_⟩ := Option.map_eq_some_iff.mp hs
      subst z2_
      have f_ := ck_beq d1_
      have g_ := ck_beq d2_
      subst f_
      subst g_
      exact cs_wk (hl _ List.mem_cons_self) (cs_i4_ok z1_ I_ e1)
  · exact absurd rfl h1
  · split at hs
    · next a_ b_ U_ hU_ =>
      cases hs
      intro L x y w h hI
      obtain ⟨u_, p_, lo_, st_⟩ := at_ hI
      rw [hU_] at st_
      exact ⟨cs_wk (hl _ List.mem_cons_self) ⟨u_, p_, lo_, st_.tl.tl⟩, cs_wk (hl _ (List.mem_cons_of_mem _ List.mem_cons_self)) ⟨u_, p_, lo_, st_.tl.tl⟩⟩
    · cases hs
  · cases hs
    intro L w h hI
    exact cs_wk (hl _ List.mem_cons_self) (at_ hI)
  · split at hs
    · next a_ U_ hU_ =>
      cases hs
      intro L x w h hI
      obtain ⟨u_, p_, lo_, st_⟩ := at_ hI
      rw [hU_] at st_
      exact ⟨fun q hq _ => cs_wk (hl (q.2, (e.1, e.2.1, U_)) (List.mem_cons_of_mem _ (List.mem_map.mpr ⟨q, hq, rfl⟩))) ⟨u_, p_, lo_, st_.tl⟩, cs_wk (hl _ List.mem_cons_self) ⟨u_, p_, lo_, st_.tl⟩⟩
    · cases hs
  · exact absurd rfl h7
  · obtain ⟨z_, z1_, z2_⟩ := Option.map_eq_some_iff.mp hs
    subst z2_
    intro t L w h ht hI
    exact cs_wk (hl _ List.mem_cons_self) (cs_nw_ok z1_ ht (at_ hI))
  · split at hs
    · next a_ U_ hU_ =>
      cases hs
      intro L w h q t vs hg hI
      obtain ⟨u_, p_, lo_, st_⟩ := at_ hI
      rw [hU_] at st_
      exact cs_wk (hl _ List.mem_cons_self) ⟨u_, p_, lo_, Or.inl ⟨_, _, rfl, cs_v.z rfl, st_.tl⟩⟩
    · cases hs
  · split at hs
    · next a_ b_ U_ hU_ =>
      cases hs
      intro L w h q t x vs v hg hv hI
      obtain ⟨u_, p_, lo_, st_⟩ := at_ hI
      rw [hU_] at st_
      exact cs_wk (hl _ List.mem_cons_self) ⟨u_, p_, lo_, Or.inl ⟨_, _, rfl, cs_row hr hg hv st_, st_.tl.tl⟩⟩
    · cases hs
  · trivial
  · cases hs
theorem cs_if_ok {S : ck_SS} {SX : Nat → ck_SX} {P : am_O → List am_C → Prop} {Rc Rs : Nat} {cm cm' : Nat → ck_CM} {E : ck_E} {tb : Nat → Option cs_T} {pc f f2 nx tg : Nat} {v : Int} {ex : List (Int × Nat)} {e : cs_T} {l : List (Nat × cs_T)} (ho : ck_os G S SX P Rc Rs cm E pc (1, f, f2, v, nx, tg, ex)) (he : tb pc = some e) (hs : cs_stp (1, f, f2, v, nx, tg, ex) e = some l) (hl : ∀ y ∈ l, cs_at tb y.1 y.2 = true) : ck_os G (cn_S (cs_I G tb) S) SX P Rc Rs cm' E pc (1, f, f2, v, nx, tg, ex) := by
  obtain ⟨T, pr, own, nL, code, cl, hds, gh, cuts⟩ := E
  have ho_ : ck_sI S pc nx f tg := ho
  show ck_sI (cn_S (cs_I G tb) S) pc nx f tg
  obtain ⟨p9_, A_, S_⟩ := e
  cases S_ with
  | nil =>
    have hs_ : (none : Option (List (Nat × cs_T))) = some l := hs
    cases hs_
  | cons s_ U_ =>
    have hs_ : some [(tg, ((cs_tg f s_ p9_, A_, U_) : cs_T)), (nx, (cs_nx f s_ p9_, A_, U_))] = some l := hs
    cases hs_
    intro L x w h k n ha hb hI
    obtain ⟨e_, t_, u_, p_, lo_, st_⟩ := hI
    rw [he] at t_
    cases t_
    have st_ : cs_st G u_ (s_ :: U_) (.int x :: w) := st_
    have p_ : cs_ph G p9_ u_ h := p_
    exact ho_ L x w h k n (fun hc => ha hc (cs_wk (hl _ List.mem_cons_self) ⟨u_, cs_tg_ok p_ st_ hc, lo_, st_.tl⟩)) fun hc => hb hc (cs_wk (hl _ (List.mem_cons_of_mem _ List.mem_cons_self)) ⟨u_, cs_nx_ok p_ st_ hc, lo_, st_.tl⟩)
theorem cs_get_ok {S : ck_SS} {SX : Nat → ck_SX} {P : am_O → List am_C → Prop} {Rc Rs : Nat} {cm cm' : Nat → ck_CM} {E : ck_E} {tb : Nat → Option cs_T} {pc f f2 nx tg : Nat} {v : Int} {ex : List (Int × Nat)} {e : cs_T} {l : List (Nat × cs_T)} (ho : ck_os G S SX P Rc Rs cm E pc (7, f, f2, v, nx, tg, ex)) (he : tb pc = some e) (hs : cs_stp (7, f, f2, v, nx, tg, ex) e = some l) (hl : ∀ y ∈ l, cs_at tb y.1 y.2 = true) : ck_os G (cn_S (cs_I G tb) S) SX P Rc Rs cm' E pc (7, f, f2, v, nx, tg, ex) := by
  obtain ⟨T, pr, own, nL, code, cl, hds, gh, cuts⟩ := E
  have ho_ : ck_sF G S pc nx f f2 := ho
  show ck_sF G (cn_S (cs_I G tb) S) pc nx f f2
  obtain ⟨p9_, A_, S_⟩ := e
  cases S_ with
  | nil =>
    have hs_ : (none : Option (List (Nat × cs_T))) = some l := hs
    cases hs_
  | cons s_ U_ =>
    have hs_ : some [(nx, ((p9_, A_, (bif Nat.beq s_.1 4 && (Nat.beq p9_.1 9 && (Nat.beq f 16 && Nat.beq f2 0)) then (13, 0) else (0, 0)) :: U_) : cs_T))] = some l := hs
    cases hs_
    intro L w h k n q t vs v2 e1 e2 e3 ha hI
    obtain ⟨e_, t_, u_, p_, lo_, st_⟩ := hI
    rw [he] at t_
    cases t_
    have st_ : cs_st G u_ (s_ :: U_) (.ref q :: w) := st_
    refine ho_ L w h k n q t vs v2 e1 e2 e3 (ha (cs_wk (hl _ List.mem_cons_self) ⟨u_, p_, lo_, Or.inl ⟨_, _, rfl, ?_, st_.tl⟩⟩))
    cases h1_ : (Nat.beq s_.1 4 && (Nat.beq p9_.1 9 && (Nat.beq f 16 && Nat.beq f2 0)))
    · rw [cond_false]
      exact cs_v.z rfl
    · rw [cond_true]
      obtain ⟨c1_, c2_⟩ := Bool.and_eq_true_iff.mp h1_
      obtain ⟨c3_, c4_⟩ := Bool.and_eq_true_iff.mp c2_
      obtain ⟨c5_, c6_⟩ := Bool.and_eq_true_iff.mp c4_
      have s2_ := ck_beq c1_
      have p8_ := ck_beq c3_
      have f1_ := ck_beq c5_
      have f3_ := ck_beq c6_
      obtain ⟨q1, q2⟩ := p9_
      have p8_ : q1 = 9 := p8_
      subst p8_
      subst f1_
      subst f3_
      have x_ := Value.ref.inj ((st_.hd (by omega)).a4 s2_)
      have w9_ : zv_w G h u_.1 u_.2.1 u_.2.2.1 u_.2.2.2.2.2.1 u_.2.2.2.2.1 u_.2.2.2.2.1 u_.2.2.2.2.2.2.1 (Int64.ofInt u_.2.2.2.2.2.2.2.1) := p_.1
      exact w9_.get x_ e1 e2 e3
end CSF
