/-! THE LAW'S INSTRUCTIONS OVER SYMBOLS -/
def cs_F : List cs_S := [(1, 0), (2, 0), (3, 0), (4, 0), (5, 0), (0, 0), (0, 0)]
def cs_A3 : List cs_S := [(1, 0), (2, 0), (3, 0), (4, 0), (0, 0), (0, 0), (0, 0)]
def cs_A2 : List cs_S := [(1, 0), (2, 0), (3, 0), (0, 0), (0, 0), (0, 0), (0, 0)]
def cs_A1 : List cs_S := [(1, 0), (2, 0), (0, 0), (0, 0), (0, 0), (0, 0), (0, 0)]
def cs_A0 : List cs_S := [(1, 0), (0, 0), (0, 0), (0, 0), (0, 0), (0, 0), (0, 0)]
def cs_nl : List Nat → List Nat → Bool
  | [], [] => true
  | a :: u, b :: w => Nat.beq a b && cs_nl u w
  | _, _ => false
theorem cs_nl_ok : ∀ {a b : List Nat}, cs_nl a b = true → a = b := by
  intro a
  induction a with
  | nil =>
    intro b h
    cases b with
    | nil => rfl
    | cons y_ z_ => cases h
  | cons x_ u_ ih =>
    intro b h
    cases b with
    | nil => cases h
    | cons y_ z_ =>
      obtain ⟨h1_, h2_⟩ := Bool.and_eq_true_iff.mp h
      rw [ih h2_, ck_beq h1_]
/-- new cells -/
def cs_nw (f : Nat) (ds : List Nat) (e : cs_T) : Option cs_T := match f, e with
  | 15, ((0, _), A, []) => bif cs_eL A cs_A0 && cs_nl ds [2, 2, 0, 0, 0, 2, 2, 2, 2, 2, 2, 2, 2] then some ((1, 0), A, [(2, 0)]) else none
  | 19, ((2, _), A, []) => bif cs_eL A cs_A1 && cs_nl ds [0, 2, 2, 0, 0, 0] then some ((3, 0), A, [(3, 0)]) else none
  | 16, ((4, _), A, []) => bif cs_eL A cs_A2 && cs_nl ds [1, 2] then some ((5, 0), A, [(4, 0)]) else none
  | _, _ => none
/-- the script's place is set -/
def cs_i4 (e : cs_T) : Option cs_T := match e with
  | ((6, _), A, [_]) => bif cs_eL A cs_A3 then some ((6, 0), cs_F, []) else none
  | _ => none
/-- the script's place grows -/
def cs_c4 (e : cs_T) : Option cs_T := match e with
  | ((6, _), A, []) => bif cs_eL A cs_F then some ((6, 0), cs_F, []) else none
  | _ => none
def cs_stp (o : ck_O) (e : cs_T) : Option (List (Nat × cs_T)) := match o with
  | (c, f, f2, v, nx, tg, ex) => match c with
    | 0 => bif Nat.beq f 6 && Nat.beq f2 4 then (cs_i4 e).map fun z => [(nx, z)] else bif Nat.beq f 9 then (bif Nat.beq f2 4 then (cs_c4 e).map fun z => [(nx, z)] else none) else (cs_p f f2 v e.2.1 e.2.2).map fun z => [(nx, (e.1, z.1, z.2))]
    | 2 => match e.2.2 with
      | _ :: _ :: U => some [(tg, (e.1, e.2.1, U)), (nx, (e.1, e.2.1, U))]
      | _ => none
    | 3 => some [(tg, e)]
    | 6 => match e.2.2 with
      | _ :: U => some ((tg, (e.1, e.2.1, U)) :: ex.map fun q => (q.2, (e.1, e.2.1, U)))
      | _ => none
    | 9 => (cs_nw f (ex.map fun q => q.2) e).map fun z => [(nx, z)]
    | 11 => match e.2.2 with
      | _ :: U => some [(nx, (e.1, e.2.1, (0, 0) :: U))]
      | _ => none
    | 12 => match e.2.2 with
      | a :: b :: U => some [(nx, (e.1, e.2.1, cs_ld a b :: U))]
      | _ => none
    | 14 => some []
    | _ => none
section CSF
variable {G : am_G} {u : cs_E} {L : List (Option Value)} {w : List Value} {h : List am_C}
theorem cs_v.i4 {s : cs_S} {v : Value} (k : cs_v G u s v) (h4 : s.1 ≤ 4) (x : Int32) : cs_v G (u.1, u.2.1, u.2.2.1, x, u.2.2.2.2) s v := by
  obtain ⟨s1, s2⟩ := s
  have h4_ : s1 ≤ 4 := h4
  match s1, h4_, k with
  | 0, _, _ => trivial
  | 1, _, k =>
    have k_ : v = .ref 0 := k
    exact k_
  | 2, _, k =>
    have k_ : v = .ref u.1 := k
    exact k_
  | 3, _, k =>
    have k_ : v = .ref u.2.1 := k
    exact k_
  | 4, _, k =>
    have k_ : v = .ref u.2.2.1 := k
    exact k_
  | n_ + 5, h4_, _ => exact absurd h4_ (by omega)
theorem cs_lo.i4 {s : cs_S} (lo : cs_lo G u [(1, 0), (2, 0), (3, 0), (4, 0), s, (0, 0), (0, 0)] L) (hl : 4 < L.length) (x : Int32) : cs_lo G (u.1, u.2.1, u.2.2.1, x, u.2.2.2.2) cs_F (am_put1 L 4 (.int x)) := by
  have k_ : ∀ (j : Nat) (s2 : cs_S), ([(1, 0), (2, 0), (3, 0), (4, 0), s, (0, 0), (0, 0)] : List cs_S)[j]? = some s2 → s2.1 ≤ 4 → s2.1 = 0 ∨ ∃ v : Value, L[j]? = some (some v) ∧ cs_v G (u.1, u.2.1, u.2.2.1, x, u.2.2.2.2) s2 v := fun j s2 hs h4 => (lo j s2 hs).imp id fun ⟨v, h1, h2⟩ => ⟨v, h1, h2.i4 h4 x⟩
  have a_ : cs_lo G (u.1, u.2.1, u.2.2.1, x, u.2.2.2.2) cs_A3 L := fun j s2 hs => by
    unfold cs_A3 at hs
    match j, hs with
    | 0, hs =>
      cases hs
      exact k_ 0 _ rfl (by decide)
    | 1, hs =>
      cases hs
      exact k_ 1 _ rfl (by decide)
    | 2, hs =>
      cases hs
      exact k_ 2 _ rfl (by decide)
    | 3, hs =>
      cases hs
      exact k_ 3 _ rfl (by decide)
    | 4, hs =>
      cases hs
      exact Or.inl rfl
    | 5, hs =>
      cases hs
      exact Or.inl rfl
    | 6, hs =>
      cases hs
      exact Or.inl rfl
  have b_ := a_.set (s := (5, 0)) (v := .int x) hl rfl
  exact b_
theorem cs_nw_ok {f t : Nat} {ds : List Nat} {e e' : cs_T} (ht : cs_nw f ds e = some e') (h15 : t % 100 = f) (I : cs_is G e L w h) : cs_is G e' L (.ref (1000 + h.length) :: w) (h ++ [(t, ds.map ck_d0)]) := by
  obtain ⟨u_, p_, lo_, st_⟩ := I
  unfold cs_nw at ht
  split at ht
  · next A_ =>
    obtain ⟨c_, d_⟩ := ck_bt' ht
    cases d_
    obtain ⟨c1_, c2_⟩ := Bool.and_eq_true_iff.mp c_
    rw [cs_nl_ok c2_]
    have A0_ := cs_eL_ok c1_
    subst A0_
    refine ⟨(1000 + h.length, u_.2), zi_1.new h15, ?_, Or.inl ⟨_, _, rfl, rfl, st_⟩⟩
    have m_ : ∀ s ∈ ([(1, 0), (0, 0), (0, 0), (0, 0), (0, 0), (0, 0), (0, 0)] : List cs_S), ∀ v : Value, cs_v G u_ s v → cs_v G (1000 + h.length, u_.2) s v := List.forall_mem_cons.mpr ⟨fun _ k_ => k_, List.forall_mem_cons.mpr ⟨fun _ k_ => k_, List.forall_mem_cons.mpr ⟨fun _ k_ => k_, List.forall_mem_cons.mpr ⟨fun _ k_ => k_, List.forall_mem_cons.mpr ⟨fun _ k_ => k_, List.forall_mem_cons.mpr ⟨fun _ k_ => k_, List.forall_mem_cons.mpr ⟨fun _ k_ => k_, List.forall_mem_nil _⟩⟩⟩⟩⟩⟩⟩
    exact cs_lo.up (A := cs_A0) lo_ m_
  · next A_ =>
    obtain ⟨c_, d_⟩ := ck_bt' ht
    cases d_
    obtain ⟨c1_, c2_⟩ := Bool.and_eq_true_iff.mp c_
    rw [cs_nl_ok c2_]
    have A0_ := cs_eL_ok c1_
    subst A0_
    have p2_ : zi_2 G h u_.1 u_.2.2.2.2.2 := p_
    refine ⟨(u_.1, 1000 + h.length, u_.2.2), p2_.new h15, ?_, Or.inl ⟨_, _, rfl, rfl, st_⟩⟩
    have m_ : ∀ s ∈ ([(1, 0), (2, 0), (0, 0), (0, 0), (0, 0), (0, 0), (0, 0)] : List cs_S), ∀ v : Value, cs_v G u_ s v → cs_v G (u_.1, 1000 + h.length, u_.2.2) s v := List.forall_mem_cons.mpr ⟨fun _ k_ => k_, List.forall_mem_cons.mpr ⟨fun _ k_ => k_, List.forall_mem_cons.mpr ⟨fun _ k_ => k_, List.forall_mem_cons.mpr ⟨fun _ k_ => k_, List.forall_mem_cons.mpr ⟨fun _ k_ => k_, List.forall_mem_cons.mpr ⟨fun _ k_ => k_, List.forall_mem_cons.mpr ⟨fun _ k_ => k_, List.forall_mem_nil _⟩⟩⟩⟩⟩⟩⟩
    exact cs_lo.up (A := cs_A1) lo_ m_
  · next A_ =>
    obtain ⟨c_, d_⟩ := ck_bt' ht
    cases d_
    obtain ⟨c1_, c2_⟩ := Bool.and_eq_true_iff.mp c_
    rw [cs_nl_ok c2_]
    have A0_ := cs_eL_ok c1_
    subst A0_
    have p2_ : zi_4 G h u_.1 u_.2.1 u_.2.2.2.2.2 := p_
    refine ⟨(u_.1, u_.2.1, 1000 + h.length, u_.2.2.2), p2_.new h15, ?_, Or.inl ⟨_, _, rfl, rfl, st_⟩⟩
    have m_ : ∀ s ∈ ([(1, 0), (2, 0), (3, 0), (0, 0), (0, 0), (0, 0), (0, 0)] : List cs_S), ∀ v : Value, cs_v G u_ s v → cs_v G (u_.1, u_.2.1, 1000 + h.length, u_.2.2.2) s v := List.forall_mem_cons.mpr ⟨fun _ k_ => k_, List.forall_mem_cons.mpr ⟨fun _ k_ => k_, List.forall_mem_cons.mpr ⟨fun _ k_ => k_, List.forall_mem_cons.mpr ⟨fun _ k_ => k_, List.forall_mem_cons.mpr ⟨fun _ k_ => k_, List.forall_mem_cons.mpr ⟨fun _ k_ => k_, List.forall_mem_cons.mpr ⟨fun _ k_ => k_, List.forall_mem_nil _⟩⟩⟩⟩⟩⟩⟩
    exact cs_lo.up (A := cs_A2) lo_ m_
  · cases ht
theorem cs_i4_ok {e e' : cs_T} {v : Int} {L' : List (Option Value)} {w' : List Value} (ht : cs_i4 e = some e') (I : cs_is G e L w h) (hc : ck_cf 6 4 v L w = some (L', w')) : cs_is G e' L' w' h := by
  obtain ⟨u_, p_, lo_, st_⟩ := I
  unfold cs_i4 at ht
  split at ht
  · next q_ A_ s_ =>
    obtain ⟨c_, d_⟩ := ck_bt' ht
    cases d_
    have A0_ := cs_eL_ok c_
    subst A0_
    obtain ⟨x_, b1_, b2_, b3_⟩ := cs_cf6 hc
    rw [b1_] at st_
    rw [b3_]
    have p6_ : zv_k G h u_.1 u_.2.1 u_.2.2.1 u_.2.2.2.2.2 u_.2.2.2.2.1 u_.2.2.2.2.1 := p_
    have w_ : w' = [] := st_.tl
    exact ⟨(u_.1, u_.2.1, u_.2.2.1, x_, u_.2.2.2.2), p6_, cs_lo.i4 lo_ b2_ x_, w_⟩
  · cases ht
theorem cs_c4_ok {e e' : cs_T} {v : Int} {L' : List (Option Value)} {w' : List Value} (ht : cs_c4 e = some e') (I : cs_is G e L w h) (hc : ck_cf 9 4 v L w = some (L', w')) : cs_is G e' L' w' h := by
  obtain ⟨u_, p_, lo_, st_⟩ := I
  unfold cs_c4 at ht
  split at ht
  · next q_ A_ =>
    obtain ⟨c_, d_⟩ := ck_bt' ht
    cases d_
    have A0_ := cs_eL_ok c_
    subst A0_
    obtain ⟨x_, b1_, b2_, b3_⟩ := cs_cf9 hc
    rw [b2_, b3_]
    have p6_ : zv_k G h u_.1 u_.2.1 u_.2.2.1 u_.2.2.2.2.2 u_.2.2.2.2.1 u_.2.2.2.2.1 := p_
    have w_ : w = [] := st_
    exact ⟨(u_.1, u_.2.1, u_.2.2.1, x_ + Int32.ofInt v, u_.2.2.2.2), p6_, cs_lo.i4 lo_ (List.getElem?_eq_some_iff.mp b1_).1 _, w_⟩
  · cases ht
/-- what stands in the script -/
theorem cs_row (hr : ∀ (j : Int32) (v : Value), cs_sc G j = some v → ∃ x : Int32, v = .int x) {q t : Nat} {x : Int32} {vs : List Value} {v : Value} {a b : cs_S} {U : List cs_S} (hg : am_g G h q = some (t, vs)) (hv : vs[x.toInt.toNat]? = some v) (k : cs_st G u (a :: b :: U) (.int x :: .ref q :: w)) : cs_v G u (cs_ld a b) v := by
  unfold cs_ld
  cases h1_ : (Nat.beq b.1 1 && Nat.beq a.1 7)
  · rw [cond_false]
    exact cs_v.z rfl
  · rw [cond_true]
    obtain ⟨c1_, c2_⟩ := Bool.and_eq_true_iff.mp h1_
    have d1_ := ck_beq c1_
    have d2_ := ck_beq c2_
    have k1_ := Value.int.inj ((k.hd (by omega)).a7 d2_)
    have k2_ := Value.ref.inj ((k.tl.hd (by omega)).a1 d1_)
    have g_ : am_g G [] 0 = some (t, vs) := by
      rw [k2_] at hg
      unfold am_g at hg ⊢
      rw [if_pos (by decide)] at hg ⊢
      exact hg
    have s_ : cs_sc G (u.2.2.2.1 + Int32.ofInt a.2) = some v := by
      unfold cs_sc
      rw [g_, ← k1_]
      exact hv
    obtain ⟨z_, hz_⟩ := hr _ _ s_
    show v = .int (cs_e G u.2.2.2.1 a.2)
    unfold cs_e
    rw [s_, hz_]
theorem cs_stp_ok (hr : ∀ (j : Int32) (v : Value), cs_sc G j = some v → ∃ x : Int32, v = .int x) {tb : Nat → Option cs_T} {pc : Nat} {o : ck_O} {e : cs_T} {l : List (Nat × cs_T)} {cm cm' : Nat → ck_CM} (he : tb pc = some e) (hs : cs_stp o e = some l) (hl : ∀ y ∈ l, tb y.1 = some y.2) : cn_st G (cs_I G tb) cm cm' pc o := by
  obtain ⟨c, f, f2, v, nx, tg, ex⟩ := o
  unfold cs_stp at hs
  dsimp only at hs
  unfold cn_st
  dsimp only
  have at_ : ∀ {L : List (Option Value)} {w : List Value} {h : List am_C}, cs_I G tb pc L w h → cs_is G e L w h := fun hI => by
    obtain ⟨e_, t_, i_⟩ := hI
    rw [he] at t_
    cases t_
    exact i_
  split at hs
  · intro L w L' w' h e1 hI
    have I_ := at_ hI
    cases hb_ : (Nat.beq f 6 && Nat.beq f2 4)
    · rw [hb_, cond_false] at hs
      cases hc_ : Nat.beq f 9
      · rw [hc_, cond_false] at hs
        obtain ⟨z_, z1_, z2_⟩ := Option.map_eq_some_iff.mp hs
        subst z2_
        obtain ⟨u_, p_, lo_, st_⟩ := I_
        obtain ⟨y1_, y2_⟩ := cs_p_ok (A' := z_.1) (S' := z_.2) z1_ e1 lo_ st_
        exact ⟨_, hl _ List.mem_cons_self, u_, p_, y1_, y2_⟩
      · rw [hc_, cond_true] at hs
        obtain ⟨d_, hs_⟩ := ck_bt' hs
        obtain ⟨z_, z1_, z2_⟩ := Option.map_eq_some_iff.mp hs_
        subst z2_
        have f_ := ck_beq hc_
        have g_ := ck_beq d_
        subst f_
        subst g_
        exact ⟨_, hl _ List.mem_cons_self, cs_c4_ok z1_ I_ e1⟩
    · rw [hb_, cond_true] at hs
      obtain ⟨d1_, d2_⟩ := Bool.and_eq_true_iff.mp hb_
      obtain ⟨z_, z1_, z2_⟩ := Option.map_eq_some_iff.mp hs
      subst z2_
      have f_ := ck_beq d1_
      have g_ := ck_beq d2_
      subst f_
      subst g_
      exact ⟨_, hl _ List.mem_cons_self, cs_i4_ok z1_ I_ e1⟩
  · split at hs
    · next a_ b_ U_ hU_ =>
      cases hs
      intro L x y w h hI
      obtain ⟨u_, p_, lo_, st_⟩ := at_ hI
      rw [hU_] at st_
      exact ⟨⟨_, hl _ List.mem_cons_self, u_, p_, lo_, st_.tl.tl⟩, ⟨_, hl _ (List.mem_cons_of_mem _ List.mem_cons_self), u_, p_, lo_, st_.tl.tl⟩⟩
    · cases hs
  · cases hs
    intro L w h hI
    exact ⟨_, hl _ List.mem_cons_self, at_ hI⟩
  · split at hs
    · next a_ U_ hU_ =>
      cases hs
      intro L x w h hI
      obtain ⟨u_, p_, lo_, st_⟩ := at_ hI
      rw [hU_] at st_
      exact ⟨fun q hq _ => ⟨_, hl (q.2, (e.1, e.2.1, U_)) (List.mem_cons_of_mem _ (List.mem_map.mpr ⟨q, hq, rfl⟩)), u_, p_, lo_, st_.tl⟩, ⟨_, hl _ List.mem_cons_self, u_, p_, lo_, st_.tl⟩⟩
    · cases hs
  · obtain ⟨z_, z1_, z2_⟩ := Option.map_eq_some_iff.mp hs
    subst z2_
    intro t L w h ht hI
    exact ⟨_, hl _ List.mem_cons_self, cs_nw_ok z1_ ht (at_ hI)⟩
  · split at hs
    · next a_ U_ hU_ =>
      cases hs
      intro L w h q t vs hg hI
      obtain ⟨u_, p_, lo_, st_⟩ := at_ hI
      rw [hU_] at st_
      exact ⟨_, hl _ List.mem_cons_self, u_, p_, lo_, Or.inl ⟨_, _, rfl, cs_v.z rfl, st_.tl⟩⟩
    · cases hs
  · split at hs
    · next a_ b_ U_ hU_ =>
      cases hs
      intro L w h q t x vs v hg hv hI
      obtain ⟨u_, p_, lo_, st_⟩ := at_ hI
      rw [hU_] at st_
      exact ⟨_, hl _ List.mem_cons_self, u_, p_, lo_, Or.inl ⟨_, _, rfl, cs_row hr hg hv st_, st_.tl.tl⟩⟩
    · cases hs
  · trivial
  · cases hs
end CSF
