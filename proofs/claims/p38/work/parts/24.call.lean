/-! CALLS, RETURNS, THROWS -/
-- a guess at th and ta: nothing rests on it
abbrev ck_Un : Type := List (Option ck_L) × List (Option Nat)
def ck_u1 (u : ck_Un) (p a : ck_L) : ck_Un := match p with
  | (0, [(1, v)]) => (match u.1[v]? with
    | some none => (u.1.set v (some a), u.2)
    | _ => u)
  | _ => u
def ck_u2 (u : ck_Un) (i c : Nat) : ck_Un := match u.2[i]? with
  | some none => (u.1, u.2.set i (some c))
  | _ => u
def ck_uv (u : ck_Un) (p a : ck_V) : ck_Un := match p.1 with
  | 1 => ck_u1 u p.2.2 a.2.2
  | 2 => ck_u1 u p.2.2 a.2.2
  | 3 => ck_u2 u p.2.1 a.2.1
  | 7 => bif Nat.beq a.1 4 then ck_u2 u p.2.1 999999 else ck_u2 u p.2.1 a.2.1
  | _ => u
def ck_us (u : ck_Un) : List ck_V → List ck_V → ck_Un
  | p :: P, a :: A => ck_us (ck_uv u p a) P A
  | _, _ => u
def ck_uf (F : List ck_F) (u : ck_Un) (p : ck_F) : ck_Un := bif Nat.beq p.1 4 then (match F.find? (fun f => Nat.beq f.1 4 && Nat.beq f.2.2.1 p.2.2.1) with
    | some f => ck_u1 u p.2.2.2.2.2.2 f.2.2.2.2.2.2
    | none => u) else match u.2[p.2.1]? with
  | some (some c) => (match p.1 with
    | 2 => (match ck_f2 F c with
      | some f => ck_u1 u p.2.2.2.2.2.2 f.2.2.2.2.2.2
      | none => u)
    | 3 => (match ck_f3 F c p.2.2.1 with
      | some f => ck_uv u p.2.2.2.2 f.2.2.2.2
      | none => u)
    | 6 => (match F.find? (fun f => Nat.beq f.1 6 && (Nat.beq f.2.1 c && Nat.beq f.2.2.1 p.2.2.1)) with
      | some f => ck_u1 u p.2.2.2.2.2.2 f.2.2.2.2.2.2
      | none => u)
    | 8 => (match ck_f8 F c with
      | some f => ck_u1 u p.2.2.2.2.2.2 f.2.2.2.2.2.2
      | none => (match ck_f2 F c with
        | some f => ck_u1 u p.2.2.2.2.2.2 f.2.2.2.2.2.2
        | none => u))
    | _ => u)
  | _ => u
def ck_ud (W : ck_I) (u : ck_Un) : List ck_L × List Nat := ((u.1.zip W).map fun q => q.1.getD (ck_k q.2.1), u.2.map fun o => o.getD 999999)
/-- pattern numbers and references from np and nr on are guessed -/
def ck_ug (F : List ck_F) (np nr : Nat) (W : ck_I) (mr : Nat) (E : List ck_F) (Ps Ls Pt St : List ck_V) (kp : List (ck_L × ck_L)) : List ck_L × List Nat :=
  let u0 : ck_Un := ((ck_id np).map some ++ List.replicate (W.length - np) none, (List.range nr).map some ++ List.replicate (mr - nr) none)
  let u1 := E.foldl (ck_uf F) (ck_us (ck_us u0 Ps Ls) Pt St)
  let u2 := kp.foldl (fun u q => ck_u1 u q.1 q.2) u1
  ck_ud W u2
-- the call
def ck_rcv (G : am_G) (rc : Option Nat) (a : List Value) (h : List am_C) : Prop := match rc with
  | none => True
  | some ci => ∃ (b tb : Nat) (vb : List Value), a.head? = some (.ref b) ∧ am_g G h b = some (tb, vb) ∧ tb % 100 = ci
abbrev ck_SX : Type := String → List (Option Value) → List am_C → Nat → Nat → Prop
def ck_sQ (G : am_G) (S : ck_SS) (SX : ck_SX) (Rc Rs nL pc nx : Nat) (rc : Option Nat) (CM : ck_CM) (na : Nat) : Prop := ∀ (a : List Value) (L : List (Option Value)) (st : List Value) (h : List am_C) (k n mc ms : Nat) (P : am_O → List am_C → Prop), CM a h mc ms P → a.length = na → L.length = nL → (st.map fun v => v.category).sum ≤ 8 → ck_rcv G rc a h → k + mc ≤ Rc → n + ms ≤ Rs →
  (∀ (v : Option Value) (h' : List am_C), P (.inl v) h' → S nx L (v.toList ++ st) h' (k + mc) (n + ms)) → (∀ (E : String) (h' : List am_C), P (.inr E) h' → SX E L h' (k + mc) (n + ms)) → S pc L (a.reverse ++ st) h k n
def ck_rcb (rc : Option Nat) (F : List ck_F) (a : Option ck_V) : Bool := match rc with
  | none => true
  | some ci => match a with
    | some x => Nat.beq x.1 3 && (match ck_f2 F x.2.1 with
      | some f => Nat.beq (f.2.2.2.1 % 100) ci
      | none => false)
    | none => false
/-- the first arguments may lose their kinds -/
def ck_rtl (rt : List Nat) (F : List ck_F) : Nat → List Nat → List ck_V → List ck_V → Bool
  | _, [], _, _ => true
  | i, t :: u, p :: ps, x :: xs => ((Nat.beq p.1 3 && Nat.beq p.2.1 i) && (Nat.beq x.1 3 && (ck_f5 F x.2.1 || (Nat.beq x.2.1 0 && rt.any (Nat.beq t))))) && ck_rtl rt F (i + 1) u ps xs
  | _, _, _, _ => false
def ck_rtb (rt : List Nat) (F : List ck_F) (c : ck_KK) (xs : List ck_V) : Bool := ck_rtl rt F 0 c.2.2.2.1 c.1.2.2.2.2 xs
theorem ck_rtl_ok {w : ck_W} {rt : List Nat} (hR : ck_Rt w rt) {F : List ck_F} {r r' : List Int} {s s' : List Nat} {h : List am_C} (h3 : ∀ f ∈ F, ck_fa (am_g w.1 h) (ck_z w) r s f) (h9 : ck_Hp w r s h) : ∀ {u : List Nat} {i : Nat} {ps xs : List ck_V} {vs : List Value}, ck_rtl rt F i u ps xs = true → ck_stk r' s' ps vs → ck_stk r s xs vs → ∀ q t, (q, t) ∈ ck_rq u (s'.drop i) → t ∈ u ∧ (ck_z w ≤ q ∨ (q, t) ∈ w.2.2.2.2.2.2.2.2) := by
  intro u
  induction u with
  | nil => intro i ps xs vs _ _ _ q t e; cases e
  | cons t0 u ih =>
    intro i ps xs vs e hA hB q t hm
    cases ps with
    | nil => cases e
    | cons p ps =>
      cases xs with
      | nil => cases e
      | cons x xs =>
        cases vs with
        | nil => exact hA.elim
        | cons v0 vl =>
          obtain ⟨e1, e2⟩ := Bool.and_eq_true_iff.mp (show (((Nat.beq p.1 3 && Nat.beq p.2.1 i) && (Nat.beq x.1 3 && (ck_f5 F x.2.1 || (Nat.beq x.2.1 0 && rt.any (Nat.beq t0))))) && ck_rtl rt F (i + 1) u ps xs) = true from e)
          simp only [Bool.and_eq_true] at e1
          obtain ⟨⟨d1, d2⟩, d3, d4⟩ := e1
          cases hs : s'.drop i with
          | nil => rw [hs] at hm; cases hm
          | cons q0 sl =>
            rw [hs] at hm
            have hs2 : s'.drop (i + 1) = sl := by rw [← List.drop_drop, hs]; rfl
            have hq0 : s'[i]? = some q0 := by
              have := List.getElem?_drop (xs := s') (i := i) (j := 0)
              rw [hs] at this
              exact this.symm
            rcases List.mem_cons.mp (show (q, t) ∈ (q0, t0) :: ck_rq u sl from hm) with hm | hm
            · cases hm
              refine ⟨List.mem_cons_self, ?_⟩
              have v1 := hA.1
              have v2 := hB.1
              unfold ck_av at v1 v2
              rw [ck_beq d1, ck_beq d2] at v1
              rw [ck_beq d3] at v2
              obtain ⟨qa, va1, va2⟩ := v1
              obtain ⟨qb, vb1, vb2⟩ := v2
              have va1 : s'[i]? = some qa := va1
              rw [hq0] at va1
              cases va1
              rw [va2] at vb2
              cases vb2
              rcases Bool.or_eq_true_iff.mp d4 with d4 | d4
              · exact Or.inl (ck_f5_ok h3 d4 vb1)
              · obtain ⟨d5, d6⟩ := Bool.and_eq_true_iff.mp d4
                obtain ⟨t1, d7, d8⟩ := List.any_eq_true.mp d6
                have d8 := ck_beq d8
                rw [← d8] at d7
                obtain ⟨q', d9, d10⟩ := hR _ d7
                obtain ⟨pp, hs0⟩ := h9.2.2.2.2
                rw [ck_beq d5, hs0, ck_get_app d9] at vb1
                cases vb1
                exact Or.inr d10
            · rw [← hs2] at hm
              obtain ⟨g1, g2⟩ := ih e2 hA.2 hB.2 q t hm
              exact ⟨List.mem_cons_of_mem _ g1, g2⟩
def ck_tQ (M : List (Nat × Nat)) (rt : List Nat) (xs : List String) (hd : List (String × Nat)) (eC eS : ck_L) (nL nx : Nat) (rc : Option Nat) (na : Nat) (c : ck_KK) (A : ck_A) : Option (List (Nat × ck_A)) := match A with
  | (V, C, F, nr, Ls, St, ek, en) =>
    let u := ck_ug F 0 0 c.1.1 c.1.2.2.2.1 c.1.2.2.1 [] [] c.1.2.2.2.2.reverse (St.take na) []
    let th2 := u.1 ++ (List.range c.2.2.2.2.1.1.length).map fun i => ck_x (V.length + i)
    let ta2 := u.2 ++ (List.range c.2.2.2.2.1.2.2.2.1).map fun i => nr + i
    bif ((ck_mt V C F nr [] (St.take na) c.1.1 c.1.2.1 c.1.2.2.1 c.1.2.2.2.1 [] c.1.2.2.2.2.reverse u.1 u.2 && Nat.ble (ck_cs (St.drop na)) 8) && (Nat.beq Ls.length nL && Nat.beq (St.take na).length na)) &&
      ((((ck_sq c.1.1.length c.2.1.1 && ck_sq c.1.1.length c.2.1.2) && (ck_ge V C (ck_sb u.1 c.2.1.1) && ck_ge V C (ck_sb u.1 c.2.1.2))) && ((ck_le V C (ck_add ek (ck_sb u.1 c.2.1.1)) eC && ck_le V C (ck_add en (ck_sb u.1 c.2.1.2)) eS) && (ck_subM c.2.2.1 M && ck_rcb rc F (St.take na).getLast?))) &&
      ((ck_rtb rt F c (St.take na).reverse && Nat.ble (nr + c.2.2.2.2.1.2.2.2.1) 999999) && (c.2.2.2.2.2.all (fun E => (hd.any fun q => q.1 == E) || xs.contains E) && c.2.2.2.2.1.2.2.2.2.all fun p => !(Nat.beq p.1 3 && ck_nc (ta2.getD p.2.1 0))))) then
      some ((nx, (V ++ c.2.2.2.2.1.1, c.2.2.2.2.1.2.1.map (ck_sb th2) ++ C, c.2.2.2.2.1.2.2.1.filterMap (ck_sf th2 ta2) ++ F.filter (ck_kc c.2.2.1 c.2.2.2.1), nr + c.2.2.2.2.1.2.2.2.1, Ls, c.2.2.2.2.1.2.2.2.2.map (ck_sv th2 ta2) ++ St.drop na, ck_add ek (ck_sb u.1 c.2.1.1), ck_add en (ck_sb u.1 c.2.1.2))) ::
        hd.map fun q => (q.2, (V, C, F.filter (ck_kc c.2.2.1 c.2.2.2.1), nr, (ck_ct Ls (nL - 1)).set (nL - 1) ck_un, [], ck_add ek (ck_sb u.1 c.2.1.1), ck_add en (ck_sb u.1 c.2.1.2)))) else none
theorem ck_stk_sv {th : List ck_L} {ta : List Nat} {r r' : List Int} {s s' : List Nat} (hT : ck_Th th r r') (hS : ck_Ta ta s s') : ∀ {A : List ck_V} {B : List Value}, ck_stk r' s' A B → (A.all fun p => !(Nat.beq p.1 3 && ck_nc (ta.getD p.2.1 0))) = true → ck_stk r s (A.map (ck_sv th ta)) B := by
  intro A
  induction A with
  | nil =>
    intro B h _
    cases B with
    | nil => trivial
    | cons b B => exact h.elim
  | cons a A ih =>
    intro B h e
    cases B with
    | nil => exact h.elim
    | cons b B =>
      obtain ⟨e1, e2⟩ := Bool.and_eq_true_iff.mp (show ((!(Nat.beq a.1 3 && ck_nc (ta.getD a.2.1 0))) && A.all fun p => !(Nat.beq p.1 3 && ck_nc (ta.getD p.2.1 0))) = true from e)
      refine ⟨?_, ih h.2 e2⟩
      by_cases h3 : a.1 = 3
      · have ha := h.1
        unfold ck_av at ha
        rw [h3] at ha
        obtain ⟨q, g1, g2⟩ := ha
        unfold ck_sv
        rw [h3]
        rcases hS.get g1 with ⟨g3, -⟩ | ⟨-, g3⟩
        · rw [h3, g3] at e1; cases e1
        · exact ⟨q, g3, g2⟩
      · exact ck_sv_ok hT hS h.1 (fun z => absurd z h3)
theorem ck_Ta.app {ta ta2 s s' s2 : List Nat} (h : ck_Ta ta s s') (h2 : ck_Ta ta2 s s2) : ck_Ta (ta ++ ta2) s (s' ++ s2) := by
  refine ⟨by rw [List.length_append, List.length_append, h.1, h2.1], fun i c q hi hx => ?_⟩
  by_cases hl : i < ta.length
  · rw [List.getElem?_append_left hl] at hi
    rw [List.getElem?_append_left (by rw [← h.1]; exact hl)] at hx
    exact h.2 i c q hi hx
  · rw [List.getElem?_append_right (by omega)] at hi
    rw [List.getElem?_append_right (by rw [← h.1]; omega)] at hx
    rw [h.1] at hi
    exact h2.2 _ c q hi hx
theorem ck_Ta.mono {ta s s' : List Nat} (h : ck_Ta ta s s') (p : List Nat) : ck_Ta ta (s ++ p) s' := ⟨h.1, fun i c q h1 h2 => (h.2 i c q h1 h2).imp id fun ⟨a, b⟩ => ⟨a, ck_get_app b⟩⟩
theorem ck_Th.new (r q : List Int) {n : Nat} (hn : r.length = n) : ck_Th ((List.range q.length).map fun i => ck_x (n + i)) (r ++ q) q := by
  refine ⟨by simp, fun i e x h1 h2 => ?_⟩
  have hi : i < q.length := (List.getElem?_eq_some_iff.mp h2).1
  rw [List.getElem?_map, List.getElem?_range hi] at h1
  cases h1
  refine ck_Lv.x ?_
  rw [← hn, List.getElem?_append_right (by omega), show r.length + i - r.length = i by omega]
  exact h2
theorem ck_Ta.new (s p : List Nat) {n : Nat} (hn : s.length = n) (h9 : n + p.length ≤ 999999) : ck_Ta ((List.range p.length).map fun i => n + i) (s ++ p) p := by
  refine ⟨by simp, fun i c q h1 h2 => ?_⟩
  have hi : i < p.length := (List.getElem?_eq_some_iff.mp h2).1
  rw [List.getElem?_map, List.getElem?_range hi] at h1
  cases h1
  dsimp only
  refine Or.inr ⟨by omega, ?_⟩
  rw [← hn, List.getElem?_append_right (by omega), show s.length + i - s.length = i by omega]
  exact h2
set_option maxHeartbeats 4000000 in
theorem ck_tQ_ok {w : ck_W} {rt : List Nat} (hR : ck_Rt w rt) {xs : List String} {hd : List (String × Nat)} {eC eS : ck_L} {Rc Rs : Nat} (hRm : ck_Rm w eC eS Rc Rs) {S : ck_SS} {SX : ck_SX} {nL pc nx na : Nat} {rc : Option Nat} {CM : ck_CM} {c : ck_KK} {A : ck_A} {l : List (Nat × ck_A)}
    (hs : ck_sQ w.1 S SX Rc Rs nL pc nx rc CM na) (hC : ck_Con CM w.1 w.2.1 w.2.2.1 c) (hh : ∀ q ∈ hd, ∀ (L : List (Option Value)) (h : List am_C) (k n : Nat), L.length = nL → (S q.2 ((am_cut L (nL - 1)).set (nL - 1) none) [] h k n → SX q.1 L h k n)) (ho : ∀ E ∈ xs, ∀ (r : List Int) (s : List Nat) (L : List (Option Value)) (h : List am_C) (k n : Nat), ck_Hp w r s h → k ≤ Rc → n ≤ Rs → (∀ q ∈ hd, q.1 ≠ E) → SX E L h k n)
    (ht : ck_tQ w.2.2.2.2.2.2.2.1 rt xs hd eC eS nL nx rc na c A = some l) (hK : ck_K w S l)
    {r : List Int} {s : List Nat} {L : List (Option Value)} {st : List Value} {h : List am_C} {k n : Nat} (H : ck_Ga w A r s L st h k n) : S pc L st h k n := by
  obtain ⟨V, C, F, nr, Ls, St, ek, en⟩ := A
  unfold ck_tQ at ht
  dsimp only at ht
  generalize ck_ug F 0 0 c.1.1 c.1.2.2.2.1 c.1.2.2.1 [] [] c.1.2.2.2.2.reverse (St.take na) [] = u at ht
  obtain ⟨th, ta⟩ := u
  dsimp only at ht
  obtain ⟨hc, ht⟩ := ck_bt rfl ht
  cases ht
  obtain ⟨h1, h2, h3, h4, hL, hS, h7, h8, h9⟩ := id H
  simp only [Bool.and_eq_true] at hc
  obtain ⟨⟨⟨c1, c2⟩, c3, c4⟩, ⟨⟨⟨c5, c6⟩, c7, c8⟩, ⟨c9, c10⟩, c11, c12⟩, ⟨c13, c14⟩, c15, c16⟩ := hc
  obtain ⟨s1, s2⟩ := hS.take na
  obtain ⟨g1, g2, g3, g4, g5, g6, g7, g8⟩ := ck_mt_ok c1 h1 h2 h3 h4 (L := []) (st := st.take na) ⟨rfl, fun i a ha => (nomatch ha)⟩ s1 h9.1.1.1
  have hv1 : ck_Lv (ck_r' th r) c.2.1.1 (c.2.1.1.1 + ck_ev (ck_r' th r) c.2.1.1.2) := ⟨by rw [← g3.1]; exact ck_sq_ok c5, rfl⟩
  have hv2 : ck_Lv (ck_r' th r) c.2.1.2 (c.2.1.2.1 + ck_ev (ck_r' th r) c.2.1.2.2) := ⟨by rw [← g3.1]; exact ck_sq_ok c6, rfl⟩
  generalize c.2.1.1.1 + ck_ev (ck_r' th r) c.2.1.1.2 = x1 at hv1
  generalize c.2.1.2.1 + ck_ev (ck_r' th r) c.2.1.2.2 = x2 at hv2
  have hw1 := ck_sb_ok g1 hv1
  have hw2 := ck_sb_ok g1 hv2
  have p1 := ck_ge_ok c7 h1 h2 hw1
  have p2 := ck_ge_ok c8 h1 h2 hw2
  obtain ⟨mc, rfl⟩ : ∃ m : Nat, x1 = (m : Int) := ⟨x1.toNat, by omega⟩
  obtain ⟨ms, rfl⟩ : ∃ m : Nat, x2 = (m : Int) := ⟨x2.toNat, by omega⟩
  obtain ⟨m1, m2⟩ := hRm.at h9
  have b1 := ck_le_ok c9 h1 h2 (h7.add hw1) m1
  have b2 := ck_le_ok c10 h1 h2 (h8.add hw2) m2
  have hcs : ((st.drop na).map fun v => v.category).sum ≤ 8 := by rw [ck_cs_ok s2]; exact Nat.le_of_ble_eq_true c2
  have hargs : ck_stk (ck_r' th r) (ck_s' ta s) c.1.2.2.2.2 (st.take na).reverse := by
    have := g8.rev
    rw [List.reverse_reverse] at this
    exact this
  have hCM := hC w.2.2.2.1 (ck_r' th r) (ck_s' ta s) (st.take na).reverse h h9.1 g3 g4 (fun f hf => (g5 f hf).z (Nat.zero_le _)) g6 hargs mc ms hv1 hv2
  have hlen : (st.take na).length = na := by rw [← s1.len]; exact ck_beq c4
  have hrt : ∀ q t, (q, t) ∈ ck_rq c.2.2.2.1 (ck_s' ta s) → t ∈ c.2.2.2.1 ∧ (ck_z w ≤ q ∨ (q, t) ∈ w.2.2.2.2.2.2.2.2) := fun q t e => ck_rtl_ok hR h3 h9 (i := 0) c13 hargs s1.rev q t e
  have hfil : ∀ h', ck_Kp c.2.2.1 (ck_rq c.2.2.2.1 (ck_s' ta s)) (am_g w.1 h) (am_g w.1 h') → ∀ f ∈ F.filter (ck_kc c.2.2.1 c.2.2.2.1), ck_fa (am_g w.1 h') (ck_z w) r s f := fun h' hk f hf => by
    obtain ⟨f1, f2⟩ := List.mem_filter.mp hf
    exact ck_kc_ok hk (fun q t e => (hrt q t e).1) (h3 f f1) f2
  have e0 : st = (st.take na).reverse.reverse ++ st.drop na := by rw [List.reverse_reverse, List.take_append_drop]
  rw [e0]
  refine hs _ L _ h k n mc ms _ hCM (by rw [List.length_reverse]; exact hlen) (by rw [hL.1]; exact ck_beq c3) hcs ?_ (by omega) (by omega) (fun v h' hp => ?_) (fun E h' hp => ?_)
  · unfold ck_rcv
    cases rc with
    | none => trivial
    | some ci =>
      unfold ck_rcb at c12
      dsimp only at c12
      split at c12
      · next x hx =>
        obtain ⟨d1, d2⟩ := Bool.and_eq_true_iff.mp c12
        have hB := s1.rev
        rw [← List.head?_reverse] at hx
        cases hy : (St.take na).reverse with
        | nil => rw [hy] at hx; cases hx
        | cons x0 xl =>
          cases hv : (st.take na).reverse with
          | nil => rw [hy, hv] at hB; exact hB.elim
          | cons v0 vl =>
            rw [hy, hv] at hB
            rw [hy] at hx
            cases hx
            have v2 := hB.1
            unfold ck_av at v2
            rw [ck_beq d1] at v2
            obtain ⟨q, a1, a2⟩ := v2
            split at d2
            · next f hf =>
              obtain ⟨q', vs, b1', b2', -⟩ := ck_f2_ok h3 hf
              rw [a1] at b1'
              cases b1'
              exact ⟨q, _, vs, by rw [a2]; rfl, b2', ck_beq d2⟩
            · cases d2
      · cases c12
  · obtain ⟨k1, k2, k3, q2, pp2, k4, k5, k6, k7, k8⟩ := hp
    have hH' := h9.call k1 k2 k3 c11 (fun q t e => (hrt q t e).2)
    have hT2 : ck_Th (th ++ (List.range c.2.2.2.2.1.1.length).map fun i => ck_x (V.length + i)) (r ++ q2) (ck_r' th r ++ q2) := (g1.mono q2).app (by rw [k4.1]; exact ck_Th.new r q2 h1.1.symm)
    have hA2 : ck_Ta (ta ++ (List.range c.2.2.2.2.1.2.2.2.1).map fun i => nr + i) (s ++ pp2) (ck_s' ta s ++ pp2) := (g2.mono pp2).app (by rw [← k7]; exact ck_Ta.new s pp2 h4 (by rw [k7]; exact Nat.le_of_ble_eq_true c14))
    refine hK _ List.mem_cons_self (r ++ q2) (s ++ pp2) L _ h' (k + mc) (n + ms) ⟨h1.app k4, fun d hd' => ?_, fun f hf => ?_, by rw [List.length_append, k7]; exact congrArg (· + _) h4, hL.app _ _, (ck_stk_sv hT2 hA2 k8 c16).app2 (s2.app _ _), (h7.add hw1).app q2, (h8.add hw2).app q2, hH'.app _ _⟩
    · rcases List.mem_append.mp hd' with e | e
      · obtain ⟨d0, e1, e2⟩ := List.mem_map.mp e
        obtain ⟨x, e3, e4⟩ := k5 d0 e1
        rw [← e2]
        exact ⟨x, ck_sb_ok hT2 e3, e4⟩
      · exact h2.app q2 d e
    · rcases List.mem_append.mp hf with e | e
      · obtain ⟨f0, e1, e2⟩ := List.mem_filterMap.mp e
        exact ck_sf_ok (by unfold ck_z; have := h9.2.2.1; omega) hT2 hA2 (k6 f0 e1) e2
      · exact (hfil h' k2 f e).app _ _
  · obtain ⟨k1, k2, k3, k4⟩ := hp
    have hH' := h9.call k1 k2 k3 c11 (fun q t e => (hrt q t e).2)
    by_cases hE : ∃ q ∈ hd, q.1 = E
    · obtain ⟨q, q1, rfl⟩ := hE
      refine hh q q1 L h' _ _ (by rw [hL.1]; exact ck_beq c3) (hK _ (List.mem_cons_of_mem _ (List.mem_map.mpr ⟨q, q1, rfl⟩)) r s _ _ h' _ _ ⟨h1, h2, hfil h' k2, h4, (hL.cut (nL - 1)).set (Or.inl rfl), trivial, h7.add hw1, h8.add hw2, hH'⟩)
    · have h5 := List.all_eq_true.mp c15 E k4
      rcases Bool.or_eq_true_iff.mp h5 with h5 | h5
      · obtain ⟨q, q1, q2⟩ := List.any_eq_true.mp h5
        exact absurd ⟨q, q1, by simpa using q2⟩ hE
      · exact ho E (by simpa using h5) r s L h' _ _ hH' (by omega) (by omega) (fun q q1 q2 => hE ⟨q, q1, q2⟩)
-- returns
def ck_sV (S : ck_SS) (P : am_O → List am_C → Prop) (Rc Rs pc : Nat) (jt : Nat) : Prop := ∀ (L : List (Option Value)) (v : Value) (h : List am_C) (k n : Nat), ck_fv jt v → k ≤ Rc → n ≤ Rs → P (.inl (some v)) h → S pc L [v] h k n
def ck_sV0 (S : ck_SS) (P : am_O → List am_C → Prop) (Rc Rs pc : Nat) : Prop := ∀ (L : List (Option Value)) (h : List am_C) (k n : Nat), k ≤ Rc → n ≤ Rs → P (.inl none) h → S pc L [] h k n
/-- the contract's own gifts are found in the state -/
def ck_ret (c : ck_KK) (eC eS : ck_L) (A : ck_A) : Bool := match A with
  | (V, C, F, nr, Ls, St, ek, en) =>
    let u := ck_ug F c.1.1.length c.1.2.2.2.1 (c.1.1 ++ c.2.2.2.2.1.1) (c.1.2.2.2.1 + c.2.2.2.2.1.2.2.2.1) c.2.2.2.2.1.2.2.1 [] [] c.2.2.2.2.1.2.2.2.2 St []
    let th := ck_id c.1.1.length ++ u.1.drop c.1.1.length
    let ta := List.range c.1.2.2.2.1 ++ u.2.drop c.1.2.2.2.1
    (ck_mt V C F nr [] St (c.1.1 ++ c.2.2.2.2.1.1) c.2.2.2.2.1.2.1 c.2.2.2.2.1.2.2.1 (c.1.2.2.2.1 + c.2.2.2.2.1.2.2.2.1) [] c.2.2.2.2.1.2.2.2.2 th ta && Nat.ble c.1.2.2.2.1 999999) && (ck_le V C ek eC && ck_le V C en eS)
theorem ck_In.right {V V2 : ck_I} {r q : List Int} (h : ck_In (V ++ V2) (r ++ q)) (hl : V.length = r.length) : ck_In V2 q := by
  refine ⟨by have := h.1; rw [List.length_append, List.length_append] at this; omega, fun i a b x h1 h2 => h.2 (r.length + i) a b x ?_ ?_⟩
  · rw [List.getElem?_append_right (by omega), show r.length + i - V.length = i by omega]; exact h1
  · rw [List.getElem?_append_right (by omega), show r.length + i - r.length = i by omega]; exact h2
theorem ck_ret_ok {w : ck_W} {c : ck_KK} {eC eS : ck_L} {Rc Rs : Nat} (hRm : ck_Rm w eC eS Rc Rs) {A : ck_A} (hr : ck_ret c eC eS A = true) (hM : w.2.2.2.2.2.2.2.1 = c.2.2.1) {re : List Int} {se : List Nat} (hre : ∃ q, w.2.2.2.2.2.1 = re ++ q) (hse : ∃ q, w.2.2.2.2.2.2.1 = se ++ q) (hq : w.2.2.2.2.2.2.2.2 = ck_rq c.2.2.2.1 se) (hn : re.length = c.1.1.length) (hn2 : se.length = c.1.2.2.2.1)
    {r : List Int} {s : List Nat} {L : List (Option Value)} {st : List Value} {h : List am_C} {k n : Nat} (H : ck_Ga w A r s L st h k n) : k ≤ Rc ∧ n ≤ Rs ∧ ∀ v : Option Value, v.toList = st → ck_Po w.1 w.2.1 w.2.2.1 w.2.2.2.1 c re se w.2.2.2.2.1 (.inl v) h := by
  obtain ⟨V, C, F, nr, Ls, St, ek, en⟩ := A
  unfold ck_ret at hr
  dsimp only at hr
  generalize ck_ug F c.1.1.length c.1.2.2.2.1 (c.1.1 ++ c.2.2.2.2.1.1) (c.1.2.2.2.1 + c.2.2.2.2.1.2.2.2.1) c.2.2.2.2.1.2.2.1 [] [] c.2.2.2.2.1.2.2.2.2 St [] = u at hr
  obtain ⟨h1, h2, h3, h4, hL, hS, h7, h8, h9⟩ := id H
  simp only [Bool.and_eq_true] at hr
  obtain ⟨⟨c1, c2⟩, c3, c4⟩ := hr
  obtain ⟨m1, m2⟩ := hRm.at h9
  have b1 := ck_le_ok c3 h1 h2 h7 m1
  have b2 := ck_le_ok c4 h1 h2 h8 m2
  refine ⟨by omega, by omega, fun v hv => ?_⟩
  obtain ⟨g1, g2, g3, g4, g5, g6, g7, g8⟩ := ck_mt_ok c1 h1 h2 h3 h4 (L := []) (st := st) ⟨rfl, fun i a ha => (nomatch ha)⟩ hS h9.1.1.1
  obtain ⟨q, eq⟩ : ∃ q, r = re ++ q := by
    obtain ⟨q, e1⟩ := h9.2.2.2.1
    obtain ⟨q', e2⟩ := hre
    exact ⟨q' ++ q, by rw [e1, e2, List.append_assoc]⟩
  obtain ⟨p, ep⟩ : ∃ q, s = se ++ q := by
    obtain ⟨q, e1⟩ := h9.2.2.2.2
    obtain ⟨q', e2⟩ := hse
    exact ⟨q' ++ q, by rw [e1, e2, List.append_assoc]⟩
  have e1 : ck_r' (ck_id c.1.1.length ++ u.1.drop c.1.1.length) r = re ++ ck_r' (u.1.drop c.1.1.length) r := by
    have := ck_id_ok eq hn
    unfold ck_r' at this ⊢
    rw [List.map_append, this]
  have e2 : ck_s' (List.range c.1.2.2.2.1 ++ u.2.drop c.1.2.2.2.1) s = se ++ ck_s' (u.2.drop c.1.2.2.2.1) s := by
    have := ck_ids_ok ep hn2 (Nat.le_of_ble_eq_true c2)
    unfold ck_s' at this ⊢
    rw [List.map_append, this]
  rw [e1] at g3 g4 g5 g8
  rw [e2] at g5 g6 g8
  unfold ck_Hp at h9
  rw [hM, hq] at h9
  refine ⟨h9.1, h9.2.1, h9.2.2.1, _, _, g3.right hn.symm, g4, g5, ?_, by rw [hv]; exact g8⟩
  rw [List.length_append] at g6
  omega
