/-! THE WALK of a method by what is known, and why it is right -/
abbrev ck_O : Type := Nat × Nat × Nat × Int × Nat × Nat × List (Int × Nat)
abbrev ck_Cl : Type := Option Nat × Nat × List ck_KK
abbrev ck_Tm : Type := Int × Nat × Nat × List Nat
/-- 0: by the sign of a form; 1, 2: a made cell (a place and a path; of the stack) gets its kind; 3: a place of a cell is read -/
abbrev ck_Gh : Type := Nat × Nat × List Nat × Int × List ck_Tm
/-- kinds; pairs; the contract; places; code; calls; catches; helps; stops -/
abbrev ck_E : Type := ck_TT × List (Nat × Nat) × ck_KK × Nat × List (Nat × ck_O) × List ck_Cl × List (Nat × List (String × Nat)) × List (Nat × List ck_Gh) × List (Nat × ck_A × ck_L)
def ck_at {α : Type} (d : α) (pc : Nat) : List (Nat × α) → α
  | [] => d
  | x :: u => bif Nat.beq x.1 pc then x.2 else ck_at d pc u
def ck_sZ (S : ck_SS) (P : am_O → List am_C → Prop) (Rc Rs nL pc : Nat) (E : String) : Prop := ∀ (L : List (Option Value)) (st : List Value) (h : List am_C) (k n : Nat), L.length = nL → (st.map fun v => v.category).sum ≤ 8 → k + 1 ≤ Rc → n + 6 ≤ Rs → P (.inr E) (h ++ [(99, [])]) → S pc L st h k n
def ck_tZ (T : ck_TT) (eC eS : ck_L) (nL : Nat) (A : ck_A) : Bool := match A with
  | (V, C, _, _, Ls, St, ek, en) => (Nat.ble (ck_cs St) 8 && Nat.beq Ls.length nL) && ((ck_le V C (ck_add ek (ck_k 1)) eC && ck_le V C (ck_add en (ck_k 6)) eS) && (ck_lk T 99).isNone)
-- two references compared: both ways, or one when they are the same
def ck_sM (S : ck_SS) (pc nx tg : Nat) (eq : Bool) : Prop := (∀ (L : List (Option Value)) (v w : Value) (st : List Value) (h : List am_C) (k n : Nat), ((∃ q, v = .ref q) ∨ v = .null) → ((∃ q, w = .ref q) ∨ w = .null) → S tg L st h k n → S nx L st h k n → S pc L (v :: w :: st) h k n) ∧
  ∀ (L : List (Option Value)) (q : Nat) (st : List Value) (h : List am_C) (k n : Nat), S (bif eq then tg else nx) L st h k n → S pc L (.ref q :: .ref q :: st) h k n
def ck_mi (t : Nat) (F : List ck_F) (a : ck_V) : Bool := Nat.beq a.1 3 && (match ck_f2 F a.2.1 with
  | some f => Nat.beq f.2.2.2.1 t
  | none => false)
def ck_tM (eq : Bool) (nx tg : Nat) (A : ck_A) : Option (List (Nat × ck_A)) := match A with
  | (V, C, F, nr, Ls, a :: b :: St, ek, en) => bif (ck_mi 43099 F a && ck_mi 43099 F b) || (ck_mi 43056 F a && ck_mi 43056 F b) then some [((bif eq then tg else nx), (V, C, F, nr, Ls, St, ek, en))] else
    bif ck_isR a && ck_isR b then some [(tg, (V, C, F, nr, Ls, St, ek, en)), (nx, (V, C, F, nr, Ls, St, ek, en))] else none
  | _ => none
theorem ck_mi_ok {g : ck_g} {z : Nat} {r : List Int} {s : List Nat} {F : List ck_F} {a : ck_V} {v : Value} {t : Nat} (hF : ∀ f ∈ F, ck_fa g z r s f) (ha : ck_av r s a v) (h : ck_mi t F a = true) : ∃ (q : Nat) (vs : List Value), v = .ref q ∧ g q = some (t, vs) := by
  unfold ck_mi at h
  obtain ⟨h1, h2⟩ := Bool.and_eq_true_iff.mp h
  unfold ck_av at ha
  rw [ck_beq h1] at ha
  obtain ⟨q, e1, e2⟩ := ha
  split at h2
  · next f hf =>
    obtain ⟨q', vs, g1, g2, -⟩ := ck_f2_ok hF hf
    rw [e1] at g1
    cases g1
    exact ⟨q, vs, e2, by rw [← ck_beq h2]; exact g2⟩
  · cases h2
theorem ck_tM_ok {w : ck_W} (hX0 : ck_X0 w.2.1) {S : ck_SS} {pc nx tg : Nat} {eq : Bool} {A : ck_A} {l : List (Nat × ck_A)} (hs : ck_sM S pc nx tg eq) (ht : ck_tM eq nx tg A = some l) (hK : ck_K w S l)
    {r : List Int} {s : List Nat} {L : List (Option Value)} {st : List Value} {h : List am_C} {k n : Nat} (H : ck_Ga w A r s L st h k n) : S pc L st h k n := by
  unfold ck_tM at ht
  split at ht
  · next V C F nr Ls a b St ek en =>
    obtain ⟨h1, h2, h3, h4, hL, hS, h7, h8, h9⟩ := id H
    match st, hS with
    | v :: u :: st, hS =>
      cases hm : ((ck_mi 43099 F a && ck_mi 43099 F b) || (ck_mi 43056 F a && ck_mi 43056 F b))
      · rw [hm, cond_false] at ht
        obtain ⟨hc, ht⟩ := ck_bt rfl ht
        cases ht
        obtain ⟨c1, c2⟩ := Bool.and_eq_true_iff.mp hc
        exact hs.1 L v u st h k n (hS.1.ref c1) (hS.2.1.ref c2) (hK _ List.mem_cons_self r s L st h k n (H.frame hL hS.2.2)) (hK _ (List.mem_cons_of_mem _ (List.mem_singleton.mpr rfl)) r s L st h k n (H.frame hL hS.2.2))
      · rw [hm, cond_true] at ht
        cases ht
        obtain ⟨t9, ht9, m1, m2⟩ : ∃ t, (t = 43099 ∨ t = 43056) ∧ ck_mi t F a = true ∧ ck_mi t F b = true := by
          rcases Bool.or_eq_true_iff.mp hm with hm | hm
          · exact ⟨_, Or.inl rfl, Bool.and_eq_true_iff.mp hm⟩
          · exact ⟨_, Or.inr rfl, Bool.and_eq_true_iff.mp hm⟩
        obtain ⟨q1, vs1, e1, g1⟩ := ck_mi_ok h3 hS.1 m1
        obtain ⟨q2, vs2, e2, g2⟩ := ck_mi_ok h3 hS.2.1 m2
        have := hX0 _ h9.1.1.2 t9 q1 q2 vs1 vs2 ht9 g1 g2
        subst this
        subst e1 e2
        exact hs.2 L q1 st h k n (hK _ (List.mem_singleton.mpr rfl) r s L st h k n (H.frame hL hS.2.2))
  · cases ht
/-- constants with a kind: row 100000 + n of the table: the kind, the length -/
def ck_KT (G : am_G) (T : ck_TT) : Prop := ∀ (n : Nat) (d : ck_D), ck_lk T (100000 + n) = some d → n < 1000 ∧ ∃ vs : List Value, G.2.2.2.2[n]? = some (d.1, vs) ∧ (vs.length : Int) = d.2.1
def ck_tK (T : ck_TT) (nx c a : Nat) (v : Int) (A : ck_A) : Option (List (Nat × ck_A)) := bif Nat.beq c 22 then (match ck_lk T (100000 + a) with
  | some d => some [(nx, (A.1, A.2.1, (2, A.2.2.2.1, 0, d.1, (0, 0, (d.2.1, []))) :: A.2.2.1, A.2.2.2.1 + 1, A.2.2.2.2.1, (3, A.2.2.2.1, (0, [])) :: A.2.2.2.2.2.1, A.2.2.2.2.2.2.1, A.2.2.2.2.2.2.2))]
  | none => ck_tP nx c a v A) else ck_tP nx c a v A
theorem ck_tK_ok {w : ck_W} (hk : ck_KT w.1 w.2.2.1) {S : ck_SS} {pc nx c a : Nat} {v : Int} {A : ck_A} {l : List (Nat × ck_A)} (hs : ck_sP S pc nx c a v) (ht : ck_tK w.2.2.1 nx c a v A = some l) (hK : ck_K w S l)
    {r : List Int} {s : List Nat} {L : List (Option Value)} {st : List Value} {h : List am_C} {k n : Nat} (H : ck_Ga w A r s L st h k n) : S pc L st h k n := by
  unfold ck_tK at ht
  cases hc : Nat.beq c 22
  · rw [hc, cond_false] at ht
    exact ck_tP_ok hs ht hK H
  · rw [hc, cond_true] at ht
    obtain rfl := ck_beq hc
    split at ht
    · next d hd =>
      cases ht
      obtain ⟨V, C, F, nr, Ls, St, ek, en⟩ := A
      obtain ⟨h0, vs, h1, h2⟩ := hk a d hd
      obtain ⟨-, -, -, g4, hL, hS, -⟩ := id H
      refine hs L st L (.ref a :: st) h k n rfl (hK _ (List.mem_singleton.mpr rfl) (r ++ []) (s ++ [a]) L (.ref a :: st) h k n ?_)
      have g4 : s.length = nr := g4
      have hv : (s ++ [a])[nr]? = some a := by rw [← g4, List.getElem?_append_right (Nat.le_refl _)]; simp
      have := ck_Ga.more H (V2 := []) (C2 := []) (F2 := [(2, nr, 0, d.1, (0, 0, (d.2.1, [])))]) (m := 1) (q := []) (p := [a]) (Ls' := Ls) (St' := (3, nr, (0, [])) :: St) (L' := L) (st' := .ref a :: st) ck_In.nil (fun c hc => (nomatch hc)) (fun f hf => by
        rw [List.mem_singleton] at hf
        rw [hf]
        exact ⟨a, vs, hv, by show am_g w.1 h a = _; unfold am_g; rw [if_pos h0]; exact h1, by rw [h2]; exact ck_Lv.k _ d.2.1⟩) rfl (hL.app _ _) ⟨⟨a, hv, rfl⟩, hS.app _ _⟩
      rw [show V ++ [] = V from List.append_nil V] at this
      exact this
    · exact ck_tP_ok hs ht hK H
def ck_op (E : ck_E) (pc : Nat) (o : ck_O) (A : ck_A) : Option (List (Nat × ck_A)) := match o, E with
  | (c, f, f2, v, nx, tg, ex), (T, pr, own, nL, _, cl, hs, _, _) => match c with
    | 0 => ck_tK T nx f f2 v A
    | 1 => ck_tI nx f tg A
    | 2 => ck_tC nx f tg A
    | 3 => some [(tg, A)]
    | 4 => ck_tN tg nx A
    | 5 => ck_tN nx tg A
    | 6 => ck_tS tg ex A
    | 7 => ck_tF T nx f f2 A
    | 8 => ck_tU T own.2.2.1 own.2.2.2.1 nx f f2 v.toNat A
    | 9 => ck_tW T own.2.1.1 own.2.1.2 nx f f2 (ex.map fun q => q.2) A
    | 10 => ck_tE T own.2.1.1 own.2.1.2 nx f f2 v.toNat A
    | 11 => ck_tL nx A
    | 12 => ck_tA T nx f f2 A
    | 13 => ck_tB pr T own.2.2.1 own.2.2.2.1 nx f f2 A
    | 14 => match A.2.2.2.2.2.1 with
      | [a] => bif ck_sh (A.1, A.2.1) v.toNat a && ck_ret own own.2.1.1 own.2.1.2 A then some [] else none
      | _ => none
    | 15 => match A.2.2.2.2.2.1 with
      | [] => bif ck_ret own own.2.1.1 own.2.1.2 A then some [] else none
      | _ => none
    | 16 => match cl[f]? with
      | some (rc, na, cs) => cs.findSome? fun c => ck_tQ own.2.2.1 own.2.2.2.1 own.2.2.2.2.2 (ck_at [] pc hs) own.2.1.1 own.2.1.2 nL nx rc na c A
      | none => none
    | 17 => match own.2.2.2.2.2[f]? with
      | some _ => bif ck_tZ T own.2.1.1 own.2.1.2 nL A then some [] else none
      | none => none
    | 18 => ck_tO nL nx A
    | 19 => ck_tT nx (ex.map fun q => q.2) A
    | 20 => ck_tM (Nat.beq f 1) nx tg A
    | _ => none
def ck_os (G : am_G) (S : ck_SS) (SX : Nat → ck_SX) (P : am_O → List am_C → Prop) (Rc Rs : Nat) (cm : Nat → ck_CM) (E : ck_E) (pc : Nat) (o : ck_O) : Prop := match o, E with
  | (c, f, f2, v, nx, tg, ex), (_, pr, own, nL, _, cl, _, _, _) => match c with
    | 0 => ck_sP S pc nx f f2 v
    | 1 => ck_sI S pc nx f tg
    | 2 => ck_sC S pc nx f tg
    | 3 => ck_sG S pc tg
    | 4 => ck_sN S pc tg nx
    | 5 => ck_sN S pc nx tg
    | 6 => ck_sS S pc tg ex
    | 7 => ck_sF G S pc nx f f2
    | 8 => ck_sU G S pc nx f f2 v.toNat
    | 9 => ck_sW S Rc Rs pc nx f (ex.map fun q => q.2)
    | 10 => ck_sE S Rc Rs pc nx f v.toNat
    | 11 => ck_sL G S pc nx
    | 12 => ck_sA G S pc nx f f2
    | 13 => ck_sB G pr S pc nx f f2
    | 14 => ck_sV S P Rc Rs pc v.toNat
    | 15 => ck_sV0 S P Rc Rs pc
    | 16 => match cl[f]? with
      | some (rc, na, _) => ck_sQ G S (SX pc) Rc Rs nL pc nx rc (cm f) na
      | none => True
    | 17 => match own.2.2.2.2.2[f]? with
      | some Ex => ck_sZ S P Rc Rs nL pc Ex
      | none => True
    | 18 => ck_sO S nL pc nx
    | 19 => ck_sT G S pc nx (ex.map fun q => q.2)
    | 20 => ck_sM S pc nx tg (Nat.beq f 1)
    | _ => True
/-- the words that stay, with a segment's first numbers and references -/
def ck_wa (w : ck_W) (r : List Int) (s : List Nat) : ck_W := (w.1, w.2.1, w.2.2.1, w.2.2.2.1, w.2.2.2.2.1, r, s, w.2.2.2.2.2.2.2)
/-- a lemma that is called like a method, and does nothing -/
def ck_nop : ck_CM := fun _ h _ _ P => P (.inl none) h
/-- cells get other kinds -/
def ck_rhl (G : am_G) : List (Nat × Nat) → List am_C → List am_C → Prop
  | [], h, h' => h' = h
  | x :: u, h, h' => ∃ (t : Nat) (vs : List Value), am_g G h x.1 = some (t, vs) ∧ 1000 ≤ x.1 ∧ x.2 % 100 = t % 100 ∧ ck_rhl G u (am_s h x.1 (x.2, vs)) h'
def ck_rh (G : am_G) (h h' : List am_C) : Prop := ∃ l, ck_rhl G l h h'
theorem ck_rh.S {G : am_G} {S : ck_SS} {pc : Nat} (hs : ck_sR G S pc) {L : List (Option Value)} {st : List Value} {h h' : List am_C} {k n : Nat} (H : ck_rh G h h') : S pc L st h' k n → S pc L st h k n := by
  obtain ⟨l, H⟩ := H
  induction l generalizing h with
  | nil =>
    have H : h' = h := H
    rw [H]; exact id
  | cons x u ih =>
    obtain ⟨t, vs, e, hq, ht, H⟩ := H
    exact fun z => hs _ _ _ _ _ _ _ _ _ e hq ht (ih H z)
theorem ck_rh.len {G : am_G} {h h' : List am_C} (H : ck_rh G h h') : h'.length = h.length := by
  obtain ⟨l, H⟩ := H
  induction l generalizing h with
  | nil =>
    have H : h' = h := H
    rw [H]
  | cons x u ih =>
    obtain ⟨t, vs, e, hq, ht, H⟩ := H
    rw [ih H, am_s_len]
def ck_nopP (G : am_G) (CM : ck_CM) : Prop := ∀ (a : List Value) (h : List am_C) (mc ms : Nat) (P : am_O → List am_C → Prop), CM a h mc ms P → ∃ h', ck_rh G h h' ∧ P (.inl none) h'
def ck_g5 (E : ck_E) : List Nat := E.2.2.2.2.2.2.2.1.flatMap fun q => q.2.filterMap fun g => bif Nat.beq g.1 5 then some g.2.1 else none
theorem ck_no5 {E : ck_E} {P : Nat → Prop} (h : ck_g5 E = []) : ∀ f ∈ ck_g5 E, P f := by
  rw [h]
  intro f hf
  cases hf
theorem ck_bt' {c : Bool} {α : Type} {o : Option α} {x : α} (h : (bif c then o else none) = some x) : c = true ∧ o = some x := by
  cases c
  · cases h
  · exact ⟨rfl, h⟩
theorem ck_g5_mem {E : ck_E} {pc n : Nat} {g : ck_Gh} (h : (ck_at [] pc E.2.2.2.2.2.2.2.1)[n]? = some g) (h5 : Nat.beq g.1 5 = true) : g.2.1 ∈ ck_g5 E := by
  have key : ∀ (l : List (Nat × List ck_Gh)), (ck_at [] pc l)[n]? = some g → ∃ q ∈ l, g ∈ q.2 := by
    intro l
    induction l with
    | nil => intro h; cases h
    | cons x u ih =>
      intro h
      unfold ck_at at h
      cases hc : Nat.beq x.1 pc
      · rw [hc, cond_false] at h
        obtain ⟨q, q1, q2⟩ := ih h
        exact ⟨q, List.mem_cons_of_mem _ q1, q2⟩
      · rw [hc, cond_true] at h
        exact ⟨x, List.mem_cons_self, List.mem_of_getElem? h⟩
  obtain ⟨q, q1, q2⟩ := key _ h
  exact List.mem_flatMap.mpr ⟨q, q1, List.mem_filterMap.mpr ⟨g, q2, by rw [h5]; rfl⟩⟩
/-- all that a method's walk rests on -/
def ck_Ctx (E : ck_E) (w : ck_W) (S : ck_SS) (SX : Nat → ck_SX) (Rc Rs : Nat) (cm : Nat → ck_CM) (re : List Int) (se : List Nat) : Prop :=
  ck_XO w.2.1 ∧ ck_X0 w.2.1 ∧ w.2.2.1 = E.1 ∧ (∀ t, t < 100 → ck_wr w.2.2.1 t = true) ∧ w.2.2.2.2.2.2.2.1 = E.2.2.1.2.2.1 ∧ w.2.2.2.2.2.2.2.2 = ck_rq E.2.2.1.2.2.2.1 se ∧ ck_Rt w E.2.2.1.2.2.2.1 ∧ ck_Rm w E.2.2.1.2.1.1 E.2.2.1.2.1.2 Rc Rs ∧
  (∃ q, w.2.2.2.2.2.1 = re ++ q) ∧ (∃ q, w.2.2.2.2.2.2.1 = se ++ q) ∧ re.length = E.2.2.1.1.1.length ∧ se.length = E.2.2.1.1.2.2.2.1 ∧
  (∀ (i : Nat) (x : ck_Cl), E.2.2.2.2.2.1[i]? = some x → ∀ c ∈ x.2.2, ck_Con (cm i) w.1 w.2.1 w.2.2.1 c) ∧
  (∀ (pc : Nat), ∀ q ∈ ck_at [] pc E.2.2.2.2.2.2.1, ∀ (L : List (Option Value)) (h : List am_C) (k n : Nat), L.length = E.2.2.2.1 → S q.2 ((am_cut L (E.2.2.2.1 - 1)).set (E.2.2.2.1 - 1) none) [] h k n → SX pc q.1 L h k n) ∧
  (∀ (pc : Nat) (Ex : String) (L : List (Option Value)) (h : List am_C) (k n : Nat), (∀ q ∈ ck_at [] pc E.2.2.2.2.2.2.1, q.1 ≠ Ex) → ck_Po w.1 w.2.1 w.2.2.1 w.2.2.2.1 E.2.2.1 re se w.2.2.2.2.1 (.inr Ex) h → k ≤ Rc → n ≤ Rs → SX pc Ex L h k n) ∧
  (∀ pc, ck_sR w.1 S pc) ∧ (∀ (pc : Nat) (L : List (Option Value)) (st : List Value) (h : List am_C) (k n k' n' : Nat), k ≤ k' → n ≤ n' → S pc L st h k' n' → S pc L st h k n) ∧ ck_KT w.1 w.2.2.1 ∧ ∀ f ∈ ck_g5 E, ck_nopP w.1 (cm f)
theorem ck_Po_x {E : ck_E} {w : ck_W} {S : ck_SS} {SX : Nat → ck_SX} {Rc Rs : Nat} {cm : Nat → ck_CM} {re : List Int} {se : List Nat} (X : ck_Ctx E w S SX Rc Rs cm re se) {r : List Int} {s : List Nat} {h : List am_C} (H : ck_Hp w r s h) {Ex : String} (hE : Ex ∈ E.2.2.1.2.2.2.2.2) : ck_Po w.1 w.2.1 w.2.2.1 w.2.2.2.1 E.2.2.1 re se w.2.2.2.2.1 (.inr Ex) h := by
  obtain ⟨x1, x2, x3, x4, x5, x6, -⟩ := X
  unfold ck_Hp at H
  rw [x5, x6] at H
  exact ⟨H.1, H.2.1, H.2.2.1, hE⟩
set_option maxHeartbeats 4000000 in
theorem ck_op_ok {E : ck_E} {w : ck_W} {S : ck_SS} {SX : Nat → ck_SX} {Rc Rs : Nat} {cm : Nat → ck_CM} {re : List Int} {se : List Nat} (X : ck_Ctx E w S SX Rc Rs cm re se) {pc : Nat} {o : ck_O} (hs : ck_os w.1 S SX (ck_Po w.1 w.2.1 w.2.2.1 w.2.2.2.1 E.2.2.1 re se w.2.2.2.2.1) Rc Rs cm E pc o)
    {A : ck_A} {l : List (Nat × ck_A)} (ht : ck_op E pc o A = some l) (hK : ck_K w S l) {r : List Int} {s : List Nat} {L : List (Option Value)} {st : List Value} {h : List am_C} {k n : Nat} (H : ck_Ga w A r s L st h k n) : S pc L st h k n := by
  obtain ⟨x1, x2, x3, x4, x5, x6, x7, x8, x9, x10, x11, x12, x13, x14, x15, x16, x17, x18, x19⟩ := id X
  obtain ⟨c, f, f2, v, nx, tg, ex⟩ := o
  obtain ⟨T, pr, own, nL, code, cl, hds, gh, cuts⟩ := E
  have x3 : w.2.2.1 = T := x3
  subst x3
  have x5 : w.2.2.2.2.2.2.2.1 = own.2.2.1 := x5
  unfold ck_op at ht
  unfold ck_os at hs
  dsimp only at ht hs
  split at ht
  · exact ck_tK_ok x18 hs ht hK H
  · exact ck_tI_ok hs ht hK H
  · exact ck_tC_ok hs ht hK H
  · cases ht; exact ck_tG_ok hs hK H
  · exact ck_tN_ok hs ht hK H
  · exact ck_tN_ok hs ht hK H
  · exact ck_tS_ok hs ht hK H
  · exact ck_tF_ok hs ht hK H
  · rw [← x5] at ht; exact ck_tU_ok x1 x2 x7 hs ht hK H
  · exact ck_tW_ok x1 x2 x8 hs ht hK H
  · exact ck_tE_ok x1 x2 x8 hs ht hK H
  · exact ck_tL_ok hs ht hK H
  · exact ck_tA_ok hs ht hK H
  · rw [← x5] at ht; exact ck_tB_ok x1 x2 x7 hs ht hK H
  · split at ht
    · next a ha =>
      obtain ⟨hc, ht⟩ := ck_bt rfl ht
      obtain ⟨c1, c2⟩ := Bool.and_eq_true_iff.mp hc
      obtain ⟨h1, h2, h3, h4, hL, hS, h7⟩ := id H
      rw [ha] at hS
      obtain ⟨b1, b2, b3⟩ := ck_ret_ok x8 c2 x5 x9 x10 x6 x11 x12 H
      match st, hS with
      | [u], hS => exact hs L u h k n (ck_sh_ok c1 ⟨h1, h2⟩ hS.1) b1 b2 (b3 (some u) rfl)
      | u :: u' :: st, hS => exact hS.2.elim
    · cases ht
  · split at ht
    · next ha =>
      obtain ⟨hc, ht⟩ := ck_bt rfl ht
      obtain ⟨h1, h2, h3, h4, hL, hS, h7⟩ := id H
      rw [ha] at hS
      obtain ⟨b1, b2, b3⟩ := ck_ret_ok x8 hc x5 x9 x10 x6 x11 x12 H
      match st, hS with
      | [], hS => exact hs L h k n b1 b2 (b3 none rfl)
      | u :: st, hS => exact hS.elim
    · cases ht
  · split at ht
    · next rc na cs hcl =>
      have hs' : ck_sQ w.1 S (SX pc) Rc Rs nL pc nx rc (cm f) na := by rw [hcl] at hs; exact hs
      obtain ⟨c0, hc0, ht⟩ := List.exists_of_findSome?_eq_some ht
      rw [← x5] at ht
      exact ck_tQ_ok x7 x8 hs' (x13 f _ hcl c0 hc0) (fun q hq L h k n hl => x14 pc q hq L h k n hl) (fun Ex hEx r s L h k n hp hk hn hno => x15 pc Ex L h k n hno (ck_Po_x X hp hEx) hk hn) ht hK H
    · cases ht
  · split at ht
    · next Ex hEx =>
      obtain ⟨hc, ht⟩ := ck_bt rfl ht
      have hs' : ck_sZ S (ck_Po w.1 w.2.1 w.2.2.1 w.2.2.2.1 own re se w.2.2.2.2.1) Rc Rs nL pc Ex := by rw [hEx] at hs; exact hs
      obtain ⟨V, C, F, nr, Ls, St, ek, en⟩ := A
      unfold ck_tZ at hc
      dsimp only at hc
      simp only [Bool.and_eq_true] at hc
      obtain ⟨⟨c1, c2⟩, ⟨c3, c4⟩, c5⟩ := hc
      obtain ⟨h1, h2, h3, h4, hL, hS, h7, h8, h9⟩ := id H
      obtain ⟨m1, m2⟩ := x8.at h9
      have b1 := ck_le_ok c3 h1 h2 (h7.add (ck_Lv.k r 1)) m1
      have b2 := ck_le_ok c4 h1 h2 (h8.add (ck_Lv.k r 6)) m2
      have hp := h9.make x1 x2 (t := 99) (vs := []) (by decide) (fun g' d hd => by rw [Option.isNone_iff_eq_none.mp c5] at hd; cases hd)
      exact hs' L st h k n (by rw [hL.1]; exact ck_beq c2) (by rw [ck_cs_ok hS]; exact Nat.le_of_ble_eq_true c1) (by omega) (by omega) (ck_Po_x X hp (List.mem_of_getElem? hEx))
    · cases ht
  · exact ck_tO_ok hs ht hK H
  · exact ck_tT_ok hs ht hK H
  · exact ck_tM_ok x2 hs ht hK H
  · cases ht
-- helps
def ck_pa (F : List ck_F) (i : Nat) : List Nat → Option Nat
  | [] => some i
  | j :: u => match ck_f3 F i j with
    | some m => bif Nat.beq m.2.2.2.2.1 3 then ck_pa F m.2.2.2.2.2.1 u else none
    | none => none
def ck_rf (F : List ck_F) (Ls : List ck_V) (p : Nat) (u : List Nat) : Option Nat := match Ls[p]? with
  | some (3, i, _) => ck_pa F i u
  | _ => none
/-- 0: the number at a place; 1: the number at the end of a path; 2: the length there; 3: on the stack -/
def ck_sr (F : List ck_F) (Ls St : List ck_V) (kd p : Nat) (u : List Nat) : Option ck_L := match kd with
  | 0 => match Ls[p]? with
    | some (1, _, e) => some e
    | some (2, _, e) => some e
    | _ => none
  | 1 => match (ck_rf F Ls p u.dropLast).bind fun i => u.getLast?.bind (ck_f3 F i) with
    | some m => bif Nat.beq m.2.2.2.2.1 1 then some m.2.2.2.2.2.2 else none
    | none => none
  | 2 => match (ck_rf F Ls p u).bind (ck_f2 F) with
    | some f => some f.2.2.2.2.2.2
    | none => none
  | _ => match St[p]? with
    | some (1, _, e) => some e
    | some (2, _, e) => some e
    | _ => none
def ck_sm (F : List ck_F) (Ls St : List ck_V) (c : Int) : List ck_Tm → Option ck_L
  | [] => some (ck_k c)
  | t :: u => match ck_sm F Ls St c u, ck_sr F Ls St t.2.1 t.2.2.1 t.2.2.2 with
    | some e, some f => some (ck_add (ck_mul t.1 f) e)
    | _, _ => none
theorem ck_sr_ok {g : ck_g} {z : Nat} {r : List Int} {s : List Nat} {F : List ck_F} {Ls St : List ck_V} {L : List (Option Value)} {st : List Value} (hF : ∀ f ∈ F, ck_fa g z r s f) (hL : ck_loc r s Ls L) (hS : ck_stk r s St st) {kd p : Nat} {u : List Nat} {e : ck_L} (h : ck_sr F Ls St kd p u = some e) : ∃ x, ck_Lv r e x := by
  unfold ck_sr at h
  split at h
  · split at h
    · next i e' he =>
      cases h
      obtain ⟨v, -, h2⟩ := hL.at he (show (1 : Nat) ≠ 0 by decide)
      obtain ⟨x, -, h3⟩ := h2.int rfl
      exact ⟨_, h3⟩
    · next i e' he =>
      cases h
      obtain ⟨v, -, h2⟩ := hL.at he (show (2 : Nat) ≠ 0 by decide)
      obtain ⟨x, -, h3⟩ := h2.long rfl
      exact ⟨_, h3⟩
    · cases h
  · split at h
    · next m hm =>
      obtain ⟨hc, h⟩ := ck_bt rfl h
      cases h
      obtain ⟨i, -, h2⟩ := Option.bind_eq_some_iff.mp hm
      obtain ⟨j, -, h3⟩ := Option.bind_eq_some_iff.mp h2
      obtain ⟨q, vs, v, -, -, -, h4⟩ := ck_f3_ok hF h3
      obtain ⟨x, -, h5⟩ := h4.int (ck_beq hc)
      exact ⟨_, h5⟩
    · cases h
  · split at h
    · next f hf =>
      cases h
      obtain ⟨i, -, h2⟩ := Option.bind_eq_some_iff.mp hf
      obtain ⟨q, vs, -, -, h4⟩ := ck_f2_ok hF h2
      exact ⟨_, h4⟩
    · cases h
  · have this : ∀ {A : List ck_V} {B : List Value} {p : Nat} {a : ck_V}, ck_stk r s A B → A[p]? = some a → ∃ v, ck_av r s a v := by
      intro A
      induction A with
      | nil => intro B p a _ h2; cases h2
      | cons a0 A ih =>
        intro B p a h1 h2
        cases B with
        | nil => exact h1.elim
        | cons b B =>
          cases p with
          | zero => cases h2; exact ⟨b, h1.1⟩
          | succ p => exact ih h1.2 h2
    split at h
    · next i e' he =>
      cases h
      obtain ⟨v, h2⟩ := this hS he
      obtain ⟨x, -, h3⟩ := h2.int rfl
      exact ⟨_, h3⟩
    · next i e' he =>
      cases h
      obtain ⟨v, h2⟩ := this hS he
      obtain ⟨x, -, h3⟩ := h2.long rfl
      exact ⟨_, h3⟩
    · cases h
theorem ck_sm_ok {g : ck_g} {z : Nat} {r : List Int} {s : List Nat} {F : List ck_F} {Ls St : List ck_V} {L : List (Option Value)} {st : List Value} (hF : ∀ f ∈ F, ck_fa g z r s f) (hL : ck_loc r s Ls L) (hS : ck_stk r s St st) {c : Int} : ∀ {u : List ck_Tm} {e : ck_L}, ck_sm F Ls St c u = some e → ∃ x, ck_Lv r e x := by
  intro u
  induction u with
  | nil => intro e h; cases h; exact ⟨c, ck_Lv.k r c⟩
  | cons t u ih =>
    intro e h
    unfold ck_sm at h
    split at h
    · next e1 f1 h1 h2 =>
      cases h
      obtain ⟨x, hx⟩ := ih h1
      obtain ⟨y, hy⟩ := ck_sr_ok hF hL hS h2
      exact ⟨_, (hy.mul t.1).add hx⟩
    · cases h
def ck_tH (T : ck_TT) (i j : Nat) (A : ck_A) : Option ck_A := match A with
  | (V, C, F, nr, Ls, St, ek, en) => match ck_f2 F i with
    | some f => match ck_lk T f.2.2.2.1 with
      | some d => match ck_yt d j with
        | some y => bif ck_le V C (ck_k (j + 1)) f.2.2.2.2.2.2 then (match ck_rd T y V.length nr with
          | some (V2, F2, m, av) => some (V ++ V2, [] ++ C, ((3, i, j, f.2.2.2.1, av) :: F2) ++ F, nr + m, Ls, St, ek, en)
          | none => none) else none
        | none => none
      | none => none
    | none => none
theorem ck_tH_ok {w : ck_W} {i j : Nat} {A B : ck_A} (ht : ck_tH w.2.2.1 i j A = some B) {r : List Int} {s : List Nat} {L : List (Option Value)} {st : List Value} {h : List am_C} {k n : Nat} (H : ck_Ga w A r s L st h k n) : ∃ (r' : List Int) (s' : List Nat), ck_Ga w B r' s' L st h k n := by
  obtain ⟨V, C, F, nr, Ls, St, ek, en⟩ := A
  unfold ck_tH at ht
  dsimp only at ht
  obtain ⟨h1, h2, h3, h4, hL, hS, h7, h8, h9⟩ := id H
  split at ht
  · next f hf =>
    obtain ⟨q, vs, g1, g3, g4⟩ := ck_f2_ok h3 hf
    split at ht
    · next d hd =>
      split at ht
      · next y hy =>
        cases hj : ck_le V C (ck_k (j + 1)) f.2.2.2.2.2.2
        · rw [hj] at ht; cases ht
        · rw [hj, cond_true] at ht
          have hj := ck_le_ok hj h1 h2 (ck_Lv.k r _) g4
          split at ht
          · next V2 F2 m av hr =>
            cases ht
            have hjl : j < vs.length := by omega
            have ev : vs[j]? = some (vs[j]'hjl) := List.getElem?_eq_getElem hjl
            obtain ⟨y', y1, y2⟩ := ((h9.1.2 q _ vs g3).1 d hd).2 j _ ev
            rw [hy] at y1
            cases y1
            obtain ⟨q2, p2, b1, b2, b3, b4⟩ := ck_rd_ok hr h9.1 y2 h1.1.symm h4 (ck_z w)
            refine ⟨r ++ q2, s ++ p2, ck_Ga.more H b1 (fun c hc => (nomatch hc)) (fun f' hf' => ?_) b3 (hL.app _ _) (hS.app _ _)⟩
            rcases List.mem_cons.mp hf' with e | e
            · rw [e]; exact ⟨q, vs, _, ck_get_app g1, g3, ev, b4⟩
            · exact b2 f' e
          · cases ht
      · cases ht
    · cases ht
  · cases ht
/-- all places known: the row of nine digits -/
def ck_t6 (i : Nat) (A : ck_A) : Option ck_A := match A with
  | (V, C, F, nr, Ls, St, ek, en) => match ck_f2 F i with
    | some f => bif ck_allm (V, C) F i (1, 0, 0, [(1, 0, 0, 999999999)]) f.2.2.2.2.2.2 then some (V, C, (6, i, 0, f.2.2.2.1, (0, 0, (0, []))) :: F, nr, Ls, St, ek, en) else none
    | none => none
theorem ck_t6_ok {w : ck_W} {i : Nat} {A B : ck_A} (ht : ck_t6 i A = some B) {r : List Int} {s : List Nat} {L : List (Option Value)} {st : List Value} {h : List am_C} {k n : Nat} (H : ck_Ga w A r s L st h k n) : ck_Ga w B r s L st h k n := by
  obtain ⟨V, C, F, nr, Ls, St, ek, en⟩ := A
  unfold ck_t6 at ht
  dsimp only at ht
  obtain ⟨h1, h2, h3, h4, hL, hS, h7, h8, h9⟩ := id H
  split at ht
  · next f hf =>
    obtain ⟨q, vs, g1, g2, g3⟩ := ck_f2_ok h3 hf
    obtain ⟨hc, ht⟩ := ck_bt rfl ht
    cases ht
    refine ⟨h1, h2, fun f' hf' => ?_, h4, hL, hS, h7, h8, h9⟩
    rcases List.mem_cons.mp hf' with rfl | hf'
    · refine ⟨q, vs, 0, g1, g2, ck_Lv.k r 0, fun j v hv => ?_⟩
      unfold ck_allm at hc
      split at hc
      · next N hN =>
        have hl := ck_ci_ok hN g3
        have hj : j < vs.length := (List.getElem?_eq_some_iff.mp hv).1
        have h5 := List.all_eq_true.mp hc j (List.mem_range.mpr (by omega))
        split at h5
        · next m y hm hy =>
          cases hy
          obtain ⟨q', vs', v', e1, e2, e3, e4⟩ := ck_f3_ok h3 hm
          rw [g1] at e1
          cases e1
          rw [g2] at e2
          have e5 := (Prod.mk.inj (Option.some.inj e2)).2
          subst e5
          rw [hv] at e3
          cases e3
          exact ck_ft_ok (K := w.2.2.2.1) h3 ⟨h1, h2⟩ h5 e4
        · cases h5
      · cases hc
    · exact h3 f' hf'
  · cases ht
def ck_gh (T : ck_TT) (rt : List Nat) (pc : Nat) (g : ck_Gh) (A : ck_A) : Option (List (Nat × ck_A)) := match g with
  | (kd, p, u, v, tm) => match kd with
    | 0 => match ck_sm A.2.2.1 A.2.2.2.2.1 A.2.2.2.2.2.1 v tm with
      | some d => some (ck_br A A.2.2.2.2.2.1 3 d pc ++ ck_br A A.2.2.2.2.2.1 2 d pc)
      | none => none
    | 1 => match (ck_rf A.2.2.1 A.2.2.2.2.1 p u).bind fun i => ck_tR T rt i v.toNat A with
      | some B => some [(pc, B)]
      | none => none
    | 2 => match A.2.2.2.2.2.1[p]? with
      | some (3, i, _) => match ck_tR T rt i v.toNat A with
        | some B => some [(pc, B)]
        | none => none
      | _ => none
    | 4 => match (ck_rf A.2.2.1 A.2.2.2.2.1 p u).bind fun i => ck_t6 i A with
      | some B => some [(pc, B)]
      | none => none
    | _ => match (ck_rf A.2.2.1 A.2.2.2.2.1 p u).bind fun i => ck_tH T i v.toNat A with
      | some B => some [(pc, B)]
      | none => none
theorem ck_gh_ok {E : ck_E} {w : ck_W} {S : ck_SS} {SX : Nat → ck_SX} {Rc Rs : Nat} {cm : Nat → ck_CM} {re : List Int} {se : List Nat} (X : ck_Ctx E w S SX Rc Rs cm re se) {pc : Nat} {g : ck_Gh} {A : ck_A} {l : List (Nat × ck_A)} (ht : ck_gh w.2.2.1 E.2.2.1.2.2.2.1 pc g A = some l) (hK : ck_K w S l)
    {r : List Int} {s : List Nat} {L : List (Option Value)} {st : List Value} {h : List am_C} {k n : Nat} (H : ck_Ga w A r s L st h k n) : S pc L st h k n := by
  obtain ⟨x1, x2, x3, x4, x5, x6, x7, x8, x9, x10, x11, x12, x13, x14, x15, x16, x17, x18, x19⟩ := id X
  obtain ⟨kd, p, u, v, tm⟩ := g
  unfold ck_gh at ht
  dsimp only at ht
  obtain ⟨h1, h2, h3, h4, hL, hS, h7, h8, h9⟩ := id H
  split at ht
  · split at ht
    · next d hd =>
      cases ht
      obtain ⟨x, hx⟩ := ck_sm_ok h3 hL hS hd
      by_cases e : 0 ≤ x
      · exact ck_br_ok hK.l H hS hx e
      · exact ck_br_ok hK.r H hS hx (show x < 0 by omega)
    · cases ht
  · split at ht
    · next B hB =>
      cases ht
      obtain ⟨i, -, hB⟩ := Option.bind_eq_some_iff.mp hB
      exact ck_tR_ok x1 x2 x7 (x16 pc) hB H fun h' H' => hK _ (List.mem_singleton.mpr rfl) r s L st h' k n H'
    · cases ht
  · split at ht
    · split at ht
      · next B hB =>
        cases ht
        exact ck_tR_ok x1 x2 x7 (x16 pc) hB H fun h' H' => hK _ (List.mem_singleton.mpr rfl) r s L st h' k n H'
      · cases ht
    · cases ht
  · split at ht
    · next B hB =>
      cases ht
      obtain ⟨i, -, hB⟩ := Option.bind_eq_some_iff.mp hB
      exact hK _ (List.mem_singleton.mpr rfl) r s L st h k n (ck_t6_ok hB H)
    · cases ht
  · split at ht
    · next B hB =>
      cases ht
      obtain ⟨i, -, hB⟩ := Option.bind_eq_some_iff.mp hB
      obtain ⟨r', s', H'⟩ := ck_tH_ok hB H
      exact hK _ (List.mem_singleton.mpr rfl) r' s' L st h k n H'
    · cases ht
/-- a lemma's arguments: of the stack, of a place, or by a path from a place -/
def ck_ga (F : List ck_F) (Ls St : List ck_V) : List ck_Tm → Option (List ck_V)
  | [] => some []
  | t :: u => match (bif Nat.beq t.2.1 3 then St[t.2.2.1]? else (match t.2.2.2 with
      | [] => Ls[t.2.2.1]?
      | x :: y => (ck_rf F Ls t.2.2.1 (x :: y)).map fun i => (3, i, (0, [])))), ck_ga F Ls St u with
    | some a, some l => bif Nat.beq a.1 0 then none else some (a :: l)
    | _, _ => none
theorem ck_pa_ok {g : ck_g} {z : Nat} {r : List Int} {s : List Nat} {F : List ck_F} (hF : ∀ f ∈ F, ck_fa g z r s f) : ∀ {u : List Nat} {i i' : Nat}, (∃ q, s[i]? = some q) → ck_pa F i u = some i' → ∃ q, s[i']? = some q := by
  intro u
  induction u with
  | nil => intro i i' h e; cases e; exact h
  | cons x u ih =>
    intro i i' h e
    unfold ck_pa at e
    split at e
    · next m hm =>
      cases hc : Nat.beq m.2.2.2.2.1 3
      · rw [hc] at e; cases e
      · rw [hc, cond_true] at e
        obtain ⟨q, vs, v, -, -, -, e4⟩ := ck_f3_ok hF hm
        unfold ck_av at e4
        rw [ck_beq hc] at e4
        obtain ⟨q', e5, -⟩ := e4
        exact ih ⟨q', e5⟩ e
    · cases e
theorem ck_rf_at {g : ck_g} {z : Nat} {r : List Int} {s : List Nat} {F : List ck_F} {Ls : List ck_V} {L : List (Option Value)} (hF : ∀ f ∈ F, ck_fa g z r s f) (hL : ck_loc r s Ls L) {p : Nat} {u : List Nat} {i : Nat} (e : ck_rf F Ls p u = some i) : ∃ q, s[i]? = some q := by
  unfold ck_rf at e
  split at e
  · next i0 x h =>
    refine ck_pa_ok hF ?_ e
    rcases hL.2 p _ h with z | ⟨v, -, q, q1, -⟩
    · cases z
    · exact ⟨q, q1⟩
  · cases e
theorem ck_stk.at {r : List Int} {s : List Nat} {A : List ck_V} : ∀ {B : List Value} {p : Nat} {a : ck_V}, ck_stk r s A B → A[p]? = some a → ∃ v, ck_av r s a v := by
  induction A with
  | nil => intro B p a _ h2; cases h2
  | cons a0 A ih =>
    intro B p a h1 h2
    cases B with
    | nil => exact h1.elim
    | cons b B =>
      cases p with
      | zero => cases h2; exact ⟨b, h1.1⟩
      | succ p => exact ih h1.2 h2
theorem ck_ga_ok {g : ck_g} {z : Nat} {r : List Int} {s : List Nat} {F : List ck_F} {Ls St : List ck_V} {L : List (Option Value)} {st : List Value} (hF : ∀ f ∈ F, ck_fa g z r s f) (hL : ck_loc r s Ls L) (hS : ck_stk r s St st) : ∀ {u : List ck_Tm} {A : List ck_V}, ck_ga F Ls St u = some A → ∃ B : List Value, ck_stk r s A B ∧ B.length = A.length := by
  intro u
  induction u with
  | nil => intro A h; cases h; exact ⟨[], trivial, rfl⟩
  | cons t u ih =>
    intro A h
    unfold ck_ga at h
    split at h
    · next a l h1 h2 =>
      cases h0 : Nat.beq a.1 0
      · rw [h0, cond_false] at h
        cases h
        obtain ⟨B, b1, b2⟩ := ih h2
        have : ∃ v, ck_av r s a v := by
          cases hp : Nat.beq t.2.1 3
          · rw [hp, cond_false] at h1
            split at h1
            · rcases hL.2 _ a h1 with e | ⟨v, -, e⟩
              · rw [e] at h0; cases h0
              · exact ⟨v, e⟩
            · next x y hxy =>
              obtain ⟨i, h3, h4⟩ := Option.map_eq_some_iff.mp h1
              obtain ⟨q, q1⟩ := ck_rf_at hF hL h3
              rw [← h4]
              exact ⟨.ref q, q, q1, rfl⟩
          · rw [hp, cond_true] at h1
            exact hS.at h1
        obtain ⟨v, hv⟩ := this
        exact ⟨v :: B, ⟨hv, b1⟩, by rw [List.length_cons, List.length_cons, b2]⟩
      · rw [h0, cond_true] at h; cases h
    · cases h
def ck_gx (E : ck_E) (pc : Nat) (g : ck_Gh) (A : ck_A) : Option (List (Nat × ck_A)) := bif Nat.beq g.1 5 then (match E.2.2.2.2.2.1[g.2.1]?, ck_ga A.2.2.1 A.2.2.2.2.1 A.2.2.2.2.2.1 g.2.2.2.2 with
  | some (none, na, cs), some as => bif Nat.beq as.length na then (match cs.findSome? fun c => ck_tQ E.2.2.1.2.2.1 E.2.2.1.2.2.2.1 E.2.2.1.2.2.2.2.2 [] E.2.2.1.2.1.1 E.2.2.1.2.1.2 E.2.2.2.1 1 none na c (A.1, A.2.1, A.2.2.1, A.2.2.2.1, A.2.2.2.2.1, as.reverse ++ A.2.2.2.2.2.1, A.2.2.2.2.2.2.1, A.2.2.2.2.2.2.2) with
    | some [(1, B)] => some [(pc, B)]
    | _ => none) else none
  | _, _ => none) else ck_gh E.1 E.2.2.1.2.2.2.1 pc g A
set_option maxHeartbeats 2000000 in
theorem ck_gx_ok {E : ck_E} {w : ck_W} {S : ck_SS} {SX : Nat → ck_SX} {Rc Rs : Nat} {cm : Nat → ck_CM} {re : List Int} {se : List Nat} (X : ck_Ctx E w S SX Rc Rs cm re se) {pc : Nat} {g : ck_Gh} {n9 : Nat} (hg9 : (ck_at [] pc E.2.2.2.2.2.2.2.1)[n9]? = some g) {A : ck_A} {l : List (Nat × ck_A)} (ht : ck_gx E pc g A = some l) (hK : ck_K w S l)
    {r : List Int} {s : List Nat} {L : List (Option Value)} {st : List Value} {h : List am_C} {k n : Nat} (H : ck_Ga w A r s L st h k n) : S pc L st h k n := by
  unfold ck_gx at ht
  cases hg : Nat.beq g.1 5
  · rw [hg, cond_false, ← X.2.2.1] at ht
    exact ck_gh_ok X ht hK H
  · rw [hg, cond_true] at ht
    obtain ⟨x1, x2, x3, x4, x5, x6, x7, x8, x9, x10, x11, x12, x13, x14, x15, x16, x17, x18, x19⟩ := id X
    have hn := x19 _ (ck_g5_mem hg9 hg)
    obtain ⟨V, C, F, nr, Ls, St, ek, en⟩ := A
    obtain ⟨h1, h2, h3, h4, hL, hS, h7, h8, h9⟩ := id H
    split at ht
    · next na cs as hcl has =>
      obtain ⟨c1, ht⟩ := ck_bt' ht
      split at ht
      · next B hB =>
        cases ht
        obtain ⟨c0, hc0, hB⟩ := List.exists_of_findSome?_eq_some hB
        obtain ⟨bs, b1, b2⟩ := ck_ga_ok h3 hL hS has
        have hlen : bs.length = na := b2.trans (ck_beq c1)
        let S9 : ck_SS := fun p L st h k n => match p with
          | 0 => S pc L (st.drop na) h k n
          | _ => S pc L st h k n
        have hs : ck_sQ w.1 S9 (fun _ _ _ _ _ => True) Rc Rs E.2.2.2.1 0 1 none (cm g.2.1) na := by
          intro a L st h k n mc ms P hCM hal _ _ _ _ _ kr _
          obtain ⟨h', hh', hP'⟩ := hn a h mc ms P hCM
          have e1 := kr none h' hP'
          show S pc L ((a.reverse ++ st).drop na) h k n
          rw [← hal, show a.length = a.reverse.length from (List.length_reverse ..).symm, List.drop_left]
          exact x17 pc L st h k n _ _ (Nat.le_add_right _ _) (Nat.le_add_right _ _) (hh'.S (x16 pc) e1)
        rw [← x5] at hB
        have hfin := ck_tQ_ok (hd := []) x7 x8 hs (x13 _ _ hcl c0 hc0) (fun q hq => by cases hq) (fun Ex hEx r s L h k n _ _ _ _ => trivial) hB (fun x hx r s L st h k n H' => (by
          rw [List.mem_singleton.mp hx] at H' ⊢
          exact hK _ (List.mem_singleton.mpr rfl) r s L st h k n H' : S9 x.1 L st h k n)) (r := r) (s := s) (L := L) (st := bs.reverse ++ st) (h := h) (k := k) (n := n) ⟨h1, h2, h3, h4, hL, (ck_stk.rev b1).app2 hS, h7, h8, h9⟩
        have hfin : S pc L ((bs.reverse ++ st).drop na) h k n := hfin
        rw [← hlen, show bs.length = bs.reverse.length from (List.length_reverse ..).symm, List.drop_left] at hfin
        exact hfin
      · cases ht
    · cases ht
