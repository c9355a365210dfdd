/-! THE LISTS' WORLD -/
def gTl : ck_TT := [(556, 1, 0, 80, [(5, 2550, 0, 0)]), (656, 1, 0, 80, [(5, 41002, 0, 0)]), (756, 1, 0, 80, [(5, 1018, 0, 0)]), (1018, 2, 4, 4, [(8, 0, 0, 0), (8, 0, 0, 0), (8, 0, 0, 0), (8, 0, 0, 0)]), (2550, 2, 2, 2, [(1, 0, 0, 998), (1, 0, 1, 999)]), (3000, 2, 4, 4, [(3, 3051, 0, 0), (1, 0, 0, 0), (1, 0, (-2147483648), 2147483647), (1, 0, 0, 1)]), (3051, 3, 0, 3400, [(1, 0, (-128), 127)]), (3059, 3, 0, 256, [(1, 0, (-2147483648), 2147483647)]), (3100, 2, 4, 4, [(3, 3251, 0, 0), (1, 0, 0, 0), (1, 0, (-2147483648), 2147483647), (1, 0, 0, 1)]), (3160, 3, 100, 100, [(1, 0, (-128), 127)]), (3161, 3, 100, 100, [(1, 0, (-128), 127)]), (3200, 2, 4, 4, [(3, 3351, 0, 0), (1, 0, 0, 0), (1, 0, (-2147483648), 2147483647), (1, 0, 0, 1)]), (3251, 3, 0, 0, [(1, 0, (-128), 127)]), (3351, 3, 1, 1, [(1, 0, (-128), 127)]), (41002, 2, 1, 1, [(1, 0, (-128), 999)]), (43056, 3, 0, 0, [(5, 2550, 0, 0)]), (43058, 3, 256, 256, [(3, 41002, 0, 0)]), (43099, 2, 0, 0, []), (100001, 43058, 256, 256, []), (100002, 3160, 100, 100, []), (100003, 3161, 100, 100, []), (100004, 43056, 0, 0, []), (100005, 43099, 0, 0, []), (100010, 3000, 4, 4, []), (100011, 3000, 4, 4, []), (100012, 3000, 4, 4, []), (100013, 3000, 4, 4, []), (100014, 3000, 4, 4, []), (100015, 3000, 4, 4, []), (100016, 3000, 4, 4, []), (100017, 3000, 4, 4, []), (100018, 3000, 4, 4, []), (100019, 3000, 4, 4, []), (100020, 3000, 4, 4, []), (100021, 3000, 4, 4, []), (100022, 3000, 4, 4, []), (100023, 3000, 4, 4, []), (100024, 3000, 4, 4, []), (100025, 3000, 4, 4, []), (100026, 3000, 4, 4, []), (100027, 3000, 4, 4, []), (100028, 3100, 4, 4, []), (100029, 3000, 4, 4, []), (100030, 3000, 4, 4, []), (100031, 3000, 4, 4, []), (100032, 3200, 4, 4, [])]
theorem gTl_w : ∀ t, t < 100 → ck_wr gTl t = true := by decide +kernel
def gEl (l : Launch) (G : am_G) (X : ck_XT) : Prop := l.stackTraces = false ∧ ck_XO X ∧ ck_X0 X ∧ ck_KT G gTl
theorem am_cnG_ok {l : Launch} {G : am_G} {y : MethodName} {cw : Jvm.Cond} {fr lo : Nat} {X : ck_XT} {T : ck_TT} {c : ck_KK} (h : ck_Con (am_grow (am_cm l G y cw fr lo)) G X T c) (hx : c.2.2.2.2.2 = []) : ck_Con (am_grow (am_cn l G y cw fr lo)) G X T c :=
  fun K r s a h' h1 h2 h3 h4 h5 h6 mc ms h7 h8 => ⟨h K r s a h' h1 h2 h3 h4 h5 h6 mc ms h7 h8, fun E h'' hp => by
    have := hp.1.2.2.2
    dsimp only at this
    rw [hx] at this
    cases this⟩
def ck_cmsPG (G : am_G) (X : ck_XT) (T : ck_TT) : List ck_CM → List ck_Cl → Prop
  | _, [] => True
  | [], _ :: _ => False
  | c :: u, x :: w => (∀ k ∈ x.2.2, ck_Con (am_grow c) G X T k) ∧ ck_cmsPG G X T u w
theorem ck_cms_okG {G : am_G} {X : ck_XT} {T : ck_TT} : ∀ {cl : List ck_Cl} {l : List ck_CM}, ck_cmsPG G X T l cl → ∀ (i : Nat) (x : ck_Cl), cl[i]? = some x → ∀ c ∈ x.2.2, ck_Con (am_grow (ck_cms l i)) G X T c := by
  intro cl
  induction cl with
  | nil => intro l _ i x hx; cases hx
  | cons y w ih =>
    intro l h i x hx c hc
    cases l with
    | nil => exact h.elim
    | cons m u =>
      cases i with
      | zero => cases hx; exact h.1 c hc
      | succ i => exact ih h.2 i x hx c hc
theorem ck_yes5 {E : ck_E} {P : Nat → Prop} {l : List Nat} (h : ck_g5 E = l) (hl : ∀ f ∈ l, P f) : ∀ f ∈ ck_g5 E, P f := h ▸ hl
