/-! KINDS; WORDS -/
def gT : ck_TT := [(1007, 0, 3, 3, [(3, 1050, 0, 0), (1, 0, 0, 10), (1, 0, (-2147483648), 2147483647)]), (1014, 0, 7, 7, [(1, 0, (-2147483648), 2147483647), (3, 1053, 0, 0), (1, 0, 0, 6), (3, 1150, 0, 0), (3, 1250, 0, 0), (1, 0, 0, 5), (3, 1350, 0, 0)]), (1050, 1, 10, 10, [(1, 0, 0, 999999999)]), (1053, 1, 6, 6, [(3, 1007, 0, 0)]), (1150, 1, 6, 6, [(1, 0, (-2147483648), 2147483647)]), (1250, 1, 6, 6, [(1, 0, 0, 999)]), (1350, 1, 5, 5, [(1, 0, 0, 999)])]
theorem gT_w : ∀ t, t < 100 → ck_wr gT t = true := by decide +kernel
def gE (l : Launch) (G : am_G) (X : ck_XT) : Prop := l.stackTraces = false ∧ ck_XO X ∧ ck_X0 X
def ck_cms : List ck_CM → Nat → ck_CM
  | [], _ => fun _ _ _ _ _ => False
  | c :: _, 0 => c
  | _ :: u, i + 1 => ck_cms u i
def ck_cmsP (G : am_G) (X : ck_XT) (T : ck_TT) : List ck_CM → List ck_Cl → Prop
  | _, [] => True
  | [], _ :: _ => False
  | c :: u, x :: w => (∀ k ∈ x.2.2, ck_Con c G X T k) ∧ ck_cmsP G X T u w
theorem ck_cms_ok {G : am_G} {X : ck_XT} {T : ck_TT} : ∀ {cl : List ck_Cl} {l : List ck_CM}, ck_cmsP G X T l cl → ∀ (i : Nat) (x : ck_Cl), cl[i]? = some x → ∀ c ∈ x.2.2, ck_Con (ck_cms l i) G X T c := by
  intro cl
  induction cl with
  | nil => intro l _ i x hx; cases hx
  | cons y w ih =>
    intro l h i x hx c hc
    cases l with
    | nil => exact h.elim
    | cons m u =>
      cases i with
      | zero => cases hx; exact h.1 c hc
      | succ i => exact ih h.2 i x hx c hc
theorem ck_cst {own : String} {i : Nat} {v : Int} {x : Int32} (h : x = Int32.ofInt v) (hw : Cond.constant own i x ∈ lw_gw) : Cond.constant own i (Int32.ofInt v) ∈ lw_gw := h ▸ hw
theorem ck_csl {own : String} {i : Nat} {v : Int} {x : Int64} (h : x = Int64.ofInt v) (hw : Cond.constantLong own i x ∈ lw_gw) : Cond.constantLong own i (Int64.ofInt v) ∈ lw_gw := h ▸ hw
