/-! TWO CONTRACTS OF ONE CALL: what both say, of one run -/
theorem zb_both {l : Launch} {x : MethodName} {S : Spec} {P : Array Value → State → Prop} {K : Program → Env → List Frame → State → Array Value → Prop} {Q1 Q2 : Array Value → State → Outcome → State → Prop} (h1 : MetFree l x S P K Q1) (h2 : MetFree l x S P K Q2) : MetFree l x S P K (fun a s o t => Q1 a s o t ∧ Q2 a s o t) := by
  intro p e he hf hc s m args below hs ha hP hK
  obtain ⟨n1_, o1_, w1_, r1_, e1_, q1_⟩ := h1 p e he hf hc s m args below hs ha hP hK
  obtain ⟨n2_, o2_, w2_, r2_, e2_, q2_⟩ := h2 p e he hf hc s m args below hs ha hP hK
  have hn_ : n1_ = n2_ := by
    rcases Nat.lt_trichotomy n1_ n2_ with c_ | c_ | c_
    · exact absurd (w2_ n1_ c_) e1_.not_within
    · exact c_
    · exact absurd (w1_ n2_ c_) e2_.not_within
  subst hn_
  have ho_ := e1_.outcome_unique e2_
  subst ho_
  exact ⟨n1_, o1_, w1_, r1_, e1_, q1_, q2_⟩
/-- two pictures of one heap -/
def zb_er (G : am_G) (k k2 : List am_C) : Prop := ∃ H : Heap, am_H G k H ∧ am_H G k2 H ∧ am_kt G H
/-- two pictures of one outcome -/
def zb_o (G : am_G) (o o2 : am_O) : Prop := match o, o2 with
  | .inl v, .inl v2 => v.map (am_rv G) = v2.map (am_rv G)
  | .inr _, .inr _ => True
  | _, _ => False
theorem zb_and {l : Launch} {G : am_G} {y : MethodName} {cw : Cond} {fr lo mc ms : Nat} {a : List Value} {h : List am_C} {P1 P2 : am_O → List am_C → Prop} (h1 : am_M l G y cw fr lo mc ms a h P1) (h2 : am_M l G y cw fr lo mc ms a h P2) : am_M l G y cw fr lo mc ms a h (fun o k => P1 o k ∧ ∃ (o2 : am_O) (k2 : List am_C), P2 o2 k2 ∧ zb_o G o o2 ∧ zb_er G k k2) := by
  have hb_ := zb_both h1 h2
  intro p e he hf hc s m args below hs ha hP hK
  obtain ⟨n_, o_, w_, r_, e_, q1_, q2_⟩ := hb_ p e he hf hc s m args below hs ha hP hK
  have kt_ : ∀ t : State, va_F (am_A G) s t → am_kt G t.heap := fun t ft => by
    have hk_ := hP.2.2
    exact hk_.2.1.kept (fun q hq => ft.2 q (Nat.lt_of_lt_of_le hq hk_.2.2.1.1) (fun z => by unfold am_A at z; omega))
  refine ⟨n_, o_, w_, r_, e_, ?_⟩
  rcases q1_ with ⟨⟨v1_, k1_, a1_, a2_, a3_, a4_⟩, a5_⟩ | ⟨q_, a1_, a2_⟩
  · rcases q2_ with ⟨⟨v2_, k2_, b1_, b2_, b3_, b4_⟩, b5_⟩ | ⟨q9_, b1_, b2_⟩
    · refine Or.inl ⟨⟨v1_, k1_, a1_, ⟨a2_, .inl v2_, k2_, b2_, ?_, _, a3_, b3_, kt_ _ a4_⟩, a3_, a4_⟩, a5_⟩
      rw [a1_] at b1_
      exact Outcome.returned.inj b1_
    · rw [a1_] at b1_
      cases b1_
  · rcases q2_ with ⟨⟨v2_, k2_, b1_, b2_, b3_, b4_⟩, b5_⟩ | ⟨q9_, b1_, b2_⟩
    · rw [a1_] at b1_
      cases b1_
    · obtain ⟨E_, ce_, L_, ⟨k1_, x1_, x2_, x3_⟩, a3_⟩ := a2_
      obtain ⟨E2_, ce2_, L2_, ⟨k2_, y1_, y2_, y3_⟩, -⟩ := b2_
      exact Or.inr ⟨q_, a1_, E_, ce_, L_, ⟨k1_, ⟨x1_, .inr E2_, k2_, y1_, trivial, _, x2_, y2_, kt_ _ x3_⟩, x2_, x3_⟩, a3_⟩
theorem zb_er.len {G : am_G} {k k2 : List am_C} (e : zb_er G k k2) : k2.length = k.length := by
  obtain ⟨H_, a_, b_, -⟩ := e
  have a1_ := a_.1
  have b1_ := b_.1
  omega
/-- the same cell in both pictures: what lies in it -/
theorem zb_er.cell {G : am_G} {k k2 : List am_C} (e : zb_er G k k2) {p t t2 : Nat} {vs vs2 : List Value} (hp : 1000 ≤ p) (h1 : am_g G k p = some (t, vs)) (h2 : am_g G k2 p = some (t2, vs2)) (ht : t2 % 100 = t % 100) (h62 : t % 100 < 62) : vs2.length = vs.length ∧ ∀ (j : Nat) (v v2 : Value), vs[j]? = some v → vs2[j]? = some v2 → am_rv G v2 = am_rv G v := by
  obtain ⟨H_, a_, b_, -⟩ := e
  obtain ⟨c_, c1_, c2_, -⟩ := am_cellD a_ hp h1
  obtain ⟨d_, d1_, d2_, -⟩ := am_cellD b_ hp h2
  rw [c1_] at d1_
  cases d1_
  obtain ⟨-, -, u1_, u2_⟩ := c2_
  obtain ⟨-, -, w1_, w2_⟩ := d2_
  dsimp only at u1_ u2_ w1_ w2_
  rw [ht] at w1_ w2_
  by_cases h5_ : t % 100 < 50
  · obtain ⟨r1_, x1_, x2_, -, x3_⟩ := u1_ h5_
    obtain ⟨r2_, y1_, y2_, -, y3_⟩ := w1_ h5_
    rw [x1_] at y1_
    cases y1_
    refine ⟨y2_.symm.trans x2_, fun j v v2 hv hv2 => ?_⟩
    have z_ := (y3_ j v2 hv2).symm.trans (x3_ j v hv)
    exact Option.some.inj z_
  · obtain ⟨-, x2_, x3_⟩ := u2_ (by omega) h62
    obtain ⟨-, y2_, y3_⟩ := w2_ (by omega) h62
    refine ⟨y2_.symm.trans x2_, fun j v v2 hv hv2 => ?_⟩
    have z_ := (y3_ j v2 hv2).symm.trans (x3_ j v hv)
    exact Option.some.inj z_
theorem zb_rvi {G : am_G} {v : Value} {x : Int32} (h : am_rv G v = am_rv G (.int x)) : v = .int x := by
  cases v <;> first | exact h | cases h
theorem zb_rvl {G : am_G} {v : Value} {x : Int64} (h : am_rv G v = am_rv G (.long x)) : v = .long x := by
  cases v <;> first | exact h | cases h
theorem zb_rvn {G : am_G} {v : Value} (h : am_rv G v = am_rv G .null) : v = .null := by
  cases v <;> first | exact h | cases h
/-- a reference to a cell made since: the same in both, where it leads somewhere -/
theorem zb_rvr {G : am_G} {H : Heap} (hk : am_kt G H) {v : Value} {n : Nat} (hn : 1000 ≤ n) (h : am_rv G v = am_rv G (.ref n)) (hv : ∀ q : Nat, v = .ref q → q < 1000 → ∃ c : am_C, G.2.2.2.2[q]? = some c ∧ c.1 % 100 < 62) : v = .ref n := by
  cases v with
  | ref q =>
    have e_ : am_ad G q = am_ad G n := Value.ref.inj h
    by_cases c_ : q < 1000
    · obtain ⟨d_, d1_, d2_⟩ := hv q rfl c_
      have l_ := ((hk q d_ d1_).2 d2_).1
      have g_ := am_ad_ge (G := G) hn
      have q_ : am_ad G q = G.2.2.1 q := by unfold am_ad; rw [if_pos c_]
      omega
    · unfold am_ad at e_
      rw [if_neg c_, if_neg (by omega)] at e_
      have f_ : G.2.2.2.1 + (q - 1000) = G.2.2.2.1 + (n - 1000) := e_
      have f2_ : q - 1000 = n - 1000 := Nat.add_left_cancel f_
      have z_ : q = n := by
        have a_ : q - 1000 + 1000 = n - 1000 + 1000 := congrArg (· + 1000) f2_
        rw [Nat.sub_add_cancel (Nat.not_lt.mp c_), Nat.sub_add_cancel hn] at a_
        exact a_
      rw [z_]
  | _ => cases h
