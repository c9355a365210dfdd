/-! THE FIRST CLASH; THE FIRST ROW THAT IS BROKEN -/
def sp_no (R : List (Int × Int)) (a b : Nat) : Prop := b < R.length ∧ a < b ∧ ¬ sp_ag (R.getD a (0, 1)) (R.getD b (0, 1))
def sp_cl (R : List (Int × Int)) (w v : Int) : Prop := (∃ a b : Nat, sp_no R a b ∧ (∀ a2 b2 : Nat, sp_no R a2 b2 → a < a2 ∨ (a = a2 ∧ b ≤ b2)) ∧ v = if w = 0 then (a : Int) else (b : Int)) ∨ ((∀ a b : Nat, ¬ sp_no R a b) ∧ v = -1)
theorem sp_cl.fn {R : List (Int × Int)} {w v v2 : Int} (h1 : sp_cl R w v) (h2 : sp_cl R w v2) : v = v2 := by
  rcases h1 with ⟨a_, b_, n1_, m1_, v1_⟩ | ⟨n1_, v1_⟩
  · rcases h2 with ⟨c_, d_, n2_, m2_, v2_⟩ | ⟨n2_, v2_⟩
    · have y_ := m1_ _ _ n2_
      have z_ := m2_ _ _ n1_
      have e1_ : a_ = c_ := by omega
      have e2_ : b_ = d_ := by omega
      rw [v1_, v2_, e1_, e2_]
    · exact absurd n1_ (n2_ _ _)
  · rcases h2 with ⟨c_, d_, n2_, m2_, v2_⟩ | ⟨n2_, v2_⟩
    · exact absurd n2_ (n1_ _ _)
    · rw [v1_, v2_]
theorem sp_cl.bd {R : List (Int × Int)} {w v : Int} (hl : R.length ≤ 6) (h : sp_cl R w v) : -9 ≤ v ∧ v ≤ 1000 := by
  rcases h with ⟨a_, b_, ⟨n1_, n2_, -⟩, -, v1_⟩ | ⟨-, v1_⟩
  · by_cases c_ : w = 0
    · rw [if_pos c_] at v1_
      omega
    · rw [if_neg c_] at v1_
      omega
  · omega
def sp_q51 (e e2 : Int) (T : sp_T) (a th : Int) (T' : sp_T) : Prop := sp_q T (0 ≤ e ∧ e ≤ 1) (fun v => sp_cl T.1.2.2.1 e v) a th T'
theorem sp_q51.fn {e e2 a th a2 th2 : Int} {T T' T2 : sp_T} (h1 : sp_q51 e e2 T a th T') (h2 : sp_q51 e e2 T a2 th2 T2) : sp_al a th T' a2 th2 T2 := sp_q.fn (fun v w y_ z_ => sp_cl.fn y_ z_) h1 h2
/-- the row at k doesn't hold of z -/
def sp_bx (R : List (Int × Int)) (z : Int) (k : Nat) : Prop := ¬ z % (R.getD k (0, 1)).2 = (R.getD k (0, 1)).1
def sp_br (R : List (Int × Int)) (z v : Int) : Prop := (∃ k : Nat, k < R.length ∧ sp_bx R z k ∧ (∀ j : Nat, j < k → ¬ sp_bx R z j) ∧ v = (k : Int)) ∨ ((∀ k : Nat, k < R.length → ¬ sp_bx R z k) ∧ v = -1)
theorem sp_br.fn {R : List (Int × Int)} {z v v2 : Int} (h1 : sp_br R z v) (h2 : sp_br R z v2) : v = v2 := by
  rcases h1 with ⟨a_, l1_, n1_, m1_, v1_⟩ | ⟨n1_, v1_⟩
  · rcases h2 with ⟨c_, l2_, n2_, m2_, v2_⟩ | ⟨n2_, v2_⟩
    · rcases Nat.lt_trichotomy a_ c_ with y_ | y_ | y_
      · exact absurd n1_ (m2_ _ y_)
      · rw [v1_, v2_, y_]
      · exact absurd n2_ (m1_ _ y_)
    · exact absurd n1_ (n2_ _ l1_)
  · rcases h2 with ⟨c_, l2_, n2_, m2_, v2_⟩ | ⟨n2_, v2_⟩
    · exact absurd n2_ (n1_ _ l2_)
    · rw [v1_, v2_]
theorem sp_br.bd {R : List (Int × Int)} {z v : Int} (hl : R.length ≤ 6) (h : sp_br R z v) : -9 ≤ v ∧ v ≤ 1000 := by
  rcases h with ⟨a_, l1_, -, -, v1_⟩ | ⟨-, v1_⟩ <;> omega
def sp_q52 (e e2 : Int) (T : sp_T) (a th : Int) (T' : sp_T) : Prop := sp_q T (sp_s1 e) (fun v => sp_br T.1.2.2.1 (sp_at T e) v) a th T'
theorem sp_q52.fn {e e2 a th a2 th2 : Int} {T T' T2 : sp_T} (h1 : sp_q52 e e2 T a th T') (h2 : sp_q52 e e2 T a2 th2 T2) : sp_al a th T' a2 th2 T2 := sp_q.fn (fun v w y_ z_ => sp_br.fn y_ z_) h1 h2
set_option maxHeartbeats 4000000 in
theorem zc_clash_M {l : Launch} {G : am_G} {X : ck_XT} (g : gM l G X) {x : Nat} {r : Nat → Nat} {jj mm kk : Int} {c : sp_S} {R : Nat → sp_S} {old cnt : Nat} {h : List am_C} (hX : zc_x G h x r jj mm kk c R old cnt){w : Int} (hw9 : w = 0 ∨ w = 1) {mc ms : Nat} {Post : am_O → List am_C → Prop} (hP : ∀ v : Int, sp_cl c.2.2.1 w v → Post (.inl (some (.int (Int32.ofInt v)))) h) :
    am_M l G yX10_clashPlace (.code yX10_clashPlace prog_1_method_72_code 4 (some .int)) 3 68 mc ms [.ref x, .int (Int32.ofInt w)] h Post := by
  refine gh_yX10_clashPlace_X g (Nat.le_of_ble_eq_true rfl) fun S SX hs hr hw hx => ?_
  have rv : ∀ x : Int32, ck_fv 0 (.int x) := fun x => ⟨_, rfl⟩
  have hl6_ := hX.2.2.1.2.2.1.1
  have outer : ∀ (m_ i_ : Nat) (u_ : Option Value), i_ + m_ = c.2.2.1.length → (∀ a_ b_ : Nat, sp_no c.2.2.1 a_ b_ → i_ ≤ a_) → S 2 [some (.ref x), some (.int (Int32.ofInt w)), some (.int (Int32.ofInt (i_ : Int))), u_] [] h 0 0 := by
    intro m_
    induction m_ with
    | zero =>
      intro i_ u_ hi_ hn_
      refine hs 2 _ rfl _ _ _ _ _ _ _ rfl ?_
      refine hs 3 _ rfl _ _ _ _ _ _ _ rfl ?_
      refine hs 4 _ rfl _ _ _ _ _ _ _ _ _ (hX.1) rfl rfl ?_
      refine hs 5 _ rfl _ _ _ _ _ _ _ _ _ (hX.2.1.d) rfl rfl ?_
      refine hs 6 _ rfl _ _ _ _ _ _ _ (fun _ => ?_) (fun zq => absurd (hd_c2t (c := 3) (by omega) (by omega) (by omega) (by omega) (by omega : 0 ≤ ((i_ : Int) - (c.2.2.1.length : Int)))) zq)
      refine hs 32 _ rfl _ _ _ _ _ _ _ rfl ?_
      exact hs 33 _ rfl _ _ _ _ _ (rv _) (Nat.zero_le _) (Nat.zero_le _) (hP (-1) (Or.inr ⟨fun a_ b_ y_ => by have k1_ := hn_ a_ b_ y_; have k2_ := y_.1; have k3_ := y_.2.1; omega, rfl⟩))
    | succ m_ ih =>
      intro i_ u_ hi_ hn_
      have inner : ∀ (q_ j_ : Nat), j_ + q_ = c.2.2.1.length → i_ < j_ → (∀ a_ b_ : Nat, sp_no c.2.2.1 a_ b_ → i_ ≤ a_ ∧ (a_ = i_ → j_ ≤ b_)) → S 17 [some (.ref x), some (.int (Int32.ofInt w)), some (.int (Int32.ofInt (i_ : Int))), some (.int (Int32.ofInt (j_ : Int)))] [] h 0 0 := by
        intro q_
        induction q_ with
        | zero =>
          intro j_ hj_ hl_ hm_
          have z_ := ih (i_ + 1) (some (.int (Int32.ofInt (j_ : Int)))) (by omega) fun a_ b_ y_ => by
            have k1_ := hm_ a_ b_ y_
            have k2_ := y_.1
            by_cases f_ : a_ = i_
            · have k3_ := k1_.2 f_
              omega
            · omega
          refine hs 11 _ rfl _ _ _ _ _ _ _ rfl ?_
          refine hs 12 _ rfl _ _ _ _ _ _ _ rfl ?_
          refine hs 13 _ rfl _ _ _ _ _ _ _ _ _ (hX.1) rfl rfl ?_
          refine hs 14 _ rfl _ _ _ _ _ _ _ _ _ (hX.2.1.d) rfl rfl ?_
          refine hs 15 _ rfl _ _ _ _ _ _ _ (fun _ => ?_) (fun zq => absurd (hd_c2t (c := 3) (by omega) (by omega) (by omega) (by omega) (by omega : 0 ≤ ((j_ : Int) - (c.2.2.1.length : Int)))) zq)
          refine hs 30 _ rfl _ _ _ _ _ _ _ (hd_inc rfl) ?_
          refine hs 31 _ rfl _ _ _ _ _ ?_
          exact z_
        | succ q_ ih2 =>
          intro j_ hj_ hl_ hm_
          by_cases ag_ : sp_ag (c.2.2.1.getD i_ (0, 1)) (c.2.2.1.getD j_ (0, 1))
          · have z_ := ih2 (j_ + 1) (by omega) (by omega) fun a_ b_ y_ => by
              have k1_ := hm_ a_ b_ y_
              refine ⟨k1_.1, fun f_ => ?_⟩
              have k3_ := k1_.2 f_
              by_cases f2_ : b_ = j_
              · exfalso
                apply y_.2.2
                rw [f_, f2_]
                exact ag_
              · omega
            refine hs 11 _ rfl _ _ _ _ _ _ _ rfl ?_
            refine hs 12 _ rfl _ _ _ _ _ _ _ rfl ?_
            refine hs 13 _ rfl _ _ _ _ _ _ _ _ _ (hX.1) rfl rfl ?_
            refine hs 14 _ rfl _ _ _ _ _ _ _ _ _ (hX.2.1.d) rfl rfl ?_
            refine hs 15 _ rfl _ _ _ _ _ _ _ (fun zq => absurd (hd_c2z (c := 3) (by omega) (by omega) (by omega) (by omega) zq) (by omega : ¬ (0 ≤ ((j_ : Int) - (c.2.2.1.length : Int))))) (fun _ => ?_)
            refine hs 16 _ rfl _ _ _ _ _ _ _ rfl ?_
            refine hs 17 _ rfl _ _ _ _ _ _ _ _ _ (hX.1) rfl rfl ?_
            refine hs 18 _ rfl _ _ _ _ _ _ _ rfl ?_
            refine hs 19 _ rfl _ _ _ _ _ _ _ rfl ?_
            refine zw_c (hs 20 _ rfl) (a := [.ref (x + 1), .int (Int32.ofInt (i_ : Int)), .int (Int32.ofInt (j_ : Int))]) (st := []) rfl rfl (Nat.le_of_ble_eq_true rfl) ⟨_, _, _, rfl, hX.2.1.d, rfl⟩ (by omega) (by omega) (zc_rowsAgree_M g hX (i := i_) (j2 := j_) (by omega) (by omega) (fun _ => ?_) (fun y_ => absurd ag_ y_))
            show S 37 [some (.ref x), some (.int (Int32.ofInt w)), some (.int (Int32.ofInt (i_ : Int))), some (.int (Int32.ofInt (j_ : Int)))] [.int (Int32.ofInt (1 : Int))] _ _ _
            refine hs 21 _ rfl _ _ _ _ _ _ (fun _ => ?_) (fun zq => absurd (hd_c1t (c := 1) (by omega) (by omega) (by omega : (1 : Int) ≠ 0)) zq)
            refine hs 28 _ rfl _ _ _ _ _ _ _ (hd_inc rfl) ?_
            refine hs 29 _ rfl _ _ _ _ _ ?_
            exact z_
          · have no_ : sp_no c.2.2.1 i_ j_ := ⟨by omega, hl_, ag_⟩
            have mn_ : ∀ a2 b2 : Nat, sp_no c.2.2.1 a2 b2 → i_ < a2 ∨ (i_ = a2 ∧ j_ ≤ b2) := fun a2 b2 y_ => by
              have k1_ := hm_ a2 b2 y_
              by_cases f_ : a2 = i_
              · exact Or.inr ⟨f_.symm, k1_.2 f_⟩
              · exact Or.inl (by omega)
            rcases hw9 with w0_ | w0_
            · subst w0_
              refine hs 11 _ rfl _ _ _ _ _ _ _ rfl ?_
              refine hs 12 _ rfl _ _ _ _ _ _ _ rfl ?_
              refine hs 13 _ rfl _ _ _ _ _ _ _ _ _ (hX.1) rfl rfl ?_
              refine hs 14 _ rfl _ _ _ _ _ _ _ _ _ (hX.2.1.d) rfl rfl ?_
              refine hs 15 _ rfl _ _ _ _ _ _ _ (fun zq => absurd (hd_c2z (c := 3) (by omega) (by omega) (by omega) (by omega) zq) (by omega : ¬ (0 ≤ ((j_ : Int) - (c.2.2.1.length : Int))))) (fun _ => ?_)
              refine hs 16 _ rfl _ _ _ _ _ _ _ rfl ?_
              refine hs 17 _ rfl _ _ _ _ _ _ _ _ _ (hX.1) rfl rfl ?_
              refine hs 18 _ rfl _ _ _ _ _ _ _ rfl ?_
              refine hs 19 _ rfl _ _ _ _ _ _ _ rfl ?_
              refine zw_c (hs 20 _ rfl) (a := [.ref (x + 1), .int (Int32.ofInt (i_ : Int)), .int (Int32.ofInt (j_ : Int))]) (st := []) rfl rfl (Nat.le_of_ble_eq_true rfl) ⟨_, _, _, rfl, hX.2.1.d, rfl⟩ (by omega) (by omega) (zc_rowsAgree_M g hX (i := i_) (j2 := j_) (by omega) (by omega) (fun y_ => absurd y_ ag_) (fun _ => ?_))
              show S 37 [some (.ref x), some (.int (Int32.ofInt (0 : Int))), some (.int (Int32.ofInt (i_ : Int))), some (.int (Int32.ofInt (j_ : Int)))] [.int (Int32.ofInt (0 : Int))] _ _ _
              refine hs 21 _ rfl _ _ _ _ _ _ (fun zq => absurd (hd_c1z (c := 1) (by omega) (by omega) zq) (by omega : ¬ ((0 : Int) ≠ 0))) (fun _ => ?_)
              refine hs 22 _ rfl _ _ _ _ _ _ _ rfl ?_
              refine hs 23 _ rfl _ _ _ _ _ _ (fun zq => absurd (hd_c1z (c := 1) (by omega) (by omega) zq) (by omega : ¬ ((0 : Int) ≠ 0))) (fun _ => ?_)
              refine hs 24 _ rfl _ _ _ _ _ _ _ rfl ?_
              refine hs 25 _ rfl _ _ _ _ _ ?_
              exact hs 27 _ rfl _ _ _ _ _ (rv _) (Nat.zero_le _) (Nat.zero_le _) (hP (i_ : Int) (Or.inl ⟨i_, j_, no_, mn_, (if_pos rfl).symm⟩))
            · subst w0_
              refine hs 11 _ rfl _ _ _ _ _ _ _ rfl ?_
              refine hs 12 _ rfl _ _ _ _ _ _ _ rfl ?_
              refine hs 13 _ rfl _ _ _ _ _ _ _ _ _ (hX.1) rfl rfl ?_
              refine hs 14 _ rfl _ _ _ _ _ _ _ _ _ (hX.2.1.d) rfl rfl ?_
              refine hs 15 _ rfl _ _ _ _ _ _ _ (fun zq => absurd (hd_c2z (c := 3) (by omega) (by omega) (by omega) (by omega) zq) (by omega : ¬ (0 ≤ ((j_ : Int) - (c.2.2.1.length : Int))))) (fun _ => ?_)
              refine hs 16 _ rfl _ _ _ _ _ _ _ rfl ?_
              refine hs 17 _ rfl _ _ _ _ _ _ _ _ _ (hX.1) rfl rfl ?_
              refine hs 18 _ rfl _ _ _ _ _ _ _ rfl ?_
              refine hs 19 _ rfl _ _ _ _ _ _ _ rfl ?_
              refine zw_c (hs 20 _ rfl) (a := [.ref (x + 1), .int (Int32.ofInt (i_ : Int)), .int (Int32.ofInt (j_ : Int))]) (st := []) rfl rfl (Nat.le_of_ble_eq_true rfl) ⟨_, _, _, rfl, hX.2.1.d, rfl⟩ (by omega) (by omega) (zc_rowsAgree_M g hX (i := i_) (j2 := j_) (by omega) (by omega) (fun y_ => absurd y_ ag_) (fun _ => ?_))
              show S 37 [some (.ref x), some (.int (Int32.ofInt (1 : Int))), some (.int (Int32.ofInt (i_ : Int))), some (.int (Int32.ofInt (j_ : Int)))] [.int (Int32.ofInt (0 : Int))] _ _ _
              refine hs 21 _ rfl _ _ _ _ _ _ (fun zq => absurd (hd_c1z (c := 1) (by omega) (by omega) zq) (by omega : ¬ ((0 : Int) ≠ 0))) (fun _ => ?_)
              refine hs 22 _ rfl _ _ _ _ _ _ _ rfl ?_
              refine hs 23 _ rfl _ _ _ _ _ _ (fun _ => ?_) (fun zq => absurd (hd_c1t (c := 1) (by omega) (by omega) (by omega : (1 : Int) ≠ 0)) zq)
              refine hs 26 _ rfl _ _ _ _ _ _ _ rfl ?_
              exact hs 27 _ rfl _ _ _ _ _ (rv _) (Nat.zero_le _) (Nat.zero_le _) (hP (j_ : Int) (Or.inl ⟨i_, j_, no_, mn_, (if_neg (by decide)).symm⟩))
      refine hs 2 _ rfl _ _ _ _ _ _ _ rfl ?_
      refine hs 3 _ rfl _ _ _ _ _ _ _ rfl ?_
      refine hs 4 _ rfl _ _ _ _ _ _ _ _ _ (hX.1) rfl rfl ?_
      refine hs 5 _ rfl _ _ _ _ _ _ _ _ _ (hX.2.1.d) rfl rfl ?_
      refine hs 6 _ rfl _ _ _ _ _ _ _ (fun zq => absurd (hd_c2z (c := 3) (by omega) (by omega) (by omega) (by omega) zq) (by omega : ¬ (0 ≤ ((i_ : Int) - (c.2.2.1.length : Int))))) (fun _ => ?_)
      refine hs 7 _ rfl _ _ _ _ _ _ _ rfl ?_
      refine hs 8 _ rfl _ _ _ _ _ _ _ rfl ?_
      refine hs 9 _ rfl _ _ _ _ _ _ _ hd_add ?_
      refine hs 10 _ rfl _ _ _ _ _ _ _ rfl ?_
      exact inner m_ (i_ + 1) (by omega) (by omega) (fun a_ b_ y_ => ⟨hn_ a_ b_ y_, fun f_ => by have := y_.2.1; omega⟩)
  refine hs 0 _ rfl _ _ _ _ _ _ _ rfl ?_
  refine hs 1 _ rfl _ _ _ _ _ _ _ rfl ?_
  exact outer c.2.2.1.length 0 _ (by omega) (fun a_ b_ _ => Nat.zero_le _)
set_option maxHeartbeats 4000000 in
theorem zm_clash_M {l : Launch} {G : am_G} {X : ck_XT} (g : gM l G X) {o : Nat → Nat} {x tx now qw : Nat} {th j m k : Int} {c : sp_S} {P : List sp_S} {h : List am_C} (hX : zm_x G h o x tx now qw th j m k c P) (hok : sp_ok c) {w : Int} (hw9 : w = 0 ∨ w = 1) {mc ms : Nat} {Post : am_O → List am_C → Prop} (hP : ∀ v : Int, sp_cl c.2.2.1 w v → Post (.inl (some (.int (Int32.ofInt v)))) h) :
    am_M l G yX14_clashTold (.code yX14_clashTold prog_14_method_92_code 4 (some .int)) 5 107 mc ms [.ref x, .int (Int32.ofInt w)] h Post := by
  refine gh_yX14_clashTold_X g (Nat.le_of_ble_eq_true rfl) fun S SX hs hr hw hx => ?_
  have rv : ∀ x : Int32, ck_fv 0 (.int x) := fun x => ⟨_, rfl⟩
  obtain ⟨a1_, a2_, a3_, a4_⟩ := id hX
  obtain ⟨t_, qn_, ql_, qb_, vl_, s1_, l1_, ⟨e1_, e2_⟩, up_⟩ := hX.rowL
  have hl6_ := hok.2.2.1.1
  have outer : ∀ (m_ i_ : Nat) (u_ : Option Value), i_ + m_ = c.2.2.1.length → (∀ a_ b_ : Nat, sp_no c.2.2.1 a_ b_ → i_ ≤ a_) → S 2 [some (.ref x), some (.int (Int32.ofInt w)), some (.int (Int32.ofInt (i_ : Int))), u_] [] h 0 0 := by
    intro m_
    induction m_ with
    | zero =>
      intro i_ u_ hi_ hn_
      refine hs 2 _ rfl _ _ _ _ _ _ _ rfl ?_
      refine hs 3 _ rfl _ _ _ _ _ _ _ rfl ?_
      refine hs 4 _ rfl _ _ _ _ _ _ _ _ _ (a1_) a2_.1 rfl ?_
      refine hs 5 _ rfl _ _ _ _ _ _ _ _ _ (s1_.1) s1_.2 rfl ?_
      refine zw_c (hs 6 _ rfl) (a := [.ref ql_]) (st := [.int (Int32.ofInt (i_ : Int))]) rfl rfl (Nat.le_of_ble_eq_true rfl) (zm_l.rc l1_) (by omega) (by omega) (zm_size_M g l1_ ?_)
      show S 13 [some (.ref x), some (.int (Int32.ofInt w)), some (.int (Int32.ofInt (i_ : Int))), u_] [.int (Int32.ofInt (vl_.length : Int)), .int (Int32.ofInt (i_ : Int))] _ _ _
      refine hs 7 _ rfl _ _ _ _ _ _ _ (fun _ => ?_) (fun zq => absurd (hd_c2t (c := 3) (by omega) (by omega) (by omega) (by omega) (by omega : 0 ≤ ((i_ : Int) - (vl_.length : Int)))) zq)
      refine hs 33 _ rfl _ _ _ _ _ _ _ rfl ?_
      exact hs 34 _ rfl _ _ _ _ _ (rv _) (Nat.zero_le _) (Nat.zero_le _) (hP (-1) (Or.inr ⟨fun a_ b_ y_ => by have k1_ := hn_ a_ b_ y_; have k2_ := y_.1; have k3_ := y_.2.1; omega, rfl⟩))
    | succ m_ ih =>
      intro i_ u_ hi_ hn_
      have inner : ∀ (q_ j_ : Nat), j_ + q_ = c.2.2.1.length → i_ < j_ → (∀ a_ b_ : Nat, sp_no c.2.2.1 a_ b_ → i_ ≤ a_ ∧ (a_ = i_ → j_ ≤ b_)) → S 20 [some (.ref x), some (.int (Int32.ofInt w)), some (.int (Int32.ofInt (i_ : Int))), some (.int (Int32.ofInt (j_ : Int)))] [] h 0 0 := by
        intro q_
        induction q_ with
        | zero =>
          intro j_ hj_ hl_ hm_
          have z_ := ih (i_ + 1) (some (.int (Int32.ofInt (j_ : Int)))) (by omega) fun a_ b_ y_ => by
            have k1_ := hm_ a_ b_ y_
            have k2_ := y_.1
            by_cases f_ : a_ = i_
            · have k3_ := k1_.2 f_
              omega
            · omega
          refine hs 12 _ rfl _ _ _ _ _ _ _ rfl ?_
          refine hs 13 _ rfl _ _ _ _ _ _ _ rfl ?_
          refine hs 14 _ rfl _ _ _ _ _ _ _ _ _ (a1_) a2_.1 rfl ?_
          refine hs 15 _ rfl _ _ _ _ _ _ _ _ _ (s1_.1) s1_.2 rfl ?_
          refine zw_c (hs 16 _ rfl) (a := [.ref ql_]) (st := [.int (Int32.ofInt (j_ : Int))]) rfl rfl (Nat.le_of_ble_eq_true rfl) (zm_l.rc l1_) (by omega) (by omega) (zm_size_M g l1_ ?_)
          show S 31 [some (.ref x), some (.int (Int32.ofInt w)), some (.int (Int32.ofInt (i_ : Int))), some (.int (Int32.ofInt (j_ : Int)))] [.int (Int32.ofInt (vl_.length : Int)), .int (Int32.ofInt (j_ : Int))] _ _ _
          refine hs 17 _ rfl _ _ _ _ _ _ _ (fun _ => ?_) (fun zq => absurd (hd_c2t (c := 3) (by omega) (by omega) (by omega) (by omega) (by omega : 0 ≤ ((j_ : Int) - (vl_.length : Int)))) zq)
          refine hs 31 _ rfl _ _ _ _ _ _ _ (hd_inc rfl) ?_
          refine hs 32 _ rfl _ _ _ _ _ ?_
          exact z_
        | succ q_ ih2 =>
          intro j_ hj_ hl_ hm_
          by_cases ag_ : sp_ag (c.2.2.1.getD i_ (0, 1)) (c.2.2.1.getD j_ (0, 1))
          · have z_ := ih2 (j_ + 1) (by omega) (by omega) fun a_ b_ y_ => by
              have k1_ := hm_ a_ b_ y_
              refine ⟨k1_.1, fun f_ => ?_⟩
              have k3_ := k1_.2 f_
              by_cases f2_ : b_ = j_
              · exfalso
                apply y_.2.2
                rw [f_, f2_]
                exact ag_
              · omega
            refine hs 12 _ rfl _ _ _ _ _ _ _ rfl ?_
            refine hs 13 _ rfl _ _ _ _ _ _ _ rfl ?_
            refine hs 14 _ rfl _ _ _ _ _ _ _ _ _ (a1_) a2_.1 rfl ?_
            refine hs 15 _ rfl _ _ _ _ _ _ _ _ _ (s1_.1) s1_.2 rfl ?_
            refine zw_c (hs 16 _ rfl) (a := [.ref ql_]) (st := [.int (Int32.ofInt (j_ : Int))]) rfl rfl (Nat.le_of_ble_eq_true rfl) (zm_l.rc l1_) (by omega) (by omega) (zm_size_M g l1_ ?_)
            show S 31 [some (.ref x), some (.int (Int32.ofInt w)), some (.int (Int32.ofInt (i_ : Int))), some (.int (Int32.ofInt (j_ : Int)))] [.int (Int32.ofInt (vl_.length : Int)), .int (Int32.ofInt (j_ : Int))] _ _ _
            refine hs 17 _ rfl _ _ _ _ _ _ _ (fun zq => absurd (hd_c2z (c := 3) (by omega) (by omega) (by omega) (by omega) zq) (by omega : ¬ (0 ≤ ((j_ : Int) - (vl_.length : Int))))) (fun _ => ?_)
            refine hs 18 _ rfl _ _ _ _ _ _ _ rfl ?_
            refine hs 19 _ rfl _ _ _ _ _ _ _ rfl ?_
            refine hs 20 _ rfl _ _ _ _ _ _ _ rfl ?_
            refine zw_c (hs 21 _ rfl) (a := [.ref x, .int (Int32.ofInt (i_ : Int)), .int (Int32.ofInt (j_ : Int))]) (st := []) rfl rfl (Nat.le_of_ble_eq_true rfl) (zm_rc hX) (by omega) (by omega) (zk_agree_M g hX hok (i := i_) (j2 := j_) (by omega) (by omega) (fun _ => ?_) (fun y_ => absurd ag_ y_))
            show S 40 [some (.ref x), some (.int (Int32.ofInt w)), some (.int (Int32.ofInt (i_ : Int))), some (.int (Int32.ofInt (j_ : Int)))] [.int (Int32.ofInt (1 : Int))] _ _ _
            refine hs 22 _ rfl _ _ _ _ _ _ (fun _ => ?_) (fun zq => absurd (hd_c1t (c := 1) (by omega) (by omega) (by omega : (1 : Int) ≠ 0)) zq)
            refine hs 29 _ rfl _ _ _ _ _ _ _ (hd_inc rfl) ?_
            refine hs 30 _ rfl _ _ _ _ _ ?_
            exact z_
          · have no_ : sp_no c.2.2.1 i_ j_ := ⟨by omega, hl_, ag_⟩
            have mn_ : ∀ a2 b2 : Nat, sp_no c.2.2.1 a2 b2 → i_ < a2 ∨ (i_ = a2 ∧ j_ ≤ b2) := fun a2 b2 y_ => by
              have k1_ := hm_ a2 b2 y_
              by_cases f_ : a2 = i_
              · exact Or.inr ⟨f_.symm, k1_.2 f_⟩
              · exact Or.inl (by omega)
            rcases hw9 with w0_ | w0_
            · subst w0_
              refine hs 12 _ rfl _ _ _ _ _ _ _ rfl ?_
              refine hs 13 _ rfl _ _ _ _ _ _ _ rfl ?_
              refine hs 14 _ rfl _ _ _ _ _ _ _ _ _ (a1_) a2_.1 rfl ?_
              refine hs 15 _ rfl _ _ _ _ _ _ _ _ _ (s1_.1) s1_.2 rfl ?_
              refine zw_c (hs 16 _ rfl) (a := [.ref ql_]) (st := [.int (Int32.ofInt (j_ : Int))]) rfl rfl (Nat.le_of_ble_eq_true rfl) (zm_l.rc l1_) (by omega) (by omega) (zm_size_M g l1_ ?_)
              show S 31 [some (.ref x), some (.int (Int32.ofInt (0 : Int))), some (.int (Int32.ofInt (i_ : Int))), some (.int (Int32.ofInt (j_ : Int)))] [.int (Int32.ofInt (vl_.length : Int)), .int (Int32.ofInt (j_ : Int))] _ _ _
              refine hs 17 _ rfl _ _ _ _ _ _ _ (fun zq => absurd (hd_c2z (c := 3) (by omega) (by omega) (by omega) (by omega) zq) (by omega : ¬ (0 ≤ ((j_ : Int) - (vl_.length : Int))))) (fun _ => ?_)
              refine hs 18 _ rfl _ _ _ _ _ _ _ rfl ?_
              refine hs 19 _ rfl _ _ _ _ _ _ _ rfl ?_
              refine hs 20 _ rfl _ _ _ _ _ _ _ rfl ?_
              refine zw_c (hs 21 _ rfl) (a := [.ref x, .int (Int32.ofInt (i_ : Int)), .int (Int32.ofInt (j_ : Int))]) (st := []) rfl rfl (Nat.le_of_ble_eq_true rfl) (zm_rc hX) (by omega) (by omega) (zk_agree_M g hX hok (i := i_) (j2 := j_) (by omega) (by omega) (fun y_ => absurd y_ ag_) (fun _ => ?_))
              show S 40 [some (.ref x), some (.int (Int32.ofInt (0 : Int))), some (.int (Int32.ofInt (i_ : Int))), some (.int (Int32.ofInt (j_ : Int)))] [.int (Int32.ofInt (0 : Int))] _ _ _
              refine hs 22 _ rfl _ _ _ _ _ _ (fun zq => absurd (hd_c1z (c := 1) (by omega) (by omega) zq) (by omega : ¬ ((0 : Int) ≠ 0))) (fun _ => ?_)
              refine hs 23 _ rfl _ _ _ _ _ _ _ rfl ?_
              refine hs 24 _ rfl _ _ _ _ _ _ (fun zq => absurd (hd_c1z (c := 1) (by omega) (by omega) zq) (by omega : ¬ ((0 : Int) ≠ 0))) (fun _ => ?_)
              refine hs 25 _ rfl _ _ _ _ _ _ _ rfl ?_
              refine hs 26 _ rfl _ _ _ _ _ ?_
              exact hs 28 _ rfl _ _ _ _ _ (rv _) (Nat.zero_le _) (Nat.zero_le _) (hP (i_ : Int) (Or.inl ⟨i_, j_, no_, mn_, (if_pos rfl).symm⟩))
            · subst w0_
              refine hs 12 _ rfl _ _ _ _ _ _ _ rfl ?_
              refine hs 13 _ rfl _ _ _ _ _ _ _ rfl ?_
              refine hs 14 _ rfl _ _ _ _ _ _ _ _ _ (a1_) a2_.1 rfl ?_
              refine hs 15 _ rfl _ _ _ _ _ _ _ _ _ (s1_.1) s1_.2 rfl ?_
              refine zw_c (hs 16 _ rfl) (a := [.ref ql_]) (st := [.int (Int32.ofInt (j_ : Int))]) rfl rfl (Nat.le_of_ble_eq_true rfl) (zm_l.rc l1_) (by omega) (by omega) (zm_size_M g l1_ ?_)
              show S 31 [some (.ref x), some (.int (Int32.ofInt (1 : Int))), some (.int (Int32.ofInt (i_ : Int))), some (.int (Int32.ofInt (j_ : Int)))] [.int (Int32.ofInt (vl_.length : Int)), .int (Int32.ofInt (j_ : Int))] _ _ _
              refine hs 17 _ rfl _ _ _ _ _ _ _ (fun zq => absurd (hd_c2z (c := 3) (by omega) (by omega) (by omega) (by omega) zq) (by omega : ¬ (0 ≤ ((j_ : Int) - (vl_.length : Int))))) (fun _ => ?_)
              refine hs 18 _ rfl _ _ _ _ _ _ _ rfl ?_
              refine hs 19 _ rfl _ _ _ _ _ _ _ rfl ?_
              refine hs 20 _ rfl _ _ _ _ _ _ _ rfl ?_
              refine zw_c (hs 21 _ rfl) (a := [.ref x, .int (Int32.ofInt (i_ : Int)), .int (Int32.ofInt (j_ : Int))]) (st := []) rfl rfl (Nat.le_of_ble_eq_true rfl) (zm_rc hX) (by omega) (by omega) (zk_agree_M g hX hok (i := i_) (j2 := j_) (by omega) (by omega) (fun y_ => absurd y_ ag_) (fun _ => ?_))
              show S 40 [some (.ref x), some (.int (Int32.ofInt (1 : Int))), some (.int (Int32.ofInt (i_ : Int))), some (.int (Int32.ofInt (j_ : Int)))] [.int (Int32.ofInt (0 : Int))] _ _ _
              refine hs 22 _ rfl _ _ _ _ _ _ (fun zq => absurd (hd_c1z (c := 1) (by omega) (by omega) zq) (by omega : ¬ ((0 : Int) ≠ 0))) (fun _ => ?_)
              refine hs 23 _ rfl _ _ _ _ _ _ _ rfl ?_
              refine hs 24 _ rfl _ _ _ _ _ _ (fun _ => ?_) (fun zq => absurd (hd_c1t (c := 1) (by omega) (by omega) (by omega : (1 : Int) ≠ 0)) zq)
              refine hs 27 _ rfl _ _ _ _ _ _ _ rfl ?_
              exact hs 28 _ rfl _ _ _ _ _ (rv _) (Nat.zero_le _) (Nat.zero_le _) (hP (j_ : Int) (Or.inl ⟨i_, j_, no_, mn_, (if_neg (by decide)).symm⟩))
      refine hs 2 _ rfl _ _ _ _ _ _ _ rfl ?_
      refine hs 3 _ rfl _ _ _ _ _ _ _ rfl ?_
      refine hs 4 _ rfl _ _ _ _ _ _ _ _ _ (a1_) a2_.1 rfl ?_
      refine hs 5 _ rfl _ _ _ _ _ _ _ _ _ (s1_.1) s1_.2 rfl ?_
      refine zw_c (hs 6 _ rfl) (a := [.ref ql_]) (st := [.int (Int32.ofInt (i_ : Int))]) rfl rfl (Nat.le_of_ble_eq_true rfl) (zm_l.rc l1_) (by omega) (by omega) (zm_size_M g l1_ ?_)
      show S 13 [some (.ref x), some (.int (Int32.ofInt w)), some (.int (Int32.ofInt (i_ : Int))), u_] [.int (Int32.ofInt (vl_.length : Int)), .int (Int32.ofInt (i_ : Int))] _ _ _
      refine hs 7 _ rfl _ _ _ _ _ _ _ (fun zq => absurd (hd_c2z (c := 3) (by omega) (by omega) (by omega) (by omega) zq) (by omega : ¬ (0 ≤ ((i_ : Int) - (vl_.length : Int))))) (fun _ => ?_)
      refine hs 8 _ rfl _ _ _ _ _ _ _ rfl ?_
      refine hs 9 _ rfl _ _ _ _ _ _ _ rfl ?_
      refine hs 10 _ rfl _ _ _ _ _ _ _ hd_add ?_
      refine hs 11 _ rfl _ _ _ _ _ _ _ rfl ?_
      exact inner m_ (i_ + 1) (by omega) (by omega) (fun a_ b_ y_ => ⟨hn_ a_ b_ y_, fun f_ => by have := y_.2.1; omega⟩)
  refine hs 0 _ rfl _ _ _ _ _ _ _ rfl ?_
  refine hs 1 _ rfl _ _ _ _ _ _ _ rfl ?_
  exact outer c.2.2.1.length 0 _ (by omega) (fun a_ b_ _ => Nat.zero_le _)
set_option maxHeartbeats 4000000 in
theorem zc_qclash_M {l : Launch} {G : am_G} {X : ck_XT} (g : gM l G X) {x : Nat} {r : Nat → Nat} {jj mm kk : Int} {c : sp_S} {R : Nat → sp_S} {old cnt : Nat} {h : List am_C} (hX : zc_x G h x r jj mm kk c R old cnt) {e : Int} (he1 : -2147483648 ≤ e) (he2 : e ≤ 2147483647) {e2 : Int} {mc ms : Nat} {Post : am_O → List am_C → Prop} (hmc : 1 ≤ mc) (hms : 6 ≤ ms)
    (hP : (0 ≤ e ∧ e ≤ 1) → ∀ v : Int, sp_cl c.2.2.1 e v → Post (.inl (some (.int (Int32.ofInt v)))) h)
    (hX2 : ¬ (0 ≤ e ∧ e ≤ 1) → Post (.inr "java/lang/IllegalArgumentException") (h ++ [(99, [])])) :
    am_M l G yX10_clash (.code yX10_clash prog_1_method_51_code 2 (some .int)) 6 91 mc ms [.ref x, .int (Int32.ofInt e)] h Post := by
  refine gh_yX10_clash_X g (Nat.le_of_ble_eq_true rfl) fun S SX hs hr hw hx => ?_
  have rv : ∀ x : Int32, ck_fv 0 (.int x) := fun x => ⟨_, rfl⟩
  have hx9_ := hX.2.2.2.2.2.2.2
  by_cases c1_ : 0 ≤ e ∧ e ≤ 1
  rotate_left
  · 
    refine hs 0 _ rfl _ _ _ _ _ _ _ rfl ?_
    refine hs 1 _ rfl _ _ _ _ _ _ (fun zq => absurd (hd_c1z (c := 0) (by omega) (by omega) zq) (by omega : ¬ (e = 0))) (fun _ => ?_)
    refine hs 2 _ rfl _ _ _ _ _ _ _ rfl ?_
    refine hs 3 _ rfl _ _ _ _ _ _ _ rfl ?_
    refine hs 4 _ rfl _ _ _ _ _ _ _ (fun zq => absurd (hd_c2z (c := 0) (by omega) (by omega) (by omega) (by omega) zq) (by omega : ¬ ((e - (1 : Int)) = 0))) (fun _ => ?_)
    exact hs 5 _ rfl _ _ _ _ _ rfl (Nat.le_of_ble_eq_true rfl) (by omega) (by omega) (hX2 c1_)
  · have hP := hP c1_
    by_cases c2_ : e = 0
    · subst c2_
      refine hs 0 _ rfl _ _ _ _ _ _ _ rfl ?_
      refine hs 1 _ rfl _ _ _ _ _ _ (fun _ => ?_) (fun zq => absurd (hd_c1t (c := 0) (by omega) (by omega) (by omega : (0 : Int) = 0)) zq)
      refine hs 6 _ rfl _ _ _ _ _ _ _ rfl ?_
      refine hs 7 _ rfl _ _ _ _ _ _ _ rfl ?_
      refine zw_c (hs 8 _ rfl) (a := [.ref x, .int (Int32.ofInt (0 : Int))]) (st := []) rfl rfl (Nat.le_of_ble_eq_true rfl) ⟨_, _, _, rfl, hX.1, rfl⟩ (by omega) (by omega) (zc_clash_M g hX (w := 0) (by omega) fun v_ hv_ => ?_)
      show S 25 [some (.ref x), some (.int (Int32.ofInt (0 : Int)))] [.int (Int32.ofInt v_)] _ _ _
      exact hs 9 _ rfl _ _ _ _ _ (rv _) (Nat.zero_le _) (Nat.zero_le _) (hP _ hv_)
    · have c3_ : e = 1 := by omega
      subst c3_
      refine hs 0 _ rfl _ _ _ _ _ _ _ rfl ?_
      refine hs 1 _ rfl _ _ _ _ _ _ (fun zq => absurd (hd_c1z (c := 0) (by omega) (by omega) zq) (by omega : ¬ ((1 : Int) = 0))) (fun _ => ?_)
      refine hs 2 _ rfl _ _ _ _ _ _ _ rfl ?_
      refine hs 3 _ rfl _ _ _ _ _ _ _ rfl ?_
      refine hs 4 _ rfl _ _ _ _ _ _ _ (fun _ => ?_) (fun zq => absurd (hd_c2t (c := 0) (by omega) (by omega) (by omega) (by omega) (by omega : ((1 : Int) - (1 : Int)) = 0)) zq)
      refine hs 6 _ rfl _ _ _ _ _ _ _ rfl ?_
      refine hs 7 _ rfl _ _ _ _ _ _ _ rfl ?_
      refine zw_c (hs 8 _ rfl) (a := [.ref x, .int (Int32.ofInt (1 : Int))]) (st := []) rfl rfl (Nat.le_of_ble_eq_true rfl) ⟨_, _, _, rfl, hX.1, rfl⟩ (by omega) (by omega) (zc_clash_M g hX (w := 1) (by omega) fun v_ hv_ => ?_)
      show S 25 [some (.ref x), some (.int (Int32.ofInt (1 : Int)))] [.int (Int32.ofInt v_)] _ _ _
      exact hs 9 _ rfl _ _ _ _ _ (rv _) (Nat.zero_le _) (Nat.zero_le _) (hP _ hv_)
set_option maxHeartbeats 4000000 in
theorem zm_qclash_M {l : Launch} {G : am_G} {X : ck_XT} (g : gM l G X) {o : Nat → Nat} {x tx now qw : Nat} {th j m k : Int} {c : sp_S} {P : List sp_S} {h : List am_C} (hX : zm_x G h o x tx now qw th j m k c P) (hok : sp_ok c) {e e2 : Int} (he1 : -2147483648 ≤ e) (he2 : e ≤ 2147483647) {mc ms : Nat} {Post : am_O → List am_C → Prop}
    (hP : ∀ (a th : Int) (T' : sp_T) (h' : List am_C), sp_q51 e e2 (c, P, j, m, k) a th T' → zm_fr G h h' → zm_Y G h' x th T' → Post (.inl (some (.int (Int32.ofInt a)))) h') :
    am_M l G yX14_clash (.code yX14_clash prog_14_method_93_code 2 (some .int)) 6 130 mc ms [.ref x, .int (Int32.ofInt e)] h Post := by
  refine gh_yX14_clash_X g (Nat.le_of_ble_eq_true rfl) fun S SX hs hr hw hx => ?_
  have rv : ∀ x : Int32, ck_fv 0 (.int x) := fun x => ⟨_, rfl⟩
  obtain ⟨a1_, a2_, a3_, a4_⟩ := id hX
  by_cases c1_ : 0 ≤ e ∧ e ≤ 1
  rotate_left
  · 
    refine hs 0 _ rfl _ _ _ _ _ _ _ rfl ?_
    refine hs 1 _ rfl _ _ _ _ _ _ _ rfl ?_
    refine hs 2 _ rfl _ _ _ _ _ _ _ rfl ?_
    refine hs 3 _ rfl _ _ _ _ _ _ _ rfl ?_
    refine zw_c (hs 4 _ rfl) (a := [.int (Int32.ofInt e), .int (Int32.ofInt (0 : Int)), .int (Int32.ofInt (1 : Int))]) (st := [.ref x]) rfl rfl (Nat.le_of_ble_eq_true rfl) trivial (by omega) (by omega) (zm_isIn_M g (v := e) (a := 0) (b := 1) (by omega) (by omega) (by omega) (by omega) (by omega) (by omega) (fun y_ => absurd y_ (by omega)) (fun y_ => ?_))
    show S 7 [some (.ref x), some (.int (Int32.ofInt e))] [.int (Int32.ofInt (0 : Int)), .ref x] _ _ _
    refine hs 5 _ rfl _ _ _ _ _ _ (fun zq => absurd (hd_c1z (c := 1) (by omega) (by omega) zq) (by omega : ¬ ((0 : Int) ≠ 0))) (fun _ => ?_)
    refine hs 6 _ rfl _ _ _ _ _ _ _ rfl ?_
    refine hs 7 _ rfl _ _ _ _ _ ?_
    refine hs 9 _ rfl _ _ _ _ _ _ _ rfl ?_
    refine zw_c (hs 10 _ rfl) (a := [.ref x, .int (Int32.ofInt (1 : Int)), .int (Int32.ofInt (1 : Int))]) (st := []) rfl rfl (Nat.le_of_ble_eq_true rfl) ⟨_, _, _, rfl, a1_, a2_.1⟩ (by omega) (by omega) (zm_start_M g hX (i_ := 1) (w_ := 1) (Or.inr rfl) (by decide) (fun y_ h2_ f2_ x2_ => ?_) (fun y_ => absurd y_ (by decide)))
    show S 19 [some (.ref x), some (.int (Int32.ofInt e))] [.int (Int32.ofInt (1 : Int))] _ _ _
    refine hs 11 _ rfl _ _ _ _ _ _ (fun zq => absurd (hd_c1z (c := 0) (by omega) (by omega) zq) (by omega : ¬ ((1 : Int) = 0))) (fun _ => ?_)
    refine hs 12 _ rfl _ _ _ _ _ _ _ rfl ?_
    refine hs 13 _ rfl _ _ _ _ _ ?_
    exact hs 17 _ rfl _ _ _ _ _ (rv _) (by omega) (by omega) (hP 0 _ _ _ ⟨rfl, Or.inr ⟨c1_, rfl⟩⟩ (f2_) ⟨_, _, _, _, x2_⟩)
  · 
    refine hs 0 _ rfl _ _ _ _ _ _ _ rfl ?_
    refine hs 1 _ rfl _ _ _ _ _ _ _ rfl ?_
    refine hs 2 _ rfl _ _ _ _ _ _ _ rfl ?_
    refine hs 3 _ rfl _ _ _ _ _ _ _ rfl ?_
    refine zw_c (hs 4 _ rfl) (a := [.int (Int32.ofInt e), .int (Int32.ofInt (0 : Int)), .int (Int32.ofInt (1 : Int))]) (st := [.ref x]) rfl rfl (Nat.le_of_ble_eq_true rfl) trivial (by omega) (by omega) (zm_isIn_M g (v := e) (a := 0) (b := 1) (by omega) (by omega) (by omega) (by omega) (by omega) (by omega) (fun y_ => ?_) (fun y_ => absurd (by omega) y_))
    show S 7 [some (.ref x), some (.int (Int32.ofInt e))] [.int (Int32.ofInt (1 : Int)), .ref x] _ _ _
    refine hs 5 _ rfl _ _ _ _ _ _ (fun _ => ?_) (fun zq => absurd (hd_c1t (c := 1) (by omega) (by omega) (by omega : (1 : Int) ≠ 0)) zq)
    refine hs 8 _ rfl _ _ _ _ _ _ _ rfl ?_
    refine hs 9 _ rfl _ _ _ _ _ _ _ rfl ?_
    refine zw_c (hs 10 _ rfl) (a := [.ref x, .int (Int32.ofInt (0 : Int)), .int (Int32.ofInt (1 : Int))]) (st := []) rfl rfl (Nat.le_of_ble_eq_true rfl) ⟨_, _, _, rfl, a1_, a2_.1⟩ (by omega) (by omega) (zm_start_M g hX (i_ := 0) (w_ := 1) (Or.inl rfl) (by decide) (fun y_ => absurd y_ (by decide)) (fun y_ h2_ f2_ x2_ => ?_))
    show S 19 [some (.ref x), some (.int (Int32.ofInt e))] [.int (Int32.ofInt (0 : Int))] _ _ _
    refine hs 11 _ rfl _ _ _ _ _ _ (fun _ => ?_) (fun zq => absurd (hd_c1t (c := 0) (by omega) (by omega) (by omega : (0 : Int) = 0)) zq)
    refine hs 14 _ rfl _ _ _ _ _ _ _ rfl ?_
    refine hs 15 _ rfl _ _ _ _ _ _ _ rfl ?_
    refine zw_c (hs 16 _ rfl) (a := [.ref x, .int (Int32.ofInt e)]) (st := []) rfl rfl (Nat.le_of_ble_eq_true rfl) (zm_rc x2_) (by omega) (by omega) (zm_clash_M g x2_ hok (w := e) (by omega) fun v_ hv_ => ?_)
    show S 31 [some (.ref x), some (.int (Int32.ofInt e))] [.int (Int32.ofInt v_)] _ _ _
    exact hs 17 _ rfl _ _ _ _ _ (rv _) (by omega) (by omega) (hP _ _ _ _ ⟨rfl, Or.inl ⟨c1_, rfl, hv_⟩⟩ (f2_) ⟨_, _, _, _, x2_⟩)
set_option maxHeartbeats 4000000 in
theorem zc_wqclash_M {l : Launch} {G : am_G} {X : ck_XT} (g : gM l G X) {x : Nat} {r : Nat → Nat} {jj mm kk : Int} {c : sp_S} {R : Nat → sp_S} {old cnt : Nat} {h : List am_C} (hX : zc_x G h x r jj mm kk c R old cnt){o : Nat} {n0 : Int64} {s0 : Value} (hO : am_g G h o = some (1016, [.long n0, s0])) (ho1 : o < x ∨ x + 228 ≤ o) (ho2 : o ≠ r 4) (ho3 : 1000 ≤ o) {e e2 : Int} (he1 : -2147483648 ≤ e) (he2 : e ≤ 2147483647) {mc ms : Nat} {Post : am_O → List am_C → Prop} (hmc : 1 ≤ mc) (hms : 6 ≤ ms)
    (hP : ∀ (a th : Int) (T' : sp_T) (h' : List am_C), sp_q51 e e2 (c, zc_l R old cnt, jj, mm, kk) a th T' → zc_of G h h' x r o → zc_Y G h' x r T' → (th = 0 → am_g G h' o = some (1016, [.long (Int64.ofInt a), s0])) → Post (.inl (some (.int (Int32.ofInt th)))) h') :
    am_M l G yL_clash (.codeWith yL_clash method_43_code 4 (some .int) [(0, 10, 13, 19)]) 7 112 mc ms [.ref x, .int (Int32.ofInt e), .ref o] h Post := by
  refine gh_yL_clash_X g (Nat.le_of_ble_eq_true rfl) fun S SX hs hr hw hx => ?_
  have rv : ∀ x : Int32, ck_fv 0 (.int x) := fun x => ⟨_, rfl⟩
  have ok_ := hX.2.2.1
  have okd_ := ok_.1
  have okn_ := ok_.2.1.1
  have okr_ := ok_.2.2.1.1
  have okb_ := ok_.2.2.2.1
  have px_ := hX.2.2.2.2.2.2.2
  refine hs 0 _ rfl _ _ _ _ _ _ _ rfl ?_
  refine hs 1 _ rfl _ _ _ _ _ _ _ rfl ?_
  refine hs 2 _ rfl _ _ _ _ _ _ _ rfl ?_
  refine zw_cm (hs 3 _ rfl) (a := [.ref x, .int (Int32.ofInt e)]) (st := [.ref o]) 1 6 rfl rfl (Nat.le_of_ble_eq_true rfl) ⟨_, _, _, rfl, hX.1, rfl⟩ (by omega) (by omega) (zc_qclash_M g hX he1 he2 (e2 := e2) (by omega) (by omega) (fun y_ a_ r_ => ?_) (fun hn_ => ?_))
  · show S 6 [some (.ref x), some (.int (Int32.ofInt e)), some (.ref o), none] [.int (Int32.ofInt a_), .ref o] _ _ _
    have bd_ : -9 ≤ a_ ∧ a_ ≤ 1000 := sp_cl.bd okr_ r_
    refine hs 4 _ rfl _ _ _ _ _ _ _ (hd_i2l (by omega) (by omega)) ?_
    refine zw_U (hs 5 _ rfl) (by omega) (hO) rfl ⟨_, rfl⟩ fun hz721 wz722 => ?_
    have wz722 : hd_w G _ hz721 o (1016, [.long (Int64.ofInt a_), s0]) := wz722
    have lwz722 := wz722.1
    refine hs 6 _ rfl _ _ _ _ _ ?_
    refine hs 10 _ rfl _ _ _ _ _ _ _ rfl ?_
    exact hs 11 _ rfl _ _ _ _ _ (rv _) (by omega) (by omega) (hP a_ 0 _ _ (⟨rfl, Or.inl ⟨y_, rfl, r_⟩⟩) (zc_of.w wz722) (zc_X.out (⟨_, _, _, hX, rfl⟩) wz722 ho1 ho2) fun _ => wz722.at)
  · refine hx (_, _) (List.mem_cons.mpr (Or.inl rfl)) _ _ _ _ rfl ?_
    show S 14 _ [] _ _ _
    refine hs 8 _ rfl _ _ _ _ _ _ _ rfl ?_
    exact hs 9 _ rfl _ _ _ _ _ (rv _) (by omega) (by omega) (hP 0 1 _ _ (⟨rfl, Or.inr ⟨hn_, rfl⟩⟩) (zc_of.g zg.app1) ⟨_, _, _, hX.app, rfl⟩ fun z_ => absurd z_ (by decide))
set_option maxHeartbeats 4000000 in
theorem zc_qbroken_M {l : Launch} {G : am_G} {X : ck_XT} (g : gM l G X) {x : Nat} {r : Nat → Nat} {jj mm kk : Int} {c : sp_S} {R : Nat → sp_S} {old cnt : Nat} {h : List am_C} (hX : zc_x G h x r jj mm kk c R old cnt) {e : Int} (he1 : -2147483648 ≤ e) (he2 : e ≤ 2147483647) {e2 : Int} {mc ms : Nat} {Post : am_O → List am_C → Prop} (hmc : 1 ≤ mc) (hms : 6 ≤ ms)
    (hP : (0 ≤ e ∧ e < 6) → ∀ v : Int, sp_br c.2.2.1 (c.2.1.getD e.toNat 0) v → Post (.inl (some (.int (Int32.ofInt v)))) h)
    (hX2 : ¬ (0 ≤ e ∧ e < 6) → Post (.inr "java/lang/IndexOutOfBoundsException") (h ++ [(99, [])])) :
    am_M l G yX10_broken (.code yX10_broken prog_1_method_52_code 4 (some .int)) 7 111 mc ms [.ref x, .int (Int32.ofInt e)] h Post := by
  refine gh_yX10_broken_X g (Nat.le_of_ble_eq_true rfl) fun S SX hs hr hw hx => ?_
  have rv : ∀ x : Int32, ck_fv 0 (.int x) := fun x => ⟨_, rfl⟩
  have hx9_ := hX.2.2.2.2.2.2.2
  by_cases c1_ : 0 ≤ e ∧ e < 6
  rotate_left
  · 
    refine hs 0 _ rfl _ _ _ _ _ _ _ rfl ?_
    refine hs 1 _ rfl _ _ _ _ _ _ _ rfl ?_
    exact zw_cm (hs 2 _ rfl) (a := [.ref x, .int (Int32.ofInt e)]) (st := []) 1 6 rfl rfl (Nat.le_of_ble_eq_true rfl) ⟨_, _, _, rfl, (hX.1), rfl⟩ (by omega) (by omega) (zc_numAtX_M g hX he1 he2 (by omega) (by decide) (by decide) (hx _ _ _ _ _ _ (by omega) (by omega) (hX2 c1_)))
  · have hP := hP c1_
    obtain ⟨i, rfl⟩ : ∃ i : Nat, e = (i : Int) := ⟨e.toNat, by omega⟩
    have hi : i < 6 := by omega
    rw [Int.toNat_natCast] at hP
    obtain ⟨ny_, sy_, ly_, y1_, y2_, y3_⟩ := hX.2.1.n hi
    have hl6_ := hX.2.2.1.2.2.1.1
    obtain ⟨rs_, zs_, bs_, d1_, d2_, d3_, d4_, d5_, d6_, d7_⟩ := hX.2.1
    obtain ⟨⟨p4_, p5_, p6_⟩, -, hro_, -⟩ := id d6_
    have loop : ∀ (m_ k_ : Nat), k_ + m_ = c.2.2.1.length → (∀ j_ : Nat, j_ < k_ → ¬ sp_bx c.2.2.1 (c.2.1.getD i 0) j_) → S 8 [some (.ref x), some (.int (Int32.ofInt (i : Int))), some (.ref (x + 1 + 5 + 2 * i)), some (.int (Int32.ofInt (k_ : Int)))] [] h 0 0 := by
      intro m_
      induction m_ with
      | zero =>
        intro k_ hk_ hn_
        refine hs 6 _ rfl _ _ _ _ _ _ _ rfl ?_
        refine hs 7 _ rfl _ _ _ _ _ _ _ rfl ?_
        refine hs 8 _ rfl _ _ _ _ _ _ _ _ _ (hX.1) rfl rfl ?_
        refine hs 9 _ rfl _ _ _ _ _ _ _ _ _ (d1_) rfl rfl ?_
        refine hs 10 _ rfl _ _ _ _ _ _ _ (fun _ => ?_) (fun zq => absurd (hd_c2t (c := 3) (by omega) (by omega) (by omega) (by omega) (by omega : 0 ≤ ((k_ : Int) - (c.2.2.1.length : Int)))) zq)
        refine hs 28 _ rfl _ _ _ _ _ _ _ rfl ?_
        exact hs 29 _ rfl _ _ _ _ _ (rv _) (Nat.zero_le _) (Nat.zero_le _) (hP (-1) (Or.inr ⟨fun q_ hq_ => hn_ q_ (by omega), rfl⟩))
      | succ m_ ih =>
        intro k_ hk_ hn_
        obtain ⟨⟨a_, bz1_⟩, hp1_⟩ : ∃ p, c.2.2.1[k_]? = some p := ⟨_, List.getElem?_eq_getElem (by omega)⟩
        obtain ⟨o11_, o12_, o13_, o14_⟩ : 1 ≤ bz1_ ∧ bz1_ ≤ 999 ∧ 0 ≤ a_ ∧ a_ < bz1_ := hX.2.2.1.2.2.1.2 _ (List.mem_of_getElem? hp1_)
        obtain ⟨B_, rfl⟩ : ∃ s_ : Nat, bz1_ = (s_ : Int) := ⟨bz1_.toNat, by omega⟩
        have yr1_ : rs_[k_]? = some a_ := (hro_ k_ _ hp1_).1
        have yz1_ : zs_[k_]? = some (B_ : Int) := (hro_ k_ _ hp1_).2
        have eq1_ : c.2.2.1.getD k_ (0, 1) = (a_, (B_ : Int)) := by
          rw [List.getD_eq_getElem?_getD, hp1_, Option.getD_some]
        have rr1_ := Int.emod_nonneg (c.2.1.getD i 0) (b := (B_ : Int)) (by omega)
        have rr2_ := Int.emod_lt_of_pos (c.2.1.getD i 0) (b := (B_ : Int)) (by omega)
        have bq_ : sp_bx c.2.2.1 (c.2.1.getD i 0) k_ ↔ ¬ (c.2.1.getD i 0) % (B_ : Int) = a_ := by
          unfold sp_bx
          rw [eq1_]
        by_cases bx_ : sp_bx c.2.2.1 (c.2.1.getD i 0) k_
        · have bz_ := bq_.mp bx_
          refine hs 6 _ rfl _ _ _ _ _ _ _ rfl ?_
          refine hs 7 _ rfl _ _ _ _ _ _ _ rfl ?_
          refine hs 8 _ rfl _ _ _ _ _ _ _ _ _ (hX.1) rfl rfl ?_
          refine hs 9 _ rfl _ _ _ _ _ _ _ _ _ (d1_) rfl rfl ?_
          refine hs 10 _ rfl _ _ _ _ _ _ _ (fun zq => absurd (hd_c2z (c := 3) (by omega) (by omega) (by omega) (by omega) zq) (by omega : ¬ (0 ≤ ((k_ : Int) - (c.2.2.1.length : Int))))) (fun _ => ?_)
          refine hs 11 _ rfl _ _ _ _ _ _ _ rfl ?_
          refine hs 12 _ rfl _ _ _ _ _ _ _ rfl ?_
          refine hs 13 _ rfl _ _ _ _ _ _ _ _ _ (hX.1) rfl rfl ?_
          refine hs 14 _ rfl _ _ _ _ _ _ _ _ _ (d1_) rfl rfl ?_
          refine hs 15 _ rfl _ _ _ _ _ _ _ rfl ?_
          refine hd_A (hs 16 _ rfl) (by decide) (by decide) (d4_) rfl (j := k_) (by omega) (by omega) yz1_ ?_
          refine zw_c (hs 17 _ rfl) (a := [.ref (x + 1 + 5 + 2 * i), .int (Int32.ofInt (B_ : Int))]) (st := []) rfl rfl (Nat.le_of_ble_eq_true rfl) ⟨_, _, _, rfl, y1_, rfl⟩ (by omega) (by omega) (sb_restE_M g y1_ rfl y2_ rfl y3_ (by omega) (by omega) ?_)
          show S 32 [some (.ref x), some (.int (Int32.ofInt (i : Int))), some (.ref (x + 1 + 5 + 2 * i)), some (.int (Int32.ofInt (k_ : Int)))] [.int (Int32.ofInt ((c.2.1.getD i 0) % (B_ : Int)))] _ _ _
          refine hs 18 _ rfl _ _ _ _ _ _ _ rfl ?_
          refine hs 19 _ rfl _ _ _ _ _ _ _ _ _ (hX.1) rfl rfl ?_
          refine hs 20 _ rfl _ _ _ _ _ _ _ _ _ (d1_) rfl rfl ?_
          refine hs 21 _ rfl _ _ _ _ _ _ _ rfl ?_
          refine hd_A (hs 22 _ rfl) (by decide) (by decide) (d3_) rfl (j := k_) (by omega) (by omega) yr1_ ?_
          refine hs 23 _ rfl _ _ _ _ _ _ _ (fun zq => absurd (hd_c2z (c := 0) (by omega) (by omega) (by omega) (by omega) zq) (by omega : ¬ ((((c.2.1.getD i 0) % (B_ : Int)) - a_) = 0))) (fun _ => ?_)
          refine hs 24 _ rfl _ _ _ _ _ _ _ rfl ?_
          exact hs 25 _ rfl _ _ _ _ _ (rv _) (Nat.zero_le _) (Nat.zero_le _) (hP (k_ : Int) (Or.inl ⟨k_, by omega, bx_, hn_, rfl⟩))
        · have bz_ : (c.2.1.getD i 0) % (B_ : Int) = a_ := by
            apply Classical.byContradiction
            intro y_
            exact bx_ (bq_.mpr y_)
          have z_ := ih (k_ + 1) (by omega) fun j_ hj_ => by
            by_cases f_ : j_ = k_
            · rw [f_]
              exact bx_
            · exact hn_ j_ (by omega)
          refine hs 6 _ rfl _ _ _ _ _ _ _ rfl ?_
          refine hs 7 _ rfl _ _ _ _ _ _ _ rfl ?_
          refine hs 8 _ rfl _ _ _ _ _ _ _ _ _ (hX.1) rfl rfl ?_
          refine hs 9 _ rfl _ _ _ _ _ _ _ _ _ (d1_) rfl rfl ?_
          refine hs 10 _ rfl _ _ _ _ _ _ _ (fun zq => absurd (hd_c2z (c := 3) (by omega) (by omega) (by omega) (by omega) zq) (by omega : ¬ (0 ≤ ((k_ : Int) - (c.2.2.1.length : Int))))) (fun _ => ?_)
          refine hs 11 _ rfl _ _ _ _ _ _ _ rfl ?_
          refine hs 12 _ rfl _ _ _ _ _ _ _ rfl ?_
          refine hs 13 _ rfl _ _ _ _ _ _ _ _ _ (hX.1) rfl rfl ?_
          refine hs 14 _ rfl _ _ _ _ _ _ _ _ _ (d1_) rfl rfl ?_
          refine hs 15 _ rfl _ _ _ _ _ _ _ rfl ?_
          refine hd_A (hs 16 _ rfl) (by decide) (by decide) (d4_) rfl (j := k_) (by omega) (by omega) yz1_ ?_
          refine zw_c (hs 17 _ rfl) (a := [.ref (x + 1 + 5 + 2 * i), .int (Int32.ofInt (B_ : Int))]) (st := []) rfl rfl (Nat.le_of_ble_eq_true rfl) ⟨_, _, _, rfl, y1_, rfl⟩ (by omega) (by omega) (sb_restE_M g y1_ rfl y2_ rfl y3_ (by omega) (by omega) ?_)
          show S 32 [some (.ref x), some (.int (Int32.ofInt (i : Int))), some (.ref (x + 1 + 5 + 2 * i)), some (.int (Int32.ofInt (k_ : Int)))] [.int (Int32.ofInt ((c.2.1.getD i 0) % (B_ : Int)))] _ _ _
          refine hs 18 _ rfl _ _ _ _ _ _ _ rfl ?_
          refine hs 19 _ rfl _ _ _ _ _ _ _ _ _ (hX.1) rfl rfl ?_
          refine hs 20 _ rfl _ _ _ _ _ _ _ _ _ (d1_) rfl rfl ?_
          refine hs 21 _ rfl _ _ _ _ _ _ _ rfl ?_
          refine hd_A (hs 22 _ rfl) (by decide) (by decide) (d3_) rfl (j := k_) (by omega) (by omega) yr1_ ?_
          refine hs 23 _ rfl _ _ _ _ _ _ _ (fun _ => ?_) (fun zq => absurd (hd_c2t (c := 0) (by omega) (by omega) (by omega) (by omega) (by omega : (((c.2.1.getD i 0) % (B_ : Int)) - a_) = 0)) zq)
          refine hs 26 _ rfl _ _ _ _ _ _ _ (hd_inc rfl) ?_
          refine hs 27 _ rfl _ _ _ _ _ ?_
          exact z_
    refine hs 0 _ rfl _ _ _ _ _ _ _ rfl ?_
    refine hs 1 _ rfl _ _ _ _ _ _ _ rfl ?_
    refine zw_c (hs 2 _ rfl) (a := [.ref x, .int (Int32.ofInt (i : Int))]) (st := []) rfl rfl (Nat.le_of_ble_eq_true rfl) ⟨_, _, _, rfl, hX.1, rfl⟩ (by omega) (by omega) (zc_numAt_M g hX (i := i) rfl hi ?_)
    show S 5 [some (.ref x), some (.int (Int32.ofInt (i : Int))), none, none] [.ref (x + 1 + 5 + 2 * i)] _ _ _
    refine hs 3 _ rfl _ _ _ _ _ _ _ rfl ?_
    refine hs 4 _ rfl _ _ _ _ _ _ _ rfl ?_
    refine hs 5 _ rfl _ _ _ _ _ _ _ rfl ?_
    exact loop c.2.2.1.length 0 (by omega) (fun j_ hj_ => absurd hj_ (by omega))
set_option maxHeartbeats 4000000 in
theorem zm_broken_M {l : Launch} {G : am_G} {X : ck_XT} (g : gM l G X) {o : Nat → Nat} {x tx now qw : Nat} {th j m k : Int} {c : sp_S} {P : List sp_S} {h : List am_C} (hX : zm_x G h o x tx now qw th j m k c P) (hok : sp_ok c) {i : Nat} (hi : i < 6) {mc ms : Nat} {Post : am_O → List am_C → Prop} (hP : ∀ v : Int, sp_br c.2.2.1 (c.2.1.getD i 0) v → Post (.inl (some (.int (Int32.ofInt v)))) h) :
    am_M l G yX14_brokenTold (.code yX14_brokenTold prog_14_method_94_code 3 (some .int)) 4 84 mc ms [.ref x, .int (Int32.ofInt (i : Int))] h Post := by
  refine gh_yX14_brokenTold_X g (Nat.le_of_ble_eq_true rfl) fun S SX hs hr hw hx => ?_
  have rv : ∀ x : Int32, ck_fv 0 (.int x) := fun x => ⟨_, rfl⟩
  obtain ⟨a1_, a2_, a3_, a4_⟩ := id hX
  obtain ⟨t_, qn_, tn_, ql_, qb_, vn_, s1_, ⟨b1_, b2_, b3_⟩, ⟨d1_, d2_⟩, up_⟩ := hX.numL
  obtain ⟨t9_, qn9_, ql9_, qb9_, vl_, s9_, l1_, ⟨e1_, e2_⟩, up9_⟩ := hX.rowL
  have q9_ : ql9_ = ql_ := Value.ref.inj (List.cons.inj (List.cons.inj (List.cons.inj (congrArg Prod.snd (Option.some.inj (s9_.1.symm.trans s1_.1)))).2).2).1
  rw [q9_] at l1_
  have ok1_ := hok.2.1.1
  have hl6_ := hok.2.2.1.1
  obtain ⟨n9_, hn9_⟩ : ∃ v_, vn_[i]? = some v_ := ⟨_, List.getElem?_eq_getElem (by omega)⟩
  have gz_ : c.2.1[i]? = some (c.2.1.getD i 0) := sb_ge (by omega)
  obtain ⟨nt_, nd_, ntd_, nb_, nds_, n1_, n2_, n3_, n4_, n5_⟩ := d2_ _ _ _ hn9_ gz_
  have nl_ : nds_.length ≤ 36 := zm_len n5_ (hok.get hi)
  have loop : ∀ (m_ k_ : Nat), k_ + m_ = c.2.2.1.length → (∀ j_ : Nat, j_ < k_ → ¬ sp_bx c.2.2.1 (c.2.1.getD i 0) j_) → S 2 [some (.ref x), some (.int (Int32.ofInt (i : Int))), some (.int (Int32.ofInt (k_ : Int)))] [] h 0 0 := by
    intro m_
    induction m_ with
    | zero =>
      intro k_ hk_ hn_
      refine hs 2 _ rfl _ _ _ _ _ _ _ rfl ?_
      refine hs 3 _ rfl _ _ _ _ _ _ _ rfl ?_
      refine hs 4 _ rfl _ _ _ _ _ _ _ _ _ (a1_) a2_.1 rfl ?_
      refine hs 5 _ rfl _ _ _ _ _ _ _ _ _ (s1_.1) s1_.2 rfl ?_
      refine zw_c (hs 6 _ rfl) (a := [.ref ql_]) (st := [.int (Int32.ofInt (k_ : Int))]) rfl rfl (Nat.le_of_ble_eq_true rfl) (zm_l.rc l1_) (by omega) (by omega) (zm_size_M g l1_ ?_)
      show S 13 [some (.ref x), some (.int (Int32.ofInt (i : Int))), some (.int (Int32.ofInt (k_ : Int)))] [.int (Int32.ofInt (vl_.length : Int)), .int (Int32.ofInt (k_ : Int))] _ _ _
      refine hs 7 _ rfl _ _ _ _ _ _ _ (fun _ => ?_) (fun zq => absurd (hd_c2t (c := 3) (by omega) (by omega) (by omega) (by omega) (by omega : 0 ≤ ((k_ : Int) - (vl_.length : Int)))) zq)
      refine hs 35 _ rfl _ _ _ _ _ _ _ rfl ?_
      exact hs 36 _ rfl _ _ _ _ _ (rv _) (Nat.zero_le _) (Nat.zero_le _) (hP (-1) (Or.inr ⟨fun q_ hq_ => hn_ q_ (by omega), rfl⟩))
    | succ m_ ih =>
      intro k_ hk_ hn_
      obtain ⟨v_, hv1_⟩ : ∃ w_, vl_[k_]? = some w_ := ⟨_, List.getElem?_eq_getElem (by omega)⟩
      obtain ⟨⟨a_, bz1_⟩, hp1_⟩ : ∃ p, c.2.2.1[k_]? = some p := ⟨_, List.getElem?_eq_getElem (by omega)⟩
      obtain ⟨tv1_, rv1a_, rv1b_⟩ := e2_ _ _ _ hv1_ hp1_
      obtain ⟨o11_, o12_, o13_, o14_⟩ : 1 ≤ bz1_ ∧ bz1_ ≤ 999 ∧ 0 ≤ a_ ∧ a_ < bz1_ := hok.2.2.1.2 _ (List.mem_of_getElem? hp1_)
      obtain ⟨B_, rfl⟩ : ∃ s_ : Nat, bz1_ = (s_ : Int) := ⟨bz1_.toNat, by omega⟩
      have rv1a_ : am_g G h v_ = some (tv1_, hd_r [a_, (B_ : Int)]) := rv1a_
      have eq1_ : c.2.2.1.getD k_ (0, 1) = (a_, (B_ : Int)) := by
        rw [List.getD_eq_getElem?_getD, hp1_, Option.getD_some]
      have rr1_ := Int.emod_nonneg (c.2.1.getD i 0) (b := (B_ : Int)) (by omega)
      have rr2_ := Int.emod_lt_of_pos (c.2.1.getD i 0) (b := (B_ : Int)) (by omega)
      have bq_ : sp_bx c.2.2.1 (c.2.1.getD i 0) k_ ↔ ¬ (c.2.1.getD i 0) % (B_ : Int) = a_ := by
        unfold sp_bx
        rw [eq1_]
      by_cases bx_ : sp_bx c.2.2.1 (c.2.1.getD i 0) k_
      · have bz_ := bq_.mp bx_
        refine hs 2 _ rfl _ _ _ _ _ _ _ rfl ?_
        refine hs 3 _ rfl _ _ _ _ _ _ _ rfl ?_
        refine hs 4 _ rfl _ _ _ _ _ _ _ _ _ (a1_) a2_.1 rfl ?_
        refine hs 5 _ rfl _ _ _ _ _ _ _ _ _ (s1_.1) s1_.2 rfl ?_
        refine zw_c (hs 6 _ rfl) (a := [.ref ql_]) (st := [.int (Int32.ofInt (k_ : Int))]) rfl rfl (Nat.le_of_ble_eq_true rfl) (zm_l.rc l1_) (by omega) (by omega) (zm_size_M g l1_ ?_)
        show S 13 [some (.ref x), some (.int (Int32.ofInt (i : Int))), some (.int (Int32.ofInt (k_ : Int)))] [.int (Int32.ofInt (vl_.length : Int)), .int (Int32.ofInt (k_ : Int))] _ _ _
        refine hs 7 _ rfl _ _ _ _ _ _ _ (fun zq => absurd (hd_c2z (c := 3) (by omega) (by omega) (by omega) (by omega) zq) (by omega : ¬ (0 ≤ ((k_ : Int) - (vl_.length : Int))))) (fun _ => ?_)
        refine hs 8 _ rfl _ _ _ _ _ _ _ rfl ?_
        refine hs 9 _ rfl _ _ _ _ _ _ _ _ _ (a1_) a2_.1 rfl ?_
        refine hs 10 _ rfl _ _ _ _ _ _ _ _ _ (s1_.1) s1_.2 rfl ?_
        refine hs 11 _ rfl _ _ _ _ _ _ _ rfl ?_
        refine zw_Ar (hs 12 _ rfl) (b1_) (by first | rfl | (rw [b2_]; rfl)) (j := i) (by omega) (by omega) (zm_nv hn9_) ?_
        refine hs 13 _ rfl _ _ _ _ _ _ _ rfl ?_
        refine hs 14 _ rfl _ _ _ _ _ _ _ _ _ (a1_) a2_.1 rfl ?_
        refine hs 15 _ rfl _ _ _ _ _ _ _ _ _ (s1_.1) s1_.2 rfl ?_
        refine hs 16 _ rfl _ _ _ _ _ _ _ rfl ?_
        refine zw_c (hs 17 _ rfl) (a := [.ref ql_, .int (Int32.ofInt (k_ : Int))]) (st := [.ref n9_]) rfl rfl (Nat.le_of_ble_eq_true rfl) (zm_l.rc l1_) (by omega) (by omega) (zm_get_M g l1_ hv1_ ?_)
        show S 36 [some (.ref x), some (.int (Int32.ofInt (i : Int))), some (.int (Int32.ofInt (k_ : Int)))] [.ref v_, .ref n9_] _ _ _
        refine hs 18 _ rfl _ _ _ _ _ _ (Or.inr ⟨_, _, _, rfl, (rv1a_), List.mem_singleton.mpr rv1b_⟩) ?_
        refine hs 19 _ rfl _ _ _ _ _ _ _ rfl ?_
        refine hd_A (hs 20 _ rfl) (by decide) (by decide) (rv1a_) rv1b_ (j := 1) (by omega) (by omega) rfl ?_
        refine zw_c (hs 21 _ rfl) (a := [.ref n9_, .int (Int32.ofInt (B_ : Int))]) (st := []) rfl rfl (Nat.le_of_ble_eq_true rfl) ⟨_, _, _, rfl, n1_, n2_⟩ (by omega) (by omega) (zn_mod_M g n1_ n2_ n3_ n4_ n5_ (by omega) (m := B_) (by omega) (by omega) ?_)
        show S 44 [some (.ref x), some (.int (Int32.ofInt (i : Int))), some (.int (Int32.ofInt (k_ : Int)))] [.int (Int32.ofInt ((c.2.1.getD i 0) % (B_ : Int)))] _ _ _
        refine hs 22 _ rfl _ _ _ _ _ _ _ rfl ?_
        refine hs 23 _ rfl _ _ _ _ _ _ _ _ _ (a1_) a2_.1 rfl ?_
        refine hs 24 _ rfl _ _ _ _ _ _ _ _ _ (s1_.1) s1_.2 rfl ?_
        refine hs 25 _ rfl _ _ _ _ _ _ _ rfl ?_
        refine zw_c (hs 26 _ rfl) (a := [.ref ql_, .int (Int32.ofInt (k_ : Int))]) (st := [.int (Int32.ofInt ((c.2.1.getD i 0) % (B_ : Int)))]) rfl rfl (Nat.le_of_ble_eq_true rfl) (zm_l.rc l1_) (by omega) (by omega) (zm_get_M g l1_ hv1_ ?_)
        show S 55 [some (.ref x), some (.int (Int32.ofInt (i : Int))), some (.int (Int32.ofInt (k_ : Int)))] [.ref v_, .int (Int32.ofInt ((c.2.1.getD i 0) % (B_ : Int)))] _ _ _
        refine hs 27 _ rfl _ _ _ _ _ _ (Or.inr ⟨_, _, _, rfl, (rv1a_), List.mem_singleton.mpr rv1b_⟩) ?_
        refine hs 28 _ rfl _ _ _ _ _ _ _ rfl ?_
        refine hd_A (hs 29 _ rfl) (by decide) (by decide) (rv1a_) rv1b_ (j := 0) (by omega) (by omega) rfl ?_
        refine hs 30 _ rfl _ _ _ _ _ _ _ (fun zq => absurd (hd_c2z (c := 0) (by omega) (by omega) (by omega) (by omega) zq) (by omega : ¬ ((((c.2.1.getD i 0) % (B_ : Int)) - a_) = 0))) (fun _ => ?_)
        refine hs 31 _ rfl _ _ _ _ _ _ _ rfl ?_
        exact hs 32 _ rfl _ _ _ _ _ (rv _) (Nat.zero_le _) (Nat.zero_le _) (hP (k_ : Int) (Or.inl ⟨k_, by omega, bx_, hn_, rfl⟩))
      · have bz_ : (c.2.1.getD i 0) % (B_ : Int) = a_ := by
          apply Classical.byContradiction
          intro y_
          exact bx_ (bq_.mpr y_)
        have z_ := ih (k_ + 1) (by omega) fun j_ hj_ => by
          by_cases f_ : j_ = k_
          · rw [f_]
            exact bx_
          · exact hn_ j_ (by omega)
        refine hs 2 _ rfl _ _ _ _ _ _ _ rfl ?_
        refine hs 3 _ rfl _ _ _ _ _ _ _ rfl ?_
        refine hs 4 _ rfl _ _ _ _ _ _ _ _ _ (a1_) a2_.1 rfl ?_
        refine hs 5 _ rfl _ _ _ _ _ _ _ _ _ (s1_.1) s1_.2 rfl ?_
        refine zw_c (hs 6 _ rfl) (a := [.ref ql_]) (st := [.int (Int32.ofInt (k_ : Int))]) rfl rfl (Nat.le_of_ble_eq_true rfl) (zm_l.rc l1_) (by omega) (by omega) (zm_size_M g l1_ ?_)
        show S 13 [some (.ref x), some (.int (Int32.ofInt (i : Int))), some (.int (Int32.ofInt (k_ : Int)))] [.int (Int32.ofInt (vl_.length : Int)), .int (Int32.ofInt (k_ : Int))] _ _ _
        refine hs 7 _ rfl _ _ _ _ _ _ _ (fun zq => absurd (hd_c2z (c := 3) (by omega) (by omega) (by omega) (by omega) zq) (by omega : ¬ (0 ≤ ((k_ : Int) - (vl_.length : Int))))) (fun _ => ?_)
        refine hs 8 _ rfl _ _ _ _ _ _ _ rfl ?_
        refine hs 9 _ rfl _ _ _ _ _ _ _ _ _ (a1_) a2_.1 rfl ?_
        refine hs 10 _ rfl _ _ _ _ _ _ _ _ _ (s1_.1) s1_.2 rfl ?_
        refine hs 11 _ rfl _ _ _ _ _ _ _ rfl ?_
        refine zw_Ar (hs 12 _ rfl) (b1_) (by first | rfl | (rw [b2_]; rfl)) (j := i) (by omega) (by omega) (zm_nv hn9_) ?_
        refine hs 13 _ rfl _ _ _ _ _ _ _ rfl ?_
        refine hs 14 _ rfl _ _ _ _ _ _ _ _ _ (a1_) a2_.1 rfl ?_
        refine hs 15 _ rfl _ _ _ _ _ _ _ _ _ (s1_.1) s1_.2 rfl ?_
        refine hs 16 _ rfl _ _ _ _ _ _ _ rfl ?_
        refine zw_c (hs 17 _ rfl) (a := [.ref ql_, .int (Int32.ofInt (k_ : Int))]) (st := [.ref n9_]) rfl rfl (Nat.le_of_ble_eq_true rfl) (zm_l.rc l1_) (by omega) (by omega) (zm_get_M g l1_ hv1_ ?_)
        show S 36 [some (.ref x), some (.int (Int32.ofInt (i : Int))), some (.int (Int32.ofInt (k_ : Int)))] [.ref v_, .ref n9_] _ _ _
        refine hs 18 _ rfl _ _ _ _ _ _ (Or.inr ⟨_, _, _, rfl, (rv1a_), List.mem_singleton.mpr rv1b_⟩) ?_
        refine hs 19 _ rfl _ _ _ _ _ _ _ rfl ?_
        refine hd_A (hs 20 _ rfl) (by decide) (by decide) (rv1a_) rv1b_ (j := 1) (by omega) (by omega) rfl ?_
        refine zw_c (hs 21 _ rfl) (a := [.ref n9_, .int (Int32.ofInt (B_ : Int))]) (st := []) rfl rfl (Nat.le_of_ble_eq_true rfl) ⟨_, _, _, rfl, n1_, n2_⟩ (by omega) (by omega) (zn_mod_M g n1_ n2_ n3_ n4_ n5_ (by omega) (m := B_) (by omega) (by omega) ?_)
        show S 44 [some (.ref x), some (.int (Int32.ofInt (i : Int))), some (.int (Int32.ofInt (k_ : Int)))] [.int (Int32.ofInt ((c.2.1.getD i 0) % (B_ : Int)))] _ _ _
        refine hs 22 _ rfl _ _ _ _ _ _ _ rfl ?_
        refine hs 23 _ rfl _ _ _ _ _ _ _ _ _ (a1_) a2_.1 rfl ?_
        refine hs 24 _ rfl _ _ _ _ _ _ _ _ _ (s1_.1) s1_.2 rfl ?_
        refine hs 25 _ rfl _ _ _ _ _ _ _ rfl ?_
        refine zw_c (hs 26 _ rfl) (a := [.ref ql_, .int (Int32.ofInt (k_ : Int))]) (st := [.int (Int32.ofInt ((c.2.1.getD i 0) % (B_ : Int)))]) rfl rfl (Nat.le_of_ble_eq_true rfl) (zm_l.rc l1_) (by omega) (by omega) (zm_get_M g l1_ hv1_ ?_)
        show S 55 [some (.ref x), some (.int (Int32.ofInt (i : Int))), some (.int (Int32.ofInt (k_ : Int)))] [.ref v_, .int (Int32.ofInt ((c.2.1.getD i 0) % (B_ : Int)))] _ _ _
        refine hs 27 _ rfl _ _ _ _ _ _ (Or.inr ⟨_, _, _, rfl, (rv1a_), List.mem_singleton.mpr rv1b_⟩) ?_
        refine hs 28 _ rfl _ _ _ _ _ _ _ rfl ?_
        refine hd_A (hs 29 _ rfl) (by decide) (by decide) (rv1a_) rv1b_ (j := 0) (by omega) (by omega) rfl ?_
        refine hs 30 _ rfl _ _ _ _ _ _ _ (fun _ => ?_) (fun zq => absurd (hd_c2t (c := 0) (by omega) (by omega) (by omega) (by omega) (by omega : (((c.2.1.getD i 0) % (B_ : Int)) - a_) = 0)) zq)
        refine hs 33 _ rfl _ _ _ _ _ _ _ (hd_inc rfl) ?_
        refine hs 34 _ rfl _ _ _ _ _ ?_
        exact z_
  refine hs 0 _ rfl _ _ _ _ _ _ _ rfl ?_
  refine hs 1 _ rfl _ _ _ _ _ _ _ rfl ?_
  exact loop c.2.2.1.length 0 (by omega) (fun j_ hj_ => absurd hj_ (by omega))
set_option maxHeartbeats 4000000 in
theorem zm_qbroken_M {l : Launch} {G : am_G} {X : ck_XT} (g : gM l G X) {o : Nat → Nat} {x tx now qw : Nat} {th j m k : Int} {c : sp_S} {P : List sp_S} {h : List am_C} (hX : zm_x G h o x tx now qw th j m k c P) (hok : sp_ok c) {e e2 : Int} (he1 : -2147483648 ≤ e) (he2 : e ≤ 2147483647) {mc ms : Nat} {Post : am_O → List am_C → Prop}
    (hP : ∀ (a th : Int) (T' : sp_T) (h' : List am_C), sp_q52 e e2 (c, P, j, m, k) a th T' → zm_fr G h h' → zm_Y G h' x th T' → Post (.inl (some (.int (Int32.ofInt a)))) h') :
    am_M l G yX14_broken (.code yX14_broken prog_14_method_95_code 2 (some .int)) 5 106 mc ms [.ref x, .int (Int32.ofInt e)] h Post := by
  refine gh_yX14_broken_X g (Nat.le_of_ble_eq_true rfl) fun S SX hs hr hw hx => ?_
  have rv : ∀ x : Int32, ck_fv 0 (.int x) := fun x => ⟨_, rfl⟩
  obtain ⟨a1_, a2_, a3_, a4_⟩ := id hX
  by_cases c1_ : sp_s1 e
  rotate_left
  · have c1b_ : ¬ (0 ≤ e ∧ e < 6) := c1_
    refine hs 0 _ rfl _ _ _ _ _ _ _ rfl ?_
    refine hs 1 _ rfl _ _ _ _ _ _ _ rfl ?_
    refine zw_c (hs 2 _ rfl) (a := [.int (Int32.ofInt e)]) (st := [.ref x]) rfl rfl (Nat.le_of_ble_eq_true rfl) trivial (by omega) (by omega) (zm_noSlot_M g (e := e) (by omega) (by omega) (fun y_ => ?_) (fun y_ => absurd y_ (by omega)))
    show S 5 [some (.ref x), some (.int (Int32.ofInt e))] [.int (Int32.ofInt (1 : Int)), .ref x] _ _ _
    refine hs 3 _ rfl _ _ _ _ _ _ _ rfl ?_
    refine zw_c (hs 4 _ rfl) (a := [.ref x, .int (Int32.ofInt (1 : Int)), .int (Int32.ofInt (1 : Int))]) (st := []) rfl rfl (Nat.le_of_ble_eq_true rfl) ⟨_, _, _, rfl, a1_, a2_.1⟩ (by omega) (by omega) (zm_start_M g hX (i_ := 1) (w_ := 1) (Or.inr rfl) (by decide) (fun y_ h2_ f2_ x2_ => ?_) (fun y_ => absurd y_ (by decide)))
    show S 9 [some (.ref x), some (.int (Int32.ofInt e))] [.int (Int32.ofInt (1 : Int))] _ _ _
    refine hs 5 _ rfl _ _ _ _ _ _ (fun zq => absurd (hd_c1z (c := 0) (by omega) (by omega) zq) (by omega : ¬ ((1 : Int) = 0))) (fun _ => ?_)
    refine hs 6 _ rfl _ _ _ _ _ _ _ rfl ?_
    refine hs 7 _ rfl _ _ _ _ _ ?_
    exact hs 11 _ rfl _ _ _ _ _ (rv _) (by omega) (by omega) (hP 0 _ _ _ ⟨rfl, Or.inr ⟨c1_, rfl⟩⟩ f2_ ⟨_, _, _, _, x2_⟩)
  · 
    obtain ⟨i, rfl⟩ : ∃ i : Nat, e = (i : Int) := ⟨e.toNat, by have := c1_.1; omega⟩
    have hi : i < 6 := by have := c1_.2; omega
    have c1b_ := c1_.1
    have c1c_ := c1_.2
    refine hs 0 _ rfl _ _ _ _ _ _ _ rfl ?_
    refine hs 1 _ rfl _ _ _ _ _ _ _ rfl ?_
    refine zw_c (hs 2 _ rfl) (a := [.int (Int32.ofInt (i : Int))]) (st := [.ref x]) rfl rfl (Nat.le_of_ble_eq_true rfl) trivial (by omega) (by omega) (zm_noSlot_M g (e := (i : Int)) (by omega) (by omega) (fun y_ => absurd (by omega) y_) (fun y_ => ?_))
    show S 5 [some (.ref x), some (.int (Int32.ofInt (i : Int)))] [.int (Int32.ofInt (0 : Int)), .ref x] _ _ _
    refine hs 3 _ rfl _ _ _ _ _ _ _ rfl ?_
    refine zw_c (hs 4 _ rfl) (a := [.ref x, .int (Int32.ofInt (0 : Int)), .int (Int32.ofInt (1 : Int))]) (st := []) rfl rfl (Nat.le_of_ble_eq_true rfl) ⟨_, _, _, rfl, a1_, a2_.1⟩ (by omega) (by omega) (zm_start_M g hX (i_ := 0) (w_ := 1) (Or.inl rfl) (by decide) (fun y_ => absurd y_ (by decide)) (fun y_ h2_ f2_ x2_ => ?_))
    show S 9 [some (.ref x), some (.int (Int32.ofInt (i : Int)))] [.int (Int32.ofInt (0 : Int))] _ _ _
    refine hs 5 _ rfl _ _ _ _ _ _ (fun _ => ?_) (fun zq => absurd (hd_c1t (c := 0) (by omega) (by omega) (by omega : (0 : Int) = 0)) zq)
    refine hs 8 _ rfl _ _ _ _ _ _ _ rfl ?_
    refine hs 9 _ rfl _ _ _ _ _ _ _ rfl ?_
    refine zw_c (hs 10 _ rfl) (a := [.ref x, .int (Int32.ofInt (i : Int))]) (st := []) rfl rfl (Nat.le_of_ble_eq_true rfl) (zm_rc x2_) (by omega) (by omega) (zm_broken_M g x2_ hok hi fun v_ hv_ => ?_)
    show S 21 [some (.ref x), some (.int (Int32.ofInt (i : Int)))] [.int (Int32.ofInt v_)] _ _ _
    exact hs 11 _ rfl _ _ _ _ _ (rv _) (by omega) (by omega) (hP _ 0 _ _ ⟨rfl, Or.inl ⟨c1_, rfl, hv_⟩⟩ f2_ ⟨_, _, _, _, x2_⟩)
set_option maxHeartbeats 4000000 in
theorem zc_wqbroken_M {l : Launch} {G : am_G} {X : ck_XT} (g : gM l G X) {x : Nat} {r : Nat → Nat} {jj mm kk : Int} {c : sp_S} {R : Nat → sp_S} {old cnt : Nat} {h : List am_C} (hX : zc_x G h x r jj mm kk c R old cnt){o : Nat} {n0 : Int64} {s0 : Value} (hO : am_g G h o = some (1016, [.long n0, s0])) (ho1 : o < x ∨ x + 228 ≤ o) (ho2 : o ≠ r 4) (ho3 : 1000 ≤ o) {e e2 : Int} (he1 : -2147483648 ≤ e) (he2 : e ≤ 2147483647) {mc ms : Nat} {Post : am_O → List am_C → Prop} (hmc : 1 ≤ mc) (hms : 6 ≤ ms)
    (hP : ∀ (a th : Int) (T' : sp_T) (h' : List am_C), sp_q52 e e2 (c, zc_l R old cnt, jj, mm, kk) a th T' → zc_of G h h' x r o → zc_Y G h' x r T' → (th = 0 → am_g G h' o = some (1016, [.long (Int64.ofInt a), s0])) → Post (.inl (some (.int (Int32.ofInt th)))) h') :
    am_M l G yL_broken (.codeWith yL_broken method_44_code 4 (some .int) [(0, 10, 13, 25)]) 8 134 mc ms [.ref x, .int (Int32.ofInt e), .ref o] h Post := by
  refine gh_yL_broken_X g (Nat.le_of_ble_eq_true rfl) fun S SX hs hr hw hx => ?_
  have rv : ∀ x : Int32, ck_fv 0 (.int x) := fun x => ⟨_, rfl⟩
  have ok_ := hX.2.2.1
  have okd_ := ok_.1
  have okn_ := ok_.2.1.1
  have okr_ := ok_.2.2.1.1
  have okb_ := ok_.2.2.2.1
  have px_ := hX.2.2.2.2.2.2.2
  refine hs 0 _ rfl _ _ _ _ _ _ _ rfl ?_
  refine hs 1 _ rfl _ _ _ _ _ _ _ rfl ?_
  refine hs 2 _ rfl _ _ _ _ _ _ _ rfl ?_
  refine zw_cm (hs 3 _ rfl) (a := [.ref x, .int (Int32.ofInt e)]) (st := [.ref o]) 1 6 rfl rfl (Nat.le_of_ble_eq_true rfl) ⟨_, _, _, rfl, hX.1, rfl⟩ (by omega) (by omega) (zc_qbroken_M g hX he1 he2 (e2 := e2) (by omega) (by omega) (fun y_ a_ r_ => ?_) (fun hn_ => ?_))
  · show S 6 [some (.ref x), some (.int (Int32.ofInt e)), some (.ref o), none] [.int (Int32.ofInt a_), .ref o] _ _ _
    have bd_ : -9 ≤ a_ ∧ a_ ≤ 1000 := sp_br.bd okr_ r_
    refine hs 4 _ rfl _ _ _ _ _ _ _ (hd_i2l (by omega) (by omega)) ?_
    refine zw_U (hs 5 _ rfl) (by omega) (hO) rfl ⟨_, rfl⟩ fun hz723 wz724 => ?_
    have wz724 : hd_w G _ hz723 o (1016, [.long (Int64.ofInt a_), s0]) := wz724
    have lwz724 := wz724.1
    refine hs 6 _ rfl _ _ _ _ _ ?_
    refine hs 10 _ rfl _ _ _ _ _ _ _ rfl ?_
    exact hs 11 _ rfl _ _ _ _ _ (rv _) (by omega) (by omega) (hP a_ 0 _ _ (⟨rfl, Or.inl ⟨y_, rfl, r_⟩⟩) (zc_of.w wz724) (zc_X.out (⟨_, _, _, hX, rfl⟩) wz724 ho1 ho2) fun _ => wz724.at)
  · refine hx (_, _) (List.mem_cons.mpr (Or.inl rfl)) _ _ _ _ rfl ?_
    show S 14 _ [] _ _ _
    refine hs 8 _ rfl _ _ _ _ _ _ _ rfl ?_
    exact hs 9 _ rfl _ _ _ _ _ (rv _) (by omega) (by omega) (hP 0 1 _ _ (⟨rfl, Or.inr ⟨hn_, rfl⟩⟩) (zc_of.g zg.app1) ⟨_, _, _, hX.app, rfl⟩ fun z_ => absurd z_ (by decide))
