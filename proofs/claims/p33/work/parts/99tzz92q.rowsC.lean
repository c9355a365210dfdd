/-! ROWS AND BOOKS -/
theorem zw_Sy {S : ck_SS} {pc d v k n : Nat} {m : List (Int × Nat)} {e : Int} {h : List am_C} {L : List (Option Value)} {st : List Value} (H : ck_sS S pc d m) (h1 : -2147483648 ≤ e) (h2 : e ≤ 2147483647) (hi : (e, v) ∈ m) (hu : ∀ c ∈ m, c.1 = e → c.2 = v) (kk : S v L st h k n) : S pc L (.int (Int32.ofInt e) :: st) h k n :=
  H L _ st h k n (fun c hc hx => by
    rw [hd_oi h1 h2] at hx
    rw [hu c hc hx.symm]
    exact kk) fun hn => absurd (hd_oi h1 h2) (hn _ hi)
theorem zw_Sn {S : ck_SS} {pc d k n : Nat} {m : List (Int × Nat)} {e : Int} {h : List am_C} {L : List (Option Value)} {st : List Value} (H : ck_sS S pc d m) (h1 : -2147483648 ≤ e) (h2 : e ≤ 2147483647) (hn : ∀ c ∈ m, e ≠ c.1) (kk : S d L st h k n) : S pc L (.int (Int32.ofInt e) :: st) h k n :=
  H L _ st h k n (fun c hc hx => by
    rw [hd_oi h1 h2] at hx
    exact absurd hx (hn c hc)) fun _ => kk
def sp_pl (T : sp_T) (e : Int) : Prop := 0 ≤ e ∧ e < (T.1.2.2.1.length : Int)
def sp_ro (T : sp_T) (e : Int) : Int × Int := T.1.2.2.1.getD e.toNat (0, 1)
/-- two rows agree -/
def sp_ag (p q : Int × Int) : Prop := p.1 % ((Nat.gcd p.2.toNat q.2.toNat : Nat) : Int) = q.1 % ((Nat.gcd p.2.toNat q.2.toNat : Nat) : Int)
def sp_bk (T : sp_T) (e : Int) : Int := if e = 0 then (Int32.ofInt T.2.2.1).toInt else if e = 1 then (Int32.ofInt T.2.2.2.1).toInt else if e = 2 then (Int32.ofInt T.2.2.2.2).toInt else (T.2.1.length : Int)
def sp_r46 (e e2 : Int) (T : sp_T) (a : Int) : Prop := (sp_ag (sp_ro T e) (sp_ro T e2) ∧ a = 1) ∨ (¬ sp_ag (sp_ro T e) (sp_ro T e2) ∧ a = 0)
def sp_q46 (e e2 : Int) (T : sp_T) (a th : Int) (T' : sp_T) : Prop := sp_q T (sp_pl T e ∧ sp_pl T e2) (sp_r46 e e2 T) a th T'
def sp_q59 (e e2 : Int) (T : sp_T) (a th : Int) (T' : sp_T) : Prop := sp_q T (0 ≤ e ∧ e ≤ 3) (fun v => v = sp_bk T e) a th T'
/-- the rest or the dial of a row; a second refusal -/
def sp_q45 (e e2 : Int) (T : sp_T) (a th : Int) (T' : sp_T) : Prop := T' = T ∧ ((sp_pl T e ∧ (0 ≤ e2 ∧ e2 ≤ 1) ∧ th = 0 ∧ a = if e2 = 0 then (sp_ro T e).1 else (sp_ro T e).2) ∨ (sp_pl T e ∧ ¬ (0 ≤ e2 ∧ e2 ≤ 1) ∧ th = 2) ∨ (¬ sp_pl T e ∧ th = 1))
section SPR3
variable {e e2 a th a2 th2 : Int} {T T' T2 : sp_T}
theorem sp_q46.fn (h1 : sp_q46 e e2 T a th T') (h2 : sp_q46 e e2 T a2 th2 T2) : sp_al a th T' a2 th2 T2 := sp_q.fn (fun v w y_ z_ => by
  rcases y_ with ⟨y1_, y2_⟩ | ⟨y1_, y2_⟩
  · rcases z_ with ⟨z1_, z2_⟩ | ⟨z1_, z2_⟩
    · rw [y2_, z2_]
    · exact absurd y1_ z1_
  · rcases z_ with ⟨z1_, z2_⟩ | ⟨z1_, z2_⟩
    · exact absurd z1_ y1_
    · rw [y2_, z2_]) h1 h2
theorem sp_q59.fn (h1 : sp_q59 e e2 T a th T') (h2 : sp_q59 e e2 T a2 th2 T2) : sp_al a th T' a2 th2 T2 := sp_q.fn (fun v w y_ z_ => y_.trans z_.symm) h1 h2
theorem sp_q45.fn (h1 : sp_q45 e e2 T a th T') (h2 : sp_q45 e e2 T a2 th2 T2) : sp_al a th T' a2 th2 T2 := by
  obtain ⟨e1_, c1_⟩ := h1
  obtain ⟨e2_, c2_⟩ := h2
  have t_ : T' = T2 := e1_.trans e2_.symm
  rcases c1_ with ⟨a1_, a2_, a3_, a4_⟩ | ⟨a1_, a2_, a3_⟩ | ⟨a1_, a2_⟩
  · rcases c2_ with ⟨b1_, b2_, b3_, b4_⟩ | ⟨b1_, b2_, b3_⟩ | ⟨b1_, b2_⟩
    · exact ⟨a3_.trans b3_.symm, t_, fun _ => a4_.trans b4_.symm⟩
    · exact absurd a2_ b2_
    · exact absurd a1_ b1_
  · rcases c2_ with ⟨b1_, b2_, b3_, b4_⟩ | ⟨b1_, b2_, b3_⟩ | ⟨b1_, b2_⟩
    · exact absurd b2_ a2_
    · exact ⟨a3_.trans b3_.symm, t_, fun z_ => by omega⟩
    · exact absurd a1_ b1_
  · rcases c2_ with ⟨b1_, b2_, b3_, b4_⟩ | ⟨b1_, b2_, b3_⟩ | ⟨b1_, b2_⟩
    · exact absurd b1_ a1_
    · exact absurd b1_ a1_
    · exact ⟨a2_.trans b2_.symm, t_, fun z_ => by omega⟩
theorem sp_ro.bd (hk : sp_ok T.1) (h : sp_pl T e) : (1 ≤ (sp_ro T e).2 ∧ (sp_ro T e).2 ≤ 999) ∧ 0 ≤ (sp_ro T e).1 ∧ (sp_ro T e).1 < (sp_ro T e).2 := by
  obtain ⟨h1_, h2_⟩ := h
  obtain ⟨p_, hp_⟩ : ∃ p_, T.1.2.2.1[e.toNat]? = some p_ := ⟨_, List.getElem?_eq_getElem (by omega)⟩
  have e_ : sp_ro T e = p_ := by
    unfold sp_ro
    rw [List.getD_eq_getElem?_getD, hp_, Option.getD_some]
  rw [e_]
  have b_ := hk.2.2.1.2 p_ (List.mem_of_getElem? hp_)
  exact ⟨⟨b_.1, b_.2.1⟩, b_.2.2⟩
theorem sp_bk.bd (hl : T.2.1.length ≤ 12) : -2147483648 ≤ sp_bk T e ∧ sp_bk T e ≤ 2147483647 := by
  unfold sp_bk
  by_cases c1_ : e = 0
  · rw [if_pos c1_]
    exact ⟨(li_i32 _).1, (li_i32 _).2⟩
  · rw [if_neg c1_]
    by_cases c2_ : e = 1
    · rw [if_pos c2_]
      exact ⟨(li_i32 _).1, (li_i32 _).2⟩
    · rw [if_neg c2_]
      by_cases c3_ : e = 2
      · rw [if_pos c3_]
        exact ⟨(li_i32 _).1, (li_i32 _).2⟩
      · rw [if_neg c3_]
        omega
end SPR3
set_option maxHeartbeats 4000000 in
theorem zm_ed_M {l : Launch} {G : am_G} {X : ck_XT} (g : gM l G X) {q t p tr N v_ j_ : Nat} {mo : Int} {vs : List Nat} {h : List am_C} (a1_ : am_g G h q = some (t, [.int (Int32.ofInt mo), .ref p, .int (Int32.ofInt (vs.length : Int))])) (a2_ : t % 100 = 6) (a3_ : am_g G h p = some (tr, zl_ws N vs)) (a4_ : tr % 100 = 56) (hn_ : vs.length ≤ N) (hN_ : N ≤ 90) (hv_ : vs[j_]? = some v_) (hj_ : j_ < vs.length) {mc ms : Nat} {Post : am_O → List am_C → Prop} (hP : Post (.inl (some (.ref v_))) h) :
    am_M l G yJx4a65c_elementData_915e3 (.code yJx4a65c_elementData_915e3 prog_46_method_18_code 2 (some (.object "java/lang/Object"))) 1 20 mc ms [.ref q, .int (Int32.ofInt (j_ : Int))] h Post := by
  refine gh_yJx4a65c_elementData_915e3_X g (Nat.le_of_ble_eq_true rfl) fun S SX hs hr hw hx => ?_
  have rv : ∀ x : Int32, ck_fv 0 (.int x) := fun x => ⟨_, rfl⟩
  refine hs 0 _ rfl _ _ _ _ _ _ _ rfl ?_
  refine hs 1 _ rfl _ _ _ _ _ _ _ _ _ (a1_) a2_ rfl ?_
  refine hs 2 _ rfl _ _ _ _ _ _ _ rfl ?_
  refine zw_Ar (hs 3 _ rfl) (a3_) (by first | rfl | (rw [a4_]; rfl)) (j := j_) (by omega) (by omega) (zl_ws_get hv_ hn_) ?_
  exact hs 4 _ rfl _ _ _ _ _ (Or.inl ⟨_, rfl⟩) (Nat.zero_le _) (Nat.zero_le _) hP
set_option maxHeartbeats 4000000 in
theorem zm_get1_M {l : Launch} {G : am_G} {X : ck_XT} (g : gM l G X) {q t p tr N v_ j_ : Nat} {mo : Int} {vs : List Nat} {h : List am_C} (a1_ : am_g G h q = some (t, [.int (Int32.ofInt mo), .ref p, .int (Int32.ofInt (vs.length : Int))])) (a2_ : t % 100 = 6) (a3_ : am_g G h p = some (tr, zl_ws N vs)) (a4_ : tr % 100 = 56) (hn_ : vs.length ≤ N) (hN_ : N ≤ 90) (hv_ : vs[j_]? = some v_) (hj_ : j_ < vs.length) {mc ms : Nat} {Post : am_O → List am_C → Prop} (hP : Post (.inl (some (.ref v_))) h) :
    am_M l G yJx4a65c_get_915e3 (.code yJx4a65c_get_915e3 prog_46_method_20_code 2 (some (.object "java/lang/Object"))) 3 63 mc ms [.ref q, .int (Int32.ofInt (j_ : Int))] h Post := by
  refine gh_yJx4a65c_get_915e3_X g (Nat.le_of_ble_eq_true rfl) fun S SX hs hr hw hx => ?_
  have rv : ∀ x : Int32, ck_fv 0 (.int x) := fun x => ⟨_, rfl⟩
  refine hs 0 _ rfl _ _ _ _ _ _ _ rfl ?_
  refine hs 1 _ rfl _ _ _ _ _ _ _ rfl ?_
  refine hs 2 _ rfl _ _ _ _ _ _ _ _ _ (a1_) a2_ rfl ?_
  refine zw_c (hs 3 _ rfl) (a := [.int (Int32.ofInt (j_ : Int)), .int (Int32.ofInt (vs.length : Int))]) (st := []) rfl rfl (Nat.le_of_ble_eq_true rfl) trivial (by omega) (by omega) (zl_chkO_M g hj_ (by omega) ?_)
  show S 8 [some (.ref q), some (.int (Int32.ofInt (j_ : Int)))] [.int (Int32.ofInt (j_ : Int))] _ _ _
  refine hs 4 _ rfl _ _ _ _ _ _ _ rfl ?_
  refine hs 5 _ rfl _ _ _ _ _ _ _ rfl ?_
  refine hs 6 _ rfl _ _ _ _ _ _ _ rfl ?_
  refine zw_c (hs 7 _ rfl) (a := [.ref q, .int (Int32.ofInt (j_ : Int))]) (st := []) rfl rfl (Nat.le_of_ble_eq_true rfl) ⟨_, _, _, rfl, (a1_), a2_⟩ (by omega) (by omega) (zm_ed_M g a1_ a2_ a3_ a4_ hn_ hN_ hv_ hj_ ?_)
  show S 14 [some (.ref q), some (.int (Int32.ofInt (j_ : Int)))] [.ref v_] _ _ _
  exact hs 8 _ rfl _ _ _ _ _ (Or.inl ⟨_, rfl⟩) (Nat.zero_le _) (Nat.zero_le _) hP
theorem zm_get_M {l : Launch} {G : am_G} {X : ck_XT} (g : gM l G X) {o : Nat → Nat} {q lab v_ j_ : Nat} {vs : List Nat} {h : List am_C} (hl : zm_l G h o q lab vs) (hv_ : vs[j_]? = some v_) {mc ms : Nat} {Post : am_O → List am_C → Prop} (hP : Post (.inl (some (.ref v_))) h) :
    am_M l G yJx4a65c_get_915e3 (.code yJx4a65c_get_915e3 prog_46_method_20_code 2 (some (.object "java/lang/Object"))) 3 63 mc ms [.ref q, .int (Int32.ofInt (j_ : Int))] h Post := by
  obtain ⟨p_, N_, t_, tr_, mo_, a1_, a2_, a3_, a4_, ⟨hn_, hq_⟩, hN_, ho_, hp_⟩ := hl
  exact zm_get1_M g a1_ a2_ a3_ a4_ hn_ (by omega) hv_ (List.getElem?_eq_some_iff.mp hv_).1 hP
set_option maxHeartbeats 4000000 in
theorem zk_agree_M {l : Launch} {G : am_G} {X : ck_XT} (g : gM l G X) {o : Nat → Nat} {x tx now qw : Nat} {th j m k : Int} {c : sp_S} {P : List sp_S} {h : List am_C} (hX : zm_x G h o x tx now qw th j m k c P) (hok : sp_ok c) {i j2 : Nat} (hi : i < c.2.2.1.length) (hj : j2 < c.2.2.1.length) {mc ms : Nat} {Post : am_O → List am_C → Prop} (hY : (sp_ag (c.2.2.1.getD i (0, 1)) (c.2.2.1.getD j2 (0, 1))) → Post (.inl (some (.int (Int32.ofInt 1)))) h) (hN : ¬ (sp_ag (c.2.2.1.getD i (0, 1)) (c.2.2.1.getD j2 (0, 1))) → Post (.inl (some (.int (Int32.ofInt 0)))) h) :
    am_M l G yX14_doAgree (.code yX14_doAgree prog_14_method_84_code 4 (some .boolean)) 4 84 mc ms [.ref x, .int (Int32.ofInt (i : Int)), .int (Int32.ofInt (j2 : Int))] h Post := by
  refine gh_yX14_doAgree_X g (Nat.le_of_ble_eq_true rfl) fun S SX hs hr hw hx => ?_
  have rv : ∀ x : Int32, ck_fv 0 (.int x) := fun x => ⟨_, rfl⟩
  obtain ⟨a1_, a2_, a3_, a4_⟩ := id hX
  obtain ⟨t_, qn_, ql_, qb_, vl_, s1_, l1_, ⟨e1_, e2_⟩, up_⟩ := hX.rowL
  obtain ⟨v_, hv1_⟩ : ∃ w_, vl_[i]? = some w_ := ⟨_, List.getElem?_eq_getElem (by omega)⟩
  obtain ⟨⟨a_, bz1_⟩, hp1_⟩ : ∃ p, c.2.2.1[i]? = some p := ⟨_, List.getElem?_eq_getElem (by omega)⟩
  obtain ⟨tv1_, rv1a_, rv1b_⟩ := e2_ _ _ _ hv1_ hp1_
  obtain ⟨o11_, o12_, o13_, o14_⟩ : 1 ≤ bz1_ ∧ bz1_ ≤ 999 ∧ 0 ≤ a_ ∧ a_ < bz1_ := hok.2.2.1.2 _ (List.mem_of_getElem? hp1_)
  obtain ⟨B_, rfl⟩ : ∃ s_ : Nat, bz1_ = (s_ : Int) := ⟨bz1_.toNat, by omega⟩
  have rv1a_ : am_g G h v_ = some (tv1_, hd_r [a_, (B_ : Int)]) := rv1a_
  have eq1_ : c.2.2.1.getD i (0, 1) = (a_, (B_ : Int)) := by
    rw [List.getD_eq_getElem?_getD, hp1_, Option.getD_some]
  obtain ⟨w_, hv2_⟩ : ∃ w_, vl_[j2]? = some w_ := ⟨_, List.getElem?_eq_getElem (by omega)⟩
  obtain ⟨⟨d_, bz2_⟩, hp2_⟩ : ∃ p, c.2.2.1[j2]? = some p := ⟨_, List.getElem?_eq_getElem (by omega)⟩
  obtain ⟨tv2_, rv2a_, rv2b_⟩ := e2_ _ _ _ hv2_ hp2_
  obtain ⟨o21_, o22_, o23_, o24_⟩ : 1 ≤ bz2_ ∧ bz2_ ≤ 999 ∧ 0 ≤ d_ ∧ d_ < bz2_ := hok.2.2.1.2 _ (List.mem_of_getElem? hp2_)
  obtain ⟨D_, rfl⟩ : ∃ s_ : Nat, bz2_ = (s_ : Int) := ⟨bz2_.toNat, by omega⟩
  have rv2a_ : am_g G h w_ = some (tv2_, hd_r [d_, (D_ : Int)]) := rv2a_
  have eq2_ : c.2.2.1.getD j2 (0, 1) = (d_, (D_ : Int)) := by
    rw [List.getD_eq_getElem?_getD, hp2_, Option.getD_some]
  have g1_ : 0 < Nat.gcd B_ D_ := Nat.gcd_pos_of_pos_left _ (by omega)
  have g2_ : Nat.gcd B_ D_ ≤ B_ := Nat.gcd_le_left _ (by omega)
  have r1_ := Int.emod_nonneg a_ (b := ((Nat.gcd B_ D_ : Nat) : Int)) (by omega)
  have r2_ := Int.emod_lt_of_pos a_ (b := ((Nat.gcd B_ D_ : Nat) : Int)) (by omega)
  have r3_ := Int.emod_nonneg d_ (b := ((Nat.gcd B_ D_ : Nat) : Int)) (by omega)
  have r4_ := Int.emod_lt_of_pos d_ (b := ((Nat.gcd B_ D_ : Nat) : Int)) (by omega)
  rw [eq1_, eq2_] at hY hN
  by_cases hq_ : a_ % ((Nat.gcd B_ D_ : Nat) : Int) = d_ % ((Nat.gcd B_ D_ : Nat) : Int)
  · 
    refine hs 0 _ rfl _ _ _ _ _ _ _ rfl ?_
    refine hs 1 _ rfl _ _ _ _ _ _ _ _ _ (a1_) a2_.1 rfl ?_
    refine hs 2 _ rfl _ _ _ _ _ _ _ _ _ (s1_.1) s1_.2 rfl ?_
    refine hs 3 _ rfl _ _ _ _ _ _ _ rfl ?_
    refine zw_c (hs 4 _ rfl) (a := [.ref ql_, .int (Int32.ofInt (i : Int))]) (st := []) rfl rfl (Nat.le_of_ble_eq_true rfl) (zm_l.rc l1_) (by omega) (by omega) (zm_get_M g l1_ hv1_ ?_)
    show S 11 [some (.ref x), some (.int (Int32.ofInt (i : Int))), some (.int (Int32.ofInt (j2 : Int))), none] [.ref v_] _ _ _
    refine hs 5 _ rfl _ _ _ _ _ _ (Or.inr ⟨_, _, _, rfl, (rv1a_), List.mem_singleton.mpr rv1b_⟩) ?_
    refine hs 6 _ rfl _ _ _ _ _ _ _ rfl ?_
    refine hd_A (hs 7 _ rfl) (by decide) (by decide) (rv1a_) rv1b_ (j := 1) (by omega) (by omega) rfl ?_
    refine hs 8 _ rfl _ _ _ _ _ _ _ rfl ?_
    refine hs 9 _ rfl _ _ _ _ _ _ _ _ _ (a1_) a2_.1 rfl ?_
    refine hs 10 _ rfl _ _ _ _ _ _ _ _ _ (s1_.1) s1_.2 rfl ?_
    refine hs 11 _ rfl _ _ _ _ _ _ _ rfl ?_
    refine zw_c (hs 12 _ rfl) (a := [.ref ql_, .int (Int32.ofInt (j2 : Int))]) (st := [.int (Int32.ofInt (B_ : Int))]) rfl rfl (Nat.le_of_ble_eq_true rfl) (zm_l.rc l1_) (by omega) (by omega) (zm_get_M g l1_ hv2_ ?_)
    show S 27 [some (.ref x), some (.int (Int32.ofInt (i : Int))), some (.int (Int32.ofInt (j2 : Int))), none] [.ref w_, .int (Int32.ofInt (B_ : Int))] _ _ _
    refine hs 13 _ rfl _ _ _ _ _ _ (Or.inr ⟨_, _, _, rfl, (rv2a_), List.mem_singleton.mpr rv2b_⟩) ?_
    refine hs 14 _ rfl _ _ _ _ _ _ _ rfl ?_
    refine hd_A (hs 15 _ rfl) (by decide) (by decide) (rv2a_) rv2b_ (j := 1) (by omega) (by omega) rfl ?_
    refine zw_c (hs 16 _ rfl) (a := [.int (Int32.ofInt (B_ : Int)), .int (Int32.ofInt (D_ : Int))]) (st := []) rfl rfl (Nat.le_of_ble_eq_true rfl) trivial (by omega) (by omega) (nu_gcd_M g.1 (by omega) (by omega) ?_)
    show S 35 [some (.ref x), some (.int (Int32.ofInt (i : Int))), some (.int (Int32.ofInt (j2 : Int))), none] [.int (Int32.ofInt ((Nat.gcd B_ D_ : Nat) : Int))] _ _ _
    refine hs 17 _ rfl _ _ _ _ _ _ _ rfl ?_
    refine hs 18 _ rfl _ _ _ _ _ _ _ rfl ?_
    refine hs 19 _ rfl _ _ _ _ _ _ _ _ _ (a1_) a2_.1 rfl ?_
    refine hs 20 _ rfl _ _ _ _ _ _ _ _ _ (s1_.1) s1_.2 rfl ?_
    refine hs 21 _ rfl _ _ _ _ _ _ _ rfl ?_
    refine zw_c (hs 22 _ rfl) (a := [.ref ql_, .int (Int32.ofInt (i : Int))]) (st := []) rfl rfl (Nat.le_of_ble_eq_true rfl) (zm_l.rc l1_) (by omega) (by omega) (zm_get_M g l1_ hv1_ ?_)
    show S 47 [some (.ref x), some (.int (Int32.ofInt (i : Int))), some (.int (Int32.ofInt (j2 : Int))), some (.int (Int32.ofInt ((Nat.gcd B_ D_ : Nat) : Int)))] [.ref v_] _ _ _
    refine hs 23 _ rfl _ _ _ _ _ _ (Or.inr ⟨_, _, _, rfl, (rv1a_), List.mem_singleton.mpr rv1b_⟩) ?_
    refine hs 24 _ rfl _ _ _ _ _ _ _ rfl ?_
    refine hd_A (hs 25 _ rfl) (by decide) (by decide) (rv1a_) rv1b_ (j := 0) (by omega) (by omega) rfl ?_
    refine hs 26 _ rfl _ _ _ _ _ _ _ rfl ?_
    refine hs 27 _ rfl _ _ _ _ _ _ _ (hd_rem (by omega) (by omega) (by omega) (by omega)) ?_
    refine hs 28 _ rfl _ _ _ _ _ _ _ rfl ?_
    refine hs 29 _ rfl _ _ _ _ _ _ _ _ _ (a1_) a2_.1 rfl ?_
    refine hs 30 _ rfl _ _ _ _ _ _ _ _ _ (s1_.1) s1_.2 rfl ?_
    refine hs 31 _ rfl _ _ _ _ _ _ _ rfl ?_
    refine zw_c (hs 32 _ rfl) (a := [.ref ql_, .int (Int32.ofInt (j2 : Int))]) (st := [.int (Int32.ofInt (a_ % ((Nat.gcd B_ D_ : Nat) : Int)))]) rfl rfl (Nat.le_of_ble_eq_true rfl) (zm_l.rc l1_) (by omega) (by omega) (zm_get_M g l1_ hv2_ ?_)
    show S 65 [some (.ref x), some (.int (Int32.ofInt (i : Int))), some (.int (Int32.ofInt (j2 : Int))), some (.int (Int32.ofInt ((Nat.gcd B_ D_ : Nat) : Int)))] [.ref w_, .int (Int32.ofInt (a_ % ((Nat.gcd B_ D_ : Nat) : Int)))] _ _ _
    refine hs 33 _ rfl _ _ _ _ _ _ (Or.inr ⟨_, _, _, rfl, (rv2a_), List.mem_singleton.mpr rv2b_⟩) ?_
    refine hs 34 _ rfl _ _ _ _ _ _ _ rfl ?_
    refine hd_A (hs 35 _ rfl) (by decide) (by decide) (rv2a_) rv2b_ (j := 0) (by omega) (by omega) rfl ?_
    refine hs 36 _ rfl _ _ _ _ _ _ _ rfl ?_
    refine hs 37 _ rfl _ _ _ _ _ _ _ (hd_rem (by omega) (by omega) (by omega) (by omega)) ?_
    refine hs 38 _ rfl _ _ _ _ _ _ _ (fun zq => absurd (hd_c2z (c := 1) (by omega) (by omega) (by omega) (by omega) zq) (by omega : ¬ (((a_ % ((Nat.gcd B_ D_ : Nat) : Int)) - (d_ % ((Nat.gcd B_ D_ : Nat) : Int))) ≠ 0))) (fun _ => ?_)
    refine hs 39 _ rfl _ _ _ _ _ _ _ rfl ?_
    refine hs 40 _ rfl _ _ _ _ _ ?_
    exact hs 42 _ rfl _ _ _ _ _ ⟨_, rfl, by decide, by decide⟩ (Nat.zero_le _) (Nat.zero_le _) (hY hq_)
  · 
    refine hs 0 _ rfl _ _ _ _ _ _ _ rfl ?_
    refine hs 1 _ rfl _ _ _ _ _ _ _ _ _ (a1_) a2_.1 rfl ?_
    refine hs 2 _ rfl _ _ _ _ _ _ _ _ _ (s1_.1) s1_.2 rfl ?_
    refine hs 3 _ rfl _ _ _ _ _ _ _ rfl ?_
    refine zw_c (hs 4 _ rfl) (a := [.ref ql_, .int (Int32.ofInt (i : Int))]) (st := []) rfl rfl (Nat.le_of_ble_eq_true rfl) (zm_l.rc l1_) (by omega) (by omega) (zm_get_M g l1_ hv1_ ?_)
    show S 11 [some (.ref x), some (.int (Int32.ofInt (i : Int))), some (.int (Int32.ofInt (j2 : Int))), none] [.ref v_] _ _ _
    refine hs 5 _ rfl _ _ _ _ _ _ (Or.inr ⟨_, _, _, rfl, (rv1a_), List.mem_singleton.mpr rv1b_⟩) ?_
    refine hs 6 _ rfl _ _ _ _ _ _ _ rfl ?_
    refine hd_A (hs 7 _ rfl) (by decide) (by decide) (rv1a_) rv1b_ (j := 1) (by omega) (by omega) rfl ?_
    refine hs 8 _ rfl _ _ _ _ _ _ _ rfl ?_
    refine hs 9 _ rfl _ _ _ _ _ _ _ _ _ (a1_) a2_.1 rfl ?_
    refine hs 10 _ rfl _ _ _ _ _ _ _ _ _ (s1_.1) s1_.2 rfl ?_
    refine hs 11 _ rfl _ _ _ _ _ _ _ rfl ?_
    refine zw_c (hs 12 _ rfl) (a := [.ref ql_, .int (Int32.ofInt (j2 : Int))]) (st := [.int (Int32.ofInt (B_ : Int))]) rfl rfl (Nat.le_of_ble_eq_true rfl) (zm_l.rc l1_) (by omega) (by omega) (zm_get_M g l1_ hv2_ ?_)
    show S 27 [some (.ref x), some (.int (Int32.ofInt (i : Int))), some (.int (Int32.ofInt (j2 : Int))), none] [.ref w_, .int (Int32.ofInt (B_ : Int))] _ _ _
    refine hs 13 _ rfl _ _ _ _ _ _ (Or.inr ⟨_, _, _, rfl, (rv2a_), List.mem_singleton.mpr rv2b_⟩) ?_
    refine hs 14 _ rfl _ _ _ _ _ _ _ rfl ?_
    refine hd_A (hs 15 _ rfl) (by decide) (by decide) (rv2a_) rv2b_ (j := 1) (by omega) (by omega) rfl ?_
    refine zw_c (hs 16 _ rfl) (a := [.int (Int32.ofInt (B_ : Int)), .int (Int32.ofInt (D_ : Int))]) (st := []) rfl rfl (Nat.le_of_ble_eq_true rfl) trivial (by omega) (by omega) (nu_gcd_M g.1 (by omega) (by omega) ?_)
    show S 35 [some (.ref x), some (.int (Int32.ofInt (i : Int))), some (.int (Int32.ofInt (j2 : Int))), none] [.int (Int32.ofInt ((Nat.gcd B_ D_ : Nat) : Int))] _ _ _
    refine hs 17 _ rfl _ _ _ _ _ _ _ rfl ?_
    refine hs 18 _ rfl _ _ _ _ _ _ _ rfl ?_
    refine hs 19 _ rfl _ _ _ _ _ _ _ _ _ (a1_) a2_.1 rfl ?_
    refine hs 20 _ rfl _ _ _ _ _ _ _ _ _ (s1_.1) s1_.2 rfl ?_
    refine hs 21 _ rfl _ _ _ _ _ _ _ rfl ?_
    refine zw_c (hs 22 _ rfl) (a := [.ref ql_, .int (Int32.ofInt (i : Int))]) (st := []) rfl rfl (Nat.le_of_ble_eq_true rfl) (zm_l.rc l1_) (by omega) (by omega) (zm_get_M g l1_ hv1_ ?_)
    show S 47 [some (.ref x), some (.int (Int32.ofInt (i : Int))), some (.int (Int32.ofInt (j2 : Int))), some (.int (Int32.ofInt ((Nat.gcd B_ D_ : Nat) : Int)))] [.ref v_] _ _ _
    refine hs 23 _ rfl _ _ _ _ _ _ (Or.inr ⟨_, _, _, rfl, (rv1a_), List.mem_singleton.mpr rv1b_⟩) ?_
    refine hs 24 _ rfl _ _ _ _ _ _ _ rfl ?_
    refine hd_A (hs 25 _ rfl) (by decide) (by decide) (rv1a_) rv1b_ (j := 0) (by omega) (by omega) rfl ?_
    refine hs 26 _ rfl _ _ _ _ _ _ _ rfl ?_
    refine hs 27 _ rfl _ _ _ _ _ _ _ (hd_rem (by omega) (by omega) (by omega) (by omega)) ?_
    refine hs 28 _ rfl _ _ _ _ _ _ _ rfl ?_
    refine hs 29 _ rfl _ _ _ _ _ _ _ _ _ (a1_) a2_.1 rfl ?_
    refine hs 30 _ rfl _ _ _ _ _ _ _ _ _ (s1_.1) s1_.2 rfl ?_
    refine hs 31 _ rfl _ _ _ _ _ _ _ rfl ?_
    refine zw_c (hs 32 _ rfl) (a := [.ref ql_, .int (Int32.ofInt (j2 : Int))]) (st := [.int (Int32.ofInt (a_ % ((Nat.gcd B_ D_ : Nat) : Int)))]) rfl rfl (Nat.le_of_ble_eq_true rfl) (zm_l.rc l1_) (by omega) (by omega) (zm_get_M g l1_ hv2_ ?_)
    show S 65 [some (.ref x), some (.int (Int32.ofInt (i : Int))), some (.int (Int32.ofInt (j2 : Int))), some (.int (Int32.ofInt ((Nat.gcd B_ D_ : Nat) : Int)))] [.ref w_, .int (Int32.ofInt (a_ % ((Nat.gcd B_ D_ : Nat) : Int)))] _ _ _
    refine hs 33 _ rfl _ _ _ _ _ _ (Or.inr ⟨_, _, _, rfl, (rv2a_), List.mem_singleton.mpr rv2b_⟩) ?_
    refine hs 34 _ rfl _ _ _ _ _ _ _ rfl ?_
    refine hd_A (hs 35 _ rfl) (by decide) (by decide) (rv2a_) rv2b_ (j := 0) (by omega) (by omega) rfl ?_
    refine hs 36 _ rfl _ _ _ _ _ _ _ rfl ?_
    refine hs 37 _ rfl _ _ _ _ _ _ _ (hd_rem (by omega) (by omega) (by omega) (by omega)) ?_
    refine hs 38 _ rfl _ _ _ _ _ _ _ (fun _ => ?_) (fun zq => absurd (hd_c2t (c := 1) (by omega) (by omega) (by omega) (by omega) (by omega : ((a_ % ((Nat.gcd B_ D_ : Nat) : Int)) - (d_ % ((Nat.gcd B_ D_ : Nat) : Int))) ≠ 0)) zq)
    refine hs 41 _ rfl _ _ _ _ _ _ _ rfl ?_
    exact hs 42 _ rfl _ _ _ _ _ ⟨_, rfl, by decide, by decide⟩ (Nat.zero_le _) (Nat.zero_le _) (hN hq_)
set_option maxHeartbeats 4000000 in
theorem zc_rowsAgree_M {l : Launch} {G : am_G} {X : ck_XT} (g : gM l G X) {x : Nat} {r : Nat → Nat} {jj mm kk : Int} {c : sp_S} {R : Nat → sp_S} {old cnt : Nat} {h : List am_C} (hX : zc_x G h x r jj mm kk c R old cnt){i j2 : Nat} (hi : i < c.2.2.1.length) (hj : j2 < c.2.2.1.length) {mc ms : Nat} {Post : am_O → List am_C → Prop} (hY : (sp_ag (c.2.2.1.getD i (0, 1)) (c.2.2.1.getD j2 (0, 1))) → Post (.inl (some (.int (Int32.ofInt 1)))) h) (hN : ¬ (sp_ag (c.2.2.1.getD i (0, 1)) (c.2.2.1.getD j2 (0, 1))) → Post (.inl (some (.int (Int32.ofInt 0)))) h) :
    am_M l G yX9_rowsAgree (.code yX9_rowsAgree prog_11_method_5_code 4 (some .boolean)) 2 45 mc ms [.ref (x + 1), .int (Int32.ofInt (i : Int)), .int (Int32.ofInt (j2 : Int))] h Post := by
  refine gh_yX9_rowsAgree_X g (Nat.le_of_ble_eq_true rfl) fun S SX hs hr hw hx => ?_
  have rv : ∀ x : Int32, ck_fv 0 (.int x) := fun x => ⟨_, rfl⟩
  have hl6_ := hX.2.2.1.2.2.1.1
  obtain ⟨rs_, zs_, bs_, d1_, d2_, d3_, d4_, d5_, d6_, d7_⟩ := hX.2.1
  obtain ⟨⟨p4_, p5_, p6_⟩, -, hro_, -⟩ := id d6_
  obtain ⟨⟨a_, bz1_⟩, hp1_⟩ : ∃ p, c.2.2.1[i]? = some p := ⟨_, List.getElem?_eq_getElem (by omega)⟩
  obtain ⟨o11_, o12_, o13_, o14_⟩ : 1 ≤ bz1_ ∧ bz1_ ≤ 999 ∧ 0 ≤ a_ ∧ a_ < bz1_ := hX.2.2.1.2.2.1.2 _ (List.mem_of_getElem? hp1_)
  obtain ⟨B_, rfl⟩ : ∃ s_ : Nat, bz1_ = (s_ : Int) := ⟨bz1_.toNat, by omega⟩
  have yr1_ : rs_[i]? = some a_ := (hro_ i _ hp1_).1
  have yz1_ : zs_[i]? = some (B_ : Int) := (hro_ i _ hp1_).2
  have eq1_ : c.2.2.1.getD i (0, 1) = (a_, (B_ : Int)) := by
    rw [List.getD_eq_getElem?_getD, hp1_, Option.getD_some]
  obtain ⟨⟨d_, bz2_⟩, hp2_⟩ : ∃ p, c.2.2.1[j2]? = some p := ⟨_, List.getElem?_eq_getElem (by omega)⟩
  obtain ⟨o21_, o22_, o23_, o24_⟩ : 1 ≤ bz2_ ∧ bz2_ ≤ 999 ∧ 0 ≤ d_ ∧ d_ < bz2_ := hX.2.2.1.2.2.1.2 _ (List.mem_of_getElem? hp2_)
  obtain ⟨D_, rfl⟩ : ∃ s_ : Nat, bz2_ = (s_ : Int) := ⟨bz2_.toNat, by omega⟩
  have yr2_ : rs_[j2]? = some d_ := (hro_ j2 _ hp2_).1
  have yz2_ : zs_[j2]? = some (D_ : Int) := (hro_ j2 _ hp2_).2
  have eq2_ : c.2.2.1.getD j2 (0, 1) = (d_, (D_ : Int)) := by
    rw [List.getD_eq_getElem?_getD, hp2_, Option.getD_some]
  have g1_ : 0 < Nat.gcd B_ D_ := Nat.gcd_pos_of_pos_left _ (by omega)
  have g2_ : Nat.gcd B_ D_ ≤ B_ := Nat.gcd_le_left _ (by omega)
  have r1_ := Int.emod_nonneg a_ (b := ((Nat.gcd B_ D_ : Nat) : Int)) (by omega)
  have r2_ := Int.emod_lt_of_pos a_ (b := ((Nat.gcd B_ D_ : Nat) : Int)) (by omega)
  have r3_ := Int.emod_nonneg d_ (b := ((Nat.gcd B_ D_ : Nat) : Int)) (by omega)
  have r4_ := Int.emod_lt_of_pos d_ (b := ((Nat.gcd B_ D_ : Nat) : Int)) (by omega)
  rw [eq1_, eq2_] at hY hN
  by_cases hq_ : a_ % ((Nat.gcd B_ D_ : Nat) : Int) = d_ % ((Nat.gcd B_ D_ : Nat) : Int)
  · 
    refine hs 0 _ rfl _ _ _ _ _ _ _ rfl ?_
    refine hs 1 _ rfl _ _ _ _ _ _ _ _ _ (d1_) rfl rfl ?_
    refine hs 2 _ rfl _ _ _ _ _ _ _ rfl ?_
    refine hd_A (hs 3 _ rfl) (by decide) (by decide) (d4_) rfl (j := i) (by omega) (by omega) yz1_ ?_
    refine hs 4 _ rfl _ _ _ _ _ _ _ rfl ?_
    refine hs 5 _ rfl _ _ _ _ _ _ _ _ _ (d1_) rfl rfl ?_
    refine hs 6 _ rfl _ _ _ _ _ _ _ rfl ?_
    refine hd_A (hs 7 _ rfl) (by decide) (by decide) (d4_) rfl (j := j2) (by omega) (by omega) yz2_ ?_
    refine zw_c (hs 8 _ rfl) (a := [.int (Int32.ofInt (B_ : Int)), .int (Int32.ofInt (D_ : Int))]) (st := []) rfl rfl (Nat.le_of_ble_eq_true rfl) trivial (by omega) (by omega) (sm_common_M g (by omega) (by omega) ?_)
    show S 15 [some (.ref (x + 1)), some (.int (Int32.ofInt (i : Int))), some (.int (Int32.ofInt (j2 : Int))), none] [.int (Int32.ofInt ((Nat.gcd B_ D_ : Nat) : Int))] _ _ _
    refine hs 9 _ rfl _ _ _ _ _ _ _ rfl ?_
    refine hs 10 _ rfl _ _ _ _ _ _ _ rfl ?_
    refine hs 11 _ rfl _ _ _ _ _ _ (fun zq => absurd (hd_c1z (c := 5) (by omega) (by omega) zq) (by omega : ¬ (((Nat.gcd B_ D_ : Nat) : Int) ≤ 0))) (fun _ => ?_)
    refine hs 12 _ rfl _ _ _ _ _ _ _ rfl ?_
    refine hs 13 _ rfl _ _ _ _ _ _ _ _ _ (d1_) rfl rfl ?_
    refine hs 14 _ rfl _ _ _ _ _ _ _ rfl ?_
    refine hd_A (hs 15 _ rfl) (by decide) (by decide) (d3_) rfl (j := i) (by omega) (by omega) yr1_ ?_
    refine hs 16 _ rfl _ _ _ _ _ _ _ rfl ?_
    refine hs 17 _ rfl _ _ _ _ _ _ _ (hd_rem (by omega) (by omega) (by omega) (by omega)) ?_
    refine hs 18 _ rfl _ _ _ _ _ _ _ rfl ?_
    refine hs 19 _ rfl _ _ _ _ _ _ _ _ _ (d1_) rfl rfl ?_
    refine hs 20 _ rfl _ _ _ _ _ _ _ rfl ?_
    refine hd_A (hs 21 _ rfl) (by decide) (by decide) (d3_) rfl (j := j2) (by omega) (by omega) yr2_ ?_
    refine hs 22 _ rfl _ _ _ _ _ _ _ rfl ?_
    refine hs 23 _ rfl _ _ _ _ _ _ _ (hd_rem (by omega) (by omega) (by omega) (by omega)) ?_
    refine hs 24 _ rfl _ _ _ _ _ _ _ (fun zq => absurd (hd_c2z (c := 1) (by omega) (by omega) (by omega) (by omega) zq) (by omega : ¬ (((a_ % ((Nat.gcd B_ D_ : Nat) : Int)) - (d_ % ((Nat.gcd B_ D_ : Nat) : Int))) ≠ 0))) (fun _ => ?_)
    refine hs 25 _ rfl _ _ _ _ _ _ _ rfl ?_
    refine hs 26 _ rfl _ _ _ _ _ ?_
    exact hs 28 _ rfl _ _ _ _ _ ⟨_, rfl, by decide, by decide⟩ (Nat.zero_le _) (Nat.zero_le _) (hY hq_)
  · 
    refine hs 0 _ rfl _ _ _ _ _ _ _ rfl ?_
    refine hs 1 _ rfl _ _ _ _ _ _ _ _ _ (d1_) rfl rfl ?_
    refine hs 2 _ rfl _ _ _ _ _ _ _ rfl ?_
    refine hd_A (hs 3 _ rfl) (by decide) (by decide) (d4_) rfl (j := i) (by omega) (by omega) yz1_ ?_
    refine hs 4 _ rfl _ _ _ _ _ _ _ rfl ?_
    refine hs 5 _ rfl _ _ _ _ _ _ _ _ _ (d1_) rfl rfl ?_
    refine hs 6 _ rfl _ _ _ _ _ _ _ rfl ?_
    refine hd_A (hs 7 _ rfl) (by decide) (by decide) (d4_) rfl (j := j2) (by omega) (by omega) yz2_ ?_
    refine zw_c (hs 8 _ rfl) (a := [.int (Int32.ofInt (B_ : Int)), .int (Int32.ofInt (D_ : Int))]) (st := []) rfl rfl (Nat.le_of_ble_eq_true rfl) trivial (by omega) (by omega) (sm_common_M g (by omega) (by omega) ?_)
    show S 15 [some (.ref (x + 1)), some (.int (Int32.ofInt (i : Int))), some (.int (Int32.ofInt (j2 : Int))), none] [.int (Int32.ofInt ((Nat.gcd B_ D_ : Nat) : Int))] _ _ _
    refine hs 9 _ rfl _ _ _ _ _ _ _ rfl ?_
    refine hs 10 _ rfl _ _ _ _ _ _ _ rfl ?_
    refine hs 11 _ rfl _ _ _ _ _ _ (fun zq => absurd (hd_c1z (c := 5) (by omega) (by omega) zq) (by omega : ¬ (((Nat.gcd B_ D_ : Nat) : Int) ≤ 0))) (fun _ => ?_)
    refine hs 12 _ rfl _ _ _ _ _ _ _ rfl ?_
    refine hs 13 _ rfl _ _ _ _ _ _ _ _ _ (d1_) rfl rfl ?_
    refine hs 14 _ rfl _ _ _ _ _ _ _ rfl ?_
    refine hd_A (hs 15 _ rfl) (by decide) (by decide) (d3_) rfl (j := i) (by omega) (by omega) yr1_ ?_
    refine hs 16 _ rfl _ _ _ _ _ _ _ rfl ?_
    refine hs 17 _ rfl _ _ _ _ _ _ _ (hd_rem (by omega) (by omega) (by omega) (by omega)) ?_
    refine hs 18 _ rfl _ _ _ _ _ _ _ rfl ?_
    refine hs 19 _ rfl _ _ _ _ _ _ _ _ _ (d1_) rfl rfl ?_
    refine hs 20 _ rfl _ _ _ _ _ _ _ rfl ?_
    refine hd_A (hs 21 _ rfl) (by decide) (by decide) (d3_) rfl (j := j2) (by omega) (by omega) yr2_ ?_
    refine hs 22 _ rfl _ _ _ _ _ _ _ rfl ?_
    refine hs 23 _ rfl _ _ _ _ _ _ _ (hd_rem (by omega) (by omega) (by omega) (by omega)) ?_
    refine hs 24 _ rfl _ _ _ _ _ _ _ (fun _ => ?_) (fun zq => absurd (hd_c2t (c := 1) (by omega) (by omega) (by omega) (by omega) (by omega : ((a_ % ((Nat.gcd B_ D_ : Nat) : Int)) - (d_ % ((Nat.gcd B_ D_ : Nat) : Int))) ≠ 0)) zq)
    refine hs 27 _ rfl _ _ _ _ _ _ _ rfl ?_
    exact hs 28 _ rfl _ _ _ _ _ ⟨_, rfl, by decide, by decide⟩ (Nat.zero_le _) (Nat.zero_le _) (hN hq_)
set_option maxHeartbeats 4000000 in
theorem zc_qagree_M {l : Launch} {G : am_G} {X : ck_XT} (g : gM l G X) {x : Nat} {r : Nat → Nat} {jj mm kk : Int} {c : sp_S} {R : Nat → sp_S} {old cnt : Nat} {h : List am_C} (hX : zc_x G h x r jj mm kk c R old cnt) {e : Int} (he1 : -2147483648 ≤ e) (he2 : e ≤ 2147483647) {e2 : Int} (hf1 : -2147483648 ≤ e2) (hf2 : e2 ≤ 2147483647) {mc ms : Nat} {Post : am_O → List am_C → Prop} (hmc : 1 ≤ mc) (hms : 6 ≤ ms)
    (hY : ((0 ≤ e ∧ e < (c.2.2.1.length : Int)) ∧ (0 ≤ e2 ∧ e2 < (c.2.2.1.length : Int))) → (sp_ag (c.2.2.1.getD e.toNat (0, 1)) (c.2.2.1.getD e2.toNat (0, 1))) → Post (.inl (some (.int (Int32.ofInt 1)))) h)
    (hN : ((0 ≤ e ∧ e < (c.2.2.1.length : Int)) ∧ (0 ≤ e2 ∧ e2 < (c.2.2.1.length : Int))) → ¬ (sp_ag (c.2.2.1.getD e.toNat (0, 1)) (c.2.2.1.getD e2.toNat (0, 1))) → Post (.inl (some (.int (Int32.ofInt 0)))) h)
    (hX2 : ¬ ((0 ≤ e ∧ e < (c.2.2.1.length : Int)) ∧ (0 ≤ e2 ∧ e2 < (c.2.2.1.length : Int))) → Post (.inr "java/lang/IndexOutOfBoundsException") (h ++ [(99, [])])) :
    am_M l G yX10_agree (.code yX10_agree prog_1_method_46_code 3 (some .boolean)) 7 111 mc ms [.ref x, .int (Int32.ofInt e), .int (Int32.ofInt e2)] h Post := by
  refine gh_yX10_agree_X g (Nat.le_of_ble_eq_true rfl) fun S SX hs hr hw hx => ?_
  have rv : ∀ x : Int32, ck_fv 0 (.int x) := fun x => ⟨_, rfl⟩
  have hx9_ := hX.2.2.2.2.2.2.2
  have hl_ := hX.2.2.1.2.2.1.1
  by_cases c1_ : (0 ≤ e ∧ e < (c.2.2.1.length : Int))
  rotate_left
  · 
    refine hs 0 _ rfl _ _ _ _ _ _ _ rfl ?_
    refine hs 1 _ rfl _ _ _ _ _ _ _ rfl ?_
    exact zw_cm (hs 2 _ rfl) (a := [.ref x, .int (Int32.ofInt e)]) (st := []) 1 6 rfl rfl (Nat.le_of_ble_eq_true rfl) ⟨_, _, _, rfl, hX.1, rfl⟩ (by omega) (by omega) (zc_needRX_M g hX he1 he2 c1_ (by decide) (by decide) (hx _ _ _ _ _ _ (by omega) (by omega) (hX2 fun y_ => c1_ y_.1)))
  · by_cases c2_ : (0 ≤ e2 ∧ e2 < (c.2.2.1.length : Int))
    rotate_left
    · 
      refine hs 0 _ rfl _ _ _ _ _ _ _ rfl ?_
      refine hs 1 _ rfl _ _ _ _ _ _ _ rfl ?_
      refine zw_c (hs 2 _ rfl) (a := [.ref x, .int (Int32.ofInt e)]) (st := []) rfl rfl (Nat.le_of_ble_eq_true rfl) ⟨_, _, _, rfl, hX.1, rfl⟩ (by omega) (by omega) (zc_needR_M g hX (by omega) ?_)
      show S 5 [some (.ref x), some (.int (Int32.ofInt e)), some (.int (Int32.ofInt e2))] [] _ _ _
      refine hs 3 _ rfl _ _ _ _ _ _ _ rfl ?_
      refine hs 4 _ rfl _ _ _ _ _ _ _ rfl ?_
      exact zw_cm (hs 5 _ rfl) (a := [.ref x, .int (Int32.ofInt e2)]) (st := []) 1 6 rfl rfl (Nat.le_of_ble_eq_true rfl) ⟨_, _, _, rfl, hX.1, rfl⟩ (by omega) (by omega) (zc_needRX_M g hX hf1 hf2 c2_ (by decide) (by decide) (hx _ _ _ _ _ _ (by omega) (by omega) (hX2 fun y_ => c2_ y_.2)))
    · obtain ⟨i, rfl⟩ : ∃ i : Nat, e = (i : Int) := ⟨e.toNat, by omega⟩
      obtain ⟨j2, rfl⟩ : ∃ i : Nat, e2 = (i : Int) := ⟨e2.toNat, by omega⟩
      rw [Int.toNat_natCast, Int.toNat_natCast] at hY hN
      by_cases ag_ : (sp_ag (c.2.2.1.getD i (0, 1)) (c.2.2.1.getD j2 (0, 1)))
      · 
        refine hs 0 _ rfl _ _ _ _ _ _ _ rfl ?_
        refine hs 1 _ rfl _ _ _ _ _ _ _ rfl ?_
        refine zw_c (hs 2 _ rfl) (a := [.ref x, .int (Int32.ofInt (i : Int))]) (st := []) rfl rfl (Nat.le_of_ble_eq_true rfl) ⟨_, _, _, rfl, hX.1, rfl⟩ (by omega) (by omega) (zc_needR_M g hX (by omega) ?_)
        show S 5 [some (.ref x), some (.int (Int32.ofInt (i : Int))), some (.int (Int32.ofInt (j2 : Int)))] [] _ _ _
        refine hs 3 _ rfl _ _ _ _ _ _ _ rfl ?_
        refine hs 4 _ rfl _ _ _ _ _ _ _ rfl ?_
        refine zw_c (hs 5 _ rfl) (a := [.ref x, .int (Int32.ofInt (j2 : Int))]) (st := []) rfl rfl (Nat.le_of_ble_eq_true rfl) ⟨_, _, _, rfl, hX.1, rfl⟩ (by omega) (by omega) (zc_needR_M g hX (by omega) ?_)
        show S 10 [some (.ref x), some (.int (Int32.ofInt (i : Int))), some (.int (Int32.ofInt (j2 : Int)))] [] _ _ _
        refine hs 6 _ rfl _ _ _ _ _ _ _ rfl ?_
        refine hs 7 _ rfl _ _ _ _ _ _ _ _ _ (hX.1) rfl rfl ?_
        refine hs 8 _ rfl _ _ _ _ _ _ _ rfl ?_
        refine hs 9 _ rfl _ _ _ _ _ _ _ rfl ?_
        refine zw_c (hs 10 _ rfl) (a := [.ref (x + 1), .int (Int32.ofInt (i : Int)), .int (Int32.ofInt (j2 : Int))]) (st := []) rfl rfl (Nat.le_of_ble_eq_true rfl) ⟨_, _, _, rfl, hX.2.1.d, rfl⟩ (by omega) (by omega) (zc_rowsAgree_M g hX (i := i) (j2 := j2) (by omega) (by omega) (fun _ => ?_) (fun y_ => absurd ag_ y_))
        show S 19 [some (.ref x), some (.int (Int32.ofInt (i : Int))), some (.int (Int32.ofInt (j2 : Int)))] [.int (Int32.ofInt (1 : Int))] _ _ _
        exact hs 11 _ rfl _ _ _ _ _ ⟨_, rfl, by decide, by decide⟩ (Nat.zero_le _) (Nat.zero_le _) (hY ⟨c1_, c2_⟩ ag_)
      · 
        refine hs 0 _ rfl _ _ _ _ _ _ _ rfl ?_
        refine hs 1 _ rfl _ _ _ _ _ _ _ rfl ?_
        refine zw_c (hs 2 _ rfl) (a := [.ref x, .int (Int32.ofInt (i : Int))]) (st := []) rfl rfl (Nat.le_of_ble_eq_true rfl) ⟨_, _, _, rfl, hX.1, rfl⟩ (by omega) (by omega) (zc_needR_M g hX (by omega) ?_)
        show S 5 [some (.ref x), some (.int (Int32.ofInt (i : Int))), some (.int (Int32.ofInt (j2 : Int)))] [] _ _ _
        refine hs 3 _ rfl _ _ _ _ _ _ _ rfl ?_
        refine hs 4 _ rfl _ _ _ _ _ _ _ rfl ?_
        refine zw_c (hs 5 _ rfl) (a := [.ref x, .int (Int32.ofInt (j2 : Int))]) (st := []) rfl rfl (Nat.le_of_ble_eq_true rfl) ⟨_, _, _, rfl, hX.1, rfl⟩ (by omega) (by omega) (zc_needR_M g hX (by omega) ?_)
        show S 10 [some (.ref x), some (.int (Int32.ofInt (i : Int))), some (.int (Int32.ofInt (j2 : Int)))] [] _ _ _
        refine hs 6 _ rfl _ _ _ _ _ _ _ rfl ?_
        refine hs 7 _ rfl _ _ _ _ _ _ _ _ _ (hX.1) rfl rfl ?_
        refine hs 8 _ rfl _ _ _ _ _ _ _ rfl ?_
        refine hs 9 _ rfl _ _ _ _ _ _ _ rfl ?_
        refine zw_c (hs 10 _ rfl) (a := [.ref (x + 1), .int (Int32.ofInt (i : Int)), .int (Int32.ofInt (j2 : Int))]) (st := []) rfl rfl (Nat.le_of_ble_eq_true rfl) ⟨_, _, _, rfl, hX.2.1.d, rfl⟩ (by omega) (by omega) (zc_rowsAgree_M g hX (i := i) (j2 := j2) (by omega) (by omega) (fun y_ => absurd y_ ag_) (fun _ => ?_))
        show S 19 [some (.ref x), some (.int (Int32.ofInt (i : Int))), some (.int (Int32.ofInt (j2 : Int)))] [.int (Int32.ofInt (0 : Int))] _ _ _
        exact hs 11 _ rfl _ _ _ _ _ ⟨_, rfl, by decide, by decide⟩ (Nat.zero_le _) (Nat.zero_le _) (hN ⟨c1_, c2_⟩ ag_)
set_option maxHeartbeats 4000000 in
theorem zc_qofRow_M {l : Launch} {G : am_G} {X : ck_XT} (g : gM l G X) {x : Nat} {r : Nat → Nat} {jj mm kk : Int} {c : sp_S} {R : Nat → sp_S} {old cnt : Nat} {h : List am_C} (hX : zc_x G h x r jj mm kk c R old cnt) {e : Int} (he1 : -2147483648 ≤ e) (he2 : e ≤ 2147483647) {e2 : Int} (hf1 : -2147483648 ≤ e2) (hf2 : e2 ≤ 2147483647) {mc ms : Nat} {Post : am_O → List am_C → Prop} (hmc : 1 ≤ mc) (hms : 6 ≤ ms)
    (hP : (0 ≤ e ∧ e < (c.2.2.1.length : Int)) → (0 ≤ e2 ∧ e2 ≤ 1) → Post (.inl (some (.int (Int32.ofInt (if e2 = 0 then (c.2.2.1.getD e.toNat (0, 1)).1 else (c.2.2.1.getD e.toNat (0, 1)).2))))) h)
    (hX3 : (0 ≤ e ∧ e < (c.2.2.1.length : Int)) → ¬ (0 ≤ e2 ∧ e2 ≤ 1) → Post (.inr "java/lang/IllegalArgumentException") (h ++ [(99, [])]))
    (hX2 : ¬ (0 ≤ e ∧ e < (c.2.2.1.length : Int)) → Post (.inr "java/lang/IndexOutOfBoundsException") (h ++ [(99, [])])) :
    am_M l G yX10_ofRow (.code yX10_ofRow prog_1_method_45_code 3 (some .int)) 7 111 mc ms [.ref x, .int (Int32.ofInt e), .int (Int32.ofInt e2)] h Post := by
  refine gh_yX10_ofRow_X g (Nat.le_of_ble_eq_true rfl) fun S SX hs hr hw hx => ?_
  have rv : ∀ x : Int32, ck_fv 0 (.int x) := fun x => ⟨_, rfl⟩
  have hx9_ := hX.2.2.2.2.2.2.2
  have hl_ := hX.2.2.1.2.2.1.1
  by_cases c1_ : (0 ≤ e ∧ e < (c.2.2.1.length : Int))
  rotate_left
  · 
    refine hs 0 _ rfl _ _ _ _ _ _ _ rfl ?_
    refine hs 1 _ rfl _ _ _ _ _ _ _ rfl ?_
    exact zw_cm (hs 2 _ rfl) (a := [.ref x, .int (Int32.ofInt e)]) (st := []) 1 6 rfl rfl (Nat.le_of_ble_eq_true rfl) ⟨_, _, _, rfl, hX.1, rfl⟩ (by omega) (by omega) (zc_needRX_M g hX he1 he2 c1_ (by decide) (by decide) (hx _ _ _ _ _ _ (by omega) (by omega) (hX2 c1_)))
  · by_cases c2_ : 0 ≤ e2 ∧ e2 ≤ 1
    rotate_left
    · 
      refine hs 0 _ rfl _ _ _ _ _ _ _ rfl ?_
      refine hs 1 _ rfl _ _ _ _ _ _ _ rfl ?_
      refine zw_c (hs 2 _ rfl) (a := [.ref x, .int (Int32.ofInt e)]) (st := []) rfl rfl (Nat.le_of_ble_eq_true rfl) ⟨_, _, _, rfl, hX.1, rfl⟩ (by omega) (by omega) (zc_needR_M g hX (by omega) ?_)
      show S 5 [some (.ref x), some (.int (Int32.ofInt e)), some (.int (Int32.ofInt e2))] [] _ _ _
      refine hs 3 _ rfl _ _ _ _ _ _ _ rfl ?_
      refine hs 4 _ rfl _ _ _ _ _ _ (fun zq => absurd (hd_c1z (c := 0) (by omega) (by omega) zq) (by omega : ¬ (e2 = 0))) (fun _ => ?_)
      refine hs 5 _ rfl _ _ _ _ _ _ _ rfl ?_
      refine hs 6 _ rfl _ _ _ _ _ _ _ rfl ?_
      refine hs 7 _ rfl _ _ _ _ _ _ _ (fun zq => absurd (hd_c2z (c := 0) (by omega) (by omega) (by omega) (by omega) zq) (by omega : ¬ ((e2 - (1 : Int)) = 0))) (fun _ => ?_)
      exact hs 8 _ rfl _ _ _ _ _ rfl (Nat.le_of_ble_eq_true rfl) (by omega) (by omega) (hX3 c1_ (by omega))
    · have hQ_ := hP c1_ c2_
      obtain ⟨i, rfl⟩ : ∃ i : Nat, e = (i : Int) := ⟨e.toNat, by omega⟩
      rw [Int.toNat_natCast] at hQ_
      have hl6_ := hX.2.2.1.2.2.1.1
      obtain ⟨rs_, zs_, bs_, d1_, d2_, d3_, d4_, d5_, d6_, d7_⟩ := hX.2.1
      obtain ⟨⟨p4_, p5_, p6_⟩, -, hro_, -⟩ := id d6_
      obtain ⟨⟨a_, bz1_⟩, hp1_⟩ : ∃ p, c.2.2.1[i]? = some p := ⟨_, List.getElem?_eq_getElem (by omega)⟩
      obtain ⟨o11_, o12_, o13_, o14_⟩ : 1 ≤ bz1_ ∧ bz1_ ≤ 999 ∧ 0 ≤ a_ ∧ a_ < bz1_ := hX.2.2.1.2.2.1.2 _ (List.mem_of_getElem? hp1_)
      obtain ⟨B_, rfl⟩ : ∃ s_ : Nat, bz1_ = (s_ : Int) := ⟨bz1_.toNat, by omega⟩
      have yr1_ : rs_[i]? = some a_ := (hro_ i _ hp1_).1
      have yz1_ : zs_[i]? = some (B_ : Int) := (hro_ i _ hp1_).2
      have eq1_ : c.2.2.1.getD i (0, 1) = (a_, (B_ : Int)) := by
        rw [List.getD_eq_getElem?_getD, hp1_, Option.getD_some]
      rw [eq1_] at hQ_
      by_cases c3_ : e2 = 0
      · rw [if_pos c3_] at hQ_
        subst c3_
        refine hs 0 _ rfl _ _ _ _ _ _ _ rfl ?_
        refine hs 1 _ rfl _ _ _ _ _ _ _ rfl ?_
        refine zw_c (hs 2 _ rfl) (a := [.ref x, .int (Int32.ofInt (i : Int))]) (st := []) rfl rfl (Nat.le_of_ble_eq_true rfl) ⟨_, _, _, rfl, hX.1, rfl⟩ (by omega) (by omega) (zc_needR_M g hX (by omega) ?_)
        show S 5 [some (.ref x), some (.int (Int32.ofInt (i : Int))), some (.int (Int32.ofInt (0 : Int)))] [] _ _ _
        refine hs 3 _ rfl _ _ _ _ _ _ _ rfl ?_
        refine hs 4 _ rfl _ _ _ _ _ _ (fun _ => ?_) (fun zq => absurd (hd_c1t (c := 0) (by omega) (by omega) (by omega : (0 : Int) = 0)) zq)
        refine hs 9 _ rfl _ _ _ _ _ _ _ rfl ?_
        refine hs 10 _ rfl _ _ _ _ _ _ (fun zq => absurd (hd_c1z (c := 1) (by omega) (by omega) zq) (by omega : ¬ ((0 : Int) ≠ 0))) (fun _ => ?_)
        refine hs 11 _ rfl _ _ _ _ _ _ _ rfl ?_
        refine hs 12 _ rfl _ _ _ _ _ _ _ _ _ (hX.1) rfl rfl ?_
        refine hs 13 _ rfl _ _ _ _ _ _ _ _ _ (d1_) rfl rfl ?_
        refine hs 14 _ rfl _ _ _ _ _ _ _ rfl ?_
        refine hd_A (hs 15 _ rfl) (by decide) (by decide) (d3_) rfl (j := i) (by omega) (by omega) yr1_ ?_
        refine hs 16 _ rfl _ _ _ _ _ ?_
        exact hs 22 _ rfl _ _ _ _ _ (rv _) (Nat.zero_le _) (Nat.zero_le _) hQ_
      · rw [if_neg c3_] at hQ_
        have c4_ : e2 = 1 := by omega
        subst c4_
        refine hs 0 _ rfl _ _ _ _ _ _ _ rfl ?_
        refine hs 1 _ rfl _ _ _ _ _ _ _ rfl ?_
        refine zw_c (hs 2 _ rfl) (a := [.ref x, .int (Int32.ofInt (i : Int))]) (st := []) rfl rfl (Nat.le_of_ble_eq_true rfl) ⟨_, _, _, rfl, hX.1, rfl⟩ (by omega) (by omega) (zc_needR_M g hX (by omega) ?_)
        show S 5 [some (.ref x), some (.int (Int32.ofInt (i : Int))), some (.int (Int32.ofInt (1 : Int)))] [] _ _ _
        refine hs 3 _ rfl _ _ _ _ _ _ _ rfl ?_
        refine hs 4 _ rfl _ _ _ _ _ _ (fun zq => absurd (hd_c1z (c := 0) (by omega) (by omega) zq) (by omega : ¬ ((1 : Int) = 0))) (fun _ => ?_)
        refine hs 5 _ rfl _ _ _ _ _ _ _ rfl ?_
        refine hs 6 _ rfl _ _ _ _ _ _ _ rfl ?_
        refine hs 7 _ rfl _ _ _ _ _ _ _ (fun _ => ?_) (fun zq => absurd (hd_c2t (c := 0) (by omega) (by omega) (by omega) (by omega) (by omega : ((1 : Int) - (1 : Int)) = 0)) zq)
        refine hs 9 _ rfl _ _ _ _ _ _ _ rfl ?_
        refine hs 10 _ rfl _ _ _ _ _ _ (fun _ => ?_) (fun zq => absurd (hd_c1t (c := 1) (by omega) (by omega) (by omega : (1 : Int) ≠ 0)) zq)
        refine hs 17 _ rfl _ _ _ _ _ _ _ rfl ?_
        refine hs 18 _ rfl _ _ _ _ _ _ _ _ _ (hX.1) rfl rfl ?_
        refine hs 19 _ rfl _ _ _ _ _ _ _ _ _ (d1_) rfl rfl ?_
        refine hs 20 _ rfl _ _ _ _ _ _ _ rfl ?_
        refine hd_A (hs 21 _ rfl) (by decide) (by decide) (d4_) rfl (j := i) (by omega) (by omega) yz1_ ?_
        exact hs 22 _ rfl _ _ _ _ _ (rv _) (Nat.zero_le _) (Nat.zero_le _) hQ_
set_option maxHeartbeats 4000000 in
theorem zc_qbooks_M {l : Launch} {G : am_G} {X : ck_XT} (g : gM l G X) {x : Nat} {r : Nat → Nat} {jj mm kk : Int} {c : sp_S} {R : Nat → sp_S} {old cnt : Nat} {h : List am_C} (hX : zc_x G h x r jj mm kk c R old cnt) {e : Int} (he1 : -2147483648 ≤ e) (he2 : e ≤ 2147483647) {e2 : Int} {mc ms : Nat} {Post : am_O → List am_C → Prop} (hmc : 1 ≤ mc) (hms : 6 ≤ ms)
    (hP : (0 ≤ e ∧ e ≤ 3) → Post (.inl (some (.int (Int32.ofInt (sp_bk (c, zc_l R old cnt, jj, mm, kk) e))))) h)
    (hX2 : ¬ (0 ≤ e ∧ e ≤ 3) → Post (.inr "java/lang/IllegalArgumentException") (h ++ [(99, [])])) :
    am_M l G yX10_books (.code yX10_books prog_1_method_59_code 2 (some .int)) 6 90 mc ms [.ref x, .int (Int32.ofInt e)] h Post := by
  refine gh_yX10_books_X g (Nat.le_of_ble_eq_true rfl) fun S SX hs hr hw hx => ?_
  have rv : ∀ x : Int32, ck_fv 0 (.int x) := fun x => ⟨_, rfl⟩
  have hx9_ := hX.2.2.2.2.2.2.2
  by_cases c1_ : 0 ≤ e ∧ e ≤ 3
  rotate_left
  · 
    refine hs 0 _ rfl _ _ _ _ _ _ _ rfl ?_
    refine zw_Sn (hs 1 _ rfl) (by omega) (by omega) (List.forall_mem_cons.mpr ⟨(by omega : e ≠ 0), List.forall_mem_cons.mpr ⟨(by omega : e ≠ 1), List.forall_mem_cons.mpr ⟨(by omega : e ≠ 2), List.forall_mem_cons.mpr ⟨(by omega : e ≠ 3), List.forall_mem_nil _⟩⟩⟩⟩) ?_
    exact hs 15 _ rfl _ _ _ _ _ rfl (Nat.le_of_ble_eq_true rfl) (by omega) (by omega) (hX2 c1_)
  · have hP := hP c1_
    have b_ : e = 0 ∨ e = 1 ∨ e = 2 ∨ e = 3 := by omega
    rcases b_ with b0_ | b1_ | b2_ | b3_
    · subst b0_
      rw [show sp_bk (c, zc_l R old cnt, jj, mm, kk) 0 = (Int32.ofInt jj).toInt from rfl, Int32.ofInt_toInt] at hP
      refine hs 0 _ rfl _ _ _ _ _ _ _ rfl ?_
      refine zw_Sy (hs 1 _ rfl) (v := 32) (by decide) (by decide) (by decide) (by decide) ?_
      refine hs 2 _ rfl _ _ _ _ _ _ _ rfl ?_
      refine hs 3 _ rfl _ _ _ _ _ _ _ _ _ (hX.1) rfl rfl ?_
      exact hs 4 _ rfl _ _ _ _ _ (rv _) (Nat.zero_le _) (Nat.zero_le _) hP
    · subst b1_
      rw [show sp_bk (c, zc_l R old cnt, jj, mm, kk) 1 = (Int32.ofInt mm).toInt from rfl, Int32.ofInt_toInt] at hP
      refine hs 0 _ rfl _ _ _ _ _ _ _ rfl ?_
      refine zw_Sy (hs 1 _ rfl) (v := 37) (by decide) (by decide) (by decide) (by decide) ?_
      refine hs 5 _ rfl _ _ _ _ _ _ _ rfl ?_
      refine hs 6 _ rfl _ _ _ _ _ _ _ _ _ (hX.1) rfl rfl ?_
      exact hs 7 _ rfl _ _ _ _ _ (rv _) (Nat.zero_le _) (Nat.zero_le _) hP
    · subst b2_
      rw [show sp_bk (c, zc_l R old cnt, jj, mm, kk) 2 = (Int32.ofInt kk).toInt from rfl, Int32.ofInt_toInt] at hP
      refine hs 0 _ rfl _ _ _ _ _ _ _ rfl ?_
      refine zw_Sy (hs 1 _ rfl) (v := 42) (by decide) (by decide) (by decide) (by decide) ?_
      refine hs 8 _ rfl _ _ _ _ _ _ _ rfl ?_
      refine hs 9 _ rfl _ _ _ _ _ _ _ _ _ (hX.1) rfl rfl ?_
      exact hs 10 _ rfl _ _ _ _ _ (rv _) (Nat.zero_le _) (Nat.zero_le _) hP
    · subst b3_
      rw [show sp_bk (c, zc_l R old cnt, jj, mm, kk) 3 = (cnt : Int) by show ((zc_l R old cnt).length : Int) = _; rw [zc_l_len]] at hP
      refine hs 0 _ rfl _ _ _ _ _ _ _ rfl ?_
      refine zw_Sy (hs 1 _ rfl) (v := 47) (by decide) (by decide) (by decide) (by decide) ?_
      refine hs 11 _ rfl _ _ _ _ _ _ _ rfl ?_
      refine hs 12 _ rfl _ _ _ _ _ _ _ _ _ (hX.1) rfl rfl ?_
      refine hs 13 _ rfl _ _ _ _ _ _ _ _ _ (hX.2.2.2.1.1) rfl rfl ?_
      exact hs 14 _ rfl _ _ _ _ _ (rv _) (Nat.zero_le _) (Nat.zero_le _) hP
