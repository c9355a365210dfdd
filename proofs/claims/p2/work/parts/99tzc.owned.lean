section
/-! LISTS THAT HAVE AN OWNER: add, remove -/
theorem zm_ten {d e : Nat} (h : d ≤ e) : (10 : Int) ^ d ≤ 10 ^ e := by
  have := Nat.pow_le_pow_right (show 0 < 10 by decide) h
  have e2_ : ((10 ^ d : Nat) : Int) ≤ ((10 ^ e : Nat) : Int) := Int.ofNat_le.mpr this
  rw [Int.natCast_pow, Int.natCast_pow] at e2_
  exact e2_
theorem zc_dg.le {v : Int} {d n : Nat} (h : zc_dg v d) (hn : 1 ≤ n) (hv : v < 10 ^ n) : d ≤ n := by
  apply Classical.byContradiction
  intro c_
  rcases h.2.2 with z_ | z_
  · omega
  · have := zm_ten (show n ≤ d - 1 by omega)
    omega
theorem zc_dg.gt {v : Int} {d n : Nat} (h : zc_dg v d) (hv : ¬ v < 10 ^ n) : n < d := by
  apply Classical.byContradiction
  intro c_
  have := zm_ten (show d ≤ n by omega)
  have := h.2.1
  omega
theorem zm_dg {ds : List Int} {b z : Int} (hi : zn_is ds b z) : zc_dg (z.natAbs : Int) (if ds.length = 0 then 1 else ds.length) := by
  have ea_ := hi.abs
  by_cases c_ : ds.length = 0
  · rw [if_pos c_, ea_]
    have e_ : ds = [] := List.eq_nil_of_length_eq_zero c_
    rw [e_]
    exact ⟨Nat.le_refl _, by decide, Or.inl rfl⟩
  · rw [if_neg c_, ea_]
    exact ⟨by omega, hi.2.1.lt hi.1, Or.inr (hi.2.1.ge hi.1 (by omega))⟩
def sp_in (z : Int) : Prop := -1000000000000000000000000000000000000 < z ∧ z < 1000000000000000000000000000000000000
theorem sp_in.abs {z : Int} : sp_in z ↔ (z.natAbs : Int) < 10 ^ 36 := by
  unfold sp_in
  rw [show (10 : Int) ^ 36 = 1000000000000000000000000000000000000 from by decide]
  omega
theorem zm_len {ds : List Int} {b z : Int} (hi : zn_is ds b z) (h : sp_in z) : ds.length ≤ 36 := by
  have := (zm_dg hi).le (n := 36) (by decide) (sp_in.abs.mp h)
  split at this <;> omega
/-- a list's own cells: itself, and the row that it has -/
def zm_d4 (o : Nat → Nat) (q : Nat) : Nat → Nat → Prop := fun y k => 1000 ≤ y ∧ ((k = 6 ∧ y = q) ∨ (k = 56 ∧ o y = 8 * q + 4))
theorem zm_d4.f {G : am_G} {o o' : Nat → Nat} {h h' : List am_C} {q p t tp : Nat} {vq vp : List Value} (k : zk G h h' (fun y => y = q ∨ y = p)) (hq : am_g G h q = some (t, vq)) (ht : t % 100 = 6) (hq0 : 1000 ≤ q) (hp : am_g G h p = some (tp, vp)) (htp : tp % 100 = 56) (hl : 1000 ≤ p → o p = 8 * q + 4) (ho : ∀ x, x < 1000 + h.length → o' x = o x) : zm_f G o o' h h' (zm_d4 o q) := ⟨k.1, ho, fun x t2 v2 e hn => by
  by_cases c_ : x < 1000
  · exact (am_gc c_).trans e
  · refine k.2 _ _ e ?_
    rintro (y_ | y_)
    · apply hn
      rw [y_, hq] at e
      have e2_ := congrArg Prod.fst (Option.some.inj e)
      dsimp only at e2_
      exact ⟨by omega, Or.inl ⟨by omega, y_⟩⟩
    · apply hn
      rw [y_, hp] at e
      have e2_ := congrArg Prod.fst (Option.some.inj e)
      dsimp only at e2_
      exact ⟨by omega, Or.inr ⟨by omega, by rw [y_]; exact hl (by omega)⟩⟩⟩
theorem zm_d4.ok {o : Nat → Nat} {q : Nat} : zm_ok (zm_d4 o q) := fun x k h => by
  obtain ⟨h1_, h2_⟩ := h
  exact ⟨h1_, by omega⟩
/-- add to a list that has an owner -/
theorem zm_add_M {l : Launch} {G : am_G} {X : ck_XT} (g : gM l G X) {o : Nat → Nat} {q lab v tv : Nat} {vv : List Value} {vs : List Nat} {h : List am_C} (hl : zm_l G h o q lab vs) (hb : zl_ob G h vs) (hn : vs.length ≤ 14) (hv : am_g G h v = some (tv, vv)) (hk : tv % 100 = 50 ∨ tv % 100 = 2 ∨ tv % 100 = 18) {mc ms : Nat} {Post : am_O → List am_C → Prop} (hmc : 1 ≤ mc) (hms : 20 ≤ ms)
    (hP : ∀ (h' : List am_C) (o' : Nat → Nat), zm_f G o o' h h' (zm_d4 o q) → zm_l G h' o' q lab (vs ++ [v]) → Post (.inl (some (.int (Int32.ofInt 1)))) h') :
    am_M l G yJx4a65c_add_9ea2d (.code yJx4a65c_add_9ea2d prog_46_method_25_code 2 (some .boolean)) 8 230 mc ms [.ref q, .ref v] h Post := by
  obtain ⟨p_, N_, t_, tr_, mo_, a1_, a2_, a3_, a4_, ⟨a5_, a6_⟩, a7_, a8_, a9_⟩ := hl
  have lq_ := zg_lt a1_
  have lp_ := zg_lt a3_
  refine zl_add1_M g a1_ a2_ a3_ a4_ hb a6_ a5_ (by omega) hv hk (fun _ => hmc) (fun _ => by omega) fun hy_ ay_ ty_ ny_ ky_ ly_ my_ oy_ sy_ cy_ dy_ ey_ => ?_
  have nq_ := zg_ne cy_ dy_ (by rw [a2_, ey_]; decide)
  rcases ly_ with ⟨y1_, y2_⟩ | y1_
  · refine hP _ o (zm_d4.f ky_ a1_ a2_ a6_ a3_ a4_ a9_ fun _ _ => rfl) ⟨ay_, ny_, t_, ty_, _, cy_, a2_, dy_, ey_, ⟨by rw [List.length_append, List.length_singleton]; omega, a6_⟩, by omega, a8_, fun _ => ?_⟩
    rw [y1_]
    exact a9_ (by omega)
  · refine hP _ (fun x => if x = ay_ then 8 * q + 4 else o x) (zm_d4.f ky_ a1_ a2_ a6_ a3_ a4_ a9_ fun x hx => if_neg (by omega)) ⟨ay_, ny_, t_, ty_, _, cy_, a2_, dy_, ey_, ⟨by rw [List.length_append, List.length_singleton]; omega, a6_⟩, by omega, ?_, fun _ => if_pos rfl⟩
    show (if q = ay_ then 8 * q + 4 else o q) = lab
    rw [if_neg nq_]
    exact a8_
theorem zm_rem_M {l : Launch} {G : am_G} {X : ck_XT} (g : gM l G X) {o : Nat → Nat} {q lab v j : Nat} {vs : List Nat} {h : List am_C} {e : Int} (hl : zm_l G h o q lab vs) (hb : zl_ob G h vs) (he : e = (j : Int)) (hv : vs[j]? = some v) {mc ms : Nat} {Post : am_O → List am_C → Prop}
    (hP : ∀ (h' : List am_C), zm_f G o o h h' (zm_d4 o q) → zm_l G h' o q lab (vs.eraseIdx j) → Post (.inl (some (.ref v))) h') :
    am_M l G yJx4a65c_remove_915e3 (.code yJx4a65c_remove_915e3 prog_46_method_29_code 4 (some (.object "java/lang/Object"))) 3 82 mc ms [.ref q, .int (Int32.ofInt e)] h Post := by
  subst he
  obtain ⟨p_, N_, t_, tr_, mo_, a1_, a2_, a3_, a4_, ⟨a5_, a6_⟩, a7_, a8_, a9_⟩ := hl
  have hj_ := (List.getElem?_eq_some_iff.mp hv).1
  refine zl_rem_M g a1_ a2_ a3_ a4_ hb a6_ a5_ (by omega) (by omega) hj_ hv fun hy_ ky_ ly_ cy_ dy_ => ?_
  exact hP _ (zm_d4.f ky_ a1_ a2_ a6_ a3_ a4_ a9_ fun _ _ => rfl) ⟨p_, N_, t_, tr_, _, cy_, a2_, dy_, a4_, ⟨by rw [List.length_eraseIdx, if_pos hj_]; omega, a6_⟩, a7_, a8_, a9_⟩
theorem zm_size_M {l : Launch} {G : am_G} {X : ck_XT} (g : gM l G X) {o : Nat → Nat} {q lab : Nat} {vs : List Nat} {h : List am_C} (hl : zm_l G h o q lab vs) {mc ms : Nat} {Post : am_O → List am_C → Prop} (hP : Post (.inl (some (.int (Int32.ofInt (vs.length : Int))))) h) :
    am_M l G yJx4a65c_size_8abf5 (.code yJx4a65c_size_8abf5 prog_46_method_8_code 1 (some .int)) 1 20 mc ms [.ref q] h Post := by
  obtain ⟨p_, N_, mo_, L_, -, -⟩ := hl.L
  exact zl_size_M g L_ hP
theorem zm_emp_M {l : Launch} {G : am_G} {X : ck_XT} (g : gM l G X) {o : Nat → Nat} {q lab : Nat} {vs : List Nat} {h : List am_C} (hl : zm_l G h o q lab vs) {mc ms : Nat} {Post : am_O → List am_C → Prop} (hP1 : vs.length = 0 → Post (.inl (some (.int (Int32.ofInt 1)))) h) (hP0 : vs.length ≠ 0 → Post (.inl (some (.int (Int32.ofInt 0)))) h) :
    am_M l G yJx4a65c_isEmpty_aae02 (.code yJx4a65c_isEmpty_aae02 prog_46_method_9_code 1 (some .boolean)) 1 20 mc ms [.ref q] h Post := by
  obtain ⟨p_, N_, mo_, L_, -, -⟩ := hl.L
  exact zl_isEmpty_M g L_ (fun e_ => hP1 (by rw [e_]; rfl)) (fun e_ => hP0 fun z_ => e_ (List.eq_nil_of_length_eq_zero z_))
/-- THE REFERENCE. What may come back: states ss for P -/
def zm_W (G : am_G) (h : List am_C) (o : Nat → Nat) (qw now : Nat) (P : List sp_S) : Prop := ∃ ss : List Nat, zm_l G h o qw 5 ss ∧ ss.length = P.length ∧ (∀ (i s : Nat) (p : sp_S), ss[i]? = some s → P[i]? = some p → zm_s G h o s p) ∧ (∀ (i j s : Nat), ss[i]? = some s → ss[j]? = some s → i = j) ∧ ∀ i : Nat, ss[i]? ≠ some now
def zm_c (th : Int) (now qw : Nat) (j m k : Int) : List Value := [.int (Int32.ofInt th), .ref now, .ref qw, .int (Int32.ofInt j), .int (Int32.ofInt m), .int (Int32.ofInt k)]
def zm_x (G : am_G) (h : List am_C) (o : Nat → Nat) (x tx now qw : Nat) (th j m k : Int) (c : sp_S) (P : List sp_S) : Prop := am_g G h x = some (tx, zm_c th now qw j m k) ∧ (tx % 100 = 19 ∧ 1000 ≤ x) ∧ zm_s G h o now c ∧ zm_W G h o qw now P
theorem zm_W.f {G : am_G} {o o' : Nat → Nat} {h h' : List am_C} {D : Nat → Nat → Prop} {qw now : Nat} {P : List sp_S} (a : zm_W G h o qw now P) (f : zm_f G o o' h h' D) (hk : zm_ok D) (h1 : ¬ D qw 6) (h2 : ∀ p, o p = 8 * qw + 4 → ¬ D p 56) (hs : ∀ s, s ≠ now → zm_no o s D) : zm_W G h' o' qw now P := by
  obtain ⟨ss_, a1_, a2_, a3_, a4_, a5_⟩ := a
  exact ⟨ss_, a1_.f f hk h1 h2, a2_, fun i s p e1 e2 => (a3_ i s p e1 e2).f f (hs s fun y_ => a5_ i (by rw [← y_]; exact e1)), a4_, a5_⟩
theorem zm_W.lab {G : am_G} {o : Nat → Nat} {h : List am_C} {qw now : Nat} {P : List sp_S} (a : zm_W G h o qw now P) : o qw = 5 := by
  obtain ⟨_, ⟨_, _, _, _, _, -, -, -, -, -, -, z_, -⟩, -⟩ := a
  exact z_
theorem zm_x.lt {G : am_G} {h : List am_C} {o : Nat → Nat} {x tx now qw : Nat} {th j m k : Int} {c : sp_S} {P : List sp_S} (a : zm_x G h o x tx now qw th j m k c P) : 1000 ≤ now := by
  obtain ⟨-, -, ⟨_, _, _, _, _, _, _, _, -, ⟨-, z_⟩, -⟩, -⟩ := a
  exact z_
/-- the reference's own cell is written -/
theorem zm_x.own {G : am_G} {h h' : List am_C} {o : Nat → Nat} {x tx now qw : Nat} {th j m k th2 j2 m2 k2 : Int} {c : sp_S} {P : List sp_S} (a : zm_x G h o x tx now qw th j m k c P) (w : hd_w G h h' x (tx, zm_c th2 now qw j2 m2 k2)) : zm_x G h' o x tx now qw th2 j2 m2 k2 c P := by
  obtain ⟨a1_, a2_, a3_, a4_⟩ := a
  have f_ : zm_f G o o h h' (fun y k => y = x ∧ k = 19) := zm_f.w a1_ w ⟨rfl, a2_.1⟩
  have ok_ : zm_ok (fun y k => y = x ∧ k = 19) := fun y k hD => by
    obtain ⟨y1_, y2_⟩ := hD
    omega
  have no_ : ∀ s, zm_no o s (fun y k => y = x ∧ k = 19) := fun s => ⟨ok_, fun y_ => absurd y_.2 (by decide), fun _ _ y_ => absurd y_.2 (by decide), fun _ _ => ⟨fun y_ => absurd y_.2 (by decide), fun _ _ y_ => absurd y_.2 (by decide)⟩⟩
  exact ⟨w.at, a2_, a3_.f f_ (no_ _), a4_.f f_ ok_ (fun y_ => absurd y_.2 (by decide)) (fun _ _ y_ => absurd y_.2 (by decide)) fun s _ => no_ s⟩
/-- new cells -/
theorem zm_x.g {G : am_G} {h h' : List am_C} {o o' : Nat → Nat} {x tx now qw : Nat} {th j m k : Int} {c : sp_S} {P : List sp_S} (a : zm_x G h o x tx now qw th j m k c P) (f : zg G h h') (ho : ∀ y, y < 1000 + h.length → o' y = o y) : zm_x G h' o' x tx now qw th j m k c P := by
  obtain ⟨a1_, a2_, a3_, a4_⟩ := a
  have f_ : zm_f G o o' h h' (fun _ _ => False) := zm_f.g f ho
  exact ⟨f.2 _ _ a1_, a2_, a3_.f f_ zm_no.no, a4_.f f_ (fun _ _ y_ => y_.elim) id (fun _ _ y_ => y_) fun s _ => zm_no.no⟩
/-- outside the reference nothing has changed -/
def zm_fr (G : am_G) (h h' : List am_C) : Prop := h.length ≤ h'.length ∧ ∀ (y t : Nat) (vs : List Value), am_g G h y = some (t, vs) → (t % 100 ≠ 19 ∧ t % 100 ≠ 18 ∧ t % 100 ≠ 55 ∧ t % 100 ≠ 6 ∧ t % 100 ≠ 56) → am_g G h' y = some (t, vs)
theorem zm_fr.rf {G : am_G} {h : List am_C} : zm_fr G h h := ⟨Nat.le_refl _, fun _ _ _ e _ => e⟩
theorem zm_fr.tr {G : am_G} {h h' h2 : List am_C} (a : zm_fr G h h') (b : zm_fr G h' h2) : zm_fr G h h2 := ⟨Nat.le_trans a.1 b.1, fun y t vs e hk => b.2 y t vs (a.2 y t vs e hk) hk⟩
theorem zm_fr.f {G : am_G} {h h' : List am_C} {o o' : Nat → Nat} {D : Nat → Nat → Prop} (f : zm_f G o o' h h' D) (hk : zm_ok D) : zm_fr G h h' := ⟨f.1, fun y t vs e hn => f.2.2 y t vs e fun hD => by
  have := (hk _ _ hD).2
  omega⟩
theorem zm_fr.g {G : am_G} {h h' : List am_C} (f : zg G h h') : zm_fr G h h' := ⟨f.1, fun y t vs e _ => f.2 _ _ e⟩
theorem zm_fr.w {G : am_G} {h h' : List am_C} {q t : Nat} {vs : List Value} {c : am_C} (w : hd_w G h h' q c) (hg : am_g G h q = some (t, vs)) (ht : t % 100 = 19 ∨ t % 100 = 18 ∨ t % 100 = 55) : zm_fr G h h' := ⟨Nat.le_of_eq w.1.symm, fun y t2 v2 e hn => (w.ne fun y_ => by
  rw [y_, hg] at e
  have e2_ := congrArg Prod.fst (Option.some.inj e)
  dsimp only at e2_
  omega).trans e⟩
theorem zm_fr.num {G : am_G} {h h' : List am_C} {q : Nat} {z : Int} (f : zm_fr G h h') (a : zn_N G h q z) : zn_N G h' q z := by
  obtain ⟨t_, d_, td_, b_, ds_, a1_, a2_, a3_, a4_, a5_⟩ := a
  exact ⟨t_, d_, td_, b_, ds_, f.2 _ _ _ a1_ (by omega), a2_, f.2 _ _ _ a3_ (by omega), a4_, a5_⟩
/-- the reference -/
def zm_X (G : am_G) (h : List am_C) (x : Nat) (th j m k : Int) (c : sp_S) (P : List sp_S) : Prop := ∃ (o : Nat → Nat) (tx now qw : Nat), zm_x G h o x tx now qw th j m k c P
theorem zm_nv {vs : List Nat} {i v : Nat} (h : vs[i]? = some v) : (vs.map fun v => Value.ref v)[i]? = some (.ref v) := by
  rw [List.getElem?_map, h]
  rfl
def zm_d1 (q kd : Nat) : Nat → Nat → Prop := fun y k => y = q ∧ k = kd
theorem zm_d1.ok {q kd : Nat} (hq : 1000 ≤ q) (hk : kd = 19 ∨ kd = 18 ∨ kd = 55) : zm_ok (zm_d1 q kd) := fun y k hD => by
  obtain ⟨y1_, y2_⟩ := hD
  omega
theorem zm_d1.no {q kd k : Nat} {y : Nat} (h : kd ≠ k) : ¬ zm_d1 q kd y k := fun z => h z.2.symm
/-- the numbers of a state, and one written -/
theorem zm_x.numL {G : am_G} {h : List am_C} {o : Nat → Nat} {x tx now qw : Nat} {th j m k : Int} {c : sp_S} {P : List sp_S} (a : zm_x G h o x tx now qw th j m k c P) : ∃ (t qn tn ql qb : Nat) (vn : List Nat), (am_g G h now = some (t, [.int (Int32.ofInt c.1), .ref qn, .ref ql, .ref qb]) ∧ t % 100 = 18) ∧ (am_g G h qn = some (tn, vn.map fun v => Value.ref v) ∧ tn % 100 = 55 ∧ 1000 ≤ qn) ∧ (vn.length = c.2.1.length ∧ ∀ (i v : Nat) (z : Int), vn[i]? = some v → c.2.1[i]? = some z → zn_N G h v z) ∧ ∀ (h' : List am_C) (i q : Nat) (z : Int), hd_w G h h' qn (tn, (vn.map fun v => Value.ref v).set i (.ref q)) → zn_N G h q z → zm_x G h' o x tx now qw th j m k (c.1, c.2.1.set i z, c.2.2) P := by
  obtain ⟨a1_, a2_, hs_, hw_⟩ := a
  obtain ⟨t_, qn_, tn_, ql_, qb_, vn_, vl_, vb_, s1_, ⟨s2_, s3_⟩, ⟨b1_, b2_, b3_, b4_⟩, ⟨c1_, c2_⟩, ⟨d1_, d2_⟩, ⟨e1_, e2_⟩, ⟨f1_, f2_⟩⟩ := hs_
  refine ⟨t_, qn_, tn_, ql_, qb_, vn_, ⟨s1_, s2_⟩, ⟨b1_, b2_, b3_⟩, ⟨d1_, d2_⟩, fun h' i q z w hz => ?_⟩
  have f_ : zm_f G o o h h' (zm_d1 qn_ 55) := zm_f.w b1_ w ⟨rfl, b2_⟩
  have ok_ : zm_ok (zm_d1 qn_ 55) := zm_d1.ok b3_ (by decide)
  have no_ : ∀ s, s ≠ now → zm_no o s (zm_d1 qn_ 55) := fun s hn => ⟨ok_, zm_d1.no (by decide), fun y e y_ => by
    have z_ := y_.1
    rw [z_] at e
    omega, fun _ _ => ⟨zm_d1.no (by decide), fun _ _ => zm_d1.no (by decide)⟩⟩
  refine ⟨f_.2.2 _ _ _ a1_ (by rw [a2_.1]; exact zm_d1.no (by decide)), a2_, ⟨t_, qn_, tn_, ql_, qb_, vn_.set i q, vl_, vb_, f_.2.2 _ _ _ s1_ (by rw [s2_]; exact zm_d1.no (by decide)), ⟨s2_, s3_⟩, ⟨w.at.trans (by rw [List.map_set]), b2_, b3_, b4_⟩, ⟨c1_.f f_ ok_ (zm_d1.no (by decide)) (fun _ _ => zm_d1.no (by decide)), c2_.f f_ ok_ (zm_d1.no (by decide)) (fun _ _ => zm_d1.no (by decide))⟩, ⟨by rw [List.length_set]; exact d1_.trans List.length_set.symm, fun i2 v2 z2 h1 h2 => ?_⟩, ⟨e1_, fun i2 v2 z2 h1 h2 => (e2_ _ _ _ h1 h2).f f_ ok_⟩, ⟨f1_, fun i2 v2 z2 h1 h2 => (f2_ _ _ _ h1 h2).f f_ ok_⟩⟩, hw_.f f_ ok_ (zm_d1.no (by decide)) (fun _ _ => zm_d1.no (by decide)) no_⟩
  have h2 : (c.2.1.set i z)[i2]? = some z2 := h2
  rw [List.getElem?_set] at h1 h2
  by_cases e_ : i = i2
  · rw [if_pos e_] at h1 h2
    split at h1
    · rw [if_pos (by omega)] at h2
      cases h1
      cases h2
      exact hz.f f_ ok_
    · cases h1
  · rw [if_neg e_] at h1 h2
    exact (d2_ _ _ _ h1 h2).f f_ ok_
/-- the dial written -/
theorem zm_x.dialL {G : am_G} {h : List am_C} {o : Nat → Nat} {x tx now qw : Nat} {th j m k : Int} {c : sp_S} {P : List sp_S} (a : zm_x G h o x tx now qw th j m k c P) : ∃ (t qn ql qb : Nat), (am_g G h now = some (t, [.int (Int32.ofInt c.1), .ref qn, .ref ql, .ref qb]) ∧ t % 100 = 18) ∧ ∀ (h' : List am_C) (d : Int), hd_w G h h' now (t, [.int (Int32.ofInt d), .ref qn, .ref ql, .ref qb]) → zm_x G h' o x tx now qw th j m k (d, c.2) P := by
  obtain ⟨a1_, a2_, hs_, hw_⟩ := a
  obtain ⟨t_, qn_, tn_, ql_, qb_, vn_, vl_, vb_, s1_, ⟨s2_, s3_⟩, ⟨b1_, b2_, b3_, b4_⟩, ⟨c1_, c2_⟩, ⟨d1_, d2_⟩, ⟨e1_, e2_⟩, ⟨f1_, f2_⟩⟩ := hs_
  refine ⟨t_, qn_, ql_, qb_, ⟨s1_, s2_⟩, fun h' d w => ?_⟩
  have f_ : zm_f G o o h h' (zm_d1 now 18) := zm_f.w s1_ w ⟨rfl, s2_⟩
  have ok_ : zm_ok (zm_d1 now 18) := zm_d1.ok s3_ (by decide)
  have no_ : ∀ s, s ≠ now → zm_no o s (zm_d1 now 18) := fun s hn => ⟨ok_, fun y_ => hn y_.1, fun _ _ => zm_d1.no (by decide), fun _ _ => ⟨zm_d1.no (by decide), fun _ _ => zm_d1.no (by decide)⟩⟩
  exact ⟨f_.2.2 _ _ _ a1_ (by rw [a2_.1]; exact zm_d1.no (by decide)), a2_, ⟨t_, qn_, tn_, ql_, qb_, vn_, vl_, vb_, w.at, ⟨s2_, s3_⟩, ⟨f_.2.2 _ _ _ b1_ (by rw [b2_]; exact zm_d1.no (by decide)), b2_, b3_, b4_⟩, ⟨c1_.f f_ ok_ (zm_d1.no (by decide)) (fun _ _ => zm_d1.no (by decide)), c2_.f f_ ok_ (zm_d1.no (by decide)) (fun _ _ => zm_d1.no (by decide))⟩, ⟨d1_, fun i2 v2 z2 h1 h2 => (d2_ _ _ _ h1 h2).f f_ ok_⟩, ⟨e1_, fun i2 v2 z2 h1 h2 => (e2_ _ _ _ h1 h2).f f_ ok_⟩, ⟨f1_, fun i2 v2 z2 h1 h2 => (f2_ _ _ _ h1 h2).f f_ ok_⟩⟩, hw_.f f_ ok_ (zm_d1.no (by decide)) (fun _ _ => zm_d1.no (by decide)) no_⟩
theorem zm_l.lab {G : am_G} {o : Nat → Nat} {h : List am_C} {q lab : Nat} {vs : List Nat} (a : zm_l G h o q lab vs) : o q = lab ∧ 1000 ≤ q := by
  obtain ⟨_, _, _, _, _, -, -, -, -, ⟨-, y_⟩, -, z_, -⟩ := a
  exact ⟨z_, y_⟩
/-- a list of the state that is now: others are left alone -/
theorem zm_d4.no {o : Nat → Nat} {q s now d : Nat} (hq : o q = 8 * now + d) (hd : d = 2 ∨ d = 3) (hs : s ≠ now) : zm_no o s (zm_d4 o q) := ⟨zm_d4.ok, fun h => by
  obtain ⟨-, h2_⟩ := h
  omega, fun y e h => by
  obtain ⟨-, h2_⟩ := h
  omega, fun y e => ⟨fun h => by
  obtain ⟨-, h2_⟩ := h
  have z_ : y = q := by omega
  rw [z_] at e
  omega, fun p e2 h => by
  obtain ⟨-, h2_⟩ := h
  have z_ : y = q := by omega
  rw [z_] at e
  omega⟩⟩
theorem zm_d4.nk {o : Nat → Nat} {q y k : Nat} (h6 : k ≠ 6) (h56 : k ≠ 56) : ¬ zm_d4 o q y k := fun h => by
  obtain ⟨-, h2_⟩ := h
  omega
theorem zm_d4.n6 {o : Nat → Nat} {q y : Nat} (h : y ≠ q) : ¬ zm_d4 o q y 6 := fun h2 => by
  obtain ⟨-, h2_⟩ := h2
  omega
theorem zm_d4.n56 {o : Nat → Nat} {q y p : Nat} (h : y ≠ q) (e : o p = 8 * y + 4) : ¬ zm_d4 o q p 56 := fun h2 => by
  obtain ⟨-, h2_⟩ := h2
  omega
/-- the rows of a state -/
theorem zm_x.rowL {G : am_G} {h : List am_C} {o : Nat → Nat} {x tx now qw : Nat} {th j m k : Int} {c : sp_S} {P : List sp_S} (a : zm_x G h o x tx now qw th j m k c P) : ∃ (t qn ql qb : Nat) (vl : List Nat), (am_g G h now = some (t, [.int (Int32.ofInt c.1), .ref qn, .ref ql, .ref qb]) ∧ t % 100 = 18) ∧ zm_l G h o ql (8 * now + 2) vl ∧ (vl.length = c.2.2.1.length ∧ ∀ (i v : Nat) (r : Int × Int), vl[i]? = some v → c.2.2.1[i]? = some r → zm_r G h v r) ∧ ∀ (h' : List am_C) (o' : Nat → Nat) (vl2 : List Nat) (R : List (Int × Int)), zm_f G o o' h h' (zm_d4 o ql) → zm_l G h' o' ql (8 * now + 2) vl2 → vl2.length = R.length → (∀ (i v : Nat) (r : Int × Int), vl2[i]? = some v → R[i]? = some r → zm_r G h' v r) → zm_x G h' o' x tx now qw th j m k (c.1, c.2.1, R, c.2.2.2) P := by
  obtain ⟨a1_, a2_, hs_, hw_⟩ := a
  obtain ⟨t_, qn_, tn_, ql_, qb_, vn_, vl_, vb_, s1_, ⟨s2_, s3_⟩, ⟨b1_, b2_, b3_, b4_⟩, ⟨c1_, c2_⟩, ⟨d1_, d2_⟩, ⟨e1_, e2_⟩, ⟨f1_, f2_⟩⟩ := hs_
  refine ⟨t_, qn_, ql_, qb_, vl_, ⟨s1_, s2_⟩, c1_, ⟨e1_, e2_⟩, fun h' o' vl2 R f_ hl h1 h2 => ?_⟩
  have ok_ : zm_ok (zm_d4 o ql_) := zm_d4.ok
  have l1_ := c1_.lab.1
  have l2_ := c2_.lab.1
  have n1_ : qb_ ≠ ql_ := fun y_ => by
    rw [y_] at l2_
    omega
  have l3_ := hw_.lab
  have n2_ : qw ≠ ql_ := fun y_ => by
    rw [y_] at l3_
    omega
  exact ⟨f_.2.2 _ _ _ a1_ (by rw [a2_.1]; exact zm_d4.nk (by decide) (by decide)), a2_, ⟨t_, qn_, tn_, ql_, qb_, vn_, vl2, vb_, f_.2.2 _ _ _ s1_ (by rw [s2_]; exact zm_d4.nk (by decide) (by decide)), ⟨s2_, s3_⟩, ⟨f_.2.2 _ _ _ b1_ (by rw [b2_]; exact zm_d4.nk (by decide) (by decide)), b2_, b3_, (f_.2.1 _ (zg_lt b1_)).trans b4_⟩, ⟨hl, c2_.f f_ ok_ (zm_d4.n6 n1_) (fun _ e => zm_d4.n56 n1_ e)⟩, ⟨d1_, fun i2 v2 z2 h1 h2 => (d2_ _ _ _ h1 h2).f f_ ok_⟩, ⟨h1, h2⟩, ⟨f1_, fun i2 v2 z2 h1 h2 => (f2_ _ _ _ h1 h2).f f_ ok_⟩⟩, hw_.f f_ ok_ (zm_d4.n6 n2_) (fun _ e => zm_d4.n56 n2_ e) fun s hs => zm_d4.no l1_ (Or.inl rfl) hs⟩
/-- the bases of a state -/
theorem zm_x.baseL {G : am_G} {h : List am_C} {o : Nat → Nat} {x tx now qw : Nat} {th j m k : Int} {c : sp_S} {P : List sp_S} (a : zm_x G h o x tx now qw th j m k c P) : ∃ (t qn ql qb : Nat) (vb : List Nat), (am_g G h now = some (t, [.int (Int32.ofInt c.1), .ref qn, .ref ql, .ref qb]) ∧ t % 100 = 18) ∧ zm_l G h o qb (8 * now + 3) vb ∧ (vb.length = c.2.2.2.length ∧ ∀ (i v : Nat) (b : Int), vb[i]? = some v → c.2.2.2[i]? = some b → zm_i G h v b) ∧ ∀ (h' : List am_C) (o' : Nat → Nat) (vb2 : List Nat) (B : List Int), zm_f G o o' h h' (zm_d4 o qb) → zm_l G h' o' qb (8 * now + 3) vb2 → vb2.length = B.length → (∀ (i v : Nat) (b : Int), vb2[i]? = some v → B[i]? = some b → zm_i G h' v b) → zm_x G h' o' x tx now qw th j m k (c.1, c.2.1, c.2.2.1, B) P := by
  obtain ⟨a1_, a2_, hs_, hw_⟩ := a
  obtain ⟨t_, qn_, tn_, ql_, qb_, vn_, vl_, vb_, s1_, ⟨s2_, s3_⟩, ⟨b1_, b2_, b3_, b4_⟩, ⟨c1_, c2_⟩, ⟨d1_, d2_⟩, ⟨e1_, e2_⟩, ⟨f1_, f2_⟩⟩ := hs_
  refine ⟨t_, qn_, ql_, qb_, vb_, ⟨s1_, s2_⟩, c2_, ⟨f1_, f2_⟩, fun h' o' vb2 B f_ hl h1 h2 => ?_⟩
  have ok_ : zm_ok (zm_d4 o qb_) := zm_d4.ok
  have l1_ := c1_.lab.1
  have l2_ := c2_.lab.1
  have n1_ : ql_ ≠ qb_ := fun y_ => by
    rw [y_] at l1_
    omega
  have l3_ := hw_.lab
  have n2_ : qw ≠ qb_ := fun y_ => by
    rw [y_] at l3_
    omega
  exact ⟨f_.2.2 _ _ _ a1_ (by rw [a2_.1]; exact zm_d4.nk (by decide) (by decide)), a2_, ⟨t_, qn_, tn_, ql_, qb_, vn_, vl_, vb2, f_.2.2 _ _ _ s1_ (by rw [s2_]; exact zm_d4.nk (by decide) (by decide)), ⟨s2_, s3_⟩, ⟨f_.2.2 _ _ _ b1_ (by rw [b2_]; exact zm_d4.nk (by decide) (by decide)), b2_, b3_, (f_.2.1 _ (zg_lt b1_)).trans b4_⟩, ⟨c1_.f f_ ok_ (zm_d4.n6 n1_) (fun _ e => zm_d4.n56 n1_ e), hl⟩, ⟨d1_, fun i2 v2 z2 h1 h2 => (d2_ _ _ _ h1 h2).f f_ ok_⟩, ⟨e1_, fun i2 v2 z2 h1 h2 => (e2_ _ _ _ h1 h2).f f_ ok_⟩, ⟨h1, h2⟩⟩, hw_.f f_ ok_ (zm_d4.n6 n2_) (fun _ e => zm_d4.n56 n2_ e) fun s hs => zm_d4.no l2_ (Or.inr rfl) hs⟩
end
section
/-! HELPS OF THE REFERENCE, TO BE WALKED BY HAND -/
def gt_yX14_isIn_X : ck_TB := ([], [], [], [], [], [], [], [], ([], [], [], []), [], [], [], 1)
def ge_yX14_isIn_X : ck_E := (gT, [], (([], [], [], 0, []), ((0, []), (0, [])), [], [], ([], [], [], 0, []), []), 3, [(0, (0, 3, 0, 0, 1, 0, [])), (1, (0, 3, 1, 0, 2, 0, [])), (2, (2, 2, 0, 0, 5, 14, [])), (5, (0, 3, 0, 0, 6, 0, [])), (6, (0, 3, 2, 0, 7, 0, [])), (7, (2, 4, 0, 0, 10, 14, [])), (10, (0, 0, 0, 1, 11, 0, [])), (11, (3, 0, 0, 0, 0, 15, [])), (14, (0, 0, 0, 0, 15, 0, [])), (15, (14, 0, 0, 1, 0, 0, []))], [], [], [], [])
theorem gd_yX14_isIn_X : ck_dec prog_14_method_5_code gt_yX14_isIn_X ge_yX14_isIn_X.2.2.2.2.1 = true := by decide +kernel
theorem gh_yX14_isIn_X {l : Launch} {G : am_G} {X : ck_XT} (g : gM l G X) {a : List Value} {h : List am_C} {mc ms : Nat} {Post : am_O → List am_C → Prop} (hay : (am_lay a).length ≤ 3) (H : ∀ (S : ck_SS) (SX : Nat → ck_SX), ck_hs G S SX Post mc ms (ck_cms []) ge_yX14_isIn_X → (∀ pc, ck_sR G S pc) → ck_hw S → zw_hx SX Post mc ms → S 0 (am_ent a 3) [] h 0 0) : am_M l G yX14_isIn (.code yX14_isIn prog_14_method_5_code 3 (some .boolean)) 1 20 mc ms a h Post :=
  zw_handX (E := ge_yX14_isIn_X) (tb := gt_yX14_isIn_X) (init := false) (cm := (ck_cms [])) g.1.1 (by decide +kernel) rfl gd_yX14_isIn_X ⟨(List.forall_mem_nil _), (List.forall_mem_nil _), (List.forall_mem_nil _), (List.forall_mem_nil _), (List.forall_mem_nil _), (List.forall_mem_nil _), (List.forall_mem_nil _), (List.forall_mem_nil _)⟩ (List.forall_mem_nil _) (fun h => nomatch h) ⟨_, rfl, rfl⟩ (by decide) (by decide) g_oi g_ar
    (fun s hk _ => (List.forall_mem_nil _)) (fun s hk => (List.forall_mem_nil _))
    (List.forall_mem_nil _) (List.forall_mem_nil _) (List.forall_mem_nil _) (List.forall_mem_nil _)
    (List.forall_mem_nil _) hay H
def gt_yX14_isNoSlot_X : ck_TB := ([], [], [], [], [], [], [], [], ([], [], [(39, 0)], []), [], [], [], 1)
def ge_yX14_isNoSlot_X : ck_E := (gT, [], (([], [], [], 0, []), ((0, []), (0, [])), [], [], ([], [], [], 0, []), []), 1, [(0, (0, 3, 0, 0, 1, 0, [])), (1, (0, 0, 0, 0, 2, 0, [])), (2, (0, 0, 0, 5, 3, 0, [])), (3, (16, 0, 0, 0, 6, 0, [])), (6, (1, 1, 0, 0, 9, 13, [])), (9, (0, 0, 0, 1, 10, 0, [])), (10, (3, 0, 0, 0, 0, 14, [])), (13, (0, 0, 0, 0, 14, 0, [])), (14, (14, 0, 0, 1, 0, 0, []))], [(none, 3, [])], [], [], [])
theorem gd_yX14_isNoSlot_X : ck_dec prog_14_method_6_code gt_yX14_isNoSlot_X ge_yX14_isNoSlot_X.2.2.2.2.1 = true := by decide +kernel
theorem gh_yX14_isNoSlot_X {l : Launch} {G : am_G} {X : ck_XT} (g : gM l G X) {a : List Value} {h : List am_C} {mc ms : Nat} {Post : am_O → List am_C → Prop} (hay : (am_lay a).length ≤ 1) (H : ∀ (S : ck_SS) (SX : Nat → ck_SX), ck_hs G S SX Post mc ms (ck_cms [am_cm l G yX14_isIn (.code yX14_isIn prog_14_method_5_code 3 (some .boolean)) 1 20]) ge_yX14_isNoSlot_X → (∀ pc, ck_sR G S pc) → ck_hw S → zw_hx SX Post mc ms → S 0 (am_ent a 1) [] h 0 0) : am_M l G yX14_isNoSlot (.code yX14_isNoSlot prog_14_method_6_code 1 (some .boolean)) 2 42 mc ms a h Post :=
  zw_handX (E := ge_yX14_isNoSlot_X) (tb := gt_yX14_isNoSlot_X) (init := false) (cm := (ck_cms [am_cm l G yX14_isIn (.code yX14_isIn prog_14_method_5_code 3 (some .boolean)) 1 20])) g.1.1 (by decide +kernel) rfl gd_yX14_isNoSlot_X ⟨(List.forall_mem_nil _), (List.forall_mem_nil _), (List.forall_mem_nil _), (List.forall_mem_nil _), (List.forall_mem_nil _), (List.forall_mem_nil _), (List.forall_mem_nil _), (List.forall_mem_nil _)⟩ (List.forall_mem_nil _) (fun h => nomatch h) ⟨_, rfl, rfl⟩ (by decide) (by decide) g_oi g_ar
    (fun s hk _ => (List.forall_mem_nil _)) (fun s hk => (List.forall_mem_nil _))
    (List.forall_mem_nil _) (List.forall_mem_nil _) (List.forall_mem_cons.mpr ⟨(ck_kS g_y_yX14_isIn w1744 w1745 (by decide) (by decide)), (List.forall_mem_nil _)⟩) (List.forall_mem_nil _)
    (List.forall_mem_nil _) hay H
def gt_yX14_isNoRow_X : ck_TB := ([], [], [], [], [], [], [], [], ([], [], [(39, 0)], []), [], [], [], 1)
def ge_yX14_isNoRow_X : ck_E := (gT, [], (([], [], [], 0, []), ((0, []), (0, [])), [], [], ([], [], [], 0, []), []), 2, [(0, (0, 3, 0, 0, 1, 0, [])), (1, (0, 0, 0, (-9999), 4, 0, [])), (4, (0, 0, 0, 9999, 7, 0, [])), (7, (16, 0, 0, 0, 10, 0, [])), (10, (1, 0, 0, 0, 13, 24, [])), (13, (0, 3, 1, 0, 14, 0, [])), (14, (0, 0, 0, 1, 15, 0, [])), (15, (0, 0, 0, 999, 18, 0, [])), (18, (16, 0, 0, 0, 21, 0, [])), (21, (1, 1, 0, 0, 24, 28, [])), (24, (0, 0, 0, 1, 25, 0, [])), (25, (3, 0, 0, 0, 0, 29, [])), (28, (0, 0, 0, 0, 29, 0, [])), (29, (14, 0, 0, 1, 0, 0, []))], [(none, 3, [])], [], [], [])
theorem gd_yX14_isNoRow_X : ck_dec prog_14_method_27_code gt_yX14_isNoRow_X ge_yX14_isNoRow_X.2.2.2.2.1 = true := by decide +kernel
theorem gh_yX14_isNoRow_X {l : Launch} {G : am_G} {X : ck_XT} (g : gM l G X) {a : List Value} {h : List am_C} {mc ms : Nat} {Post : am_O → List am_C → Prop} (hay : (am_lay a).length ≤ 2) (H : ∀ (S : ck_SS) (SX : Nat → ck_SX), ck_hs G S SX Post mc ms (ck_cms [am_cm l G yX14_isIn (.code yX14_isIn prog_14_method_5_code 3 (some .boolean)) 1 20]) ge_yX14_isNoRow_X → (∀ pc, ck_sR G S pc) → ck_hw S → zw_hx SX Post mc ms → S 0 (am_ent a 2) [] h 0 0) : am_M l G yX14_isNoRow (.code yX14_isNoRow prog_14_method_27_code 2 (some .boolean)) 2 42 mc ms a h Post :=
  zw_handX (E := ge_yX14_isNoRow_X) (tb := gt_yX14_isNoRow_X) (init := false) (cm := (ck_cms [am_cm l G yX14_isIn (.code yX14_isIn prog_14_method_5_code 3 (some .boolean)) 1 20])) g.1.1 (by decide +kernel) rfl gd_yX14_isNoRow_X ⟨(List.forall_mem_nil _), (List.forall_mem_nil _), (List.forall_mem_nil _), (List.forall_mem_nil _), (List.forall_mem_nil _), (List.forall_mem_nil _), (List.forall_mem_nil _), (List.forall_mem_nil _)⟩ (List.forall_mem_nil _) (fun h => nomatch h) ⟨_, rfl, rfl⟩ (by decide) (by decide) g_oi g_ar
    (fun s hk _ => (List.forall_mem_nil _)) (fun s hk => (List.forall_mem_nil _))
    (List.forall_mem_nil _) (List.forall_mem_nil _) (List.forall_mem_cons.mpr ⟨(ck_kS g_y_yX14_isIn w1744 w1745 (by decide) (by decide)), (List.forall_mem_nil _)⟩) (List.forall_mem_nil _)
    (List.forall_mem_nil _) hay H
def gt_yX14_isNoPlace_X : ck_TB := ([], [], [], [(18, 19, 1), (160, 18, 2)], [], [], [], [], ([(51, 0)], [], [(39, 1)], []), [], [], [], 1)
def ge_yX14_isNoPlace_X : ck_E := (gT, [], (([], [], [], 0, []), ((0, []), (0, [])), [], [], ([], [], [], 0, []), []), 2, [(0, (0, 3, 1, 0, 1, 0, [])), (1, (0, 0, 0, 0, 2, 0, [])), (2, (0, 5, 0, 0, 3, 0, [])), (3, (7, 19, 1, 0, 6, 0, [])), (6, (7, 18, 2, 0, 9, 0, [])), (9, (16, 0, 0, 0, 12, 0, [])), (12, (0, 0, 0, 1, 13, 0, [])), (13, (0, 15, 1, 0, 14, 0, [])), (14, (16, 1, 0, 0, 17, 0, [])), (17, (1, 1, 0, 0, 20, 24, [])), (20, (0, 0, 0, 1, 21, 0, [])), (21, (3, 0, 0, 0, 0, 25, [])), (24, (0, 0, 0, 0, 25, 0, [])), (25, (14, 0, 0, 1, 0, 0, []))], [(some 6, 1, []), (none, 3, [])], [], [], [])
theorem gd_yX14_isNoPlace_X : ck_dec prog_14_method_35_code gt_yX14_isNoPlace_X ge_yX14_isNoPlace_X.2.2.2.2.1 = true := by decide +kernel
theorem gh_yX14_isNoPlace_X {l : Launch} {G : am_G} {X : ck_XT} (g : gM l G X) {a : List Value} {h : List am_C} {mc ms : Nat} {Post : am_O → List am_C → Prop} (hay : (am_lay a).length ≤ 2) (H : ∀ (S : ck_SS) (SX : Nat → ck_SX), ck_hs G S SX Post mc ms (ck_cms [am_cm l G yJx4a65c_size_8abf5 (.code yJx4a65c_size_8abf5 prog_46_method_8_code 1 (some .int)) 1 20, am_cm l G yX14_isIn (.code yX14_isIn prog_14_method_5_code 3 (some .boolean)) 1 20]) ge_yX14_isNoPlace_X → (∀ pc, ck_sR G S pc) → ck_hw S → zw_hx SX Post mc ms → S 0 (am_ent a 2) [] h 0 0) : am_M l G yX14_isNoPlace (.code yX14_isNoPlace prog_14_method_35_code 2 (some .boolean)) 2 42 mc ms a h Post :=
  zw_handX (E := ge_yX14_isNoPlace_X) (tb := gt_yX14_isNoPlace_X) (init := false) (cm := (ck_cms [am_cm l G yJx4a65c_size_8abf5 (.code yJx4a65c_size_8abf5 prog_46_method_8_code 1 (some .int)) 1 20, am_cm l G yX14_isIn (.code yX14_isIn prog_14_method_5_code 3 (some .boolean)) 1 20])) g.1.1 (by decide +kernel) rfl gd_yX14_isNoPlace_X ⟨(List.forall_mem_nil _), (List.forall_mem_nil _), (List.forall_mem_nil _), (List.forall_mem_cons.mpr ⟨⟨⟨_, _, _, rfl, Or.inl w1718⟩, by decide, _, _, g_fd19_1⟩, (List.forall_mem_cons.mpr ⟨⟨⟨_, _, _, rfl, Or.inl w1703⟩, by decide, _, _, g_fd18_2⟩, (List.forall_mem_nil _)⟩)⟩), (List.forall_mem_nil _), (List.forall_mem_nil _), (List.forall_mem_nil _), (List.forall_mem_nil _)⟩ (List.forall_mem_nil _) (fun h => nomatch h) ⟨_, rfl, rfl⟩ (by decide) (by decide) g_oi g_ar
    (fun s hk _ => (List.forall_mem_nil _)) (fun s hk => (List.forall_mem_nil _))
    (List.forall_mem_cons.mpr ⟨(ck_kV g_y_yJx4a65c_size_8abf5 w1898 w1899 w1900 (T := TJx4a65c) (N := 3) rfl (by decide) (by decide) (by decide)), (List.forall_mem_nil _)⟩) (List.forall_mem_nil _) (List.forall_mem_cons.mpr ⟨(ck_kS g_y_yX14_isIn w1744 w1745 (by decide) (by decide)), (List.forall_mem_nil _)⟩) (List.forall_mem_nil _)
    (List.forall_mem_nil _) hay H
def gt_yX14_refuse_X : ck_TB := ([], [], [], [(31, 19, 0)], [(31, 19, 0, 0)], [], [], [], ([], [], [], []), [], [], [], 1)
def ge_yX14_refuse_X : ck_E := (gT, [], (([], [], [], 0, []), ((0, []), (0, [])), [], [], ([], [], [], 0, []), []), 3, [(0, (0, 3, 1, 0, 1, 0, [])), (1, (1, 0, 0, 0, 4, 16, [])), (4, (0, 5, 0, 0, 5, 0, [])), (5, (7, 19, 0, 0, 8, 0, [])), (8, (1, 1, 0, 0, 11, 16, [])), (11, (0, 5, 0, 0, 12, 0, [])), (12, (0, 3, 2, 0, 13, 0, [])), (13, (8, 19, 0, 0, 16, 0, [])), (16, (0, 5, 0, 0, 17, 0, [])), (17, (7, 19, 0, 0, 20, 0, [])), (20, (1, 5, 0, 0, 23, 27, [])), (23, (0, 0, 0, 1, 24, 0, [])), (24, (3, 0, 0, 0, 0, 28, [])), (27, (0, 0, 0, 0, 28, 0, [])), (28, (14, 0, 0, 1, 0, 0, []))], [], [], [], [])
theorem gd_yX14_refuse_X : ck_dec prog_14_method_3_code gt_yX14_refuse_X ge_yX14_refuse_X.2.2.2.2.1 = true := by decide +kernel
theorem gh_yX14_refuse_X {l : Launch} {G : am_G} {X : ck_XT} (g : gM l G X) {a : List Value} {h : List am_C} {mc ms : Nat} {Post : am_O → List am_C → Prop} (hay : (am_lay a).length ≤ 3) (H : ∀ (S : ck_SS) (SX : Nat → ck_SX), ck_hs G S SX Post mc ms (ck_cms []) ge_yX14_refuse_X → (∀ pc, ck_sR G S pc) → ck_hw S → zw_hx SX Post mc ms → S 0 (am_ent a 3) [] h 0 0) : am_M l G yX14_refuse (.code yX14_refuse prog_14_method_3_code 3 (some .boolean)) 1 20 mc ms a h Post :=
  zw_handX (E := ge_yX14_refuse_X) (tb := gt_yX14_refuse_X) (init := false) (cm := (ck_cms [])) g.1.1 (by decide +kernel) rfl gd_yX14_refuse_X ⟨(List.forall_mem_nil _), (List.forall_mem_nil _), (List.forall_mem_nil _), (List.forall_mem_cons.mpr ⟨⟨⟨_, _, _, rfl, Or.inl w1717⟩, by decide, _, _, g_fd19_0⟩, (List.forall_mem_nil _)⟩), (List.forall_mem_nil _), (List.forall_mem_nil _), (List.forall_mem_nil _), (List.forall_mem_nil _)⟩ (List.forall_mem_cons.mpr ⟨⟨⟨_, _, _, rfl, Or.inl w1717⟩, by decide, _, rfl, Or.inl g_fd19_0⟩, (List.forall_mem_nil _)⟩) (fun h => nomatch h) ⟨_, rfl, rfl⟩ (by decide) (by decide) g_oi g_ar
    (fun s hk _ => (List.forall_mem_nil _)) (fun s hk => (List.forall_mem_nil _))
    (List.forall_mem_nil _) (List.forall_mem_nil _) (List.forall_mem_nil _) (List.forall_mem_nil _)
    (List.forall_mem_nil _) hay H
def gt_yX14_start_X : ck_TB := ([], [], [], [], [(31, 19, 0, 0)], [], [], [], ([(35, 0)], [], [], []), [], [], [], 1)
def ge_yX14_start_X : ck_E := (gT, [], (([], [], [], 0, []), ((0, []), (0, [])), [], [], ([], [], [], 0, []), []), 3, [(0, (0, 5, 0, 0, 1, 0, [])), (1, (0, 0, 0, 0, 2, 0, [])), (2, (8, 19, 0, 0, 5, 0, [])), (5, (0, 5, 0, 0, 6, 0, [])), (6, (0, 3, 1, 0, 7, 0, [])), (7, (0, 3, 2, 0, 8, 0, [])), (8, (16, 0, 0, 0, 11, 0, [])), (11, (14, 0, 0, 1, 0, 0, []))], [(some 19, 3, [])], [], [], [])
theorem gd_yX14_start_X : ck_dec prog_14_method_4_code gt_yX14_start_X ge_yX14_start_X.2.2.2.2.1 = true := by decide +kernel
theorem gh_yX14_start_X {l : Launch} {G : am_G} {X : ck_XT} (g : gM l G X) {a : List Value} {h : List am_C} {mc ms : Nat} {Post : am_O → List am_C → Prop} (hay : (am_lay a).length ≤ 3) (H : ∀ (S : ck_SS) (SX : Nat → ck_SX), ck_hs G S SX Post mc ms (ck_cms [am_cm l G yX14_refuse (.code yX14_refuse prog_14_method_3_code 3 (some .boolean)) 1 20]) ge_yX14_start_X → (∀ pc, ck_sR G S pc) → ck_hw S → zw_hx SX Post mc ms → S 0 (am_ent a 3) [] h 0 0) : am_M l G yX14_start (.code yX14_start prog_14_method_4_code 3 (some .boolean)) 2 42 mc ms a h Post :=
  zw_handX (E := ge_yX14_start_X) (tb := gt_yX14_start_X) (init := false) (cm := (ck_cms [am_cm l G yX14_refuse (.code yX14_refuse prog_14_method_3_code 3 (some .boolean)) 1 20])) g.1.1 (by decide +kernel) rfl gd_yX14_start_X ⟨(List.forall_mem_nil _), (List.forall_mem_nil _), (List.forall_mem_nil _), (List.forall_mem_nil _), (List.forall_mem_nil _), (List.forall_mem_nil _), (List.forall_mem_nil _), (List.forall_mem_nil _)⟩ (List.forall_mem_cons.mpr ⟨⟨⟨_, _, _, rfl, Or.inl w1717⟩, by decide, _, rfl, Or.inl g_fd19_0⟩, (List.forall_mem_nil _)⟩) (fun h => nomatch h) ⟨_, rfl, rfl⟩ (by decide) (by decide) g_oi g_ar
    (fun s hk _ => (List.forall_mem_nil _)) (fun s hk => (List.forall_mem_nil _))
    (List.forall_mem_cons.mpr ⟨(ck_kV g_y_yX14_refuse w1751 w1753 w32 (T := TX14) (N := 6) rfl (by decide) (by decide) (by decide)), (List.forall_mem_nil _)⟩) (List.forall_mem_nil _) (List.forall_mem_nil _) (List.forall_mem_nil _)
    (List.forall_mem_nil _) hay H
def gt_yX14_isJammed_X : ck_TB := ([], [], [], [(18, 19, 1), (65, 18, 0)], [], [], [], [], ([], [], [], []), [], [], [], 1)
def ge_yX14_isJammed_X : ck_E := (gT, [], (([], [], [], 0, []), ((0, []), (0, [])), [], [], ([], [], [], 0, []), []), 1, [(0, (0, 5, 0, 0, 1, 0, [])), (1, (7, 19, 1, 0, 4, 0, [])), (4, (7, 18, 0, 0, 7, 0, [])), (7, (1, 4, 0, 0, 10, 14, [])), (10, (0, 0, 0, 1, 11, 0, [])), (11, (3, 0, 0, 0, 0, 15, [])), (14, (0, 0, 0, 0, 15, 0, [])), (15, (14, 0, 0, 1, 0, 0, []))], [], [], [], [])
theorem gd_yX14_isJammed_X : ck_dec prog_14_method_17_code gt_yX14_isJammed_X ge_yX14_isJammed_X.2.2.2.2.1 = true := by decide +kernel
theorem gh_yX14_isJammed_X {l : Launch} {G : am_G} {X : ck_XT} (g : gM l G X) {a : List Value} {h : List am_C} {mc ms : Nat} {Post : am_O → List am_C → Prop} (hay : (am_lay a).length ≤ 1) (H : ∀ (S : ck_SS) (SX : Nat → ck_SX), ck_hs G S SX Post mc ms (ck_cms []) ge_yX14_isJammed_X → (∀ pc, ck_sR G S pc) → ck_hw S → zw_hx SX Post mc ms → S 0 (am_ent a 1) [] h 0 0) : am_M l G yX14_isJammed (.code yX14_isJammed prog_14_method_17_code 1 (some .boolean)) 1 20 mc ms a h Post :=
  zw_handX (E := ge_yX14_isJammed_X) (tb := gt_yX14_isJammed_X) (init := false) (cm := (ck_cms [])) g.1.1 (by decide +kernel) rfl gd_yX14_isJammed_X ⟨(List.forall_mem_nil _), (List.forall_mem_nil _), (List.forall_mem_nil _), (List.forall_mem_cons.mpr ⟨⟨⟨_, _, _, rfl, Or.inl w1718⟩, by decide, _, _, g_fd19_1⟩, (List.forall_mem_cons.mpr ⟨⟨⟨_, _, _, rfl, Or.inl w1699⟩, by decide, _, _, g_fd18_0⟩, (List.forall_mem_nil _)⟩)⟩), (List.forall_mem_nil _), (List.forall_mem_nil _), (List.forall_mem_nil _), (List.forall_mem_nil _)⟩ (List.forall_mem_nil _) (fun h => nomatch h) ⟨_, rfl, rfl⟩ (by decide) (by decide) g_oi g_ar
    (fun s hk _ => (List.forall_mem_nil _)) (fun s hk => (List.forall_mem_nil _))
    (List.forall_mem_nil _) (List.forall_mem_nil _) (List.forall_mem_nil _) (List.forall_mem_nil _)
    (List.forall_mem_nil _) hay H
def gt_yX14_modAt_X : ck_TB := ([], [], [], [(18, 19, 1), (65, 18, 0), (68, 18, 1)], [], [], [], [], ([(106, 0), (110, 1)], [], [], []), [], [], [], 0)
def ge_yX14_modAt_X : ck_E := (gT, [], (([], [], [], 0, []), ((0, []), (0, [])), [], [], ([], [], [], 0, []), []), 2, [(0, (0, 5, 0, 0, 1, 0, [])), (1, (16, 0, 0, 0, 4, 0, [])), (4, (1, 0, 0, 0, 7, 12, [])), (7, (0, 0, 0, (-9), 9, 0, [])), (9, (3, 0, 0, 0, 0, 31, [])), (12, (0, 5, 0, 0, 13, 0, [])), (13, (7, 19, 1, 0, 16, 0, [])), (16, (7, 18, 1, 0, 19, 0, [])), (19, (0, 3, 1, 0, 20, 0, [])), (20, (12, 53, 58, 0, 21, 0, [])), (21, (0, 5, 0, 0, 22, 0, [])), (22, (7, 19, 1, 0, 25, 0, [])), (25, (7, 18, 0, 0, 28, 0, [])), (28, (16, 1, 0, 0, 31, 0, [])), (31, (14, 0, 0, 0, 0, 0, []))], [(some 19, 1, []), (some 17, 2, [])], [], [], [])
theorem gd_yX14_modAt_X : ck_dec prog_14_method_19_code gt_yX14_modAt_X ge_yX14_modAt_X.2.2.2.2.1 = true := by decide +kernel
theorem gh_yX14_modAt_X {l : Launch} {G : am_G} {X : ck_XT} (g : gM l G X) {a : List Value} {h : List am_C} {mc ms : Nat} {Post : am_O → List am_C → Prop} (hay : (am_lay a).length ≤ 2) (H : ∀ (S : ck_SS) (SX : Nat → ck_SX), ck_hs G S SX Post mc ms (ck_cms [am_cm l G yX14_isJammed (.code yX14_isJammed prog_14_method_17_code 1 (some .boolean)) 1 20, am_cm l G yX12_mod_ (.code yX12_mod_ prog_15_method_19_code 4 (some .int)) 1 20]) ge_yX14_modAt_X → (∀ pc, ck_sR G S pc) → ck_hw S → zw_hx SX Post mc ms → S 0 (am_ent a 2) [] h 0 0) : am_M l G yX14_modAt (.code yX14_modAt prog_14_method_19_code 2 (some .int)) 2 43 mc ms a h Post :=
  zw_handX (E := ge_yX14_modAt_X) (tb := gt_yX14_modAt_X) (init := false) (cm := (ck_cms [am_cm l G yX14_isJammed (.code yX14_isJammed prog_14_method_17_code 1 (some .boolean)) 1 20, am_cm l G yX12_mod_ (.code yX12_mod_ prog_15_method_19_code 4 (some .int)) 1 20])) g.1.1 (by decide +kernel) rfl gd_yX14_modAt_X ⟨(List.forall_mem_nil _), (List.forall_mem_nil _), (List.forall_mem_nil _), (List.forall_mem_cons.mpr ⟨⟨⟨_, _, _, rfl, Or.inl w1718⟩, by decide, _, _, g_fd19_1⟩, (List.forall_mem_cons.mpr ⟨⟨⟨_, _, _, rfl, Or.inl w1699⟩, by decide, _, _, g_fd18_0⟩, (List.forall_mem_cons.mpr ⟨⟨⟨_, _, _, rfl, Or.inl w1701⟩, by decide, _, _, g_fd18_1⟩, (List.forall_mem_nil _)⟩)⟩)⟩), (List.forall_mem_nil _), (List.forall_mem_nil _), (List.forall_mem_nil _), (List.forall_mem_nil _)⟩ (List.forall_mem_nil _) (fun h => nomatch h) ⟨_, rfl, rfl⟩ (by decide) (by decide) g_oi g_ar
    (fun s hk _ => (List.forall_mem_nil _)) (fun s hk => (List.forall_mem_nil _))
    (List.forall_mem_cons.mpr ⟨(ck_kV g_y_yX14_isJammed w1983 w1985 w40 (T := TX14) (N := 6) rfl (by decide) (by decide) (by decide)), (List.forall_mem_cons.mpr ⟨(ck_kV g_y_yX12_mod_ w1987 w1988 w1989 (T := TX12) (N := 2) rfl (by decide) (by decide) (by decide)), (List.forall_mem_nil _)⟩)⟩) (List.forall_mem_nil _) (List.forall_mem_nil _) (List.forall_mem_nil _)
    (List.forall_mem_nil _) hay H
def gt_yX14_keep_X : ck_TB := ([], [], [], [(18, 19, 1), (27, 19, 2)], [], [], [], [], ([(43, 0), (47, 1), (51, 2), (55, 3)], [], [], []), [], [], [], 9)
def ge_yX14_keep_X : ck_E := (gT, [], (([], [], [], 0, []), ((0, []), (0, [])), [], [], ([], [], [], 0, []), []), 1, [(0, (0, 5, 0, 0, 1, 0, [])), (1, (7, 19, 2, 0, 4, 0, [])), (4, (0, 5, 0, 0, 5, 0, [])), (5, (7, 19, 1, 0, 8, 0, [])), (8, (16, 0, 0, 0, 11, 0, [])), (11, (16, 1, 0, 0, 14, 0, [])), (14, (0, 10, 0, 0, 15, 0, [])), (15, (0, 5, 0, 0, 16, 0, [])), (16, (7, 19, 2, 0, 19, 0, [])), (19, (16, 2, 0, 0, 22, 0, [])), (22, (0, 0, 0, 12, 24, 0, [])), (24, (2, 5, 0, 0, 27, 36, [])), (27, (0, 5, 0, 0, 28, 0, [])), (28, (7, 19, 2, 0, 31, 0, [])), (31, (0, 0, 0, 0, 32, 0, [])), (32, (16, 3, 0, 0, 35, 0, [])), (35, (0, 10, 0, 0, 36, 0, [])), (36, (15, 0, 0, 0, 0, 0, []))], [(some 18, 1, []), (some 6, 2, []), (some 6, 1, []), (some 6, 2, [])], [], [], [])
theorem gd_yX14_keep_X : ck_dec prog_14_method_9_code gt_yX14_keep_X ge_yX14_keep_X.2.2.2.2.1 = true := by decide +kernel
theorem gh_yX14_keep_X {l : Launch} {G : am_G} {X : ck_XT} (g : gM l G X) {a : List Value} {h : List am_C} {mc ms : Nat} {Post : am_O → List am_C → Prop} (hay : (am_lay a).length ≤ 1) (H : ∀ (S : ck_SS) (SX : Nat → ck_SX), ck_hs G S SX Post mc ms (ck_cms [am_cm l G yX13_copy (.code yX13_copy prog_16_method_2_code 4 (some (.object "ClockhouseModel$State"))) 9 251, am_cm l G yJx4a65c_add_9ea2d (.code yJx4a65c_add_9ea2d prog_46_method_25_code 2 (some .boolean)) 8 230, am_cm l G yJx4a65c_size_8abf5 (.code yJx4a65c_size_8abf5 prog_46_method_8_code 1 (some .int)) 1 20, am_cm l G yJx4a65c_remove_915e3 (.code yJx4a65c_remove_915e3 prog_46_method_29_code 4 (some (.object "java/lang/Object"))) 3 82]) ge_yX14_keep_X → (∀ pc, ck_sR G S pc) → ck_hw S → zw_hx SX Post mc ms → S 0 (am_ent a 1) [] h 0 0) : am_M l G yX14_keep (.code yX14_keep prog_14_method_9_code 1 none) 10 274 mc ms a h Post :=
  zw_handX (E := ge_yX14_keep_X) (tb := gt_yX14_keep_X) (init := false) (cm := (ck_cms [am_cm l G yX13_copy (.code yX13_copy prog_16_method_2_code 4 (some (.object "ClockhouseModel$State"))) 9 251, am_cm l G yJx4a65c_add_9ea2d (.code yJx4a65c_add_9ea2d prog_46_method_25_code 2 (some .boolean)) 8 230, am_cm l G yJx4a65c_size_8abf5 (.code yJx4a65c_size_8abf5 prog_46_method_8_code 1 (some .int)) 1 20, am_cm l G yJx4a65c_remove_915e3 (.code yJx4a65c_remove_915e3 prog_46_method_29_code 4 (some (.object "java/lang/Object"))) 3 82])) g.1.1 (by decide +kernel) rfl gd_yX14_keep_X ⟨(List.forall_mem_nil _), (List.forall_mem_nil _), (List.forall_mem_nil _), (List.forall_mem_cons.mpr ⟨⟨⟨_, _, _, rfl, Or.inl w1718⟩, by decide, _, _, g_fd19_1⟩, (List.forall_mem_cons.mpr ⟨⟨⟨_, _, _, rfl, Or.inl w1719⟩, by decide, _, _, g_fd19_2⟩, (List.forall_mem_nil _)⟩)⟩), (List.forall_mem_nil _), (List.forall_mem_nil _), (List.forall_mem_nil _), (List.forall_mem_nil _)⟩ (List.forall_mem_nil _) (fun h => nomatch h) rfl (by decide) (by decide) g_oi g_ar
    (fun s hk _ => (List.forall_mem_nil _)) (fun s hk => (List.forall_mem_nil _))
    (List.forall_mem_cons.mpr ⟨(ck_kV g_y_yX13_copy w1759 w1760 w1761 (T := TX13) (N := 4) rfl (by decide) (by decide) (by decide)), (List.forall_mem_cons.mpr ⟨(ck_kV g_y_yJx4a65c_add_9ea2d w1897 w1818 w1819 (T := TJx4a65c) (N := 3) rfl (by decide) (by decide) (by decide)), (List.forall_mem_cons.mpr ⟨(ck_kV g_y_yJx4a65c_size_8abf5 w1898 w1899 w1900 (T := TJx4a65c) (N := 3) rfl (by decide) (by decide) (by decide)), (List.forall_mem_cons.mpr ⟨(ck_kV g_y_yJx4a65c_remove_915e3 w1902 w1903 w1904 (T := TJx4a65c) (N := 3) rfl (by decide) (by decide) (by decide)), (List.forall_mem_nil _)⟩)⟩)⟩)⟩) (List.forall_mem_nil _) (List.forall_mem_nil _) (List.forall_mem_nil _)
    (List.forall_mem_nil _) hay H
def gt_yX14_put_X : ck_TB := ([], [], [], [(18, 19, 1), (68, 18, 1)], [], [], [], [], ([(62, 0), (72, 1)], [], [], []), [], [], [], 0)
def ge_yX14_put_X : ck_E := (gT, [(55, 17)], (([], [], [], 0, []), ((0, []), (0, [])), [], [], ([], [], [], 0, []), []), 3, [(0, (0, 5, 0, 0, 1, 0, [])), (1, (16, 0, 0, 0, 4, 0, [])), (4, (0, 5, 0, 0, 5, 0, [])), (5, (7, 19, 1, 0, 8, 0, [])), (8, (7, 18, 1, 0, 11, 0, [])), (11, (0, 3, 1, 0, 12, 0, [])), (12, (0, 5, 2, 0, 13, 0, [])), (13, (13, 53, 57, 0, 14, 0, [])), (14, (0, 5, 2, 0, 15, 0, [])), (15, (16, 1, 0, 0, 18, 0, [])), (18, (14, 0, 0, 0, 0, 0, []))], [(some 19, 1, []), (some 17, 1, [])], [], [], [])
theorem gd_yX14_put_X : ck_dec prog_14_method_11_code gt_yX14_put_X ge_yX14_put_X.2.2.2.2.1 = true := by decide +kernel
theorem gh_yX14_put_X {l : Launch} {G : am_G} {X : ck_XT} (g : gM l G X) {a : List Value} {h : List am_C} {mc ms : Nat} {Post : am_O → List am_C → Prop} (hay : (am_lay a).length ≤ 3) (H : ∀ (S : ck_SS) (SX : Nat → ck_SX), ck_hs G S SX Post mc ms (ck_cms [am_cm l G yX14_keep (.code yX14_keep prog_14_method_9_code 1 none) 10 274, am_cm l G yX12_many (.code yX12_many prog_15_method_5_code 1 (some .int)) 2 40]) ge_yX14_put_X → (∀ pc, ck_sR G S pc) → ck_hw S → zw_hx SX Post mc ms → S 0 (am_ent a 3) [] h 0 0) : am_M l G yX14_put (.code yX14_put prog_14_method_11_code 3 (some .int)) 11 294 mc ms a h Post :=
  zw_handX (E := ge_yX14_put_X) (tb := gt_yX14_put_X) (init := false) (cm := (ck_cms [am_cm l G yX14_keep (.code yX14_keep prog_14_method_9_code 1 none) 10 274, am_cm l G yX12_many (.code yX12_many prog_15_method_5_code 1 (some .int)) 2 40])) g.1.1 (by decide +kernel) rfl gd_yX14_put_X ⟨(List.forall_mem_nil _), (List.forall_mem_nil _), (List.forall_mem_nil _), (List.forall_mem_cons.mpr ⟨⟨⟨_, _, _, rfl, Or.inl w1718⟩, by decide, _, _, g_fd19_1⟩, (List.forall_mem_cons.mpr ⟨⟨⟨_, _, _, rfl, Or.inl w1701⟩, by decide, _, _, g_fd18_1⟩, (List.forall_mem_nil _)⟩)⟩), (List.forall_mem_nil _), (List.forall_mem_nil _), (List.forall_mem_nil _), (List.forall_mem_nil _)⟩ (List.forall_mem_nil _) (fun h => nomatch h) ⟨_, rfl, rfl⟩ (by decide) (by decide) g_oi g_ar
    (fun s hk _ => (List.forall_mem_cons.mpr ⟨⟨by decide, by decide, am_asg_own hk (T := TX12) (N := 2) (by decide) (by decide) rfl rfl (by decide)⟩, (List.forall_mem_nil _)⟩)) (fun s hk => (List.forall_mem_nil _))
    (List.forall_mem_cons.mpr ⟨(ck_kV g_y_yX14_keep w1755 w1757 w33 (T := TX14) (N := 6) rfl (by decide) (by decide) (by decide)), (List.forall_mem_cons.mpr ⟨(ck_kV g_y_yX12_many w1926 w1927 w1928 (T := TX12) (N := 2) rfl (by decide) (by decide) (by decide)), (List.forall_mem_nil _)⟩)⟩) (List.forall_mem_nil _) (List.forall_mem_nil _) (List.forall_mem_nil _)
    (List.forall_mem_nil _) hay H
def gt_yX14_round_X : ck_TB := ([], [], [], [(100, 19, 3), (103, 19, 4)], [(100, 19, 3, 0), (103, 19, 4, 0)], [], [], [], ([(79, 1)], [], [(11, 0)], []), [], [], [], 0)
def ge_yX14_round_X : ck_E := (gT, [], (([], [], [], 0, []), ((0, []), (0, [])), [], [], ([], [], [], 0, []), []), 3, [(0, (0, 3, 2, 0, 1, 0, [])), (1, (0, 0, 0, (-9), 3, 0, [])), (3, (2, 1, 0, 0, 6, 19, [])), (6, (0, 5, 0, 0, 7, 0, [])), (7, (0, 12, 0, 0, 8, 0, [])), (8, (7, 19, 3, 0, 11, 0, [])), (11, (0, 0, 0, 1, 12, 0, [])), (12, (0, 15, 0, 0, 13, 0, [])), (13, (8, 19, 3, 0, 16, 0, [])), (16, (3, 0, 0, 0, 0, 49, [])), (19, (0, 3, 2, 0, 20, 0, [])), (20, (0, 0, 0, (-8), 22, 0, [])), (22, (2, 1, 0, 0, 25, 38, [])), (25, (0, 5, 0, 0, 26, 0, [])), (26, (0, 12, 0, 0, 27, 0, [])), (27, (7, 19, 4, 0, 30, 0, [])), (30, (0, 0, 0, 1, 31, 0, [])), (31, (0, 15, 0, 0, 32, 0, [])), (32, (8, 19, 4, 0, 35, 0, [])), (35, (3, 0, 0, 0, 0, 49, [])), (38, (0, 5, 0, 0, 39, 0, [])), (39, (0, 3, 1, 0, 40, 0, [])), (40, (0, 3, 2, 0, 41, 0, [])), (41, (0, 19, 0, 0, 42, 0, [])), (42, (16, 0, 0, 0, 45, 0, [])), (45, (16, 1, 0, 0, 48, 0, [])), (48, (0, 10, 0, 0, 49, 0, [])), (49, (0, 3, 2, 0, 50, 0, [])), (50, (14, 0, 0, 0, 0, 0, []))], [(none, 1, []), (some 19, 3, [])], [], [], [])
theorem gd_yX14_round_X : ck_dec prog_14_method_18_code gt_yX14_round_X ge_yX14_round_X.2.2.2.2.1 = true := by decide +kernel
theorem gh_yX14_round_X {l : Launch} {G : am_G} {X : ck_XT} (g : gM l G X) {a : List Value} {h : List am_C} {mc ms : Nat} {Post : am_O → List am_C → Prop} (hay : (am_lay a).length ≤ 3) (H : ∀ (S : ck_SS) (SX : Nat → ck_SX), ck_hs G S SX Post mc ms (ck_cms [am_cm l G yX12_of (.code yX12_of prog_15_method_2_code 6 (some (.object "ClockhouseModel$Num"))) 2 44, am_cm l G yX14_put (.code yX14_put prog_14_method_11_code 3 (some .int)) 11 294]) ge_yX14_round_X → (∀ pc, ck_sR G S pc) → ck_hw S → zw_hx SX Post mc ms → S 0 (am_ent a 3) [] h 0 0) : am_M l G yX14_round (.code yX14_round prog_14_method_18_code 3 (some .int)) 12 316 mc ms a h Post :=
  zw_handX (E := ge_yX14_round_X) (tb := gt_yX14_round_X) (init := false) (cm := (ck_cms [am_cm l G yX12_of (.code yX12_of prog_15_method_2_code 6 (some (.object "ClockhouseModel$Num"))) 2 44, am_cm l G yX14_put (.code yX14_put prog_14_method_11_code 3 (some .int)) 11 294])) g.1.1 (by decide +kernel) rfl gd_yX14_round_X ⟨(List.forall_mem_nil _), (List.forall_mem_nil _), (List.forall_mem_nil _), (List.forall_mem_cons.mpr ⟨⟨⟨_, _, _, rfl, Or.inl w1720⟩, by decide, _, _, g_fd19_3⟩, (List.forall_mem_cons.mpr ⟨⟨⟨_, _, _, rfl, Or.inl w1721⟩, by decide, _, _, g_fd19_4⟩, (List.forall_mem_nil _)⟩)⟩), (List.forall_mem_nil _), (List.forall_mem_nil _), (List.forall_mem_nil _), (List.forall_mem_nil _)⟩ (List.forall_mem_cons.mpr ⟨⟨⟨_, _, _, rfl, Or.inl w1720⟩, by decide, _, rfl, Or.inl g_fd19_3⟩, (List.forall_mem_cons.mpr ⟨⟨⟨_, _, _, rfl, Or.inl w1721⟩, by decide, _, rfl, Or.inl g_fd19_4⟩, (List.forall_mem_nil _)⟩)⟩) (fun h => nomatch h) ⟨_, rfl, rfl⟩ (by decide) (by decide) g_oi g_ar
    (fun s hk _ => (List.forall_mem_nil _)) (fun s hk => (List.forall_mem_nil _))
    (List.forall_mem_cons.mpr ⟨(ck_kV g_y_yX14_put w1922 w1924 w38 (T := TX14) (N := 6) rfl (by decide) (by decide) (by decide)), (List.forall_mem_nil _)⟩) (List.forall_mem_nil _) (List.forall_mem_cons.mpr ⟨(ck_kS g_y_yX12_of w1646 w1647 (by decide) (by decide)), (List.forall_mem_nil _)⟩) (List.forall_mem_nil _)
    (List.forall_mem_nil _) hay H
def gt_yX14_add_X : ck_TB := ([], [], [], [(18, 19, 1), (160, 18, 2)], [], [], [], [], ([(47, 2), (51, 3), (62, 0)], [], [(167, 1)], []), [], [], [], 0)
def ge_yX14_add_X : ck_E := (gT, [], (([], [], [], 0, []), ((0, []), (0, [])), [], [], ([], [], [], 0, []), []), 3, [(0, (0, 5, 0, 0, 1, 0, [])), (1, (16, 0, 0, 0, 4, 0, [])), (4, (0, 5, 0, 0, 5, 0, [])), (5, (7, 19, 1, 0, 8, 0, [])), (8, (7, 18, 2, 0, 11, 0, [])), (11, (0, 0, 0, 2, 12, 0, [])), (12, (10, 50, 50, 0, 14, 0, [])), (14, (0, 12, 0, 0, 15, 0, [])), (15, (0, 0, 0, 0, 16, 0, [])), (16, (0, 3, 1, 0, 17, 0, [])), (17, (0, 3, 2, 0, 18, 0, [])), (18, (16, 1, 0, 0, 21, 0, [])), (21, (13, 50, 50, 0, 22, 0, [])), (22, (0, 12, 0, 0, 23, 0, [])), (23, (0, 0, 0, 1, 24, 0, [])), (24, (0, 3, 2, 0, 25, 0, [])), (25, (13, 50, 50, 0, 26, 0, [])), (26, (16, 2, 0, 0, 29, 0, [])), (29, (0, 10, 0, 0, 30, 0, [])), (30, (0, 5, 0, 0, 31, 0, [])), (31, (7, 19, 1, 0, 34, 0, [])), (34, (7, 18, 2, 0, 37, 0, [])), (37, (16, 3, 0, 0, 40, 0, [])), (40, (0, 0, 0, 1, 41, 0, [])), (41, (0, 15, 1, 0, 42, 0, [])), (42, (14, 0, 0, 0, 0, 0, []))], [(some 19, 1, []), (none, 2, []), (some 6, 2, []), (some 6, 1, [])], [], [], [])
theorem gd_yX14_add_X : ck_dec prog_14_method_32_code gt_yX14_add_X ge_yX14_add_X.2.2.2.2.1 = true := by decide +kernel
theorem gh_yX14_add_X {l : Launch} {G : am_G} {X : ck_XT} (g : gM l G X) {a : List Value} {h : List am_C} {mc ms : Nat} {Post : am_O → List am_C → Prop} (hay : (am_lay a).length ≤ 3) (H : ∀ (S : ck_SS) (SX : Nat → ck_SX), ck_hs G S SX Post mc ms (ck_cms [am_cm l G yX14_keep (.code yX14_keep prog_14_method_9_code 1 none) 10 274, am_cm l G yX14_modOf (.code yX14_modOf prog_14_method_7_code 2 (some .int)) 1 20, am_cm l G yJx4a65c_add_9ea2d (.code yJx4a65c_add_9ea2d prog_46_method_25_code 2 (some .boolean)) 8 230, am_cm l G yJx4a65c_size_8abf5 (.code yJx4a65c_size_8abf5 prog_46_method_8_code 1 (some .int)) 1 20]) ge_yX14_add_X → (∀ pc, ck_sR G S pc) → ck_hw S → zw_hx SX Post mc ms → S 0 (am_ent a 3) [] h 0 0) : am_M l G yX14_add (.code yX14_add prog_14_method_32_code 3 (some .int)) 11 294 mc ms a h Post :=
  zw_handX (E := ge_yX14_add_X) (tb := gt_yX14_add_X) (init := false) (cm := (ck_cms [am_cm l G yX14_keep (.code yX14_keep prog_14_method_9_code 1 none) 10 274, am_cm l G yX14_modOf (.code yX14_modOf prog_14_method_7_code 2 (some .int)) 1 20, am_cm l G yJx4a65c_add_9ea2d (.code yJx4a65c_add_9ea2d prog_46_method_25_code 2 (some .boolean)) 8 230, am_cm l G yJx4a65c_size_8abf5 (.code yJx4a65c_size_8abf5 prog_46_method_8_code 1 (some .int)) 1 20])) g.1.1 (by decide +kernel) rfl gd_yX14_add_X ⟨(List.forall_mem_nil _), (List.forall_mem_nil _), (List.forall_mem_nil _), (List.forall_mem_cons.mpr ⟨⟨⟨_, _, _, rfl, Or.inl w1718⟩, by decide, _, _, g_fd19_1⟩, (List.forall_mem_cons.mpr ⟨⟨⟨_, _, _, rfl, Or.inl w1703⟩, by decide, _, _, g_fd18_2⟩, (List.forall_mem_nil _)⟩)⟩), (List.forall_mem_nil _), (List.forall_mem_nil _), (List.forall_mem_nil _), (List.forall_mem_nil _)⟩ (List.forall_mem_nil _) (fun h => nomatch h) ⟨_, rfl, rfl⟩ (by decide) (by decide) g_oi g_ar
    (fun s hk _ => (List.forall_mem_nil _)) (fun s hk => (List.forall_mem_nil _))
    (List.forall_mem_cons.mpr ⟨(ck_kV g_y_yJx4a65c_add_9ea2d w1897 w1818 w1819 (T := TJx4a65c) (N := 3) rfl (by decide) (by decide) (by decide)), (List.forall_mem_cons.mpr ⟨(ck_kV g_y_yJx4a65c_size_8abf5 w1898 w1899 w1900 (T := TJx4a65c) (N := 3) rfl (by decide) (by decide) (by decide)), (List.forall_mem_cons.mpr ⟨(ck_kV g_y_yX14_keep w1755 w1757 w33 (T := TX14) (N := 6) rfl (by decide) (by decide) (by decide)), (List.forall_mem_nil _)⟩)⟩)⟩) (List.forall_mem_nil _) (List.forall_mem_cons.mpr ⟨(ck_kS g_y_yX14_modOf w2030 w2031 (by decide) (by decide)), (List.forall_mem_nil _)⟩) (List.forall_mem_nil _)
    (List.forall_mem_nil _) hay H
end
section
/-! HELPS OF THE REFERENCE -/
set_option maxHeartbeats 4000000 in
theorem zm_isIn_M {l : Launch} {G : am_G} {X : ck_XT} (g : gM l G X) {v a b : Int} {h : List am_C} (hv1 : -2147483648 ≤ v) (hv2 : v ≤ 2147483647) (ha1 : -2147483648 ≤ a) (ha2 : a ≤ 2147483647) (hb1 : -2147483648 ≤ b) (hb2 : b ≤ 2147483647) {mc ms : Nat} {Post : am_O → List am_C → Prop} (hP1 : a ≤ v ∧ v ≤ b → Post (.inl (some (.int (Int32.ofInt 1)))) h) (hP0 : ¬ (a ≤ v ∧ v ≤ b) → Post (.inl (some (.int (Int32.ofInt 0)))) h) :
    am_M l G yX14_isIn (.code yX14_isIn prog_14_method_5_code 3 (some .boolean)) 1 20 mc ms [.int (Int32.ofInt v), .int (Int32.ofInt a), .int (Int32.ofInt b)] h Post := by
  refine gh_yX14_isIn_X g (Nat.le_of_ble_eq_true rfl) fun S SX hs hr hw hx => ?_
  have rv : ∀ x : Int32, ck_fv 0 (.int x) := fun x => ⟨_, rfl⟩
  by_cases c1_ : v < a
  · 
    refine hs 0 _ rfl _ _ _ _ _ _ _ rfl ?_
    refine hs 1 _ rfl _ _ _ _ _ _ _ rfl ?_
    refine hs 2 _ rfl _ _ _ _ _ _ _ (fun _ => ?_) (fun zq => absurd (hd_c2t (c := 2) (by omega) (by omega) (by omega) (by omega) (by omega : (v - a) < 0)) zq)
    refine hs 8 _ rfl _ _ _ _ _ _ _ rfl ?_
    exact hs 9 _ rfl _ _ _ _ _ ⟨_, rfl, by decide, by decide⟩ (Nat.zero_le _) (Nat.zero_le _) (hP0 (by omega))
  · by_cases c2_ : b < v
    · 
      refine hs 0 _ rfl _ _ _ _ _ _ _ rfl ?_
      refine hs 1 _ rfl _ _ _ _ _ _ _ rfl ?_
      refine hs 2 _ rfl _ _ _ _ _ _ _ (fun zq => absurd (hd_c2z (c := 2) (by omega) (by omega) (by omega) (by omega) zq) (by omega : ¬ ((v - a) < 0))) (fun _ => ?_)
      refine hs 3 _ rfl _ _ _ _ _ _ _ rfl ?_
      refine hs 4 _ rfl _ _ _ _ _ _ _ rfl ?_
      refine hs 5 _ rfl _ _ _ _ _ _ _ (fun _ => ?_) (fun zq => absurd (hd_c2t (c := 4) (by omega) (by omega) (by omega) (by omega) (by omega : 0 < (v - b))) zq)
      refine hs 8 _ rfl _ _ _ _ _ _ _ rfl ?_
      exact hs 9 _ rfl _ _ _ _ _ ⟨_, rfl, by decide, by decide⟩ (Nat.zero_le _) (Nat.zero_le _) (hP0 (by omega))
    · 
      refine hs 0 _ rfl _ _ _ _ _ _ _ rfl ?_
      refine hs 1 _ rfl _ _ _ _ _ _ _ rfl ?_
      refine hs 2 _ rfl _ _ _ _ _ _ _ (fun zq => absurd (hd_c2z (c := 2) (by omega) (by omega) (by omega) (by omega) zq) (by omega : ¬ ((v - a) < 0))) (fun _ => ?_)
      refine hs 3 _ rfl _ _ _ _ _ _ _ rfl ?_
      refine hs 4 _ rfl _ _ _ _ _ _ _ rfl ?_
      refine hs 5 _ rfl _ _ _ _ _ _ _ (fun zq => absurd (hd_c2z (c := 4) (by omega) (by omega) (by omega) (by omega) zq) (by omega : ¬ (0 < (v - b)))) (fun _ => ?_)
      refine hs 6 _ rfl _ _ _ _ _ _ _ rfl ?_
      refine hs 7 _ rfl _ _ _ _ _ ?_
      exact hs 9 _ rfl _ _ _ _ _ ⟨_, rfl, by decide, by decide⟩ (Nat.zero_le _) (Nat.zero_le _) (hP1 (by omega))
set_option maxHeartbeats 4000000 in
theorem zm_noSlot_M {l : Launch} {G : am_G} {X : ck_XT} (g : gM l G X) {e : Int} {h : List am_C} (he1 : -2147483648 ≤ e) (he2 : e ≤ 2147483647) {mc ms : Nat} {Post : am_O → List am_C → Prop} (hP1 : ¬ (0 ≤ e ∧ e < 6) → Post (.inl (some (.int (Int32.ofInt 1)))) h) (hP0 : 0 ≤ e ∧ e < 6 → Post (.inl (some (.int (Int32.ofInt 0)))) h) :
    am_M l G yX14_isNoSlot (.code yX14_isNoSlot prog_14_method_6_code 1 (some .boolean)) 2 42 mc ms [.int (Int32.ofInt e)] h Post := by
  refine gh_yX14_isNoSlot_X g (Nat.le_of_ble_eq_true rfl) fun S SX hs hr hw hx => ?_
  have rv : ∀ x : Int32, ck_fv 0 (.int x) := fun x => ⟨_, rfl⟩
  by_cases c1_ : 0 ≤ e ∧ e < 6
  · 
    refine hs 0 _ rfl _ _ _ _ _ _ _ rfl ?_
    refine hs 1 _ rfl _ _ _ _ _ _ _ rfl ?_
    refine hs 2 _ rfl _ _ _ _ _ _ _ rfl ?_
    refine zw_c (hs 3 _ rfl) (a := [.int (Int32.ofInt e), .int (Int32.ofInt (0 : Int)), .int (Int32.ofInt (5 : Int))]) (st := []) rfl rfl (Nat.le_of_ble_eq_true rfl) trivial (by omega) (by omega) (zm_isIn_M g (v := e) (a := 0) (b := 5) (by omega) (by omega) (by omega) (by omega) (by omega) (by omega) (fun y_ => ?_) (fun y_ => absurd (by omega) y_))
    show S 6 [some (.int (Int32.ofInt e))] [.int (Int32.ofInt (1 : Int))] _ _ _
    refine hs 4 _ rfl _ _ _ _ _ _ (fun _ => ?_) (fun zq => absurd (hd_c1t (c := 1) (by omega) (by omega) (by omega : (1 : Int) ≠ 0)) zq)
    refine hs 7 _ rfl _ _ _ _ _ _ _ rfl ?_
    exact hs 8 _ rfl _ _ _ _ _ ⟨_, rfl, by decide, by decide⟩ (Nat.zero_le _) (Nat.zero_le _) (hP0 (by omega))
  · 
    refine hs 0 _ rfl _ _ _ _ _ _ _ rfl ?_
    refine hs 1 _ rfl _ _ _ _ _ _ _ rfl ?_
    refine hs 2 _ rfl _ _ _ _ _ _ _ rfl ?_
    refine zw_c (hs 3 _ rfl) (a := [.int (Int32.ofInt e), .int (Int32.ofInt (0 : Int)), .int (Int32.ofInt (5 : Int))]) (st := []) rfl rfl (Nat.le_of_ble_eq_true rfl) trivial (by omega) (by omega) (zm_isIn_M g (v := e) (a := 0) (b := 5) (by omega) (by omega) (by omega) (by omega) (by omega) (by omega) (fun y_ => absurd y_ (by omega)) (fun y_ => ?_))
    show S 6 [some (.int (Int32.ofInt e))] [.int (Int32.ofInt (0 : Int))] _ _ _
    refine hs 4 _ rfl _ _ _ _ _ _ (fun zq => absurd (hd_c1z (c := 1) (by omega) (by omega) zq) (by omega : ¬ ((0 : Int) ≠ 0))) (fun _ => ?_)
    refine hs 5 _ rfl _ _ _ _ _ _ _ rfl ?_
    refine hs 6 _ rfl _ _ _ _ _ ?_
    exact hs 8 _ rfl _ _ _ _ _ ⟨_, rfl, by decide, by decide⟩ (Nat.zero_le _) (Nat.zero_le _) (hP1 (by omega))
set_option maxHeartbeats 4000000 in
theorem zm_noRow_M {l : Launch} {G : am_G} {X : ck_XT} (g : gM l G X) {e f : Int} {h : List am_C} (he1 : -2147483648 ≤ e) (he2 : e ≤ 2147483647) (hf1 : -2147483648 ≤ f) (hf2 : f ≤ 2147483647) {mc ms : Nat} {Post : am_O → List am_C → Prop} (hP1 : ¬ (-9999 ≤ e ∧ e ≤ 9999 ∧ 1 ≤ f ∧ f ≤ 999) → Post (.inl (some (.int (Int32.ofInt 1)))) h) (hP0 : -9999 ≤ e ∧ e ≤ 9999 ∧ 1 ≤ f ∧ f ≤ 999 → Post (.inl (some (.int (Int32.ofInt 0)))) h) :
    am_M l G yX14_isNoRow (.code yX14_isNoRow prog_14_method_27_code 2 (some .boolean)) 2 42 mc ms [.int (Int32.ofInt e), .int (Int32.ofInt f)] h Post := by
  refine gh_yX14_isNoRow_X g (Nat.le_of_ble_eq_true rfl) fun S SX hs hr hw hx => ?_
  have rv : ∀ x : Int32, ck_fv 0 (.int x) := fun x => ⟨_, rfl⟩
  by_cases c1_ : -9999 ≤ e ∧ e ≤ 9999
  · by_cases c2_ : 1 ≤ f ∧ f ≤ 999
    · 
      refine hs 0 _ rfl _ _ _ _ _ _ _ rfl ?_
      refine hs 1 _ rfl _ _ _ _ _ _ _ rfl ?_
      refine hs 2 _ rfl _ _ _ _ _ _ _ rfl ?_
      refine zw_c (hs 3 _ rfl) (a := [.int (Int32.ofInt e), .int (Int32.ofInt (-9999 : Int)), .int (Int32.ofInt (9999 : Int))]) (st := []) rfl rfl (Nat.le_of_ble_eq_true rfl) trivial (by omega) (by omega) (zm_isIn_M g (v := e) (a := (-9999)) (b := 9999) (by omega) (by omega) (by omega) (by omega) (by omega) (by omega) (fun y_ => ?_) (fun y_ => absurd (by omega) y_))
      show S 10 [some (.int (Int32.ofInt e)), some (.int (Int32.ofInt f))] [.int (Int32.ofInt (1 : Int))] _ _ _
      refine hs 4 _ rfl _ _ _ _ _ _ (fun zq => absurd (hd_c1z (c := 0) (by omega) (by omega) zq) (by omega : ¬ ((1 : Int) = 0))) (fun _ => ?_)
      refine hs 5 _ rfl _ _ _ _ _ _ _ rfl ?_
      refine hs 6 _ rfl _ _ _ _ _ _ _ rfl ?_
      refine hs 7 _ rfl _ _ _ _ _ _ _ rfl ?_
      refine zw_c (hs 8 _ rfl) (a := [.int (Int32.ofInt f), .int (Int32.ofInt (1 : Int)), .int (Int32.ofInt (999 : Int))]) (st := []) rfl rfl (Nat.le_of_ble_eq_true rfl) trivial (by omega) (by omega) (zm_isIn_M g (v := f) (a := 1) (b := 999) (by omega) (by omega) (by omega) (by omega) (by omega) (by omega) (fun y_ => ?_) (fun y_ => absurd (by omega) y_))
      show S 21 [some (.int (Int32.ofInt e)), some (.int (Int32.ofInt f))] [.int (Int32.ofInt (1 : Int))] _ _ _
      refine hs 9 _ rfl _ _ _ _ _ _ (fun _ => ?_) (fun zq => absurd (hd_c1t (c := 1) (by omega) (by omega) (by omega : (1 : Int) ≠ 0)) zq)
      refine hs 12 _ rfl _ _ _ _ _ _ _ rfl ?_
      exact hs 13 _ rfl _ _ _ _ _ ⟨_, rfl, by decide, by decide⟩ (Nat.zero_le _) (Nat.zero_le _) (hP0 (by omega))
    · 
      refine hs 0 _ rfl _ _ _ _ _ _ _ rfl ?_
      refine hs 1 _ rfl _ _ _ _ _ _ _ rfl ?_
      refine hs 2 _ rfl _ _ _ _ _ _ _ rfl ?_
      refine zw_c (hs 3 _ rfl) (a := [.int (Int32.ofInt e), .int (Int32.ofInt (-9999 : Int)), .int (Int32.ofInt (9999 : Int))]) (st := []) rfl rfl (Nat.le_of_ble_eq_true rfl) trivial (by omega) (by omega) (zm_isIn_M g (v := e) (a := (-9999)) (b := 9999) (by omega) (by omega) (by omega) (by omega) (by omega) (by omega) (fun y_ => ?_) (fun y_ => absurd (by omega) y_))
      show S 10 [some (.int (Int32.ofInt e)), some (.int (Int32.ofInt f))] [.int (Int32.ofInt (1 : Int))] _ _ _
      refine hs 4 _ rfl _ _ _ _ _ _ (fun zq => absurd (hd_c1z (c := 0) (by omega) (by omega) zq) (by omega : ¬ ((1 : Int) = 0))) (fun _ => ?_)
      refine hs 5 _ rfl _ _ _ _ _ _ _ rfl ?_
      refine hs 6 _ rfl _ _ _ _ _ _ _ rfl ?_
      refine hs 7 _ rfl _ _ _ _ _ _ _ rfl ?_
      refine zw_c (hs 8 _ rfl) (a := [.int (Int32.ofInt f), .int (Int32.ofInt (1 : Int)), .int (Int32.ofInt (999 : Int))]) (st := []) rfl rfl (Nat.le_of_ble_eq_true rfl) trivial (by omega) (by omega) (zm_isIn_M g (v := f) (a := 1) (b := 999) (by omega) (by omega) (by omega) (by omega) (by omega) (by omega) (fun y_ => absurd y_ (by omega)) (fun y_ => ?_))
      show S 21 [some (.int (Int32.ofInt e)), some (.int (Int32.ofInt f))] [.int (Int32.ofInt (0 : Int))] _ _ _
      refine hs 9 _ rfl _ _ _ _ _ _ (fun zq => absurd (hd_c1z (c := 1) (by omega) (by omega) zq) (by omega : ¬ ((0 : Int) ≠ 0))) (fun _ => ?_)
      refine hs 10 _ rfl _ _ _ _ _ _ _ rfl ?_
      refine hs 11 _ rfl _ _ _ _ _ ?_
      exact hs 13 _ rfl _ _ _ _ _ ⟨_, rfl, by decide, by decide⟩ (Nat.zero_le _) (Nat.zero_le _) (hP1 (by omega))
  · 
    refine hs 0 _ rfl _ _ _ _ _ _ _ rfl ?_
    refine hs 1 _ rfl _ _ _ _ _ _ _ rfl ?_
    refine hs 2 _ rfl _ _ _ _ _ _ _ rfl ?_
    refine zw_c (hs 3 _ rfl) (a := [.int (Int32.ofInt e), .int (Int32.ofInt (-9999 : Int)), .int (Int32.ofInt (9999 : Int))]) (st := []) rfl rfl (Nat.le_of_ble_eq_true rfl) trivial (by omega) (by omega) (zm_isIn_M g (v := e) (a := (-9999)) (b := 9999) (by omega) (by omega) (by omega) (by omega) (by omega) (by omega) (fun y_ => absurd y_ (by omega)) (fun y_ => ?_))
    show S 10 [some (.int (Int32.ofInt e)), some (.int (Int32.ofInt f))] [.int (Int32.ofInt (0 : Int))] _ _ _
    refine hs 4 _ rfl _ _ _ _ _ _ (fun _ => ?_) (fun zq => absurd (hd_c1t (c := 0) (by omega) (by omega) (by omega : (0 : Int) = 0)) zq)
    refine hs 10 _ rfl _ _ _ _ _ _ _ rfl ?_
    refine hs 11 _ rfl _ _ _ _ _ ?_
    exact hs 13 _ rfl _ _ _ _ _ ⟨_, rfl, by decide, by decide⟩ (Nat.zero_le _) (Nat.zero_le _) (hP1 (by omega))
set_option maxHeartbeats 4000000 in
theorem zm_refuse_M {l : Launch} {G : am_G} {X : ck_XT} (g : gM l G X) {o : Nat → Nat} {x tx now qw : Nat} {j m k : Int} {c : sp_S} {P : List sp_S} {h : List am_C} (hX : zm_x G h o x tx now qw 0 j m k c P) {i_ w_ : Int} (hi : i_ = 0 ∨ i_ = 1) (hw9 : 1 ≤ w_ ∧ w_ ≤ 9) {mc ms : Nat} {Post : am_O → List am_C → Prop} (hP1 : i_ = 1 → ∀ h', zm_fr G h h' → zm_x G h' o x tx now qw w_ j m k c P → Post (.inl (some (.int (Int32.ofInt 1)))) h') (hP0 : i_ = 0 → Post (.inl (some (.int (Int32.ofInt 0)))) h) :
    am_M l G yX14_refuse (.code yX14_refuse prog_14_method_3_code 3 (some .boolean)) 1 20 mc ms [.ref x, .int (Int32.ofInt i_), .int (Int32.ofInt w_)] h Post := by
  refine gh_yX14_refuse_X g (Nat.le_of_ble_eq_true rfl) fun S SX hs hr hw hx => ?_
  have rv : ∀ x : Int32, ck_fv 0 (.int x) := fun x => ⟨_, rfl⟩
  obtain ⟨a1_, a2_, a3_, a4_⟩ := id hX
  rcases hi with hi | hi
  · subst hi
    refine hs 0 _ rfl _ _ _ _ _ _ _ rfl ?_
    refine hs 1 _ rfl _ _ _ _ _ _ (fun _ => ?_) (fun zq => absurd (hd_c1t (c := 0) (by omega) (by omega) (by omega : (0 : Int) = 0)) zq)
    refine hs 8 _ rfl _ _ _ _ _ _ _ rfl ?_
    refine hs 9 _ rfl _ _ _ _ _ _ _ _ _ (a1_) a2_.1 rfl ?_
    refine hs 10 _ rfl _ _ _ _ _ _ (fun _ => ?_) (fun zq => absurd (hd_c1t (c := 5) (by omega) (by omega) (by omega : (0 : Int) ≤ 0)) zq)
    refine hs 13 _ rfl _ _ _ _ _ _ _ rfl ?_
    exact hs 14 _ rfl _ _ _ _ _ ⟨_, rfl, by decide, by decide⟩ (Nat.zero_le _) (Nat.zero_le _) (hP0 rfl)
  · subst hi
    refine hs 0 _ rfl _ _ _ _ _ _ _ rfl ?_
    refine hs 1 _ rfl _ _ _ _ _ _ (fun zq => absurd (hd_c1z (c := 0) (by omega) (by omega) zq) (by omega : ¬ ((1 : Int) = 0))) (fun _ => ?_)
    refine hs 2 _ rfl _ _ _ _ _ _ _ rfl ?_
    refine hs 3 _ rfl _ _ _ _ _ _ _ _ _ (a1_) a2_.1 rfl ?_
    refine hs 4 _ rfl _ _ _ _ _ _ (fun zq => absurd (hd_c1z (c := 1) (by omega) (by omega) zq) (by omega : ¬ ((0 : Int) ≠ 0))) (fun _ => ?_)
    refine hs 5 _ rfl _ _ _ _ _ _ _ rfl ?_
    refine hs 6 _ rfl _ _ _ _ _ _ _ rfl ?_
    refine zw_U (hs 7 _ rfl) (by omega) (a1_) a2_.1 ⟨_, rfl⟩ fun hz281 wz282 => ?_
    have wz282 : hd_w G h hz281 x (tx, [.int (Int32.ofInt w_), .ref now, .ref qw, .int (Int32.ofInt j), .int (Int32.ofInt m), .int (Int32.ofInt k)]) := wz282
    have lwz282 := wz282.1
    refine hs 8 _ rfl _ _ _ _ _ _ _ rfl ?_
    refine hs 9 _ rfl _ _ _ _ _ _ _ _ _ (wz282.at) a2_.1 rfl ?_
    refine hs 10 _ rfl _ _ _ _ _ _ (fun zq => absurd (hd_c1z (c := 5) (by omega) (by omega) zq) (by omega : ¬ (w_ ≤ 0))) (fun _ => ?_)
    refine hs 11 _ rfl _ _ _ _ _ _ _ rfl ?_
    refine hs 12 _ rfl _ _ _ _ _ ?_
    exact hs 14 _ rfl _ _ _ _ _ ⟨_, rfl, by decide, by decide⟩ (Nat.zero_le _) (Nat.zero_le _) (hP1 rfl _ (zm_fr.w wz282 a1_ (Or.inl a2_.1)) (hX.own wz282))
set_option maxHeartbeats 4000000 in
theorem zm_start_M {l : Launch} {G : am_G} {X : ck_XT} (g : gM l G X) {o : Nat → Nat} {x tx now qw : Nat} {th j m k : Int} {c : sp_S} {P : List sp_S} {h : List am_C} (hX : zm_x G h o x tx now qw th j m k c P) {i_ w_ : Int} (hi : i_ = 0 ∨ i_ = 1) (hw9 : 1 ≤ w_ ∧ w_ ≤ 9) {mc ms : Nat} {Post : am_O → List am_C → Prop} (hP1 : i_ = 1 → ∀ h', zm_fr G h h' → zm_x G h' o x tx now qw w_ j m k c P → Post (.inl (some (.int (Int32.ofInt 1)))) h') (hP0 : i_ = 0 → ∀ h', zm_fr G h h' → zm_x G h' o x tx now qw 0 j m k c P → Post (.inl (some (.int (Int32.ofInt 0)))) h') :
    am_M l G yX14_start (.code yX14_start prog_14_method_4_code 3 (some .boolean)) 2 42 mc ms [.ref x, .int (Int32.ofInt i_), .int (Int32.ofInt w_)] h Post := by
  refine gh_yX14_start_X g (Nat.le_of_ble_eq_true rfl) fun S SX hs hr hw hx => ?_
  have rv : ∀ x : Int32, ck_fv 0 (.int x) := fun x => ⟨_, rfl⟩
  obtain ⟨a1_, a2_, a3_, a4_⟩ := id hX
  refine hs 0 _ rfl _ _ _ _ _ _ _ rfl ?_
  refine hs 1 _ rfl _ _ _ _ _ _ _ rfl ?_
  refine zw_U (hs 2 _ rfl) (by omega) (a1_) a2_.1 ⟨_, rfl⟩ fun hz283 wz284 => ?_
  have wz284 : hd_w G h hz283 x (tx, [.int (Int32.ofInt (0 : Int)), .ref now, .ref qw, .int (Int32.ofInt j), .int (Int32.ofInt m), .int (Int32.ofInt k)]) := wz284
  have lwz284 := wz284.1
  have x1_ := hX.own wz284
  have f1_ : zm_fr G h _ := zm_fr.w wz284 a1_ (Or.inl a2_.1)
  refine hs 3 _ rfl _ _ _ _ _ _ _ rfl ?_
  refine hs 4 _ rfl _ _ _ _ _ _ _ rfl ?_
  refine hs 5 _ rfl _ _ _ _ _ _ _ rfl ?_
  refine zw_c (hs 6 _ rfl) (a := [.ref x, .int (Int32.ofInt i_), .int (Int32.ofInt w_)]) (st := []) rfl rfl (Nat.le_of_ble_eq_true rfl) ⟨_, _, _, rfl, wz284.at, a2_.1⟩ (by omega) (by omega) (zm_refuse_M g x1_ hi hw9 (fun y_ h2_ f2_ x2_ => ?_) (fun y_ => ?_))
  · show S 11 [some (.ref x), some (.int (Int32.ofInt i_)), some (.int (Int32.ofInt w_))] [.int (Int32.ofInt 1)] _ _ _
    exact hs 7 _ rfl _ _ _ _ _ ⟨_, rfl, by decide, by decide⟩ (Nat.zero_le _) (Nat.zero_le _) (hP1 y_ _ (f1_.tr f2_) x2_)
  · show S 11 [some (.ref x), some (.int (Int32.ofInt i_)), some (.int (Int32.ofInt w_))] [.int (Int32.ofInt 0)] _ _ _
    exact hs 7 _ rfl _ _ _ _ _ ⟨_, rfl, by decide, by decide⟩ (Nat.zero_le _) (Nat.zero_le _) (hP0 y_ _ f1_ x1_)
theorem zm_l.rc {G : am_G} {h : List am_C} {o : Nat → Nat} {q lab : Nat} {vs : List Nat} {u : List Value} (a : zm_l G h o q lab vs) : ck_rcv G (some 6) (.ref q :: u) h := by
  obtain ⟨p_, N_, t_, tr_, mo_, a1_, a2_, -⟩ := a
  exact ⟨q, t_, _, rfl, a1_, a2_⟩
set_option maxHeartbeats 4000000 in
theorem zm_noPlace_M {l : Launch} {G : am_G} {X : ck_XT} (g : gM l G X) {o : Nat → Nat} {x tx now qw : Nat} {th j m k : Int} {c : sp_S} {P : List sp_S} {h : List am_C} (hX : zm_x G h o x tx now qw th j m k c P) {e : Int} (he1 : -2147483648 ≤ e) (he2 : e ≤ 2147483647) (hok : sp_ok c) {mc ms : Nat} {Post : am_O → List am_C → Prop} (hP1 : ¬ (0 ≤ e ∧ e < (c.2.2.1.length : Int)) → Post (.inl (some (.int (Int32.ofInt 1)))) h) (hP0 : 0 ≤ e ∧ e < (c.2.2.1.length : Int) → Post (.inl (some (.int (Int32.ofInt 0)))) h) :
    am_M l G yX14_isNoPlace (.code yX14_isNoPlace prog_14_method_35_code 2 (some .boolean)) 2 42 mc ms [.ref x, .int (Int32.ofInt e)] h Post := by
  refine gh_yX14_isNoPlace_X g (Nat.le_of_ble_eq_true rfl) fun S SX hs hr hw hx => ?_
  have rv : ∀ x : Int32, ck_fv 0 (.int x) := fun x => ⟨_, rfl⟩
  obtain ⟨a1_, a2_, a3_, a4_⟩ := id hX
  obtain ⟨t_, qn_, ql_, qb_, vl_, s1_, l1_, ⟨e1_, e2_⟩, up_⟩ := hX.rowL
  have ok_ := hok.2.2.1.1
  by_cases c1_ : 0 ≤ e ∧ e < (c.2.2.1.length : Int)
  · 
    refine hs 0 _ rfl _ _ _ _ _ _ _ rfl ?_
    refine hs 1 _ rfl _ _ _ _ _ _ _ rfl ?_
    refine hs 2 _ rfl _ _ _ _ _ _ _ rfl ?_
    refine hs 3 _ rfl _ _ _ _ _ _ _ _ _ (a1_) a2_.1 rfl ?_
    refine hs 4 _ rfl _ _ _ _ _ _ _ _ _ (s1_.1) s1_.2 rfl ?_
    refine zw_c (hs 5 _ rfl) (a := [.ref ql_]) (st := [.int (Int32.ofInt (0 : Int)), .int (Int32.ofInt e)]) rfl rfl (Nat.le_of_ble_eq_true rfl) (zm_l.rc l1_) (by omega) (by omega) (zm_size_M g l1_ ?_)
    show S 12 [some (.ref x), some (.int (Int32.ofInt e))] [.int (Int32.ofInt (vl_.length : Int)), .int (Int32.ofInt (0 : Int)), .int (Int32.ofInt e)] _ _ _
    refine hs 6 _ rfl _ _ _ _ _ _ _ rfl ?_
    refine hs 7 _ rfl _ _ _ _ _ _ _ hd_sub ?_
    refine zw_c (hs 8 _ rfl) (a := [.int (Int32.ofInt e), .int (Int32.ofInt (0 : Int)), .int (Int32.ofInt ((vl_.length : Int) - (1 : Int)))]) (st := []) rfl rfl (Nat.le_of_ble_eq_true rfl) trivial (by omega) (by omega) (zm_isIn_M g (v := e) (a := 0) (b := ((vl_.length : Int) - (1 : Int))) (by omega) (by omega) (by omega) (by omega) (by omega) (by omega) (fun y_ => ?_) (fun y_ => absurd (by omega) y_))
    show S 17 [some (.ref x), some (.int (Int32.ofInt e))] [.int (Int32.ofInt (1 : Int))] _ _ _
    refine hs 9 _ rfl _ _ _ _ _ _ (fun _ => ?_) (fun zq => absurd (hd_c1t (c := 1) (by omega) (by omega) (by omega : (1 : Int) ≠ 0)) zq)
    refine hs 12 _ rfl _ _ _ _ _ _ _ rfl ?_
    exact hs 13 _ rfl _ _ _ _ _ ⟨_, rfl, by decide, by decide⟩ (Nat.zero_le _) (Nat.zero_le _) (hP0 (by omega))
  · 
    refine hs 0 _ rfl _ _ _ _ _ _ _ rfl ?_
    refine hs 1 _ rfl _ _ _ _ _ _ _ rfl ?_
    refine hs 2 _ rfl _ _ _ _ _ _ _ rfl ?_
    refine hs 3 _ rfl _ _ _ _ _ _ _ _ _ (a1_) a2_.1 rfl ?_
    refine hs 4 _ rfl _ _ _ _ _ _ _ _ _ (s1_.1) s1_.2 rfl ?_
    refine zw_c (hs 5 _ rfl) (a := [.ref ql_]) (st := [.int (Int32.ofInt (0 : Int)), .int (Int32.ofInt e)]) rfl rfl (Nat.le_of_ble_eq_true rfl) (zm_l.rc l1_) (by omega) (by omega) (zm_size_M g l1_ ?_)
    show S 12 [some (.ref x), some (.int (Int32.ofInt e))] [.int (Int32.ofInt (vl_.length : Int)), .int (Int32.ofInt (0 : Int)), .int (Int32.ofInt e)] _ _ _
    refine hs 6 _ rfl _ _ _ _ _ _ _ rfl ?_
    refine hs 7 _ rfl _ _ _ _ _ _ _ hd_sub ?_
    refine zw_c (hs 8 _ rfl) (a := [.int (Int32.ofInt e), .int (Int32.ofInt (0 : Int)), .int (Int32.ofInt ((vl_.length : Int) - (1 : Int)))]) (st := []) rfl rfl (Nat.le_of_ble_eq_true rfl) trivial (by omega) (by omega) (zm_isIn_M g (v := e) (a := 0) (b := ((vl_.length : Int) - (1 : Int))) (by omega) (by omega) (by omega) (by omega) (by omega) (by omega) (fun y_ => absurd y_ (by omega)) (fun y_ => ?_))
    show S 17 [some (.ref x), some (.int (Int32.ofInt e))] [.int (Int32.ofInt (0 : Int))] _ _ _
    refine hs 9 _ rfl _ _ _ _ _ _ (fun zq => absurd (hd_c1z (c := 1) (by omega) (by omega) zq) (by omega : ¬ ((0 : Int) ≠ 0))) (fun _ => ?_)
    refine hs 10 _ rfl _ _ _ _ _ _ _ rfl ?_
    refine hs 11 _ rfl _ _ _ _ _ ?_
    exact hs 13 _ rfl _ _ _ _ _ ⟨_, rfl, by decide, by decide⟩ (Nat.zero_le _) (Nat.zero_le _) (hP1 (by omega))
set_option maxHeartbeats 4000000 in
theorem zm_jam_M {l : Launch} {G : am_G} {X : ck_XT} (g : gM l G X) {o : Nat → Nat} {x tx now qw : Nat} {th j m k : Int} {c : sp_S} {P : List sp_S} {h : List am_C} (hX : zm_x G h o x tx now qw th j m k c P) (hok : sp_ok c) {mc ms : Nat} {Post : am_O → List am_C → Prop} (hP1 : c.1 ≤ 0 → Post (.inl (some (.int (Int32.ofInt 1)))) h) (hP0 : 0 < c.1 → Post (.inl (some (.int (Int32.ofInt 0)))) h) :
    am_M l G yX14_isJammed (.code yX14_isJammed prog_14_method_17_code 1 (some .boolean)) 1 20 mc ms [.ref x] h Post := by
  refine gh_yX14_isJammed_X g (Nat.le_of_ble_eq_true rfl) fun S SX hs hr hw hx => ?_
  have rv : ∀ x : Int32, ck_fv 0 (.int x) := fun x => ⟨_, rfl⟩
  obtain ⟨a1_, a2_, a3_, a4_⟩ := id hX
  obtain ⟨t_, qn_, ql_, qb_, s1_, up_⟩ := hX.dialL
  have ok_ := hok.1
  by_cases c1_ : c.1 ≤ 0
  · 
    refine hs 0 _ rfl _ _ _ _ _ _ _ rfl ?_
    refine hs 1 _ rfl _ _ _ _ _ _ _ _ _ (a1_) a2_.1 rfl ?_
    refine hs 2 _ rfl _ _ _ _ _ _ _ _ _ (s1_.1) s1_.2 rfl ?_
    refine hs 3 _ rfl _ _ _ _ _ _ (fun zq => absurd (hd_c1z (c := 4) (by omega) (by omega) zq) (by omega : ¬ (0 < c.1))) (fun _ => ?_)
    refine hs 4 _ rfl _ _ _ _ _ _ _ rfl ?_
    refine hs 5 _ rfl _ _ _ _ _ ?_
    exact hs 7 _ rfl _ _ _ _ _ ⟨_, rfl, by decide, by decide⟩ (Nat.zero_le _) (Nat.zero_le _) (hP1 (by omega))
  · 
    refine hs 0 _ rfl _ _ _ _ _ _ _ rfl ?_
    refine hs 1 _ rfl _ _ _ _ _ _ _ _ _ (a1_) a2_.1 rfl ?_
    refine hs 2 _ rfl _ _ _ _ _ _ _ _ _ (s1_.1) s1_.2 rfl ?_
    refine hs 3 _ rfl _ _ _ _ _ _ (fun _ => ?_) (fun zq => absurd (hd_c1t (c := 4) (by omega) (by omega) (by omega : 0 < c.1)) zq)
    refine hs 6 _ rfl _ _ _ _ _ _ _ rfl ?_
    exact hs 7 _ rfl _ _ _ _ _ ⟨_, rfl, by decide, by decide⟩ (Nat.zero_le _) (Nat.zero_le _) (hP0 (by omega))
set_option maxHeartbeats 4000000 in
theorem zm_modAt_M {l : Launch} {G : am_G} {X : ck_XT} (g : gM l G X) {o : Nat → Nat} {x tx now qw : Nat} {th j m k : Int} {c : sp_S} {P : List sp_S} {h : List am_C} (hX : zm_x G h o x tx now qw th j m k c P) (hok : sp_ok c) {i : Nat} {e : Int} (he : e = (i : Int)) (hi : i < 6) {mc ms : Nat} {Post : am_O → List am_C → Prop} (hJ : c.1 ≤ 0 → Post (.inl (some (.int (Int32.ofInt (-9))))) h) (hP : 0 < c.1 → Post (.inl (some (.int (Int32.ofInt (c.2.1.getD i 0 % c.1)))) ) h) :
    am_M l G yX14_modAt (.code yX14_modAt prog_14_method_19_code 2 (some .int)) 2 43 mc ms [.ref x, .int (Int32.ofInt e)] h Post := by
  refine gh_yX14_modAt_X g (Nat.le_of_ble_eq_true rfl) fun S SX hs hr hw hx => ?_
  have rv : ∀ x : Int32, ck_fv 0 (.int x) := fun x => ⟨_, rfl⟩
  obtain ⟨a1_, a2_, a3_, a4_⟩ := id hX
  obtain ⟨t_, qn_, tn_, ql_, qb_, vn_, s1_, ⟨b1_, b2_, b3_⟩, ⟨d1_, d2_⟩, up_⟩ := hX.numL
  have ok1_ := hok.2.1.1
  obtain ⟨v_, hv_⟩ : ∃ v_, vn_[i]? = some v_ := ⟨_, List.getElem?_eq_getElem (by omega)⟩
  have gz_ : c.2.1[i]? = some (c.2.1.getD i 0) := sb_ge (by omega)
  have nz_ := d2_ _ _ _ hv_ gz_
  obtain ⟨nt_, nd_, ntd_, nb_, nds_, n1_, n2_, n3_, n4_, n5_⟩ := nz_
  have nl_ : nds_.length ≤ 36 := zm_len n5_ (hok.get hi)
  have ok_ := hok.1
  by_cases c1_ : c.1 ≤ 0
  · 
    refine hs 0 _ rfl _ _ _ _ _ _ _ rfl ?_
    refine zw_c (hs 1 _ rfl) (a := [.ref x]) (st := []) rfl rfl (Nat.le_of_ble_eq_true rfl) ⟨_, _, _, rfl, a1_, a2_.1⟩ (by omega) (by omega) (zm_jam_M g hX hok (fun y_ => ?_) (fun y_ => absurd y_ (by omega)))
    show S 4 [some (.ref x), some (.int (Int32.ofInt e))] [.int (Int32.ofInt (1 : Int))] _ _ _
    refine hs 2 _ rfl _ _ _ _ _ _ (fun zq => absurd (hd_c1z (c := 0) (by omega) (by omega) zq) (by omega : ¬ ((1 : Int) = 0))) (fun _ => ?_)
    refine hs 3 _ rfl _ _ _ _ _ _ _ rfl ?_
    refine hs 4 _ rfl _ _ _ _ _ ?_
    exact hs 14 _ rfl _ _ _ _ _ (rv _) (Nat.zero_le _) (Nat.zero_le _) (hJ c1_)
  · obtain ⟨M_, hM_⟩ : ∃ M_ : Nat, c.1 = (M_ : Int) := ⟨c.1.toNat, by omega⟩
    have hP := hP (by omega)
    rw [hM_] at s1_ hP
    rw [he]
    show S 0 [some (.ref x), some (.int (Int32.ofInt (i : Int)))] [] _ _ _
    refine hs 0 _ rfl _ _ _ _ _ _ _ rfl ?_
    refine zw_c (hs 1 _ rfl) (a := [.ref x]) (st := []) rfl rfl (Nat.le_of_ble_eq_true rfl) ⟨_, _, _, rfl, a1_, a2_.1⟩ (by omega) (by omega) (zm_jam_M g hX hok (fun y_ => absurd y_ (by omega)) (fun y_ => ?_))
    show S 4 [some (.ref x), some (.int (Int32.ofInt (i : Int)))] [.int (Int32.ofInt (0 : Int))] _ _ _
    refine hs 2 _ rfl _ _ _ _ _ _ (fun _ => ?_) (fun zq => absurd (hd_c1t (c := 0) (by omega) (by omega) (by omega : (0 : Int) = 0)) zq)
    refine hs 5 _ rfl _ _ _ _ _ _ _ rfl ?_
    refine hs 6 _ rfl _ _ _ _ _ _ _ _ _ (a1_) a2_.1 rfl ?_
    refine hs 7 _ rfl _ _ _ _ _ _ _ _ _ (s1_.1) s1_.2 rfl ?_
    refine hs 8 _ rfl _ _ _ _ _ _ _ rfl ?_
    refine zw_Ar (hs 9 _ rfl) (b1_) (by first | rfl | (rw [b2_]; rfl)) (j := i) (by omega) (by omega) (zm_nv hv_) ?_
    refine hs 10 _ rfl _ _ _ _ _ _ _ rfl ?_
    refine hs 11 _ rfl _ _ _ _ _ _ _ _ _ (a1_) a2_.1 rfl ?_
    refine hs 12 _ rfl _ _ _ _ _ _ _ _ _ (s1_.1) s1_.2 rfl ?_
    refine zw_c (hs 13 _ rfl) (a := [.ref v_, .int (Int32.ofInt (M_ : Int))]) (st := []) rfl rfl (Nat.le_of_ble_eq_true rfl) ⟨_, _, _, rfl, n1_, n2_⟩ (by omega) (by omega) (zn_mod_M g n1_ n2_ n3_ n4_ n5_ (by omega) (m := M_) (by omega) (by omega) ?_)
    show S 31 [some (.ref x), some (.int (Int32.ofInt (i : Int)))] [.int (Int32.ofInt (c.2.1.getD i 0 % (M_ : Int)))] _ _ _
    exact hs 14 _ rfl _ _ _ _ _ (rv _) (Nat.zero_le _) (Nat.zero_le _) hP
end
section
/-! THE REFERENCE KEEPS, PUTS, ADDS -/
theorem zl_ob.W {G : am_G} {h : List am_C} {o : Nat → Nat} {ss : List Nat} {P : List sp_S} (hl : ss.length = P.length) (hs : ∀ (i s : Nat) (p : sp_S), ss[i]? = some s → P[i]? = some p → zm_s G h o s p) : zl_ob G h ss := fun i v hv => by
  obtain ⟨p_, hp_⟩ : ∃ p_, P[i]? = some p_ := ⟨_, List.getElem?_eq_getElem (by have := (List.getElem?_eq_some_iff.mp hv).1; omega)⟩
  obtain ⟨t_, _, _, _, _, _, _, _, x1_, ⟨x2_, -⟩, -⟩ := hs _ _ _ hv hp_
  exact ⟨t_, _, x1_, by rw [x2_]; rfl⟩
theorem zm_s.k {G : am_G} {h : List am_C} {o : Nat → Nat} {s : Nat} {c : sp_S} (a : zm_s G h o s c) : ∃ (t : Nat) (v : List Value), am_g G h s = some (t, v) ∧ t % 100 = 18 := by
  obtain ⟨t_, _, _, _, _, _, _, _, x1_, ⟨x2_, -⟩, -⟩ := a
  exact ⟨t_, _, x1_, x2_⟩
theorem zm_d4w {o : Nat → Nat} {q s : Nat} (hq : o q = 5) (h1 : 1000 ≤ s) : zm_no o s (zm_d4 o q) := ⟨zm_d4.ok, fun h => by
  obtain ⟨-, h2_⟩ := h
  omega, fun y e h => by
  obtain ⟨-, h2_⟩ := h
  omega, fun y e => ⟨fun h => by
  obtain ⟨-, h2_⟩ := h
  have z_ : y = q := by omega
  rw [z_] at e
  omega, fun p e2 h => by
  obtain ⟨-, h2_⟩ := h
  have z_ : y = q := by omega
  rw [z_] at e
  omega⟩⟩
theorem zm_s.lo {G : am_G} {h : List am_C} {o : Nat → Nat} {s : Nat} {c : sp_S} (a : zm_s G h o s c) : 1000 ≤ s := by
  obtain ⟨t_, _, _, _, _, _, _, _, x1_, ⟨_, x2_⟩, -⟩ := a
  exact x2_
/-- what may come back, one more of them -/
theorem zm_x.push {G : am_G} {h h1 h2 : List am_C} {o o1 o2 : Nat → Nat} {x tx now qw s2 : Nat} {th j m k : Int} {c : sp_S} {P : List sp_S} {ss : List Nat} (a : zm_x G h1 o1 x tx now qw th j m k c P) (hs : zm_s G h1 o1 s2 c) (hn : ∀ i : Nat, ss[i]? ≠ some s2) (hnow : now ≠ s2) (w1 : ss.length = P.length) (w2 : ∀ (i s : Nat) (p : sp_S), ss[i]? = some s → P[i]? = some p → zm_s G h1 o1 s p) (w3 : ∀ (i j s : Nat), ss[i]? = some s → ss[j]? = some s → i = j) (w4 : ∀ i : Nat, ss[i]? ≠ some now) (f : zm_f G o1 o2 h1 h2 (zm_d4 o1 qw)) (hl : zm_l G h2 o2 qw 5 (ss ++ [s2])) : zm_x G h2 o2 x tx now qw th j m k c (P ++ [c]) := by
  obtain ⟨a1_, a2_, a3_, a4_⟩ := a
  have l_ := a4_.lab
  refine ⟨f.2.2 _ _ _ a1_ (by rw [a2_.1]; exact zm_d4.nk (by decide) (by decide)), a2_, a3_.f f (zm_d4w l_ a3_.lo), ⟨ss ++ [s2], hl, by rw [List.length_append, List.length_append, w1]; rfl, fun i s p e1 e2 => ?_, fun i j s e1 e2 => ?_, fun i e1 => ?_⟩⟩
  · by_cases c_ : i < ss.length
    · rw [List.getElem?_append_left c_] at e1
      rw [List.getElem?_append_left (by omega)] at e2
      have z_ := w2 _ _ _ e1 e2
      exact z_.f f (zm_d4w l_ z_.lo)
    · have y1_ := (List.getElem?_eq_some_iff.mp e1).1
      rw [List.length_append, List.length_singleton] at y1_
      obtain rfl : i = ss.length := by omega
      rw [List.getElem?_append_right (Nat.le_refl _), Nat.sub_self] at e1
      rw [List.getElem?_append_right (by omega), w1, Nat.sub_self] at e2
      cases e1
      cases e2
      exact hs.f f (zm_d4w l_ hs.lo)
  · have y1_ := (List.getElem?_eq_some_iff.mp e1).1
    have y2_ := (List.getElem?_eq_some_iff.mp e2).1
    rw [List.length_append, List.length_singleton] at y1_ y2_
    by_cases c_ : i < ss.length
    · rw [List.getElem?_append_left c_] at e1
      by_cases d_ : j < ss.length
      · rw [List.getElem?_append_left d_] at e2
        exact w3 _ _ _ e1 e2
      · obtain rfl : j = ss.length := by omega
        rw [List.getElem?_append_right (Nat.le_refl _), Nat.sub_self] at e2
        cases e2
        exact absurd e1 (hn i)
    · obtain rfl : i = ss.length := by omega
      rw [List.getElem?_append_right (Nat.le_refl _), Nat.sub_self] at e1
      cases e1
      by_cases d_ : j < ss.length
      · rw [List.getElem?_append_left d_] at e2
        exact absurd e2 (hn j)
      · omega
  · have y1_ := (List.getElem?_eq_some_iff.mp e1).1
    rw [List.length_append, List.length_singleton] at y1_
    by_cases c_ : i < ss.length
    · rw [List.getElem?_append_left c_] at e1
      exact w4 i e1
    · obtain rfl : i = ss.length := by omega
      rw [List.getElem?_append_right (Nat.le_refl _), Nat.sub_self] at e1
      cases e1
      exact hnow rfl
/-- the first one falls out -/
theorem zm_x.shift {G : am_G} {h h2 : List am_C} {o : Nat → Nat} {x tx now qw : Nat} {th j m k : Int} {c : sp_S} {P : List sp_S} {ss : List Nat} (a : zm_x G h o x tx now qw th j m k c P) (w1 : ss.length = P.length) (w2 : ∀ (i s : Nat) (p : sp_S), ss[i]? = some s → P[i]? = some p → zm_s G h o s p) (w3 : ∀ (i j s : Nat), ss[i]? = some s → ss[j]? = some s → i = j) (w4 : ∀ i : Nat, ss[i]? ≠ some now) (f : zm_f G o o h h2 (zm_d4 o qw)) (hl : zm_l G h2 o qw 5 (ss.eraseIdx 0)) : zm_x G h2 o x tx now qw th j m k c P.tail := by
  obtain ⟨a1_, a2_, a3_, a4_⟩ := a
  have l_ := a4_.lab
  have er_ : ∀ i : Nat, (ss.eraseIdx 0)[i]? = ss[i + 1]? := fun i => by
    rw [List.getElem?_eraseIdx, if_neg (by omega)]
  refine ⟨f.2.2 _ _ _ a1_ (by rw [a2_.1]; exact zm_d4.nk (by decide) (by decide)), a2_, a3_.f f (zm_d4w l_ a3_.lo), ⟨ss.eraseIdx 0, hl, ?_, fun i s p e1 e2 => ?_, fun i j s e1 e2 => ?_, fun i e1 => ?_⟩⟩
  · rw [List.length_tail, List.length_eraseIdx, w1]
    split <;> omega
  · rw [er_] at e1
    rw [List.getElem?_tail] at e2
    have z_ := w2 _ _ _ e1 e2
    exact z_.f f (zm_d4w l_ z_.lo)
  · rw [er_] at e1 e2
    have := w3 _ _ _ e1 e2
    omega
  · rw [er_] at e1
    exact w4 _ e1
theorem sp_keep_lt {P : List sp_S} {c : sp_S} (h : P.length < 12) : sp_keep P c = P ++ [c] := by unfold sp_keep; rw [if_pos h]
theorem sp_keep_ge {P : List sp_S} {c : sp_S} (h : P.length = 12) : sp_keep P c = (P ++ [c]).tail := by
  unfold sp_keep
  rw [if_neg (by omega)]
  cases P with
  | nil => cases h
  | cons a u => rfl
theorem sp_keep_len {P : List sp_S} {c : sp_S} (h : P.length ≤ 12) : (sp_keep P c).length ≤ 12 := by
  unfold sp_keep
  split
  · rw [List.length_append, List.length_singleton]
    omega
  · rw [List.length_append, List.length_tail, List.length_singleton]
    omega
theorem zm_s.rc {G : am_G} {h : List am_C} {o : Nat → Nat} {s : Nat} {c : sp_S} {u : List Value} (a : zm_s G h o s c) : ck_rcv G (some 18) (.ref s :: u) h := by
  obtain ⟨t_, v_, x1_, x2_⟩ := a.k
  exact ⟨s, t_, v_, rfl, x1_, x2_⟩
set_option maxHeartbeats 4000000 in
theorem zm_keep_M {l : Launch} {G : am_G} {X : ck_XT} (g : gM l G X) {o : Nat → Nat} {x tx now qw : Nat} {th j m k : Int} {c : sp_S} {P : List sp_S} {h : List am_C} (hX : zm_x G h o x tx now qw th j m k c P) (hok : sp_ok c) (hp12 : P.length ≤ 12) {mc ms : Nat} {Post : am_O → List am_C → Prop} (hmc : 14 ≤ mc) (hms : 69 ≤ ms)
    (hP : ∀ (h' : List am_C) (o' : Nat → Nat), zm_fr G h h' → zm_x G h' o' x tx now qw th j m k c (sp_keep P c) → Post (.inl none) h') :
    am_M l G yX14_keep (.code yX14_keep prog_14_method_9_code 1 none) 10 274 mc ms [.ref x] h Post := by
  refine gh_yX14_keep_X g (Nat.le_of_ble_eq_true rfl) fun S SX hs hr hw hx => ?_
  have rv : ∀ x : Int32, ck_fv 0 (.int x) := fun x => ⟨_, rfl⟩
  obtain ⟨a1_, a2_, a3_, a4_⟩ := id hX
  obtain ⟨ss_, w0_, w1_, w2_, w3_, w4_⟩ := id a4_
  refine hs 0 _ rfl _ _ _ _ _ _ _ rfl ?_
  refine hs 1 _ rfl _ _ _ _ _ _ _ _ _ (a1_) a2_.1 rfl ?_
  refine hs 2 _ rfl _ _ _ _ _ _ _ rfl ?_
  refine hs 3 _ rfl _ _ _ _ _ _ _ _ _ (a1_) a2_.1 rfl ?_
  refine zw_cm (hs 4 _ rfl) (a := [.ref now]) (st := [.ref qw]) 13 49 rfl rfl (Nat.le_of_ble_eq_true rfl) (zm_s.rc a3_) (by omega) (by omega) (zs_copy_M g a3_ hok (by omega) (by omega) fun hy_ o1_ s2_ gy_ ly_ oy_ sy_ => ?_)
  show S 11 [some (.ref x)] [.ref s2_, .ref qw] _ _ _
  have fo_ : zm_f G o o1_ h hy_ (fun _ _ => False) := zm_f.g gy_ oy_
  have w2g_ : ∀ (i s : Nat) (p : sp_S), ss_[i]? = some s → P[i]? = some p → zm_s G hy_ o1_ s p := fun i s p e1 e2 => (w2_ i s p e1 e2).f fo_ zm_no.no
  obtain ⟨sk0_, sk1_, sk_, sk2_⟩ := sy_.k
  refine zw_cm (hs 5 _ rfl) (a := [.ref qw, .ref s2_]) (st := []) 1 20 rfl rfl (Nat.le_of_ble_eq_true rfl) (zm_l.rc (w0_.f (zm_f.g gy_ oy_ : zm_f G o o1_ h hy_ (fun _ _ => False)) (fun _ _ y_ => y_.elim) id (fun _ _ y_ => y_))) (by omega) (by omega) (zm_add_M g (w0_.f (zm_f.g gy_ oy_ : zm_f G o o1_ h hy_ (fun _ _ => False)) (fun _ _ y_ => y_.elim) id (fun _ _ y_ => y_)) (zl_ob.W w1_ w2g_) (by omega) sk_ (Or.inr (Or.inr sk2_)) (by omega) (by omega) fun hz_ o2_ fz_ lz_ => ?_)
  show S 14 [some (.ref x)] [.int (Int32.ofInt (1 : Int))] _ _ _
  refine hs 6 _ rfl _ _ _ _ _ _ _ rfl ?_
  have xy_ := hX.g gy_ oy_
  have nn_ : ∀ i : Nat, ss_[i]? ≠ some s2_ := fun i e => by
    obtain ⟨p_, hp_⟩ : ∃ p_, P[i]? = some p_ := ⟨_, List.getElem?_eq_getElem (by have := (List.getElem?_eq_some_iff.mp e).1; omega)⟩
    obtain ⟨t_, v_, x1_, -⟩ := (w2_ _ _ _ e hp_).k
    have := zg_lt x1_
    omega
  have nw_ : now ≠ s2_ := by
    obtain ⟨t_, v_, x1_, -⟩ := a3_.k
    have := zg_lt x1_
    omega
  have xz_ := xy_.push (h := h) (o := o) sy_ nn_ nw_ w1_ w2g_ w3_ w4_ fz_ lz_
  have fr_ : zm_fr G h hz_ := (zm_fr.g gy_).tr (zm_fr.f fz_ zm_d4.ok)
  have sl_ : (ss_ ++ [s2_]).length = P.length + 1 := by rw [List.length_append, List.length_singleton, w1_]
  refine hs 7 _ rfl _ _ _ _ _ _ _ rfl ?_
  refine hs 8 _ rfl _ _ _ _ _ _ _ _ _ (xz_.1) a2_.1 rfl ?_
  refine zw_c (hs 9 _ rfl) (a := [.ref qw]) (st := []) rfl rfl (Nat.le_of_ble_eq_true rfl) (zm_l.rc lz_) (by omega) (by omega) (zm_size_M g lz_ ?_)
  show S 22 [some (.ref x)] [.int (Int32.ofInt ((ss_ ++ [s2_]).length : Int))] _ _ _
  refine hs 10 _ rfl _ _ _ _ _ _ _ rfl ?_
  by_cases c_ : P.length < 12
  · 
    refine hs 11 _ rfl _ _ _ _ _ _ _ (fun _ => ?_) (fun zq => absurd (hd_c2t (c := 5) (by omega) (by omega) (by omega) (by omega) (by omega : (((ss_ ++ [s2_]).length : Int) - (12 : Int)) ≤ 0)) zq)
    exact hs 17 _ rfl _ _ _ _ (by omega) (by omega) (hP _ _ fr_ (by rw [sp_keep_lt c_]; exact xz_))
  · obtain ⟨sz_, v0_, v1_, w2z_, v3_, v4_⟩ := xz_.2.2.2
    have v5_ : sz_.length = P.length + 1 := by rw [v1_, List.length_append, List.length_singleton]
    obtain ⟨s0_, hs0_⟩ : ∃ s0_, sz_[0]? = some s0_ := ⟨_, List.getElem?_eq_getElem (by omega)⟩
    refine hs 11 _ rfl _ _ _ _ _ _ _ (fun zq => absurd (hd_c2z (c := 5) (by omega) (by omega) (by omega) (by omega) zq) (by omega : ¬ ((((ss_ ++ [s2_]).length : Int) - (12 : Int)) ≤ 0))) (fun _ => ?_)
    refine hs 12 _ rfl _ _ _ _ _ _ _ rfl ?_
    refine hs 13 _ rfl _ _ _ _ _ _ _ _ _ (xz_.1) a2_.1 rfl ?_
    refine hs 14 _ rfl _ _ _ _ _ _ _ rfl ?_
    refine zw_c (hs 15 _ rfl) (a := [.ref qw, .int (Int32.ofInt (0 : Int))]) (st := []) rfl rfl (Nat.le_of_ble_eq_true rfl) (zm_l.rc v0_) (by omega) (by omega) (zm_rem_M g (j := 0) (v := s0_) v0_ (zl_ob.W v1_ w2z_) rfl hs0_ fun hv_ fv_ lv_ => ?_)
    show S 35 [some (.ref x)] [.ref s0_] _ _ _
    refine hs 16 _ rfl _ _ _ _ _ _ _ rfl ?_
    exact hs 17 _ rfl _ _ _ _ (by omega) (by omega) (hP _ _ (fr_.tr (zm_fr.f fv_ zm_d4.ok)) (by rw [sp_keep_ge (by omega)]; exact xz_.shift v1_ w2z_ v3_ v4_ fv_ lv_))
set_option maxHeartbeats 4000000 in
theorem zm_put_M {l : Launch} {G : am_G} {X : ck_XT} (g : gM l G X) {o : Nat → Nat} {x tx now qw : Nat} {th j m k : Int} {c : sp_S} {P : List sp_S} {h : List am_C} (hX : zm_x G h o x tx now qw th j m k c P) (hok : sp_ok c) (hp12 : P.length ≤ 12) {i : Nat} {e : Int} (he : e = (i : Int)) (hi : i < 6) {q : Nat} {z : Int} (hz : zn_N G h q z) (hz2 : sp_in z) {mc ms : Nat} {Post : am_O → List am_C → Prop} (hmc : 14 ≤ mc) (hms : 69 ≤ ms)
    (hP : ∀ (h' : List am_C) (d : Nat), zm_fr G h h' → zm_X G h' x th j m k (c.1, c.2.1.set i z, c.2.2) (sp_keep P c) → zc_dg (z.natAbs : Int) d → Post (.inl (some (.int (Int32.ofInt (d : Int))))) h') :
    am_M l G yX14_put (.code yX14_put prog_14_method_11_code 3 (some .int)) 11 294 mc ms [.ref x, .int (Int32.ofInt e), .ref q] h Post := by
  refine gh_yX14_put_X g (Nat.le_of_ble_eq_true rfl) fun S SX hs hr hw hx => ?_
  have rv : ∀ x : Int32, ck_fv 0 (.int x) := fun x => ⟨_, rfl⟩
  obtain ⟨a1_, a2_, a3_, a4_⟩ := id hX
  have ok1_ := hok.2.1.1
  rw [he]
  show S 0 [some (.ref x), some (.int (Int32.ofInt (i : Int))), some (.ref q)] [] _ _ _
  refine hs 0 _ rfl _ _ _ _ _ _ _ rfl ?_
  refine zw_cm (hs 1 _ rfl) (a := [.ref x]) (st := []) 14 69 rfl rfl (Nat.le_of_ble_eq_true rfl) ⟨_, _, _, rfl, a1_, a2_.1⟩ (by omega) (by omega) (zm_keep_M g hX hok hp12 (by omega) (by omega) fun hy_ o1_ fy_ xy_ => ?_)
  show S 4 [some (.ref x), some (.int (Int32.ofInt (i : Int))), some (.ref q)] [] _ _ _
  obtain ⟨t_, qn_, tn_, ql_, qb_, vn_, s1_, ⟨b1_, b2_, b3_⟩, ⟨d1_, d2_⟩, up_⟩ := xy_.numL
  have hq_ := fy_.num hz
  obtain ⟨nt_, nd_, ntd_, nb_, nds_, n1_, n2_, n3_, n4_, n5_⟩ := id hq_
  have nl_ : nds_.length ≤ 36 := zm_len n5_ hz2
  have m1_ := zg_ne n1_ b1_ (by rw [n2_, b2_]; decide)
  have m2_ := zg_ne n3_ b1_ (by rw [n4_, b2_]; decide)
  refine hs 2 _ rfl _ _ _ _ _ _ _ rfl ?_
  refine hs 3 _ rfl _ _ _ _ _ _ _ _ _ (xy_.1) a2_.1 rfl ?_
  refine hs 4 _ rfl _ _ _ _ _ _ _ _ _ (s1_.1) s1_.2 rfl ?_
  refine hs 5 _ rfl _ _ _ _ _ _ _ rfl ?_
  refine hs 6 _ rfl _ _ _ _ _ _ _ rfl ?_
  refine zw_Br (hs 7 _ rfl) (by omega) (b1_) (by first | decide | (rw [b2_]; decide)) (by first | decide | (rw [b2_]; decide)) (j := i) (by omega) (by omega) (by rw [List.length_map, d1_]; omega) (Or.inr (Or.inr (Or.inr (Or.inr ⟨_, _, _, rfl, n1_, by rw [b2_, n2_]; decide⟩)))) fun hz285 wz286 => ?_
  refine hs 8 _ rfl _ _ _ _ _ _ _ rfl ?_
  refine zw_c (hs 9 _ rfl) (a := [.ref q]) (st := []) rfl rfl (Nat.le_of_ble_eq_true rfl) ⟨_, _, _, rfl, ((wz286.ne (by omega)).trans n1_), n2_⟩ (by omega) (by omega) (zn_many_M g ((wz286.ne (by omega)).trans n1_) n2_ ((wz286.ne (by omega)).trans n3_) n4_ n5_ (by omega) ?_)
  show S 18 [some (.ref x), some (.int (Int32.ofInt (i : Int))), some (.ref q)] [.int (Int32.ofInt ((if nds_.length = 0 then 1 else nds_.length : Nat) : Int))] _ _ _
  exact hs 10 _ rfl _ _ _ _ _ (rv _) (by omega) (by omega) (hP _ _ (fy_.tr (zm_fr.w wz286 b1_ (Or.inr (Or.inr b2_)))) ⟨_, _, _, _, up_ _ _ _ _ wz286 hq_⟩ (zm_dg n5_))
set_option maxHeartbeats 4000000 in
theorem zm_round_M {l : Launch} {G : am_G} {X : ck_XT} (g : gM l G X) {o : Nat → Nat} {x tx now qw : Nat} {th j m k : Int} {c : sp_S} {P : List sp_S} {h : List am_C} (hX : zm_x G h o x tx now qw th j m k c P) (hok : sp_ok c) (hp12 : P.length ≤ 12) {i : Nat} {e : Int} (he : e = (i : Int)) (hi : i < 6) {v : Int} (hv : v = -9 ∨ v = -8 ∨ 0 ≤ v) (hv2 : v ≤ 1000) {mc ms : Nat} {Post : am_O → List am_C → Prop} (hmc : 17 ≤ mc) (hms : 111 ≤ ms)
    (hJ : v = -9 → ∀ h', zm_fr G h h' → zm_x G h' o x tx now qw th (j + 1) m k c P → Post (.inl (some (.int (Int32.ofInt (-9))))) h')
    (hM : v = -8 → ∀ h', zm_fr G h h' → zm_x G h' o x tx now qw th j (m + 1) k c P → Post (.inl (some (.int (Int32.ofInt (-8))))) h')
    (hP : 0 ≤ v → ∀ h', zm_fr G h h' → zm_X G h' x th j m k (c.1, c.2.1.set i v, c.2.2) (sp_keep P c) → Post (.inl (some (.int (Int32.ofInt v)))) h') :
    am_M l G yX14_round (.code yX14_round prog_14_method_18_code 3 (some .int)) 12 316 mc ms [.ref x, .int (Int32.ofInt e), .int (Int32.ofInt v)] h Post := by
  refine gh_yX14_round_X g (Nat.le_of_ble_eq_true rfl) fun S SX hs hr hw hx => ?_
  have rv : ∀ x : Int32, ck_fv 0 (.int x) := fun x => ⟨_, rfl⟩
  obtain ⟨a1_, a2_, a3_, a4_⟩ := id hX
  rw [he]
  show S 0 [some (.ref x), some (.int (Int32.ofInt (i : Int))), some (.int (Int32.ofInt v))] [] _ _ _
  by_cases c1_ : v = -9
  · 
    refine hs 0 _ rfl _ _ _ _ _ _ _ rfl ?_
    refine hs 1 _ rfl _ _ _ _ _ _ _ rfl ?_
    refine hs 2 _ rfl _ _ _ _ _ _ _ (fun zq => absurd (hd_c2z (c := 1) (by omega) (by omega) (by omega) (by omega) zq) (by omega : ¬ ((v - (-9 : Int)) ≠ 0))) (fun _ => ?_)
    refine hs 3 _ rfl _ _ _ _ _ _ _ rfl ?_
    refine hs 4 _ rfl _ _ _ _ _ _ _ rfl ?_
    refine hs 5 _ rfl _ _ _ _ _ _ _ _ _ (a1_) a2_.1 rfl ?_
    refine hs 6 _ rfl _ _ _ _ _ _ _ rfl ?_
    refine hs 7 _ rfl _ _ _ _ _ _ _ hd_add ?_
    refine zw_U (hs 8 _ rfl) (by omega) (a1_) a2_.1 ⟨_, rfl⟩ fun hz289 wz290 => ?_
    have wz290 : hd_w G h hz289 x (tx, [.int (Int32.ofInt th), .ref now, .ref qw, .int (Int32.ofInt (j + (1 : Int))), .int (Int32.ofInt m), .int (Int32.ofInt k)]) := wz290
    have lwz290 := wz290.1
    refine hs 9 _ rfl _ _ _ _ _ ?_
    refine hs 27 _ rfl _ _ _ _ _ _ _ rfl ?_
    rw [c1_]
    exact hs 28 _ rfl _ _ _ _ _ (rv _) (by omega) (by omega) (hJ c1_ _ (zm_fr.w wz290 a1_ (Or.inl a2_.1)) (hX.own wz290))
  · by_cases c2_ : v = -8
    · 
      refine hs 0 _ rfl _ _ _ _ _ _ _ rfl ?_
      refine hs 1 _ rfl _ _ _ _ _ _ _ rfl ?_
      refine hs 2 _ rfl _ _ _ _ _ _ _ (fun _ => ?_) (fun zq => absurd (hd_c2t (c := 1) (by omega) (by omega) (by omega) (by omega) (by omega : (v - (-9 : Int)) ≠ 0)) zq)
      refine hs 10 _ rfl _ _ _ _ _ _ _ rfl ?_
      refine hs 11 _ rfl _ _ _ _ _ _ _ rfl ?_
      refine hs 12 _ rfl _ _ _ _ _ _ _ (fun zq => absurd (hd_c2z (c := 1) (by omega) (by omega) (by omega) (by omega) zq) (by omega : ¬ ((v - (-8 : Int)) ≠ 0))) (fun _ => ?_)
      refine hs 13 _ rfl _ _ _ _ _ _ _ rfl ?_
      refine hs 14 _ rfl _ _ _ _ _ _ _ rfl ?_
      refine hs 15 _ rfl _ _ _ _ _ _ _ _ _ (a1_) a2_.1 rfl ?_
      refine hs 16 _ rfl _ _ _ _ _ _ _ rfl ?_
      refine hs 17 _ rfl _ _ _ _ _ _ _ hd_add ?_
      refine zw_U (hs 18 _ rfl) (by omega) (a1_) a2_.1 ⟨_, rfl⟩ fun hz291 wz292 => ?_
      have wz292 : hd_w G h hz291 x (tx, [.int (Int32.ofInt th), .ref now, .ref qw, .int (Int32.ofInt j), .int (Int32.ofInt (m + (1 : Int))), .int (Int32.ofInt k)]) := wz292
      have lwz292 := wz292.1
      refine hs 19 _ rfl _ _ _ _ _ ?_
      refine hs 27 _ rfl _ _ _ _ _ _ _ rfl ?_
      rw [c2_]
      exact hs 28 _ rfl _ _ _ _ _ (rv _) (by omega) (by omega) (hM c2_ _ (zm_fr.w wz292 a1_ (Or.inl a2_.1)) (hX.own wz292))
    · 
      refine hs 0 _ rfl _ _ _ _ _ _ _ rfl ?_
      refine hs 1 _ rfl _ _ _ _ _ _ _ rfl ?_
      refine hs 2 _ rfl _ _ _ _ _ _ _ (fun _ => ?_) (fun zq => absurd (hd_c2t (c := 1) (by omega) (by omega) (by omega) (by omega) (by omega : (v - (-9 : Int)) ≠ 0)) zq)
      refine hs 10 _ rfl _ _ _ _ _ _ _ rfl ?_
      refine hs 11 _ rfl _ _ _ _ _ _ _ rfl ?_
      refine hs 12 _ rfl _ _ _ _ _ _ _ (fun _ => ?_) (fun zq => absurd (hd_c2t (c := 1) (by omega) (by omega) (by omega) (by omega) (by omega : (v - (-8 : Int)) ≠ 0)) zq)
      refine hs 20 _ rfl _ _ _ _ _ _ _ rfl ?_
      refine hs 21 _ rfl _ _ _ _ _ _ _ rfl ?_
      refine hs 22 _ rfl _ _ _ _ _ _ _ rfl ?_
      refine hs 23 _ rfl _ _ _ _ _ _ _ (hd_i2l (by omega) (by omega)) ?_
      refine zw_cm (hs 24 _ rfl) (a := [.long (Int64.ofInt v)]) (st := [.int (Int32.ofInt (i : Int)), .ref x]) 3 42 rfl rfl (Nat.le_of_ble_eq_true rfl) trivial (by omega) (by omega) (zn_of_M g (by omega) (by omega) (by omega) (by omega) fun hn_ q_ gn_ zn_ => ?_)
      show S 45 [some (.ref x), some (.int (Int32.ofInt (i : Int))), some (.int (Int32.ofInt v))] [.ref q_, .int (Int32.ofInt (i : Int)), .ref x] _ _ _
      refine zw_cm (hs 25 _ rfl) (a := [.ref x, .int (Int32.ofInt (i : Int)), .ref q_]) (st := []) 14 69 rfl rfl (Nat.le_of_ble_eq_true rfl) ⟨_, _, _, rfl, gn_.2 _ _ a1_, a2_.1⟩ (by omega) (by omega) (zm_put_M g (hX.g gn_ fun _ _ => rfl) hok hp12 rfl hi zn_ (by unfold sp_in; omega) (by omega) (by omega) fun hy_ d_ fy_ xy_ dg_ => ?_)
      show S 48 [some (.ref x), some (.int (Int32.ofInt (i : Int))), some (.int (Int32.ofInt v))] [.int (Int32.ofInt (d_ : Int))] _ _ _
      refine hs 26 _ rfl _ _ _ _ _ _ _ rfl ?_
      refine hs 27 _ rfl _ _ _ _ _ _ _ rfl ?_
      exact hs 28 _ rfl _ _ _ _ _ (rv _) (by omega) (by omega) (hP (by omega) _ ((zm_fr.g gn_).tr fy_) xy_)
set_option maxHeartbeats 4000000 in
theorem zm_addRow_M {l : Launch} {G : am_G} {X : ck_XT} (g : gM l G X) {o : Nat → Nat} {x tx now qw : Nat} {th j m k : Int} {c : sp_S} {P : List sp_S} {h : List am_C} (hX : zm_x G h o x tx now qw th j m k c P) (hok : sp_ok c) (hp12 : P.length ≤ 12) {r_ : Int} {m_ : Nat} (hr1 : -2147483648 ≤ r_) (hr2 : r_ ≤ 2147483647) (hm1 : 1 ≤ m_) (hm2 : m_ ≤ 999) (hl6 : c.2.2.1.length < 6) {mc ms : Nat} {Post : am_O → List am_C → Prop} (hmc : 16 ≤ mc) (hms : 91 ≤ ms)
    (hP : ∀ h', zm_fr G h h' → zm_X G h' x th j m k (c.1, c.2.1, c.2.2.1 ++ [(r_ % (m_ : Int), (m_ : Int))], c.2.2.2) (sp_keep P c) → Post (.inl (some (.int (Int32.ofInt (c.2.2.1.length : Int))))) h') :
    am_M l G yX14_add (.code yX14_add prog_14_method_32_code 3 (some .int)) 11 294 mc ms [.ref x, .int (Int32.ofInt r_), .int (Int32.ofInt (m_ : Int))] h Post := by
  refine gh_yX14_add_X g (Nat.le_of_ble_eq_true rfl) fun S SX hs hr hw hx => ?_
  have rv : ∀ x : Int32, ck_fv 0 (.int x) := fun x => ⟨_, rfl⟩
  obtain ⟨a1_, a2_, a3_, a4_⟩ := id hX
  refine hs 0 _ rfl _ _ _ _ _ _ _ rfl ?_
  refine zw_cm (hs 1 _ rfl) (a := [.ref x]) (st := []) 14 69 rfl rfl (Nat.le_of_ble_eq_true rfl) ⟨_, _, _, rfl, a1_, a2_.1⟩ (by omega) (by omega) (zm_keep_M g hX hok hp12 (by omega) (by omega) fun hy_ o1_ fy_ xy_ => ?_)
  show S 4 [some (.ref x), some (.int (Int32.ofInt r_)), some (.int (Int32.ofInt (m_ : Int)))] [] _ _ _
  obtain ⟨t_, qn_, ql_, qb_, vl_, s1_, l1_, ⟨e1_, e2_⟩, up_⟩ := xy_.rowL
  refine hs 2 _ rfl _ _ _ _ _ _ _ rfl ?_
  refine hs 3 _ rfl _ _ _ _ _ _ _ _ _ (xy_.1) a2_.1 rfl ?_
  refine hs 4 _ rfl _ _ _ _ _ _ _ _ _ (s1_.1) s1_.2 rfl ?_
  refine hs 5 _ rfl _ _ _ _ _ _ _ rfl ?_
  refine zw_E (G := G) (hs 6 _ rfl) (t := 50) (N := 2) rfl (by omega) (by omega) (by omega) (by omega) fun hz293 az294 ez295 lz296 gz297 cz298 => ?_
  refine hs 7 _ rfl _ _ _ _ _ _ _ rfl ?_
  refine hs 8 _ rfl _ _ _ _ _ _ _ rfl ?_
  refine hs 9 _ rfl _ _ _ _ _ _ _ rfl ?_
  refine hs 10 _ rfl _ _ _ _ _ _ _ rfl ?_
  refine zw_c (hs 11 _ rfl) (a := [.int (Int32.ofInt r_), .int (Int32.ofInt (m_ : Int))]) (st := [.int (Int32.ofInt (0 : Int)), .ref az294, .ref az294, .ref ql_]) rfl rfl (Nat.le_of_ble_eq_true rfl) trivial (by omega) (by omega) (zy_modOf_M g hr1 hr2 hm1 hm2 ?_)
  show S 21 [some (.ref x), some (.int (Int32.ofInt r_)), some (.int (Int32.ofInt (m_ : Int)))] [.int (Int32.ofInt (r_ % (m_ : Int))), .int (Int32.ofInt (0 : Int)), .ref az294, .ref az294, .ref ql_] _ _ _
  refine zw_B (hs 12 _ rfl) (by decide) (by decide) (by omega) (cz298) rfl (j := 0) (by omega) (by omega) (by simp only [List.length_replicate]; decide) fun hz299 wz300 => ?_
  refine hs 13 _ rfl _ _ _ _ _ _ _ rfl ?_
  refine hs 14 _ rfl _ _ _ _ _ _ _ rfl ?_
  refine hs 15 _ rfl _ _ _ _ _ _ _ rfl ?_
  refine zw_B (hs 16 _ rfl) (by decide) (by decide) (by omega) (wz300.at) rfl (j := 1) (by omega) (by omega) (by simp only [List.length_set, List.length_replicate]; decide) fun hz301 wz302 => ?_
  have g3_ : zg G hy_ hz301 := (gz297.w wz300 (by omega)).w wz302 (by omega)
  have f3_ : zm_f G o1_ o1_ hy_ hz301 (fun _ _ => False) := zm_f.g g3_ fun _ _ => rfl
  have l3_ := l1_.f f3_ (fun _ _ y_ => y_.elim) id (fun _ _ y_ => y_)
  have rz_ : am_g G hz301 az294 = some (50, hd_r [r_ % (m_ : Int), (m_ : Int)]) := wz302.at
  have ob_ : zl_ob G hz301 vl_ := fun i_ v_ hv_ => by
    obtain ⟨p_, hp_⟩ : ∃ p_, c.2.2.1[i_]? = some p_ := ⟨_, List.getElem?_eq_getElem (by have := (List.getElem?_eq_some_iff.mp hv_).1; omega)⟩
    obtain ⟨t9_, y1_, y2_⟩ := e2_ _ _ _ hv_ hp_
    exact ⟨t9_, _, g3_.2 _ _ y1_, by rw [y2_]; rfl⟩
  refine zw_cm (hs 17 _ rfl) (a := [.ref ql_, .ref az294]) (st := []) 1 20 rfl rfl (Nat.le_of_ble_eq_true rfl) (zm_l.rc l3_) (by omega) (by omega) (zm_add_M g l3_ ob_ (by omega) rz_ (Or.inl rfl) (by omega) (by omega) fun hz_ o2_ fz_ lz_ => ?_)
  show S 29 [some (.ref x), some (.int (Int32.ofInt r_)), some (.int (Int32.ofInt (m_ : Int)))] [.int (Int32.ofInt (1 : Int))] _ _ _
  refine hs 18 _ rfl _ _ _ _ _ _ _ rfl ?_
  have f4_ : zm_f G o1_ o2_ hy_ hz_ (zm_d4 o1_ ql_) := f3_.tr fz_ (fun _ _ y_ => y_.elim) (fun _ _ _ _ y_ => y_)
  have up2_ := up_ hz_ o2_ (vl_ ++ [az294]) (c.2.2.1 ++ [(r_ % (m_ : Int), (m_ : Int))]) f4_ lz_ (by rw [List.length_append, List.length_append, e1_]; rfl) (fun i_ v_ p_ y1_ y2_ => by
    by_cases c_ : i_ < vl_.length
    · rw [List.getElem?_append_left c_] at y1_
      rw [List.getElem?_append_left (by omega)] at y2_
      exact (e2_ _ _ _ y1_ y2_).f f4_ zm_d4.ok
    · have y3_ := (List.getElem?_eq_some_iff.mp y1_).1
      rw [List.length_append, List.length_singleton] at y3_
      obtain rfl : i_ = vl_.length := by omega
      rw [List.getElem?_append_right (Nat.le_refl _), Nat.sub_self] at y1_
      rw [List.getElem?_append_right (by omega), e1_, Nat.sub_self] at y2_
      cases y1_
      cases y2_
      exact ⟨50, fz_.2.2 _ _ _ rz_ (zm_d4.nk (by decide) (by decide)), rfl⟩)
  have s2_ := f4_.2.2 _ _ _ s1_.1 (by rw [s1_.2]; exact zm_d4.nk (by decide) (by decide))
  refine hs 19 _ rfl _ _ _ _ _ _ _ rfl ?_
  refine hs 20 _ rfl _ _ _ _ _ _ _ _ _ (up2_.1) a2_.1 rfl ?_
  refine hs 21 _ rfl _ _ _ _ _ _ _ _ _ (s2_) s1_.2 rfl ?_
  refine zw_c (hs 22 _ rfl) (a := [.ref ql_]) (st := []) rfl rfl (Nat.le_of_ble_eq_true rfl) (zm_l.rc lz_) (by omega) (by omega) (zm_size_M g lz_ ?_)
  show S 40 [some (.ref x), some (.int (Int32.ofInt r_)), some (.int (Int32.ofInt (m_ : Int)))] [.int (Int32.ofInt ((vl_ ++ [az294]).length : Int))] _ _ _
  refine hs 23 _ rfl _ _ _ _ _ _ _ rfl ?_
  refine hs 24 _ rfl _ _ _ _ _ _ _ hd_sub ?_
  have sl_ : ((vl_ ++ [az294]).length : Int) - 1 = (c.2.2.1.length : Int) := by
    rw [List.length_append, List.length_singleton]
    omega
  rw [sl_]
  exact hs 25 _ rfl _ _ _ _ _ (rv _) (by omega) (by omega) (hP _ ((fy_.tr (zm_fr.g g3_)).tr (zm_fr.f fz_ zm_d4.ok)) ⟨_, _, _, _, up2_⟩)
end
section
/-! WHAT JOINS AND TURNS IN THE REFERENCE, TO BE WALKED BY HAND -/
def gt_yX14_found_X : ck_TB := ([], [], [], [], [], [], [], [(148, [50])], ([(135, 0)], [], [(149, 3), (153, 4)], [(139, 1), (144, 2)]), [], [], [], 4)
def ge_yX14_found_X : ck_E := (gT, [], (([], [], [], 0, []), ((0, []), (0, [])), [], [], ([], [], [], 0, []), []), 8, [(0, (0, 1, 0, 0, 1, 0, [])), (1, (0, 7, 1, 0, 2, 0, [])), (2, (0, 1, 0, 1, 3, 0, [])), (3, (0, 7, 3, 0, 4, 0, [])), (4, (0, 5, 0, 0, 5, 0, [])), (5, (16, 0, 0, 0, 8, 0, [])), (8, (0, 8, 5, 0, 10, 0, [])), (10, (0, 5, 5, 0, 12, 0, [])), (12, (16, 1, 0, 0, 17, 0, [])), (17, (1, 0, 0, 0, 20, 69, [])), (20, (0, 5, 5, 0, 22, 0, [])), (22, (16, 2, 0, 0, 27, 0, [])), (27, (19, 0, 0, 0, 30, 0, [(0, 50)])), (30, (0, 8, 6, 0, 32, 0, [])), (32, (0, 4, 1, 0, 33, 0, [])), (33, (0, 4, 3, 0, 34, 0, [])), (34, (0, 5, 6, 0, 36, 0, [])), (36, (16, 3, 0, 0, 39, 0, [])), (39, (0, 6, 7, 0, 41, 0, [])), (41, (0, 3, 7, 0, 43, 0, [])), (43, (0, 0, 0, (-1), 44, 0, [])), (44, (2, 1, 0, 0, 47, 49, [])), (47, (0, 2, 0, 0, 48, 0, [])), (48, (14, 0, 0, 4, 0, 0, [])), (49, (0, 4, 1, 0, 50, 0, [])), (50, (0, 3, 7, 0, 52, 0, [])), (52, (0, 19, 0, 0, 53, 0, [])), (53, (0, 4, 3, 0, 54, 0, [])), (54, (0, 16, 2, 0, 55, 0, [])), (55, (0, 16, 0, 0, 56, 0, [])), (56, (0, 7, 1, 0, 57, 0, [])), (57, (0, 4, 3, 0, 58, 0, [])), (58, (0, 5, 6, 0, 60, 0, [])), (60, (0, 0, 0, 1, 61, 0, [])), (61, (12, 50, 50, 0, 62, 0, [])), (62, (16, 4, 0, 0, 65, 0, [])), (65, (0, 7, 3, 0, 66, 0, [])), (66, (3, 0, 0, 0, 0, 10, [])), (69, (0, 0, 0, 2, 70, 0, [])), (70, (10, 52, 52, 1, 72, 0, [])), (72, (0, 12, 0, 0, 73, 0, [])), (73, (0, 0, 0, 0, 74, 0, [])), (74, (0, 4, 1, 0, 75, 0, [])), (75, (13, 52, 52, 0, 76, 0, [])), (76, (0, 12, 0, 0, 77, 0, [])), (77, (0, 0, 0, 1, 78, 0, [])), (78, (0, 4, 3, 0, 79, 0, [])), (79, (13, 52, 52, 0, 80, 0, [])), (80, (14, 0, 0, 4, 0, 0, []))], [(some 6, 1, []), (some 5, 1, []), (some 5, 1, []), (none, 3, []), (none, 2, [])], [], [], [])
theorem gd_yX14_found_X : ck_dec prog_14_method_28_code gt_yX14_found_X ge_yX14_found_X.2.2.2.2.1 = true := by decide +kernel
theorem gh_yX14_found_X {l : Launch} {G : am_G} {X : ck_XT} (g : gM l G X) {a : List Value} {h : List am_C} {mc ms : Nat} {Post : am_O → List am_C → Prop} (hay : (am_lay a).length ≤ 8) (H : ∀ (S : ck_SS) (SX : Nat → ck_SX), ck_hs G S SX Post mc ms (ck_cms [am_cm l G yJx4a65c_iterator_32c93 (.code yJx4a65c_iterator_32c93 prog_46_method_55_code 1 (some (.object "java/util/Iterator"))) 2 41, am_cn l G yJx35411_hasNext_aae02 (.code yJx35411_hasNext_aae02 prog_47_method_2_code 1 (some .boolean)) 1 20, am_cn l G yJx35411_next_0502b (.code yJx35411_next_0502b prog_47_method_3_code 3 (some (.object "java/lang/Object"))) 2 40, am_cm l G yX14_tried (.code yX14_tried prog_14_method_29_code 6 (some .int)) 1 20, am_cm l G yX14_common (.code yX14_common prog_14_method_30_code 3 (some .long)) 2 43]) ge_yX14_found_X → (∀ pc, ck_sR G S pc) → ck_hw S → zw_hx SX Post mc ms → S 0 (am_ent a 8) [] h 0 0) : am_M l G yX14_found (.code yX14_found prog_14_method_28_code 8 (some (.array .long))) 3 65 mc ms a h Post :=
  zw_handX (E := ge_yX14_found_X) (tb := gt_yX14_found_X) (init := false) (cm := (ck_cms [am_cm l G yJx4a65c_iterator_32c93 (.code yJx4a65c_iterator_32c93 prog_46_method_55_code 1 (some (.object "java/util/Iterator"))) 2 41, am_cn l G yJx35411_hasNext_aae02 (.code yJx35411_hasNext_aae02 prog_47_method_2_code 1 (some .boolean)) 1 20, am_cn l G yJx35411_next_0502b (.code yJx35411_next_0502b prog_47_method_3_code 3 (some (.object "java/lang/Object"))) 2 40, am_cm l G yX14_tried (.code yX14_tried prog_14_method_29_code 6 (some .int)) 1 20, am_cm l G yX14_common (.code yX14_common prog_14_method_30_code 3 (some .long)) 2 43])) g.1.1 (by decide +kernel) rfl gd_yX14_found_X ⟨(List.forall_mem_nil _), (List.forall_mem_nil _), (List.forall_mem_nil _), (List.forall_mem_nil _), (List.forall_mem_nil _), (List.forall_mem_nil _), (List.forall_mem_nil _), (List.forall_mem_nil _)⟩ (List.forall_mem_nil _) (fun h => nomatch h) ⟨_, rfl, Or.inr ⟨_, rfl⟩⟩ (by decide) (by decide) g_oi g_ar
    (fun s hk _ => (List.forall_mem_nil _)) (fun s hk => (List.forall_mem_cons.mpr ⟨⟨_, w2049, (List.forall_mem_cons.mpr ⟨am_isa_own hk (q := 50) (by decide) (by decide) (by decide +kernel), (List.forall_mem_nil _)⟩)⟩, (List.forall_mem_nil _)⟩))
    (List.forall_mem_cons.mpr ⟨(ck_kV g_y_yJx4a65c_iterator_32c93 w2044 w1771 w1772 (T := TJx4a65c) (N := 3) rfl (by decide) (by decide) (by decide)), (List.forall_mem_nil _)⟩) (List.forall_mem_nil _) (List.forall_mem_cons.mpr ⟨(ck_kS g_y_yX14_tried w2050 w2051 (by decide) (by decide)), (List.forall_mem_cons.mpr ⟨(ck_kS g_y_yX14_common w2053 w2054 (by decide) (by decide)), (List.forall_mem_nil _)⟩)⟩) (List.forall_mem_cons.mpr ⟨(ck_kF (x := ({ cls := "java/util/Iterator", name := "hasNext", desc := "()Z" } : MethodName)) g_y_yJx35411_hasNext_aae02 w2046 w1798 w1800 w1796 w1795 w1801 w1799 w1797 (by decide +kernel) (T := TJx35411) (N := 4) rfl (by decide) (by decide) (by decide)), (List.forall_mem_cons.mpr ⟨(ck_kF (x := ({ cls := "java/util/Iterator", name := "next", desc := "()Ljava/lang/Object;" } : MethodName)) g_y_yJx35411_next_0502b w2048 w1807 w1809 w1806 w1805 w1810 w1808 w1797 (by decide +kernel) (T := TJx35411) (N := 4) rfl (by decide) (by decide) (by decide)), (List.forall_mem_nil _)⟩)⟩)
    (List.forall_mem_nil _) hay H
def gt_yX14_isFit_X : ck_TB := ([], [], [], [(18, 19, 1), (160, 18, 2)], [], [], [], [], ([], [], [(149, 2), (163, 0), (167, 1)], []), [], [], [], 1)
def ge_yX14_isFit_X : ck_E := (gT, [], (([], [], [], 0, []), ((0, []), (0, [])), [], [], ([], [], [], 0, []), []), 4, [(0, (0, 5, 0, 0, 1, 0, [])), (1, (7, 19, 1, 0, 4, 0, [])), (4, (7, 18, 2, 0, 7, 0, [])), (7, (16, 0, 0, 0, 10, 0, [])), (10, (0, 8, 3, 0, 11, 0, [])), (11, (0, 5, 3, 0, 12, 0, [])), (12, (4, 0, 0, 0, 15, 47, [])), (15, (0, 5, 3, 0, 16, 0, [])), (16, (0, 0, 0, 0, 17, 0, [])), (17, (12, 52, 52, 0, 18, 0, [])), (18, (0, 5, 3, 0, 19, 0, [])), (19, (0, 0, 0, 1, 20, 0, [])), (20, (12, 52, 52, 0, 21, 0, [])), (21, (0, 0, 0, 2, 22, 0, [])), (22, (10, 50, 50, 0, 24, 0, [])), (24, (0, 12, 0, 0, 25, 0, [])), (25, (0, 0, 0, 0, 26, 0, [])), (26, (0, 3, 1, 0, 27, 0, [])), (27, (0, 3, 2, 0, 28, 0, [])), (28, (16, 1, 0, 0, 31, 0, [])), (31, (13, 50, 50, 0, 32, 0, [])), (32, (0, 12, 0, 0, 33, 0, [])), (33, (0, 0, 0, 1, 34, 0, [])), (34, (0, 3, 2, 0, 35, 0, [])), (35, (13, 50, 50, 0, 36, 0, [])), (36, (16, 2, 0, 0, 39, 0, [])), (39, (0, 0, 0, (-1), 40, 0, [])), (40, (2, 0, 0, 0, 43, 47, [])), (43, (0, 0, 0, 1, 44, 0, [])), (44, (3, 0, 0, 0, 0, 48, [])), (47, (0, 0, 0, 0, 48, 0, [])), (48, (14, 0, 0, 1, 0, 0, []))], [(none, 1, []), (none, 2, []), (none, 3, [])], [], [], [])
theorem gd_yX14_isFit_X : ck_dec prog_14_method_31_code gt_yX14_isFit_X ge_yX14_isFit_X.2.2.2.2.1 = true := by decide +kernel
theorem gh_yX14_isFit_X {l : Launch} {G : am_G} {X : ck_XT} (g : gM l G X) {a : List Value} {h : List am_C} {mc ms : Nat} {Post : am_O → List am_C → Prop} (hay : (am_lay a).length ≤ 4) (H : ∀ (S : ck_SS) (SX : Nat → ck_SX), ck_hs G S SX Post mc ms (ck_cms [am_cm l G yX14_found (.code yX14_found prog_14_method_28_code 8 (some (.array .long))) 3 65, am_cm l G yX14_modOf (.code yX14_modOf prog_14_method_7_code 2 (some .int)) 1 20, am_cm l G yX14_tried (.code yX14_tried prog_14_method_29_code 6 (some .int)) 1 20]) ge_yX14_isFit_X → (∀ pc, ck_sR G S pc) → ck_hw S → zw_hx SX Post mc ms → S 0 (am_ent a 4) [] h 0 0) : am_M l G yX14_isFit (.code yX14_isFit prog_14_method_31_code 4 (some .boolean)) 4 92 mc ms a h Post :=
  zw_handX (E := ge_yX14_isFit_X) (tb := gt_yX14_isFit_X) (init := false) (cm := (ck_cms [am_cm l G yX14_found (.code yX14_found prog_14_method_28_code 8 (some (.array .long))) 3 65, am_cm l G yX14_modOf (.code yX14_modOf prog_14_method_7_code 2 (some .int)) 1 20, am_cm l G yX14_tried (.code yX14_tried prog_14_method_29_code 6 (some .int)) 1 20])) g.1.1 (by decide +kernel) rfl gd_yX14_isFit_X ⟨(List.forall_mem_nil _), (List.forall_mem_nil _), (List.forall_mem_nil _), (List.forall_mem_cons.mpr ⟨⟨⟨_, _, _, rfl, Or.inl w1718⟩, by decide, _, _, g_fd19_1⟩, (List.forall_mem_cons.mpr ⟨⟨⟨_, _, _, rfl, Or.inl w1703⟩, by decide, _, _, g_fd18_2⟩, (List.forall_mem_nil _)⟩)⟩), (List.forall_mem_nil _), (List.forall_mem_nil _), (List.forall_mem_nil _), (List.forall_mem_nil _)⟩ (List.forall_mem_nil _) (fun h => nomatch h) ⟨_, rfl, rfl⟩ (by decide) (by decide) g_oi g_ar
    (fun s hk _ => (List.forall_mem_nil _)) (fun s hk => (List.forall_mem_nil _))
    (List.forall_mem_nil _) (List.forall_mem_nil _) (List.forall_mem_cons.mpr ⟨(ck_kS g_y_yX14_tried w2050 w2051 (by decide) (by decide)), (List.forall_mem_cons.mpr ⟨(ck_kS g_y_yX14_found w2041 w2042 (by decide) (by decide)), (List.forall_mem_cons.mpr ⟨(ck_kS g_y_yX14_modOf w2030 w2031 (by decide) (by decide)), (List.forall_mem_nil _)⟩)⟩)⟩) (List.forall_mem_nil _)
    (List.forall_mem_nil _) hay H
def gt_yX14_inverseAt_X : ck_TB := ([], [], [], [(18, 19, 1), (65, 18, 0)], [], [], [], [], ([(106, 0), (114, 1)], [], [], []), [], [], [], 0)
def ge_yX14_inverseAt_X : ck_E := (gT, [], (([], [], [], 0, []), ((0, []), (0, [])), [], [], ([], [], [], 0, []), []), 4, [(0, (0, 5, 0, 0, 1, 0, [])), (1, (16, 0, 0, 0, 4, 0, [])), (4, (1, 0, 0, 0, 7, 10, [])), (7, (0, 0, 0, (-9), 9, 0, [])), (9, (14, 0, 0, 0, 0, 0, [])), (10, (0, 5, 0, 0, 11, 0, [])), (11, (0, 3, 1, 0, 12, 0, [])), (12, (16, 1, 0, 0, 15, 0, [])), (15, (0, 6, 2, 0, 16, 0, [])), (16, (0, 0, 0, 0, 17, 0, [])), (17, (0, 6, 3, 0, 18, 0, [])), (18, (0, 3, 3, 0, 19, 0, [])), (19, (0, 5, 0, 0, 20, 0, [])), (20, (7, 19, 1, 0, 23, 0, [])), (23, (7, 18, 0, 0, 26, 0, [])), (26, (2, 3, 0, 0, 29, 60, [])), (29, (0, 3, 2, 0, 30, 0, [])), (30, (0, 3, 3, 0, 31, 0, [])), (31, (0, 15, 2, 0, 32, 0, [])), (32, (0, 5, 0, 0, 33, 0, [])), (33, (7, 19, 1, 0, 36, 0, [])), (36, (7, 18, 0, 0, 39, 0, [])), (39, (0, 15, 4, 0, 40, 0, [])), (40, (0, 0, 0, 1, 41, 0, [])), (41, (0, 5, 0, 0, 42, 0, [])), (42, (7, 19, 1, 0, 45, 0, [])), (45, (7, 18, 0, 0, 48, 0, [])), (48, (0, 15, 4, 0, 49, 0, [])), (49, (2, 1, 0, 0, 52, 54, [])), (52, (0, 3, 3, 0, 53, 0, [])), (53, (14, 0, 0, 0, 0, 0, [])), (54, (0, 9, 3, 1, 57, 0, [])), (57, (3, 0, 0, 0, 0, 18, [])), (60, (0, 0, 0, (-8), 62, 0, [])), (62, (14, 0, 0, 0, 0, 0, []))], [(some 19, 1, []), (some 19, 2, [])], [], [], [])
theorem gd_yX14_inverseAt_X : ck_dec prog_14_method_23_code gt_yX14_inverseAt_X ge_yX14_inverseAt_X.2.2.2.2.1 = true := by decide +kernel
theorem gh_yX14_inverseAt_X {l : Launch} {G : am_G} {X : ck_XT} (g : gM l G X) {a : List Value} {h : List am_C} {mc ms : Nat} {Post : am_O → List am_C → Prop} (hay : (am_lay a).length ≤ 4) (H : ∀ (S : ck_SS) (SX : Nat → ck_SX), ck_hs G S SX Post mc ms (ck_cms [am_cm l G yX14_isJammed (.code yX14_isJammed prog_14_method_17_code 1 (some .boolean)) 1 20, am_cm l G yX14_modAt (.code yX14_modAt prog_14_method_19_code 2 (some .int)) 2 43]) ge_yX14_inverseAt_X → (∀ pc, ck_sR G S pc) → ck_hw S → zw_hx SX Post mc ms → S 0 (am_ent a 4) [] h 0 0) : am_M l G yX14_inverseAt (.code yX14_inverseAt prog_14_method_23_code 4 (some .int)) 3 64 mc ms a h Post :=
  zw_handX (E := ge_yX14_inverseAt_X) (tb := gt_yX14_inverseAt_X) (init := false) (cm := (ck_cms [am_cm l G yX14_isJammed (.code yX14_isJammed prog_14_method_17_code 1 (some .boolean)) 1 20, am_cm l G yX14_modAt (.code yX14_modAt prog_14_method_19_code 2 (some .int)) 2 43])) g.1.1 (by decide +kernel) rfl gd_yX14_inverseAt_X ⟨(List.forall_mem_nil _), (List.forall_mem_nil _), (List.forall_mem_nil _), (List.forall_mem_cons.mpr ⟨⟨⟨_, _, _, rfl, Or.inl w1718⟩, by decide, _, _, g_fd19_1⟩, (List.forall_mem_cons.mpr ⟨⟨⟨_, _, _, rfl, Or.inl w1699⟩, by decide, _, _, g_fd18_0⟩, (List.forall_mem_nil _)⟩)⟩), (List.forall_mem_nil _), (List.forall_mem_nil _), (List.forall_mem_nil _), (List.forall_mem_nil _)⟩ (List.forall_mem_nil _) (fun h => nomatch h) ⟨_, rfl, rfl⟩ (by decide) (by decide) g_oi g_ar
    (fun s hk _ => (List.forall_mem_nil _)) (fun s hk => (List.forall_mem_nil _))
    (List.forall_mem_cons.mpr ⟨(ck_kV g_y_yX14_isJammed w1983 w1985 w40 (T := TX14) (N := 6) rfl (by decide) (by decide) (by decide)), (List.forall_mem_cons.mpr ⟨(ck_kV g_y_yX14_modAt w1979 w1981 w39 (T := TX14) (N := 6) rfl (by decide) (by decide) (by decide)), (List.forall_mem_nil _)⟩)⟩) (List.forall_mem_nil _) (List.forall_mem_nil _) (List.forall_mem_nil _)
    (List.forall_mem_nil _) hay H
def gt_yX14_powerAt_X : ck_TB := ([], [], [], [(18, 19, 1), (65, 18, 0), (121, 17, 0), (128, 17, 1)], [], [], [], [], ([(106, 0), (114, 2), (125, 1)], [], [], []), [], [], [], 0)
def ge_yX14_powerAt_X : ck_E := (gT, [], (([], [], [], 0, []), ((0, []), (0, [])), [], [], ([], [], [], 0, []), []), 8, [(0, (0, 5, 0, 0, 1, 0, [])), (1, (16, 0, 0, 0, 4, 0, [])), (4, (1, 0, 0, 0, 7, 10, [])), (7, (0, 0, 0, (-9), 9, 0, [])), (9, (14, 0, 0, 0, 0, 0, [])), (10, (0, 5, 2, 0, 11, 0, [])), (11, (7, 17, 0, 0, 14, 0, [])), (14, (1, 0, 0, 0, 17, 25, [])), (17, (0, 5, 0, 0, 18, 0, [])), (18, (0, 3, 1, 0, 19, 0, [])), (19, (16, 1, 0, 0, 22, 0, [])), (22, (3, 0, 0, 0, 0, 30, [])), (25, (0, 5, 0, 0, 26, 0, [])), (26, (0, 3, 1, 0, 27, 0, [])), (27, (16, 2, 0, 0, 30, 0, [])), (30, (0, 6, 3, 0, 31, 0, [])), (31, (0, 3, 3, 0, 32, 0, [])), (32, (0, 0, 0, (-8), 34, 0, [])), (34, (2, 1, 0, 0, 37, 40, [])), (37, (0, 0, 0, (-8), 39, 0, [])), (39, (14, 0, 0, 0, 0, 0, [])), (40, (0, 0, 0, 1, 41, 0, [])), (41, (0, 5, 0, 0, 42, 0, [])), (42, (7, 19, 1, 0, 45, 0, [])), (45, (7, 18, 0, 0, 48, 0, [])), (48, (0, 15, 4, 0, 49, 0, [])), (49, (0, 6, 4, 0, 51, 0, [])), (51, (0, 5, 2, 0, 52, 0, [])), (52, (7, 17, 1, 0, 55, 0, [])), (55, (11, 0, 0, 0, 56, 0, [])), (56, (0, 0, 0, 1, 57, 0, [])), (57, (0, 15, 1, 0, 58, 0, [])), (58, (0, 6, 5, 0, 60, 0, [])), (60, (0, 3, 5, 0, 62, 0, [])), (62, (1, 2, 0, 0, 65, 141, [])), (65, (0, 3, 4, 0, 67, 0, [])), (67, (0, 6, 6, 0, 69, 0, [])), (69, (0, 0, 0, 0, 70, 0, [])), (70, (0, 6, 7, 0, 72, 0, [])), (72, (0, 3, 7, 0, 74, 0, [])), (74, (0, 0, 0, 9, 76, 0, [])), (76, (2, 3, 0, 0, 79, 100, [])), (79, (0, 3, 4, 0, 81, 0, [])), (81, (0, 3, 6, 0, 83, 0, [])), (83, (0, 15, 2, 0, 84, 0, [])), (84, (0, 5, 0, 0, 85, 0, [])), (85, (7, 19, 1, 0, 88, 0, [])), (88, (7, 18, 0, 0, 91, 0, [])), (91, (0, 15, 4, 0, 92, 0, [])), (92, (0, 6, 4, 0, 94, 0, [])), (94, (0, 9, 7, 1, 97, 0, [])), (97, (3, 0, 0, 0, 0, 72, [])), (100, (0, 0, 0, 0, 101, 0, [])), (101, (0, 6, 7, 0, 103, 0, [])), (103, (0, 3, 7, 0, 105, 0, [])), (105, (0, 5, 2, 0, 106, 0, [])), (106, (7, 17, 1, 0, 109, 0, [])), (109, (0, 3, 5, 0, 111, 0, [])), (111, (12, 50, 50, 0, 112, 0, [])), (112, (2, 3, 0, 0, 115, 135, [])), (115, (0, 3, 4, 0, 117, 0, [])), (117, (0, 3, 3, 0, 118, 0, [])), (118, (0, 15, 2, 0, 119, 0, [])), (119, (0, 5, 0, 0, 120, 0, [])), (120, (7, 19, 1, 0, 123, 0, [])), (123, (7, 18, 0, 0, 126, 0, [])), (126, (0, 15, 4, 0, 127, 0, [])), (127, (0, 6, 4, 0, 129, 0, [])), (129, (0, 9, 7, 1, 132, 0, [])), (132, (3, 0, 0, 0, 0, 103, [])), (135, (0, 9, 5, (-1), 138, 0, [])), (138, (3, 0, 0, 0, 0, 60, [])), (141, (0, 3, 4, 0, 143, 0, [])), (143, (14, 0, 0, 0, 0, 0, []))], [(some 19, 1, []), (some 19, 2, []), (some 19, 2, [])], [], [], [])
theorem gd_yX14_powerAt_X : ck_dec prog_14_method_24_code gt_yX14_powerAt_X ge_yX14_powerAt_X.2.2.2.2.1 = true := by decide +kernel
theorem gh_yX14_powerAt_X {l : Launch} {G : am_G} {X : ck_XT} (g : gM l G X) {a : List Value} {h : List am_C} {mc ms : Nat} {Post : am_O → List am_C → Prop} (hay : (am_lay a).length ≤ 8) (H : ∀ (S : ck_SS) (SX : Nat → ck_SX), ck_hs G S SX Post mc ms (ck_cms [am_cm l G yX14_isJammed (.code yX14_isJammed prog_14_method_17_code 1 (some .boolean)) 1 20, am_cm l G yX14_inverseAt (.code yX14_inverseAt prog_14_method_23_code 4 (some .int)) 3 64, am_cm l G yX14_modAt (.code yX14_modAt prog_14_method_19_code 2 (some .int)) 2 43]) ge_yX14_powerAt_X → (∀ pc, ck_sR G S pc) → ck_hw S → zw_hx SX Post mc ms → S 0 (am_ent a 8) [] h 0 0) : am_M l G yX14_powerAt (.code yX14_powerAt prog_14_method_24_code 8 (some .int)) 4 87 mc ms a h Post :=
  zw_handX (E := ge_yX14_powerAt_X) (tb := gt_yX14_powerAt_X) (init := false) (cm := (ck_cms [am_cm l G yX14_isJammed (.code yX14_isJammed prog_14_method_17_code 1 (some .boolean)) 1 20, am_cm l G yX14_inverseAt (.code yX14_inverseAt prog_14_method_23_code 4 (some .int)) 3 64, am_cm l G yX14_modAt (.code yX14_modAt prog_14_method_19_code 2 (some .int)) 2 43])) g.1.1 (by decide +kernel) rfl gd_yX14_powerAt_X ⟨(List.forall_mem_nil _), (List.forall_mem_nil _), (List.forall_mem_nil _), (List.forall_mem_cons.mpr ⟨⟨⟨_, _, _, rfl, Or.inl w1718⟩, by decide, _, _, g_fd19_1⟩, (List.forall_mem_cons.mpr ⟨⟨⟨_, _, _, rfl, Or.inl w1699⟩, by decide, _, _, g_fd18_0⟩, (List.forall_mem_cons.mpr ⟨⟨⟨_, _, _, rfl, Or.inl w1657⟩, by decide, _, _, g_fd17_0⟩, (List.forall_mem_cons.mpr ⟨⟨⟨_, _, _, rfl, Or.inl w1659⟩, by decide, _, _, g_fd17_1⟩, (List.forall_mem_nil _)⟩)⟩)⟩)⟩), (List.forall_mem_nil _), (List.forall_mem_nil _), (List.forall_mem_nil _), (List.forall_mem_nil _)⟩ (List.forall_mem_nil _) (fun h => nomatch h) ⟨_, rfl, rfl⟩ (by decide) (by decide) g_oi g_ar
    (fun s hk _ => (List.forall_mem_nil _)) (fun s hk => (List.forall_mem_nil _))
    (List.forall_mem_cons.mpr ⟨(ck_kV g_y_yX14_isJammed w1983 w1985 w40 (T := TX14) (N := 6) rfl (by decide) (by decide) (by decide)), (List.forall_mem_cons.mpr ⟨(ck_kV g_y_yX14_modAt w1979 w1981 w39 (T := TX14) (N := 6) rfl (by decide) (by decide) (by decide)), (List.forall_mem_cons.mpr ⟨(ck_kV g_y_yX14_inverseAt w2011 w2013 w43 (T := TX14) (N := 6) rfl (by decide) (by decide) (by decide)), (List.forall_mem_nil _)⟩)⟩)⟩) (List.forall_mem_nil _) (List.forall_mem_nil _) (List.forall_mem_nil _)
    (List.forall_mem_nil _) hay H
end
section
/-! THE REFERENCE JOINS ROWS -/
theorem zw_Nn {S : ck_SS} {pc a b k n : Nat} {h : List am_C} {L : List (Option Value)} {st : List Value} (H : ck_sN S pc a b) (kk : S a L st h k n) : S pc L (.null :: st) h k n := (H L st h k n).1 kk
theorem zw_Nr {S : ck_SS} {pc a b q k n : Nat} {h : List am_C} {L : List (Option Value)} {st : List Value} (H : ck_sN S pc a b) (kk : S b L st h k n) : S pc L (.ref q :: st) h k n := (H L st h k n).2 q kk
theorem zw_E1 {S : ck_SS} {G : am_G} {Rc Rs pc nx ci t N k n : Nat} {e : Int} {h : List am_C} {L : List (Option Value)} {st : List Value} (H : ck_sE S Rc Rs pc nx ci 1) (ht : t % 100 = ci) (he : e = (N : Int)) (hN : N ≤ 1000000) (hk : k + 1 ≤ Rc) (hn : n + N ≤ Rs) (kk : ∀ (h' : List am_C) (a : Nat), a = 1000 + h.length → h'.length = h.length + 1 → zg G h h' → am_g G h' a = some (t, List.replicate N (Value.long 0)) → S nx L (.ref a :: st) h' (k + 1) (n + N)) : S pc L (.int (Int32.ofInt e) :: st) h k n := by
  have hx_ : (Int32.ofInt e).toInt = (N : Int) := by
    rw [hd_oi (by omega) (by omega)]
    exact he
  refine H t L st h _ N k n ht hx_ hN hk hn ?_
  exact kk _ _ rfl (by rw [List.length_append]; rfl) ⟨by rw [List.length_append]; omega, fun p c hg => hd_old hg⟩ hd_new
theorem zt_eq {n w r k m : Int} (h0 : 0 ≤ r) (h1 : r < m) : (n % m + k * (w % m)) % m = r ↔ m ∣ n + w * k - r := by
  have a1_ : k * (w - m * (w / m)) = w * k - m * (k * (w / m)) := by rw [Int.mul_sub, Int.mul_comm k w, Int.mul_left_comm]
  have a2_ : m * (-(n / m) - k * (w / m)) = -(m * (n / m)) - m * (k * (w / m)) := by rw [Int.mul_sub, Int.mul_neg]
  have e_ : (n % m + k * (w % m)) % m = (n + w * k) % m := by
    rw [Int.emod_def n m, Int.emod_def w m, a1_, show n - m * (n / m) + (w * k - m * (k * (w / m))) = n + w * k + m * (-(n / m) - k * (w / m)) by rw [a2_]; omega, Int.add_mul_emod_self_left]
  rw [e_]
  have r_ : r % m = r := Int.emod_eq_of_lt h0 h1
  constructor
  · intro y_
    exact zj_emd (y_.trans r_.symm)
  · rintro ⟨d_, hd_⟩
    rw [show n + w * k = r + m * d_ by omega, Int.add_mul_emod_self_left]
    exact r_
/-- what is tried comes out just if the greatest common divisor goes into the gap -/
theorem zt_gap {n r : Int} {w m : Nat} (hm : 1 ≤ m) : ((Nat.gcd w m : Nat) : Int) ∣ r - n ↔ ∃ k : Nat, k < m ∧ (m : Int) ∣ n + (w : Int) * (k : Int) - r := by
  have gs_ : ((Nat.gcd w m : Nat) : Int) ∣ (m : Int) := Int.natCast_dvd_natCast.mpr (Nat.gcd_dvd_right w m)
  have gw_ : ((Nat.gcd w m : Nat) : Int) ∣ (w : Int) := Int.natCast_dvd_natCast.mpr (Nat.gcd_dvd_left w m)
  constructor
  · intro y_
    obtain ⟨u_, hu_⟩ := zj_solve (by omega) y_
    have hm_ : (m : Int) ≠ 0 := by omega
    refine ⟨(u_ % (m : Int)).toNat, ?_, ?_⟩
    · have b1_ := Int.emod_nonneg u_ hm_
      have b2_ := Int.emod_lt_of_pos u_ (show 0 < (m : Int) by omega)
      omega
    · have b1_ := Int.emod_nonneg u_ hm_
      rw [Int.toNat_of_nonneg b1_, Int.emod_def]
      obtain ⟨d_, hd_⟩ := hu_
      refine ⟨d_ - (w : Int) * (u_ / (m : Int)), ?_⟩
      have c1_ : (w : Int) * (u_ - (m : Int) * (u_ / (m : Int))) = (w : Int) * u_ - (m : Int) * ((w : Int) * (u_ / (m : Int))) := by rw [Int.mul_sub, Int.mul_left_comm]
      have c2_ : (m : Int) * (d_ - (w : Int) * (u_ / (m : Int))) = (m : Int) * d_ - (m : Int) * ((w : Int) * (u_ / (m : Int))) := Int.mul_sub _ _ _
      rw [c1_, c2_]
      omega
  · rintro ⟨k_, -, hk_⟩
    have a_ := Int.dvd_trans gs_ hk_
    have b_ := Int.dvd_mul_of_dvd_left (c := (k_ : Int)) gw_
    have c_ := Int.dvd_sub b_ a_
    rw [show (w : Int) * (k_ : Int) - (n + (w : Int) * (k_ : Int) - r) = r - n by omega] at c_
    exact c_
theorem zt_ad {L : List (Int × Int)} {n r : Int} {w m : Nat} (h : zj_I L 1 n w) (hm : 1 ≤ m) : sp_fit (L ++ [(r, (m : Int))]) ↔ ∃ k : Nat, k < m ∧ (m : Int) ∣ n + (w : Int) * (k : Int) - r := by
  rw [← zj_I.fit h (by omega) (show (m : Int) ∣ r - r by rw [Int.sub_self]; exact Int.dvd_zero _), ← zt_gap hm]
  unfold zj_ad
  exact ⟨fun y_ => y_.2, fun y_ => ⟨rfl, y_⟩⟩
/-- one more row is joined -/
theorem zt_step {L : List (Int × Int)} {n r : Int} {w m t k : Nat} (h : zj_I L 1 n w) (hm : 1 ≤ m) (hm2 : m ≤ 999) (hk : (m : Int) ∣ n + (w : Int) * (k : Int) - r) (hl : ∀ j : Nat, j < k → ¬ (m : Int) ∣ n + (w : Int) * (j : Int) - r) (ht : m = Nat.gcd w m * t) : zj_I (L ++ [(r, (m : Int))]) 1 (n + (k : Int) * (w : Int)) (w * t) := by
  obtain ⟨w_, hw_⟩ := Nat.gcd_dvd_left w m
  have t1_ : 1 ≤ t := by
    apply Nat.pos_of_ne_zero
    intro y_
    rw [y_, Nat.mul_zero] at ht
    omega
  have wt_ : w * t = m * w_ := by
    have a1_ : w * t = Nat.gcd w m * w_ * t := congrArg (· * t) hw_
    have a2_ : m * w_ = Nat.gcd w m * t * w_ := congrArg (· * w_) ht
    rw [a1_, a2_, Nat.mul_right_comm]
  have wtI_ : (w : Int) * (t : Int) = (m : Int) * (w_ : Int) := by
    rw [← Int.natCast_mul, ← Int.natCast_mul, wt_]
  have kt_ : k < t := by
    apply Classical.byContradiction
    intro c_
    apply hl (k - t) (by omega)
    obtain ⟨d_, hd_⟩ := hk
    refine ⟨d_ - (w_ : Int), ?_⟩
    have e1_ : ((k - t : Nat) : Int) = (k : Int) - (t : Int) := by omega
    rw [e1_, Int.mul_sub, Int.mul_sub, ← wtI_]
    omega
  have n_ := h.2.2.1
  have u_ := zj_lt (w := (w : Int)) (n := n) (u := (k : Int)) (t := (t : Int)) n_.1 n_.2 (by omega) (by omega)
  have e_ : n + (k : Int) * (w : Int) = n + (w : Int) * (k : Int) := by rw [Int.mul_comm]
  refine h.one ht hm hm2 rfl ?_ ?_ ?_ ?_
  · rw [e_]
    exact u_.1
  · rw [e_, Int.natCast_mul]
    exact u_.2
  · rw [show n + (k : Int) * (w : Int) - n = (w : Int) * (k : Int) by rw [e_]; omega]
    exact Int.dvd_mul_right _ _
  · rw [e_]
    exact hk
theorem zt_sub {R : List (Int × Int)} {i : Nat} (h : ¬ sp_fit (R.take i)) : ¬ sp_fit R := fun y_ => by
  obtain ⟨m_, hm_⟩ := y_
  exact h ⟨m_, fun p hp => hm_ p (by
    rw [← List.take_append_drop i R]
    exact List.mem_append_left _ hp)⟩
theorem zt_sub2 {R T : List (Int × Int)} (h : ¬ sp_fit R) : ¬ sp_fit (R ++ T) := fun y_ => by
  obtain ⟨m_, hm_⟩ := y_
  exact h ⟨m_, fun p hp => hm_ p (List.mem_append_left _ hp)⟩
theorem zt_take {R : List (Int × Int)} {i : Nat} {p : Int × Int} (h : R[i]? = some p) : R.take (i + 1) = R.take i ++ [p] := by
  rw [List.take_add_one, h]
  rfl
set_option maxHeartbeats 4000000 in
theorem zm_found_M {l : Launch} {G : am_G} {X : ck_XT} (g : gM l G X) {o : Nat → Nat} {q lab : Nat} {vl : List Nat} {R : List (Int × Int)} {h : List am_C} (hl : zm_l G h o q lab vl) (hn : vl.length = R.length ∧ ∀ (i v : Nat) (r : Int × Int), vl[i]? = some v → R[i]? = some r → zm_r G h v r) (hR : R.length ≤ 6 ∧ ∀ p ∈ R, 1 ≤ p.2 ∧ p.2 ≤ 999 ∧ 0 ≤ p.1 ∧ p.1 < p.2) {mc ms : Nat} {Post : am_O → List am_C → Prop} (hmc : 2 ≤ mc) (hms : 6 ≤ ms)
    (hP1 : ∀ (n : Int) (w : Nat), zj_I R 1 n w → ∀ (h' : List am_C) (p : Nat), zg G h h' → am_g G h' p = some (52, [.long (Int64.ofInt n), .long (Int64.ofInt (w : Int))]) → Post (.inl (some (.ref p))) h')
    (hP0 : ¬ sp_fit R → ∀ h', zg G h h' → Post (.inl (some .null)) h') :
    am_M l G yX14_found (.code yX14_found prog_14_method_28_code 8 (some (.array .long))) 3 65 mc ms [.ref q] h Post := by
  refine gh_yX14_found_X g (Nat.le_of_ble_eq_true rfl) fun S SX hs hr hw hx => ?_
  have rv : ∀ x : Int32, ck_fv 0 (.int x) := fun x => ⟨_, rfl⟩
  obtain ⟨p9_, N9_, ml_, L1_, r1_, r2_⟩ := hl.L
  obtain ⟨tl_, trl_, wl_, l1_, l2_, l3_, l4_, -⟩ := id L1_
  have lq_ := zg_lt l1_
  have lp_ := zg_lt l3_
  obtain ⟨hn1_, hn2_⟩ := hn
  obtain ⟨hR1_, hR2_⟩ := hR
  refine hs 0 _ rfl _ _ _ _ _ _ _ rfl ?_
  refine hs 1 _ rfl _ _ _ _ _ _ _ rfl ?_
  refine hs 2 _ rfl _ _ _ _ _ _ _ rfl ?_
  refine hs 3 _ rfl _ _ _ _ _ _ _ rfl ?_
  refine hs 4 _ rfl _ _ _ _ _ _ _ rfl ?_
  refine zw_cm (hs 5 _ rfl) (a := [.ref q]) (st := []) 1 4 rfl rfl (Nat.le_of_ble_eq_true rfl) ⟨_, _, _, rfl, l1_, l2_⟩ (by omega) (by omega) (zl_iter_M g L1_ (by omega) (by omega) fun hj_ e_ gj_ lj_ cj_ => ?_)
  show S 8 [some (.ref q), some (.long (Int64.ofInt (0 : Int))), none, some (.long (Int64.ofInt (1 : Int))), none, none, none, none] [.ref e_] _ _ _
  refine hs 6 _ rfl _ _ _ _ _ _ _ rfl ?_
  have he_ : 1000 + h.length ≤ e_ := lj_
  have loop : ∀ (m_ i_ : Nat) (h1_ : List am_C) (k_ s_ w_ : Nat) (n_ la_ : Int) (u6_ u7_ : Option Value), i_ + m_ = vl.length → zg G h h1_ → zj_I (R.take i_) 1 n_ w_ → am_g G h1_ e_ = some (5, [.int (Int32.ofInt (i_ : Int)), .int (Int32.ofInt la_), .int (Int32.ofInt ml_), .ref q]) → k_ ≤ 1 → s_ ≤ 4 → S 10 [some (.ref q), some (.long (Int64.ofInt n_)), none, some (.long (Int64.ofInt (w_ : Int))), none, some (.ref e_), u6_, u7_] [] h1_ k_ s_ := by
    intro m_
    induction m_ with
    | zero =>
      intro i_ h1_ k_ s_ w_ n_ la_ u6_ u7_ hi_ gh_ hI_ hE_ hk_ hs_
      rw [List.take_of_length_le (by omega)] at hI_
      refine hs 7 _ rfl _ _ _ _ _ _ _ rfl ?_
      refine zw_cn (hs 8 _ rfl) (a := [.ref e_]) (st := []) rfl rfl (Nat.le_of_ble_eq_true rfl) ⟨_, _, _, rfl, hE_, rfl⟩ (by omega) (by omega) (⟨zl_hasNext_M g (zl_L.keep L1_ fun x_ c_ _ hg_ => gh_.2 _ _ hg_) hE_ rfl r1_ r2_ (by omega) (fun y_ => absurd y_ (by omega)) (fun y_ => ?_), fun _ _ h9 => h9⟩)
      show S 17 [some (.ref q), some (.long (Int64.ofInt n_)), none, some (.long (Int64.ofInt (w_ : Int))), none, some (.ref e_), _, _] [.int (Int32.ofInt (0 : Int))] _ _ _
      refine hs 9 _ rfl _ _ _ _ _ _ (fun _ => ?_) (fun zq => absurd (hd_c1t (c := 0) (by omega) (by omega) (by omega : (0 : Int) = 0)) zq)
      refine hs 38 _ rfl _ _ _ _ _ _ _ rfl ?_
      refine zw_E1 (G := G) (hs 39 _ rfl) (t := 52) (N := 2) rfl (by omega) (by omega) (by omega) (by omega) fun hz303 az304 ez305 lz306 gz307 cz308 => ?_
      refine hs 40 _ rfl _ _ _ _ _ _ _ rfl ?_
      refine hs 41 _ rfl _ _ _ _ _ _ _ rfl ?_
      refine hs 42 _ rfl _ _ _ _ _ _ _ rfl ?_
      refine zw_Br (hs 43 _ rfl) (by omega) (cz308) (by first | decide | (rw [rfl]; decide)) (by first | decide | (rw [rfl]; decide)) (j := 0) (by omega) (by omega) (by rw [List.length_replicate]; decide) (Or.inr (Or.inr (Or.inl ⟨rfl, _, rfl⟩))) fun hz309 wz310 => ?_
      refine hs 44 _ rfl _ _ _ _ _ _ _ rfl ?_
      refine hs 45 _ rfl _ _ _ _ _ _ _ rfl ?_
      refine hs 46 _ rfl _ _ _ _ _ _ _ rfl ?_
      refine zw_Br (hs 47 _ rfl) (by omega) (wz310.at) (by first | decide | (rw [rfl]; decide)) (by first | decide | (rw [rfl]; decide)) (j := 1) (by omega) (by omega) (by rw [List.length_set, List.length_replicate]; decide) (Or.inr (Or.inr (Or.inl ⟨rfl, _, rfl⟩))) fun hz311 wz312 => ?_
      refine hs 48 _ rfl _ _ _ _ _ (Or.inl ⟨_, rfl⟩) (by omega) (by omega) (hP1 n_ w_ hI_ _ _ (((gh_.tr gz307).w wz310 ?_).w wz312 ?_) wz312.at)
      · have := gh_.1
        omega
      · have := gh_.1
        omega
    | succ m_ ih =>
      intro i_ h1_ k_ s_ w_ n_ la_ u6_ u7_ hi_ gh_ hI_ hE_ hk_ hs_
      obtain ⟨v_, hv_⟩ : ∃ v_, vl[i_]? = some v_ := ⟨_, List.getElem?_eq_getElem (by omega)⟩
      obtain ⟨p_, hp_⟩ : ∃ p_, R[i_]? = some p_ := ⟨_, List.getElem?_eq_getElem (by omega)⟩
      obtain ⟨tv_, rv1_, rv2_⟩ := hn2_ _ _ _ hv_ hp_
      have hpb_ := hR2_ p_ (List.mem_of_getElem? hp_)
      obtain ⟨M_, hM_⟩ : ∃ M_ : Nat, p_.2 = (M_ : Int) := ⟨p_.2.toNat, by omega⟩
      rw [hM_] at rv1_
      have hpp_ : p_ = (p_.1, (M_ : Int)) := by rw [← hM_]
      have tk_ := zt_take hp_
      rw [hpp_] at tk_
      have big_ := hI_.big (by rw [List.length_take]; omega)
      have w1_ := hI_.1
      have n1_ := hI_.2.2.1
      have hM1_ : 1 ≤ M_ := by omega
      have hM2_ : M_ ≤ 999 := by omega
      have c1_ : 0 ≤ p_.1 := by omega
      have c2_ : p_.1 < (M_ : Int) := by omega
      refine hs 7 _ rfl _ _ _ _ _ _ _ rfl ?_
      refine zw_cn (hs 8 _ rfl) (a := [.ref e_]) (st := []) rfl rfl (Nat.le_of_ble_eq_true rfl) ⟨_, _, _, rfl, hE_, rfl⟩ (by omega) (by omega) (⟨zl_hasNext_M g (zl_L.keep L1_ fun x_ c_ _ hg_ => gh_.2 _ _ hg_) hE_ rfl r1_ r2_ (by omega) (fun y_ => ?_) (fun y_ => absurd y_ (by omega)), fun _ _ h9 => h9⟩)
      show S 17 [some (.ref q), some (.long (Int64.ofInt n_)), none, some (.long (Int64.ofInt (w_ : Int))), none, some (.ref e_), _, _] [.int (Int32.ofInt (1 : Int))] _ _ _
      refine hs 9 _ rfl _ _ _ _ _ _ (fun zq => absurd (hd_c1z (c := 0) (by omega) (by omega) zq) (by omega : ¬ ((1 : Int) = 0))) (fun _ => ?_)
      refine hs 10 _ rfl _ _ _ _ _ _ _ rfl ?_
      refine zw_cn (hs 11 _ rfl) (a := [.ref e_]) (st := []) rfl rfl (Nat.le_of_ble_eq_true rfl) ⟨_, _, _, rfl, hE_, rfl⟩ (by omega) (by omega) (⟨zl_next_M g (zl_L.keep L1_ fun x_ c_ _ hg_ => gh_.2 _ _ hg_) hE_ rfl r1_ r2_ (by omega) hv_ (by omega) (by omega) fun hx_ wx_ => ?_, fun _ _ h9 => h9⟩)
      have gx_ : zg G h hx_ := gh_.w wx_ (by omega)
      have rx_ := gx_.2 _ _ rv1_
      show S 27 [some (.ref q), some (.long (Int64.ofInt n_)), none, some (.long (Int64.ofInt (w_ : Int))), none, some (.ref e_), _, _] [.ref v_] _ _ _
      refine hs 12 _ rfl _ _ _ _ _ _ (Or.inr ⟨_, _, _, rfl, (rx_), List.mem_singleton.mpr rv2_⟩) ?_
      refine hs 13 _ rfl _ _ _ _ _ _ _ rfl ?_
      refine hs 14 _ rfl _ _ _ _ _ _ _ rfl ?_
      refine hs 15 _ rfl _ _ _ _ _ _ _ rfl ?_
      refine hs 16 _ rfl _ _ _ _ _ _ _ rfl ?_
      refine zw_c (hs 17 _ rfl) (a := [.long (Int64.ofInt n_), .long (Int64.ofInt (w_ : Int)), .ref v_]) (st := []) rfl rfl (Nat.le_of_ble_eq_true rfl) trivial (by omega) (by omega) (zy_tried_M g (by omega) (by omega) (by omega) (by omega) (by omega) (by omega) (by omega) rv2_ rx_ (fun k9_ hk1_ hk2_ hk3_ => ?_) (fun hk0_ => ?_))
      · show S 39 [some (.ref q), some (.long (Int64.ofInt n_)), none, some (.long (Int64.ofInt (w_ : Int))), none, some (.ref e_), some (.ref v_), _] [.int (Int32.ofInt (k9_ : Int))] _ _ _
        refine hs 18 _ rfl _ _ _ _ _ _ _ rfl ?_
        refine hs 19 _ rfl _ _ _ _ _ _ _ rfl ?_
        refine hs 20 _ rfl _ _ _ _ _ _ _ rfl ?_
        refine hs 21 _ rfl _ _ _ _ _ _ _ (fun _ => ?_) (fun zq => absurd (hd_c2t (c := 1) (by omega) (by omega) (by omega) (by omega) (by omega : ((k9_ : Int) - (-1 : Int)) ≠ 0)) zq)
        refine hs 24 _ rfl _ _ _ _ _ _ _ rfl ?_
        refine hs 25 _ rfl _ _ _ _ _ _ _ rfl ?_
        refine hs 26 _ rfl _ _ _ _ _ _ _ (hd_i2l (by omega) (by omega)) ?_
        refine hs 27 _ rfl _ _ _ _ _ _ _ rfl ?_
        refine hs 28 _ rfl _ _ _ _ _ _ _ hd_lmul ?_
        refine hs 29 _ rfl _ _ _ _ _ _ _ hd_ladd ?_
        refine hs 30 _ rfl _ _ _ _ _ _ _ rfl ?_
        refine hs 31 _ rfl _ _ _ _ _ _ _ rfl ?_
        refine hs 32 _ rfl _ _ _ _ _ _ _ rfl ?_
        refine hs 33 _ rfl _ _ _ _ _ _ _ rfl ?_
        refine hd_A (hs 34 _ rfl) (by decide) (by decide) (rx_) rv2_ (j := 1) (by omega) (by omega) rfl ?_
        refine zw_c (hs 35 _ rfl) (a := [.long (Int64.ofInt (w_ : Int)), .int (Int32.ofInt (M_ : Int))]) (st := []) rfl rfl (Nat.le_of_ble_eq_true rfl) trivial (by omega) (by omega) (zy_common_M g (by omega) (by omega) (by omega) (by omega) fun t9_ ht9_ => ?_)
        show S 65 [some (.ref q), some (.long (Int64.ofInt (n_ + ((k9_ : Int) * (w_ : Int))))), none, some (.long (Int64.ofInt (w_ : Int))), none, some (.ref e_), some (.ref v_), some (.int (Int32.ofInt (k9_ : Int)))] [.long (Int64.ofInt ((w_ : Int) * (t9_ : Int)))] _ _ _
        refine hs 36 _ rfl _ _ _ _ _ _ _ rfl ?_
        refine hs 37 _ rfl _ _ _ _ _ ?_
        have e9_ : (w_ : Int) * (t9_ : Int) = ((w_ * t9_ : Nat) : Int) := (Int.natCast_mul w_ t9_).symm
        rw [e9_]
        refine ih (i_ + 1) _ _ _ (w_ * t9_) _ (i_ : Int) _ _ (by omega) gx_ ?_ wx_.at (by omega) (by omega)
        rw [tk_]
        exact zt_step hI_ hM1_ hM2_ ((zt_eq c1_ c2_).mp hk2_) (fun j_ hj_ y_ => hk3_ j_ hj_ ((zt_eq c1_ c2_).mpr y_)) ht9_

      · show S 39 [some (.ref q), some (.long (Int64.ofInt n_)), none, some (.long (Int64.ofInt (w_ : Int))), none, some (.ref e_), some (.ref v_), _] [.int (Int32.ofInt (-1 : Int))] _ _ _
        refine hs 18 _ rfl _ _ _ _ _ _ _ rfl ?_
        refine hs 19 _ rfl _ _ _ _ _ _ _ rfl ?_
        refine hs 20 _ rfl _ _ _ _ _ _ _ rfl ?_
        refine hs 21 _ rfl _ _ _ _ _ _ _ (fun zq => absurd (hd_c2z (c := 1) (by omega) (by omega) (by omega) (by omega) zq) (by omega : ¬ (((-1 : Int) - (-1 : Int)) ≠ 0))) (fun _ => ?_)
        refine hs 22 _ rfl _ _ _ _ _ _ _ rfl ?_
        refine hs 23 _ rfl _ _ _ _ _ (Or.inr rfl) (by omega) (by omega) (hP0 (zt_sub (i := i_ + 1) ?_) _ gx_)
        rw [tk_, zt_ad hI_ hM1_]
        rintro ⟨j_, hj_, y_⟩
        exact hk0_ j_ hj_ ((zt_eq c1_ c2_).mpr y_)
  exact loop vl.length 0 _ _ _ 1 0 (-1) _ _ (by omega) gj_ zj_I.nil cj_ (by omega) (by omega)
set_option maxHeartbeats 4000000 in
theorem zm_isFit_M {l : Launch} {G : am_G} {X : ck_XT} (g : gM l G X) {o : Nat → Nat} {x tx now qw : Nat} {th j m k : Int} {c : sp_S} {P : List sp_S} {h : List am_C} (hX : zm_x G h o x tx now qw th j m k c P) (hok : sp_ok c) {f_ : Int} {m_ : Nat} (hf1 : -2147483648 ≤ f_) (hf2 : f_ ≤ 2147483647) (hm1 : 1 ≤ m_) (hm2 : m_ ≤ 999) {mc ms : Nat} {Post : am_O → List am_C → Prop} (hmc : 3 ≤ mc) (hms : 8 ≤ ms)
    (hP1 : sp_fit (c.2.2.1 ++ [(f_ % (m_ : Int), (m_ : Int))]) → ∀ h', zg G h h' → Post (.inl (some (.int (Int32.ofInt 1)))) h')
    (hP0 : ¬ sp_fit (c.2.2.1 ++ [(f_ % (m_ : Int), (m_ : Int))]) → ∀ h', zg G h h' → Post (.inl (some (.int (Int32.ofInt 0)))) h') :
    am_M l G yX14_isFit (.code yX14_isFit prog_14_method_31_code 4 (some .boolean)) 4 92 mc ms [.ref x, .int (Int32.ofInt f_), .int (Int32.ofInt (m_ : Int))] h Post := by
  refine gh_yX14_isFit_X g (Nat.le_of_ble_eq_true rfl) fun S SX hs hr hw hx => ?_
  have rv : ∀ x : Int32, ck_fv 0 (.int x) := fun x => ⟨_, rfl⟩
  obtain ⟨a1_, a2_, a3_, a4_⟩ := id hX
  obtain ⟨t_, qn_, ql_, qb_, vl_, s1_, l1_, ⟨e1_, e2_⟩, up_⟩ := hX.rowL
  have hm9_ : (m_ : Int) ≠ 0 := by omega
  have q1_ := Int.emod_nonneg f_ hm9_
  have q2_ := Int.emod_lt_of_pos f_ (show 0 < (m_ : Int) by omega)
  refine hs 0 _ rfl _ _ _ _ _ _ _ rfl ?_
  refine hs 1 _ rfl _ _ _ _ _ _ _ _ _ (a1_) a2_.1 rfl ?_
  refine hs 2 _ rfl _ _ _ _ _ _ _ _ _ (s1_.1) s1_.2 rfl ?_
  refine zw_cm (hs 3 _ rfl) (a := [.ref ql_]) (st := []) 2 6 rfl rfl (Nat.le_of_ble_eq_true rfl) trivial (by omega) (by omega) (zm_found_M g l1_ ⟨e1_, e2_⟩ hok.2.2.1 (by omega) (by omega) (fun n9_ w9_ hI_ hy_ p9_ gy_ py_ => ?_) (fun hf_ hy_ gy_ => ?_))
  · show S 10 [some (.ref x), some (.int (Int32.ofInt f_)), some (.int (Int32.ofInt (m_ : Int))), none] [.ref p9_] _ _ _
    have big_ := hI_.big hok.2.2.1.1
    have w1_ := hI_.1
    have n1_ := hI_.2.2.1
    have hy9_ := gy_.1
    refine hs 4 _ rfl _ _ _ _ _ _ _ rfl ?_
    refine hs 5 _ rfl _ _ _ _ _ _ _ rfl ?_
    refine zw_Nr (hs 6 _ rfl) ?_
    refine hs 7 _ rfl _ _ _ _ _ _ _ rfl ?_
    refine hs 8 _ rfl _ _ _ _ _ _ _ rfl ?_
    refine zw_Ar (hs 9 _ rfl) (py_) (by first | rfl | (rw [(rfl : 52 % 100 = 52)]; rfl)) (j := 0) (by omega) (by omega) rfl ?_
    refine hs 10 _ rfl _ _ _ _ _ _ _ rfl ?_
    refine hs 11 _ rfl _ _ _ _ _ _ _ rfl ?_
    refine zw_Ar (hs 12 _ rfl) (py_) (by first | rfl | (rw [(rfl : 52 % 100 = 52)]; rfl)) (j := 1) (by omega) (by omega) rfl ?_
    refine hs 13 _ rfl _ _ _ _ _ _ _ rfl ?_
    refine zw_E (G := G) (hs 14 _ rfl) (t := 50) (N := 2) rfl (by omega) (by omega) (by omega) (by omega) fun hz313 az314 ez315 lz316 gz317 cz318 => ?_
    refine hs 15 _ rfl _ _ _ _ _ _ _ rfl ?_
    refine hs 16 _ rfl _ _ _ _ _ _ _ rfl ?_
    refine hs 17 _ rfl _ _ _ _ _ _ _ rfl ?_
    refine hs 18 _ rfl _ _ _ _ _ _ _ rfl ?_
    refine zw_c (hs 19 _ rfl) (a := [.int (Int32.ofInt f_), .int (Int32.ofInt (m_ : Int))]) (st := [.int (Int32.ofInt (0 : Int)), .ref az314, .ref az314, .long (Int64.ofInt (w9_ : Int)), .long (Int64.ofInt n9_)]) rfl rfl (Nat.le_of_ble_eq_true rfl) trivial (by omega) (by omega) (zy_modOf_M g hf1 hf2 hm1 hm2 ?_)
    show S 31 [some (.ref x), some (.int (Int32.ofInt f_)), some (.int (Int32.ofInt (m_ : Int))), some (.ref p9_)] [.int (Int32.ofInt (f_ % (m_ : Int))), .int (Int32.ofInt (0 : Int)), .ref az314, .ref az314, .long (Int64.ofInt (w9_ : Int)), .long (Int64.ofInt n9_)] _ _ _
    refine zw_B (hs 20 _ rfl) (by decide) (by decide) (by omega) (cz318) rfl (j := 0) (by omega) (by omega) (by simp only [List.length_replicate]; decide) fun hz319 wz320 => ?_
    refine hs 21 _ rfl _ _ _ _ _ _ _ rfl ?_
    refine hs 22 _ rfl _ _ _ _ _ _ _ rfl ?_
    refine hs 23 _ rfl _ _ _ _ _ _ _ rfl ?_
    refine zw_B (hs 24 _ rfl) (by decide) (by decide) (by omega) (wz320.at) rfl (j := 1) (by omega) (by omega) (by simp only [List.length_set, List.length_replicate]; decide) fun hz321 wz322 => ?_
    have g4_ : zg G h hz321 := ((gy_.tr gz317).w wz320 (by omega)).w wz322 (by omega)
    refine zw_c (hs 25 _ rfl) (a := [.long (Int64.ofInt n9_), .long (Int64.ofInt (w9_ : Int)), .ref az314]) (st := []) rfl rfl (Nat.le_of_ble_eq_true rfl) trivial (by omega) (by omega) (zy_tried_M g (by omega) (by omega) (by omega) (by omega) (by omega) q1_ q2_ (rfl : 50 % 100 = 50) (wz322.at : am_g G hz321 az314 = some (50, hd_r [f_ % (m_ : Int), (m_ : Int)])) (fun k9_ hk1_ hk2_ hk3_ => ?_) (fun hk0_ => ?_))
    · show S 39 [some (.ref x), some (.int (Int32.ofInt f_)), some (.int (Int32.ofInt (m_ : Int))), some (.ref p9_)] [.int (Int32.ofInt (k9_ : Int))] _ _ _
      refine hs 26 _ rfl _ _ _ _ _ _ _ rfl ?_
      refine hs 27 _ rfl _ _ _ _ _ _ _ (fun zq => absurd (hd_c2z (c := 0) (by omega) (by omega) (by omega) (by omega) zq) (by omega : ¬ (((k9_ : Int) - (-1 : Int)) = 0))) (fun _ => ?_)
      refine hs 28 _ rfl _ _ _ _ _ _ _ rfl ?_
      refine hs 29 _ rfl _ _ _ _ _ ?_
      exact hs 31 _ rfl _ _ _ _ _ ⟨_, rfl, by decide, by decide⟩ (by omega) (by omega) (hP1 ((zt_ad hI_ hm1).mpr ⟨k9_, hk1_, (zt_eq q1_ q2_).mp hk2_⟩) _ g4_)

    · show S 39 [some (.ref x), some (.int (Int32.ofInt f_)), some (.int (Int32.ofInt (m_ : Int))), some (.ref p9_)] [.int (Int32.ofInt (-1 : Int))] _ _ _
      refine hs 26 _ rfl _ _ _ _ _ _ _ rfl ?_
      refine hs 27 _ rfl _ _ _ _ _ _ _ (fun _ => ?_) (fun zq => absurd (hd_c2t (c := 0) (by omega) (by omega) (by omega) (by omega) (by omega : ((-1 : Int) - (-1 : Int)) = 0)) zq)
      refine hs 30 _ rfl _ _ _ _ _ _ _ rfl ?_
      refine hs 31 _ rfl _ _ _ _ _ ⟨_, rfl, by decide, by decide⟩ (by omega) (by omega) (hP0 ?_ _ g4_)
      rw [zt_ad hI_ hm1]
      rintro ⟨j_, hj_, y_⟩
      exact hk0_ j_ hj_ ((zt_eq q1_ q2_).mpr y_)

  · show S 10 [some (.ref x), some (.int (Int32.ofInt f_)), some (.int (Int32.ofInt (m_ : Int))), none] [.null] _ _ _
    refine hs 4 _ rfl _ _ _ _ _ _ _ rfl ?_
    refine hs 5 _ rfl _ _ _ _ _ _ _ rfl ?_
    refine zw_Nn (hs 6 _ rfl) ?_
    refine hs 30 _ rfl _ _ _ _ _ _ _ rfl ?_
    exact hs 31 _ rfl _ _ _ _ _ ⟨_, rfl, by decide, by decide⟩ (by omega) (by omega) (hP0 (zt_sub2 hf_) _ gy_)
end
section
/-! INVERSES AND POWERS OF THE REFERENCE -/
theorem zt_one {a m : Nat} {x : Int} (h : (a : Int) * x % (m : Int) = 1 % (m : Int)) : Nat.gcd a m = 1 := by
  have gm_ : ((Nat.gcd a m : Nat) : Int) ∣ (m : Int) := Int.natCast_dvd_natCast.mpr (Nat.gcd_dvd_right a m)
  have ga_ : ((Nat.gcd a m : Nat) : Int) ∣ (a : Int) := Int.natCast_dvd_natCast.mpr (Nat.gcd_dvd_left a m)
  have d1_ := Int.dvd_trans gm_ (zj_emd h)
  have d2_ := Int.dvd_sub (Int.dvd_mul_of_dvd_left (c := x) ga_) d1_
  rw [show (a : Int) * x - ((a : Int) * x - 1) = 1 by omega] at d2_
  have e_ := Int.eq_one_of_dvd_one (by omega) d2_
  omega
theorem zt_rem {L : List (Option Value)} {st : List Value} {v : Int} {a b M : Nat} (ha : a ≤ 400) (hb : b ≤ 400) (hM : 1 ≤ M) (hM2 : M ≤ 400) : ck_cf 15 4 v L (.int (Int32.ofInt (M : Int)) :: .int (Int32.ofInt ((a : Int) * (b : Int))) :: st) = some (L, .int (Int32.ofInt ((a * b % M : Nat) : Int)) :: st) := by
  have p_ : a * b ≤ 400 * 400 := Nat.mul_le_mul ha hb
  have e_ : (a : Int) * (b : Int) = ((a * b : Nat) : Int) := (Int.natCast_mul a b).symm
  rw [e_, Int.natCast_emod]
  exact hd_rem (by omega) (by omega) (by omega) (by omega)
theorem zt_rem1 {L : List (Option Value)} {st : List Value} {v : Int} {M : Nat} (hM : 1 ≤ M) (hM2 : M ≤ 400) : ck_cf 15 4 v L (.int (Int32.ofInt (M : Int)) :: .int (Int32.ofInt 1) :: st) = some (L, .int (Int32.ofInt ((1 % M : Nat) : Int)) :: st) := by
  rw [Int.natCast_emod]
  exact hd_rem (by omega) (by omega) (by omega) (by omega)
theorem zt_p10 {f v d M : Nat} : (f ^ v % M) ^ 10 % M * f ^ d % M = f ^ (10 * v + d) % M := by
  rw [← Nat.pow_mod, ← Nat.pow_mul, Nat.mul_comm v 10, Nat.pow_add, Nat.mod_mul_mod]
theorem zt_b1 {c f j M : Nat} : c * f ^ j % M * f % M = c * f ^ (j + 1) % M := by rw [Nat.mod_mul_mod, Nat.pow_succ, Nat.mul_assoc]
theorem zt_a1 {w j M : Nat} : w ^ j % M * w % M = w ^ (j + 1) % M := by rw [Nat.mod_mul_mod, Nat.pow_succ]
set_option maxHeartbeats 4000000 in
theorem zm_inv_M {l : Launch} {G : am_G} {X : ck_XT} (g : gM l G X) {o : Nat → Nat} {x tx now qw : Nat} {th j m k : Int} {c : sp_S} {P : List sp_S} {h : List am_C} (hX : zm_x G h o x tx now qw th j m k c P) (hok : sp_ok c) {i : Nat} {e : Int} (he : e = (i : Int)) (hi : i < 6) {mc ms : Nat} {Post : am_O → List am_C → Prop} (hJ : c.1 ≤ 0 → Post (.inl (some (.int (Int32.ofInt (-9))))) h) (hP : 0 < c.1 → ∀ v : Int, sm_inv (c.2.1.getD i 0 % c.1).toNat c.1.toNat v → Post (.inl (some (.int (Int32.ofInt v)))) h) :
    am_M l G yX14_inverseAt (.code yX14_inverseAt prog_14_method_23_code 4 (some .int)) 3 64 mc ms [.ref x, .int (Int32.ofInt e)] h Post := by
  refine gh_yX14_inverseAt_X g (Nat.le_of_ble_eq_true rfl) fun S SX hs hr hw hx => ?_
  have rv : ∀ x : Int32, ck_fv 0 (.int x) := fun x => ⟨_, rfl⟩
  obtain ⟨a1_, a2_, a3_, a4_⟩ := id hX
  obtain ⟨t_, qn_, ql_, qb_, s1_, up_⟩ := hX.dialL
  rw [he]
  show S 0 [some (.ref x), some (.int (Int32.ofInt (i : Int))), none, none] [] _ _ _
  have ok_ := hok.1
  by_cases c1_ : c.1 ≤ 0
  · 
    refine hs 0 _ rfl _ _ _ _ _ _ _ rfl ?_
    refine zw_c (hs 1 _ rfl) (a := [.ref x]) (st := []) rfl rfl (Nat.le_of_ble_eq_true rfl) ⟨_, _, _, rfl, a1_, a2_.1⟩ (by omega) (by omega) (zm_jam_M g hX hok (fun y_ => ?_) (fun y_ => absurd y_ (by omega)))
    show S 4 [some (.ref x), some (.int (Int32.ofInt (i : Int))), none, none] [.int (Int32.ofInt (1 : Int))] _ _ _
    refine hs 2 _ rfl _ _ _ _ _ _ (fun zq => absurd (hd_c1z (c := 0) (by omega) (by omega) zq) (by omega : ¬ ((1 : Int) = 0))) (fun _ => ?_)
    refine hs 3 _ rfl _ _ _ _ _ _ _ rfl ?_
    exact hs 4 _ rfl _ _ _ _ _ (rv _) (Nat.zero_le _) (Nat.zero_le _) (hJ c1_)
  · obtain ⟨M_, hM_⟩ : ∃ M_ : Nat, c.1 = (M_ : Int) := ⟨c.1.toNat, by omega⟩
    have hm9_ : (M_ : Int) ≠ 0 := by omega
    have q1_ := Int.emod_nonneg (c.2.1.getD i 0) hm9_
    have q2_ := Int.emod_lt_of_pos (c.2.1.getD i 0) (show 0 < (M_ : Int) by omega)
    obtain ⟨A_, hA_⟩ : ∃ A_ : Nat, c.2.1.getD i 0 % (M_ : Int) = (A_ : Int) := ⟨(c.2.1.getD i 0 % (M_ : Int)).toNat, by omega⟩
    have s1_ := s1_
    rw [hM_] at s1_
    have hP2_ : ∀ v : Int, sm_inv A_ M_ v → Post (.inl (some (.int (Int32.ofInt v)))) h := fun v hv => hP (by omega) v (by rw [hM_, hA_, Int.toNat_natCast, Int.toNat_natCast]; exact hv)
    have loop : ∀ (n_ x_ : Nat), x_ + n_ = M_ → (∀ y_ : Nat, y_ < x_ → ¬ (A_ : Int) * (y_ : Int) % (M_ : Int) = 1 % (M_ : Int)) → S 18 [some (.ref x), some (.int (Int32.ofInt (i : Int))), some (.int (Int32.ofInt (A_ : Int))), some (.int (Int32.ofInt (x_ : Int)))] [] h 0 0 := by
      intro n_
      induction n_ with
      | zero =>
        intro x_ hx_ hn_
        refine hs 11 _ rfl _ _ _ _ _ _ _ rfl ?_
        refine hs 12 _ rfl _ _ _ _ _ _ _ rfl ?_
        refine hs 13 _ rfl _ _ _ _ _ _ _ _ _ (a1_) a2_.1 rfl ?_
        refine hs 14 _ rfl _ _ _ _ _ _ _ _ _ (s1_.1) s1_.2 rfl ?_
        refine hs 15 _ rfl _ _ _ _ _ _ _ (fun _ => ?_) (fun zq => absurd (hd_c2t (c := 3) (by omega) (by omega) (by omega) (by omega) (by omega : 0 ≤ ((x_ : Int) - (M_ : Int)))) zq)
        refine hs 33 _ rfl _ _ _ _ _ _ _ rfl ?_
        refine hs 34 _ rfl _ _ _ _ _ (rv _) (by omega) (by omega) (hP2_ (-8) (Or.inl ⟨fun y_ => ?_, rfl⟩))
        obtain ⟨k_, hk_, hk2_⟩ := nu_reach (show 0 < M_ by omega) y_ 1
        exact hn_ k_ (by omega) hk2_
      | succ n_ ih =>
        intro x_ hx_ hn_
        have b3_ : A_ * x_ % M_ < M_ := Nat.mod_lt _ (by omega)
        have b4_ : 1 % M_ < M_ := Nat.mod_lt _ (by omega)
        by_cases e0_ : A_ * x_ % M_ = 1 % M_
        · have e1_ : (A_ : Int) * (x_ : Int) % (M_ : Int) = 1 % (M_ : Int) := by
            have z_ : ((A_ * x_ % M_ : Nat) : Int) = ((1 % M_ : Nat) : Int) := by rw [e0_]
            rw [Int.natCast_emod, Int.natCast_mul, Int.natCast_emod] at z_
            exact z_
          refine hs 11 _ rfl _ _ _ _ _ _ _ rfl ?_
          refine hs 12 _ rfl _ _ _ _ _ _ _ rfl ?_
          refine hs 13 _ rfl _ _ _ _ _ _ _ _ _ (a1_) a2_.1 rfl ?_
          refine hs 14 _ rfl _ _ _ _ _ _ _ _ _ (s1_.1) s1_.2 rfl ?_
          refine hs 15 _ rfl _ _ _ _ _ _ _ (fun zq => absurd (hd_c2z (c := 3) (by omega) (by omega) (by omega) (by omega) zq) (by omega : ¬ (0 ≤ ((x_ : Int) - (M_ : Int))))) (fun _ => ?_)
          refine hs 16 _ rfl _ _ _ _ _ _ _ rfl ?_
          refine hs 17 _ rfl _ _ _ _ _ _ _ rfl ?_
          refine hs 18 _ rfl _ _ _ _ _ _ _ hd_mul ?_
          refine hs 19 _ rfl _ _ _ _ _ _ _ rfl ?_
          refine hs 20 _ rfl _ _ _ _ _ _ _ _ _ (a1_) a2_.1 rfl ?_
          refine hs 21 _ rfl _ _ _ _ _ _ _ _ _ (s1_.1) s1_.2 rfl ?_
          refine hs 22 _ rfl _ _ _ _ _ _ _ (zt_rem (by omega) (by omega) (by omega) (by omega)) ?_
          refine hs 23 _ rfl _ _ _ _ _ _ _ rfl ?_
          refine hs 24 _ rfl _ _ _ _ _ _ _ rfl ?_
          refine hs 25 _ rfl _ _ _ _ _ _ _ _ _ (a1_) a2_.1 rfl ?_
          refine hs 26 _ rfl _ _ _ _ _ _ _ _ _ (s1_.1) s1_.2 rfl ?_
          refine hs 27 _ rfl _ _ _ _ _ _ _ (zt_rem1 (by omega) (by omega)) ?_
          refine hs 28 _ rfl _ _ _ _ _ _ _ (fun zq => absurd (hd_c2z (c := 1) (by omega) (by omega) (by omega) (by omega) zq) (by omega : ¬ ((((A_ * x_ % M_ : Nat) : Int) - ((1 % M_ : Nat) : Int)) ≠ 0))) (fun _ => ?_)
          refine hs 29 _ rfl _ _ _ _ _ _ _ rfl ?_
          exact hs 30 _ rfl _ _ _ _ _ (rv _) (Nat.zero_le _) (Nat.zero_le _) (hP2_ (x_ : Int) (Or.inr ⟨zt_one e1_, by omega, by omega, e1_⟩))
        · 
          refine hs 11 _ rfl _ _ _ _ _ _ _ rfl ?_
          refine hs 12 _ rfl _ _ _ _ _ _ _ rfl ?_
          refine hs 13 _ rfl _ _ _ _ _ _ _ _ _ (a1_) a2_.1 rfl ?_
          refine hs 14 _ rfl _ _ _ _ _ _ _ _ _ (s1_.1) s1_.2 rfl ?_
          refine hs 15 _ rfl _ _ _ _ _ _ _ (fun zq => absurd (hd_c2z (c := 3) (by omega) (by omega) (by omega) (by omega) zq) (by omega : ¬ (0 ≤ ((x_ : Int) - (M_ : Int))))) (fun _ => ?_)
          refine hs 16 _ rfl _ _ _ _ _ _ _ rfl ?_
          refine hs 17 _ rfl _ _ _ _ _ _ _ rfl ?_
          refine hs 18 _ rfl _ _ _ _ _ _ _ hd_mul ?_
          refine hs 19 _ rfl _ _ _ _ _ _ _ rfl ?_
          refine hs 20 _ rfl _ _ _ _ _ _ _ _ _ (a1_) a2_.1 rfl ?_
          refine hs 21 _ rfl _ _ _ _ _ _ _ _ _ (s1_.1) s1_.2 rfl ?_
          refine hs 22 _ rfl _ _ _ _ _ _ _ (zt_rem (by omega) (by omega) (by omega) (by omega)) ?_
          refine hs 23 _ rfl _ _ _ _ _ _ _ rfl ?_
          refine hs 24 _ rfl _ _ _ _ _ _ _ rfl ?_
          refine hs 25 _ rfl _ _ _ _ _ _ _ _ _ (a1_) a2_.1 rfl ?_
          refine hs 26 _ rfl _ _ _ _ _ _ _ _ _ (s1_.1) s1_.2 rfl ?_
          refine hs 27 _ rfl _ _ _ _ _ _ _ (zt_rem1 (by omega) (by omega)) ?_
          refine hs 28 _ rfl _ _ _ _ _ _ _ (fun _ => ?_) (fun zq => absurd (hd_c2t (c := 1) (by omega) (by omega) (by omega) (by omega) (by omega : (((A_ * x_ % M_ : Nat) : Int) - ((1 % M_ : Nat) : Int)) ≠ 0)) zq)
          refine hs 31 _ rfl _ _ _ _ _ _ _ (hd_inc rfl) ?_
          refine hs 32 _ rfl _ _ _ _ _ ?_
          show S 18 [some (.ref x), some (.int (Int32.ofInt (i : Int))), some (.int (Int32.ofInt (A_ : Int))), some (.int (Int32.ofInt ((x_ : Int) + (1 : Int))))] [] _ _ _
          refine ih (x_ + 1) (by omega) fun y_ hy_ => ?_
          by_cases e2_ : y_ = x_
          · rw [e2_, ← Int.natCast_mul]
            intro z_
            apply e0_
            have z2_ : ((A_ * x_ % M_ : Nat) : Int) = ((1 % M_ : Nat) : Int) := by
              rw [Int.natCast_emod, Int.natCast_emod]
              exact z_
            omega
          · exact hn_ y_ (by omega)
    refine hs 0 _ rfl _ _ _ _ _ _ _ rfl ?_
    refine zw_c (hs 1 _ rfl) (a := [.ref x]) (st := []) rfl rfl (Nat.le_of_ble_eq_true rfl) ⟨_, _, _, rfl, a1_, a2_.1⟩ (by omega) (by omega) (zm_jam_M g hX hok (fun y_ => absurd y_ (by omega)) (fun y_ => ?_))
    show S 4 [some (.ref x), some (.int (Int32.ofInt (i : Int))), none, none] [.int (Int32.ofInt (0 : Int))] _ _ _
    refine hs 2 _ rfl _ _ _ _ _ _ (fun _ => ?_) (fun zq => absurd (hd_c1t (c := 0) (by omega) (by omega) (by omega : (0 : Int) = 0)) zq)
    refine hs 5 _ rfl _ _ _ _ _ _ _ rfl ?_
    refine hs 6 _ rfl _ _ _ _ _ _ _ rfl ?_
    refine zw_c (hs 7 _ rfl) (a := [.ref x, .int (Int32.ofInt (i : Int))]) (st := []) rfl rfl (Nat.le_of_ble_eq_true rfl) ⟨_, _, _, rfl, a1_, a2_.1⟩ (by omega) (by omega) (zm_modAt_M g hX hok rfl hi (fun y_ => absurd y_ (by omega)) (fun y_ => ?_))
    rw [hM_, hA_]
    show S 15 [some (.ref x), some (.int (Int32.ofInt (i : Int))), none, none] [.int (Int32.ofInt (A_ : Int))] _ _ _
    refine hs 8 _ rfl _ _ _ _ _ _ _ rfl ?_
    refine hs 9 _ rfl _ _ _ _ _ _ _ rfl ?_
    refine hs 10 _ rfl _ _ _ _ _ _ _ rfl ?_
    exact loop M_ 0 (by omega) fun y_ hy_ => absurd hy_ (by omega)
set_option maxHeartbeats 4000000 in
theorem zm_pow_M {l : Launch} {G : am_G} {X : ck_XT} (g : gM l G X) {o : Nat → Nat} {x tx now qw : Nat} {th j m k : Int} {c : sp_S} {P : List sp_S} {h : List am_C} (hX : zm_x G h o x tx now qw th j m k c P) (hok : sp_ok c) {i : Nat} {e : Int} (he : e = (i : Int)) (hi : i < 6) {q : Nat} {z : Int} (hz : zn_N G h q z) (hz2 : sp_in z) {mc ms : Nat} {Post : am_O → List am_C → Prop} (hJ : c.1 ≤ 0 → Post (.inl (some (.int (Int32.ofInt (-9))))) h) (hP : 0 < c.1 → ∀ v : Int, zc_pw (c.2.1.getD i 0 % c.1).toNat c.1.toNat z v → Post (.inl (some (.int (Int32.ofInt v)))) h) :
    am_M l G yX14_powerAt (.code yX14_powerAt prog_14_method_24_code 8 (some .int)) 4 87 mc ms [.ref x, .int (Int32.ofInt e), .ref q] h Post := by
  refine gh_yX14_powerAt_X g (Nat.le_of_ble_eq_true rfl) fun S SX hs hr hw hx => ?_
  have rv : ∀ x : Int32, ck_fv 0 (.int x) := fun x => ⟨_, rfl⟩
  obtain ⟨a1_, a2_, a3_, a4_⟩ := id hX
  obtain ⟨t_, qn_, ql_, qb_, s1_, up_⟩ := hX.dialL
  obtain ⟨nt_, nd_, ntd_, nb_, nds_, n1_, n2_, n3_, n4_, n5_⟩ := hz
  have nl_ : nds_.length ≤ 36 := zm_len n5_ hz2
  have sg_ := n5_.sgn
  have ab_ := n5_.abs
  have b01_ := n5_.2.2.1
  have vn_ := hd_v_nn n5_.1
  rw [he]
  show S 0 [some (.ref x), some (.int (Int32.ofInt (i : Int))), some (.ref q), none, none, none, none, none] [] _ _ _
  have ok_ := hok.1
  by_cases c1_ : c.1 ≤ 0
  · 
    refine hs 0 _ rfl _ _ _ _ _ _ _ rfl ?_
    refine zw_c (hs 1 _ rfl) (a := [.ref x]) (st := []) rfl rfl (Nat.le_of_ble_eq_true rfl) ⟨_, _, _, rfl, a1_, a2_.1⟩ (by omega) (by omega) (zm_jam_M g hX hok (fun y_ => ?_) (fun y_ => absurd y_ (by omega)))
    show S 4 [some (.ref x), some (.int (Int32.ofInt (i : Int))), some (.ref q), none, none, none, none, none] [.int (Int32.ofInt (1 : Int))] _ _ _
    refine hs 2 _ rfl _ _ _ _ _ _ (fun zq => absurd (hd_c1z (c := 0) (by omega) (by omega) zq) (by omega : ¬ ((1 : Int) = 0))) (fun _ => ?_)
    refine hs 3 _ rfl _ _ _ _ _ _ _ rfl ?_
    exact hs 4 _ rfl _ _ _ _ _ (rv _) (Nat.zero_le _) (Nat.zero_le _) (hJ c1_)
  · obtain ⟨M_, hM_⟩ : ∃ M_ : Nat, c.1 = (M_ : Int) := ⟨c.1.toNat, by omega⟩
    have hm9_ : (M_ : Int) ≠ 0 := by omega
    have q1_ := Int.emod_nonneg (c.2.1.getD i 0) hm9_
    have q2_ := Int.emod_lt_of_pos (c.2.1.getD i 0) (show 0 < (M_ : Int) by omega)
    obtain ⟨A_, hA_⟩ : ∃ A_ : Nat, c.2.1.getD i 0 % (M_ : Int) = (A_ : Int) := ⟨(c.2.1.getD i 0 % (M_ : Int)).toNat, by omega⟩
    have s1_ := s1_
    rw [hM_] at s1_
    have hP2_ : ∀ v : Int, zc_pw A_ M_ z v → Post (.inl (some (.int (Int32.ofInt v)))) h := fun v hv => hP (by omega) v (by rw [hM_, hA_, Int.toNat_natCast, Int.toNat_natCast]; exact hv)
    have m1_ : 1 % M_ < M_ := Nat.mod_lt _ (by omega)
    have loopA : ∀ (F_ W_ : Nat) (k_ : Int), W_ < M_ → S 100 [some (.ref x), some (.int (Int32.ofInt (i : Int))), some (.ref q), some (.int (Int32.ofInt (F_ : Int))), some (.int (Int32.ofInt ((W_ ^ 10 % M_ : Nat) : Int))), some (.int (Int32.ofInt k_)), some (.int (Int32.ofInt (W_ : Int))), some (.int (Int32.ofInt (9 : Int)))] [] h 0 0 → ∀ (n_ j_ : Nat), j_ + n_ = 9 → S 72 [some (.ref x), some (.int (Int32.ofInt (i : Int))), some (.ref q), some (.int (Int32.ofInt (F_ : Int))), some (.int (Int32.ofInt ((W_ ^ (j_ + 1) % M_ : Nat) : Int))), some (.int (Int32.ofInt k_)), some (.int (Int32.ofInt (W_ : Int))), some (.int (Int32.ofInt (j_ : Int)))] [] h 0 0 := by
      intro F_ W_ k_ hW_ hK_ n_
      induction n_ with
      | zero =>
        intro j_ hj_
        obtain rfl : j_ = 9 := by omega
        have p1_ : W_ ^ (9 + 1) % M_ < M_ := Nat.mod_lt _ (by omega)
        refine hs 39 _ rfl _ _ _ _ _ _ _ rfl ?_
        refine hs 40 _ rfl _ _ _ _ _ _ _ rfl ?_
        refine hs 41 _ rfl _ _ _ _ _ _ _ (fun _ => ?_) (fun zq => absurd (hd_c2t (c := 3) (by omega) (by omega) (by omega) (by omega) (by omega : 0 ≤ ((9 : Int) - (9 : Int)))) zq)
        exact hK_
      | succ n_ ih =>
        intro j_ hj_
        have p1_ : W_ ^ (j_ + 1) % M_ < M_ := Nat.mod_lt _ (by omega)
        refine hs 39 _ rfl _ _ _ _ _ _ _ rfl ?_
        refine hs 40 _ rfl _ _ _ _ _ _ _ rfl ?_
        refine hs 41 _ rfl _ _ _ _ _ _ _ (fun zq => absurd (hd_c2z (c := 3) (by omega) (by omega) (by omega) (by omega) zq) (by omega : ¬ (0 ≤ ((j_ : Int) - (9 : Int))))) (fun _ => ?_)
        refine hs 42 _ rfl _ _ _ _ _ _ _ rfl ?_
        refine hs 43 _ rfl _ _ _ _ _ _ _ rfl ?_
        refine hs 44 _ rfl _ _ _ _ _ _ _ hd_mul ?_
        refine hs 45 _ rfl _ _ _ _ _ _ _ rfl ?_
        refine hs 46 _ rfl _ _ _ _ _ _ _ _ _ (a1_) a2_.1 rfl ?_
        refine hs 47 _ rfl _ _ _ _ _ _ _ _ _ (s1_.1) s1_.2 rfl ?_
        refine hs 48 _ rfl _ _ _ _ _ _ _ (zt_rem (by omega) (by omega) (by omega) (by omega)) ?_
        refine hs 49 _ rfl _ _ _ _ _ _ _ rfl ?_
        refine hs 50 _ rfl _ _ _ _ _ _ _ (hd_inc rfl) ?_
        refine hs 51 _ rfl _ _ _ _ _ ?_
        show S 72 [some (.ref x), some (.int (Int32.ofInt (i : Int))), some (.ref q), some (.int (Int32.ofInt (F_ : Int))), some (.int (Int32.ofInt (((W_ ^ (j_ + 1) % M_) * W_ % M_ : Nat) : Int))), some (.int (Int32.ofInt k_)), some (.int (Int32.ofInt (W_ : Int))), some (.int (Int32.ofInt ((j_ : Int) + (1 : Int))))] [] _ _ _
        rw [zt_a1]
        exact ih (j_ + 1) (by omega)
    have loopD : ∀ (F_ W_ C_ r_ d_ : Nat), F_ < M_ → d_ ≤ 9 → nds_[r_]? = some (d_ : Int) → S 135 [some (.ref x), some (.int (Int32.ofInt (i : Int))), some (.ref q), some (.int (Int32.ofInt (F_ : Int))), some (.int (Int32.ofInt ((C_ * F_ ^ d_ % M_ : Nat) : Int))), some (.int (Int32.ofInt (r_ : Int))), some (.int (Int32.ofInt (W_ : Int))), some (.int (Int32.ofInt (d_ : Int)))] [] h 0 0 → ∀ (n_ j_ : Nat), j_ + n_ = d_ → S 103 [some (.ref x), some (.int (Int32.ofInt (i : Int))), some (.ref q), some (.int (Int32.ofInt (F_ : Int))), some (.int (Int32.ofInt ((C_ * F_ ^ j_ % M_ : Nat) : Int))), some (.int (Int32.ofInt (r_ : Int))), some (.int (Int32.ofInt (W_ : Int))), some (.int (Int32.ofInt (j_ : Int)))] [] h 0 0 := by
      intro F_ W_ C_ r_ d_ hF_ hd_ hd9_ hK_ n_
      have lr_ := (List.getElem?_eq_some_iff.mp hd9_).1
      induction n_ with
      | zero =>
        intro j_ hj_
        have ej_ : j_ = d_ := by omega
        rw [ej_]
        have p1_ : C_ * F_ ^ d_ % M_ < M_ := Nat.mod_lt _ (by omega)
        refine hs 54 _ rfl _ _ _ _ _ _ _ rfl ?_
        refine hs 55 _ rfl _ _ _ _ _ _ _ rfl ?_
        refine hs 56 _ rfl _ _ _ _ _ _ _ _ _ (n1_) n2_ rfl ?_
        refine hs 57 _ rfl _ _ _ _ _ _ _ rfl ?_
        refine hd_A (hs 58 _ rfl) (by decide) (by decide) (n3_) n4_ (j := r_) (by omega) (by omega) hd9_ ?_
        refine hs 59 _ rfl _ _ _ _ _ _ _ (fun _ => ?_) (fun zq => absurd (hd_c2t (c := 3) (by omega) (by omega) (by omega) (by omega) (by omega : 0 ≤ ((d_ : Int) - (d_ : Int)))) zq)
        exact hK_
      | succ n_ ih =>
        intro j_ hj_
        have p1_ : C_ * F_ ^ j_ % M_ < M_ := Nat.mod_lt _ (by omega)
        refine hs 54 _ rfl _ _ _ _ _ _ _ rfl ?_
        refine hs 55 _ rfl _ _ _ _ _ _ _ rfl ?_
        refine hs 56 _ rfl _ _ _ _ _ _ _ _ _ (n1_) n2_ rfl ?_
        refine hs 57 _ rfl _ _ _ _ _ _ _ rfl ?_
        refine hd_A (hs 58 _ rfl) (by decide) (by decide) (n3_) n4_ (j := r_) (by omega) (by omega) hd9_ ?_
        refine hs 59 _ rfl _ _ _ _ _ _ _ (fun zq => absurd (hd_c2z (c := 3) (by omega) (by omega) (by omega) (by omega) zq) (by omega : ¬ (0 ≤ ((j_ : Int) - (d_ : Int))))) (fun _ => ?_)
        refine hs 60 _ rfl _ _ _ _ _ _ _ rfl ?_
        refine hs 61 _ rfl _ _ _ _ _ _ _ rfl ?_
        refine hs 62 _ rfl _ _ _ _ _ _ _ hd_mul ?_
        refine hs 63 _ rfl _ _ _ _ _ _ _ rfl ?_
        refine hs 64 _ rfl _ _ _ _ _ _ _ _ _ (a1_) a2_.1 rfl ?_
        refine hs 65 _ rfl _ _ _ _ _ _ _ _ _ (s1_.1) s1_.2 rfl ?_
        refine hs 66 _ rfl _ _ _ _ _ _ _ (zt_rem (by omega) (by omega) (by omega) (by omega)) ?_
        refine hs 67 _ rfl _ _ _ _ _ _ _ rfl ?_
        refine hs 68 _ rfl _ _ _ _ _ _ _ (hd_inc rfl) ?_
        refine hs 69 _ rfl _ _ _ _ _ ?_
        show S 103 [some (.ref x), some (.int (Int32.ofInt (i : Int))), some (.ref q), some (.int (Int32.ofInt (F_ : Int))), some (.int (Int32.ofInt (((C_ * F_ ^ j_ % M_) * F_ % M_ : Nat) : Int))), some (.int (Int32.ofInt (r_ : Int))), some (.int (Int32.ofInt (W_ : Int))), some (.int (Int32.ofInt ((j_ : Int) + (1 : Int))))] [] _ _ _
        rw [zt_b1]
        exact ih (j_ + 1) (by omega)
    have loop : ∀ (F_ : Nat), F_ < M_ → (z < 0 → Nat.gcd A_ M_ = 1 ∧ (A_ : Int) * (F_ : Int) % (M_ : Int) = 1 % (M_ : Int)) → (¬ z < 0 → F_ = A_) → ∀ (r_ : Nat) (u6_ u7_ : Option Value), r_ ≤ nds_.length → S 60 [some (.ref x), some (.int (Int32.ofInt (i : Int))), some (.ref q), some (.int (Int32.ofInt (F_ : Int))), some (.int (Int32.ofInt ((F_ ^ (hd_v (nds_.drop r_)).toNat % M_ : Nat) : Int))), some (.int (Int32.ofInt ((r_ : Int) - (1 : Int)))), u6_, u7_] [] h 0 0 := by
      intro F_ hF_ hz1_ hz3_ r_
      induction r_ with
      | zero =>
        intro u6_ u7_ hr_
        rw [List.drop_zero]
        have p1_ : F_ ^ (hd_v nds_).toNat % M_ < M_ := Nat.mod_lt _ (by omega)
        refine hs 33 _ rfl _ _ _ _ _ _ _ rfl ?_
        refine hs 34 _ rfl _ _ _ _ _ _ (fun _ => ?_) (fun zq => absurd (hd_c1t (c := 2) (by omega) (by omega) (by omega : (((0 : Nat) : Int) - (1 : Int)) < 0)) zq)
        refine hs 72 _ rfl _ _ _ _ _ _ _ rfl ?_
        refine hs 73 _ rfl _ _ _ _ _ (rv _) (by omega) (by omega) (hP2_ _ (Or.inr ⟨fun y_ => (hz1_ y_).1, F_, hF_, fun y_ => (hz1_ y_).2, hz3_, ?_⟩))
        rw [← ab_, Int.toNat_natCast]
      | succ r_ ih =>
        intro u6_ u7_ hr_
        obtain ⟨d9_, hd9_⟩ : ∃ d9_, nds_[r_]? = some d9_ := ⟨_, List.getElem?_eq_getElem (by omega)⟩
        have dd_ := n5_.1 d9_ (List.mem_of_getElem? hd9_)
        obtain ⟨d_, hdd_⟩ : ∃ d_ : Nat, d9_ = (d_ : Int) := ⟨d9_.toNat, by omega⟩
        rw [hdd_] at hd9_
        have dr_ : nds_.drop r_ = (d_ : Int) :: nds_.drop (r_ + 1) := by
          rw [List.drop_eq_getElem_cons (by omega)]
          rw [List.getElem?_eq_getElem (by omega)] at hd9_
          rw [Option.some.inj hd9_]
        have dn_ : 0 ≤ hd_v (nds_.drop (r_ + 1)) := hd_v_nn fun y_ hy_ => n5_.1 y_ (List.mem_of_mem_drop hy_)
        have ev_ : (hd_v (nds_.drop r_)).toNat = 10 * (hd_v (nds_.drop (r_ + 1))).toNat + d_ := by
          rw [dr_]
          show ((d_ : Int) + 10 * hd_v (nds_.drop (r_ + 1))).toNat = _
          omega
        obtain ⟨W_, hW_⟩ : ∃ W_ : Nat, W_ = F_ ^ (hd_v (nds_.drop (r_ + 1))).toNat % M_ := ⟨_, rfl⟩
        have w1_ : W_ < M_ := by rw [hW_]; exact Nat.mod_lt _ (by omega)
        rw [← hW_]
        refine hs 33 _ rfl _ _ _ _ _ _ _ rfl ?_
        refine hs 34 _ rfl _ _ _ _ _ _ (fun zq => absurd (hd_c1z (c := 2) (by omega) (by omega) zq) (by omega : ¬ ((((r_ + 1 : Nat) : Int) - (1 : Int)) < 0))) (fun _ => ?_)
        refine hs 35 _ rfl _ _ _ _ _ _ _ rfl ?_
        refine hs 36 _ rfl _ _ _ _ _ _ _ rfl ?_
        refine hs 37 _ rfl _ _ _ _ _ _ _ rfl ?_
        refine hs 38 _ rfl _ _ _ _ _ _ _ rfl ?_
        show S 72 [some (.ref x), some (.int (Int32.ofInt (i : Int))), some (.ref q), some (.int (Int32.ofInt (F_ : Int))), some (.int (Int32.ofInt (W_ : Int))), some (.int (Int32.ofInt (((r_ + 1 : Nat) : Int) - (1 : Int)))), some (.int (Int32.ofInt (W_ : Int))), some (.int (Int32.ofInt (0 : Int)))] [] _ _ _
        have er_ : ((r_ + 1 : Nat) : Int) - (1 : Int) = (r_ : Int) := by omega
        have w2_ : W_ ^ (0 + 1) % M_ = W_ := by rw [Nat.zero_add, Nat.pow_one, Nat.mod_eq_of_lt w1_]
        rw [er_]
        have l9_ := loopA F_ W_ (r_ : Int) w1_ ?_ 9 0 (by omega)
        · rw [w2_] at l9_
          exact l9_
        · obtain ⟨C_, hC_⟩ : ∃ C_ : Nat, C_ = W_ ^ 10 % M_ := ⟨_, rfl⟩
          have c9_ : C_ < M_ := by rw [hC_]; exact Nat.mod_lt _ (by omega)
          rw [← hC_]
          refine hs 52 _ rfl _ _ _ _ _ _ _ rfl ?_
          refine hs 53 _ rfl _ _ _ _ _ _ _ rfl ?_
          show S 103 [some (.ref x), some (.int (Int32.ofInt (i : Int))), some (.ref q), some (.int (Int32.ofInt (F_ : Int))), some (.int (Int32.ofInt (C_ : Int))), some (.int (Int32.ofInt (r_ : Int))), some (.int (Int32.ofInt (W_ : Int))), some (.int (Int32.ofInt (0 : Int)))] [] _ _ _
          have l8_ := loopD F_ W_ C_ r_ d_ hF_ (by omega) hd9_ ?_ d_ 0 (by omega)
          · rw [Nat.pow_zero, Nat.mul_one, Nat.mod_eq_of_lt c9_] at l8_
            exact l8_
          · have e8_ : C_ * F_ ^ d_ % M_ = F_ ^ (hd_v (nds_.drop r_)).toNat % M_ := by rw [hC_, hW_, ev_, zt_p10]
            rw [e8_]
            refine hs 70 _ rfl _ _ _ _ _ _ _ (hd_inc rfl) ?_
            refine hs 71 _ rfl _ _ _ _ _ ?_
            exact ih _ _ (by omega)
    have start : ∀ (F_ : Nat), F_ < M_ → (z < 0 → Nat.gcd A_ M_ = 1 ∧ (A_ : Int) * (F_ : Int) % (M_ : Int) = 1 % (M_ : Int)) → (¬ z < 0 → F_ = A_) → S 31 [some (.ref x), some (.int (Int32.ofInt (i : Int))), some (.ref q), some (.int (Int32.ofInt (F_ : Int))), none, none, none, none] [] h 0 0 := by
      intro F_ hF_ hz1_ hz3_
      refine hs 16 _ rfl _ _ _ _ _ _ _ rfl ?_
      refine hs 17 _ rfl _ _ _ _ _ _ _ rfl ?_
      refine hs 18 _ rfl _ _ _ _ _ _ _ (fun _ => ?_) (fun zq => absurd (hd_c2t (c := 1) (by omega) (by omega) (by omega) (by omega) (by omega : ((F_ : Int) - (-8 : Int)) ≠ 0)) zq)
      refine hs 21 _ rfl _ _ _ _ _ _ _ rfl ?_
      refine hs 22 _ rfl _ _ _ _ _ _ _ rfl ?_
      refine hs 23 _ rfl _ _ _ _ _ _ _ _ _ (a1_) a2_.1 rfl ?_
      refine hs 24 _ rfl _ _ _ _ _ _ _ _ _ (s1_.1) s1_.2 rfl ?_
      refine hs 25 _ rfl _ _ _ _ _ _ _ (zt_rem1 (by omega) (by omega)) ?_
      refine hs 26 _ rfl _ _ _ _ _ _ _ rfl ?_
      refine hs 27 _ rfl _ _ _ _ _ _ _ rfl ?_
      refine hs 28 _ rfl _ _ _ _ _ _ _ _ _ (n1_) n2_ rfl ?_
      refine hd_Ln (hs 29 _ rfl) (n3_) n4_ ?_
      refine hs 30 _ rfl _ _ _ _ _ _ _ rfl ?_
      refine hs 31 _ rfl _ _ _ _ _ _ _ hd_sub ?_
      refine hs 32 _ rfl _ _ _ _ _ _ _ rfl ?_
      show S 60 [some (.ref x), some (.int (Int32.ofInt (i : Int))), some (.ref q), some (.int (Int32.ofInt (F_ : Int))), some (.int (Int32.ofInt ((1 % M_ : Nat) : Int))), some (.int (Int32.ofInt ((nds_.length : Int) - (1 : Int)))), none, none] [] _ _ _
      have l7_ := loop F_ hF_ hz1_ hz3_ nds_.length none none (Nat.le_refl _)
      rw [List.drop_length, show hd_v [] = 0 from rfl, show (0 : Int).toNat = 0 from rfl, Nat.pow_zero] at l7_
      exact l7_
    by_cases zb_ : z < 0
    · have nb1_ : nb_ = 1 := sg_.mpr zb_
      refine hs 0 _ rfl _ _ _ _ _ _ _ rfl ?_
      refine zw_c (hs 1 _ rfl) (a := [.ref x]) (st := []) rfl rfl (Nat.le_of_ble_eq_true rfl) ⟨_, _, _, rfl, a1_, a2_.1⟩ (by omega) (by omega) (zm_jam_M g hX hok (fun y_ => absurd y_ (by omega)) (fun y_ => ?_))
      show S 4 [some (.ref x), some (.int (Int32.ofInt (i : Int))), some (.ref q), none, none, none, none, none] [.int (Int32.ofInt (0 : Int))] _ _ _
      refine hs 2 _ rfl _ _ _ _ _ _ (fun _ => ?_) (fun zq => absurd (hd_c1t (c := 0) (by omega) (by omega) (by omega : (0 : Int) = 0)) zq)
      refine hs 5 _ rfl _ _ _ _ _ _ _ rfl ?_
      refine hs 6 _ rfl _ _ _ _ _ _ _ _ _ (n1_) n2_ rfl ?_
      refine hs 7 _ rfl _ _ _ _ _ _ (fun zq => absurd (hd_c1z (c := 0) (by omega) (by omega) zq) (by omega : ¬ (nb_ = 0))) (fun _ => ?_)
      refine hs 8 _ rfl _ _ _ _ _ _ _ rfl ?_
      refine hs 9 _ rfl _ _ _ _ _ _ _ rfl ?_
      refine zw_c (hs 10 _ rfl) (a := [.ref x, .int (Int32.ofInt (i : Int))]) (st := []) rfl rfl (Nat.le_of_ble_eq_true rfl) ⟨_, _, _, rfl, a1_, a2_.1⟩ (by omega) (by omega) (zm_inv_M g hX hok rfl hi (fun y_ => absurd y_ (by omega)) (fun y_ v_ hv_ => ?_))
      rw [hM_, hA_, Int.toNat_natCast, Int.toNat_natCast] at hv_
      show S 22 [some (.ref x), some (.int (Int32.ofInt (i : Int))), some (.ref q), none, none, none, none, none] [.int (Int32.ofInt v_)] _ _ _
      refine hs 11 _ rfl _ _ _ _ _ ?_
      refine hs 15 _ rfl _ _ _ _ _ _ _ rfl ?_
      show S 31 [some (.ref x), some (.int (Int32.ofInt (i : Int))), some (.ref q), some (.int (Int32.ofInt v_)), none, none, none, none] [] _ _ _
      rcases hv_ with ⟨g_, v8_⟩ | ⟨g_, v1_, v2_, v3_⟩
      · rw [v8_]
        refine hs 16 _ rfl _ _ _ _ _ _ _ rfl ?_
        refine hs 17 _ rfl _ _ _ _ _ _ _ rfl ?_
        refine hs 18 _ rfl _ _ _ _ _ _ _ (fun zq => absurd (hd_c2z (c := 1) (by omega) (by omega) (by omega) (by omega) zq) (by omega : ¬ (((-8) - (-8 : Int)) ≠ 0))) (fun _ => ?_)
        refine hs 19 _ rfl _ _ _ _ _ _ _ rfl ?_
        exact hs 20 _ rfl _ _ _ _ _ (rv _) (Nat.zero_le _) (Nat.zero_le _) (hP2_ (-8) (Or.inl ⟨by omega, g_, rfl⟩))
      · obtain ⟨F_, hF_⟩ : ∃ F_ : Nat, v_ = (F_ : Int) := ⟨v_.toNat, by omega⟩
        rw [hF_] at v2_ v3_ ⊢
        exact start F_ (by omega) (fun _ => ⟨g_, v3_⟩) (fun y_ => absurd zb_ y_)
    · have nb0_ : nb_ = 0 := by
        rcases b01_ with y_ | y_
        · exact y_
        · exact absurd (sg_.mp y_) zb_
      refine hs 0 _ rfl _ _ _ _ _ _ _ rfl ?_
      refine zw_c (hs 1 _ rfl) (a := [.ref x]) (st := []) rfl rfl (Nat.le_of_ble_eq_true rfl) ⟨_, _, _, rfl, a1_, a2_.1⟩ (by omega) (by omega) (zm_jam_M g hX hok (fun y_ => absurd y_ (by omega)) (fun y_ => ?_))
      show S 4 [some (.ref x), some (.int (Int32.ofInt (i : Int))), some (.ref q), none, none, none, none, none] [.int (Int32.ofInt (0 : Int))] _ _ _
      refine hs 2 _ rfl _ _ _ _ _ _ (fun _ => ?_) (fun zq => absurd (hd_c1t (c := 0) (by omega) (by omega) (by omega : (0 : Int) = 0)) zq)
      refine hs 5 _ rfl _ _ _ _ _ _ _ rfl ?_
      refine hs 6 _ rfl _ _ _ _ _ _ _ _ _ (n1_) n2_ rfl ?_
      refine hs 7 _ rfl _ _ _ _ _ _ (fun _ => ?_) (fun zq => absurd (hd_c1t (c := 0) (by omega) (by omega) (by omega : nb_ = 0)) zq)
      refine hs 12 _ rfl _ _ _ _ _ _ _ rfl ?_
      refine hs 13 _ rfl _ _ _ _ _ _ _ rfl ?_
      refine zw_c (hs 14 _ rfl) (a := [.ref x, .int (Int32.ofInt (i : Int))]) (st := []) rfl rfl (Nat.le_of_ble_eq_true rfl) ⟨_, _, _, rfl, a1_, a2_.1⟩ (by omega) (by omega) (zm_modAt_M g hX hok rfl hi (fun y_ => absurd y_ (by omega)) (fun y_ => ?_))
      rw [hM_, hA_]
      show S 30 [some (.ref x), some (.int (Int32.ofInt (i : Int))), some (.ref q), none, none, none, none, none] [.int (Int32.ofInt (A_ : Int))] _ _ _
      refine hs 15 _ rfl _ _ _ _ _ _ _ rfl ?_
      show S 31 [some (.ref x), some (.int (Int32.ofInt (i : Int))), some (.ref q), some (.int (Int32.ofInt (A_ : Int))), none, none, none, none] [] _ _ _
      exact start A_ (by omega) (fun y_ => absurd y_ zb_) (fun _ => rfl)
end
section
/-! WHAT A CALL DOES TO THE STATE: of both sides -/
/-- state, what may come back, jams, misses, knocks -/
abbrev sp_T : Type := sp_S × List sp_S × Int × Int × Int
def sp_up (T : sp_T) (c : sp_S) : sp_T := (c, sp_keep T.2.1 T.1, T.2.2)
def sp_ja (T : sp_T) : sp_T := (T.1, T.2.1, T.2.2.1 + 1, T.2.2.2)
def sp_mi (T : sp_T) : sp_T := (T.1, T.2.1, T.2.2.1, T.2.2.2.1 + 1, T.2.2.2.2)
def sp_s1 (e : Int) : Prop := 0 ≤ e ∧ e < 6
def sp_at (T : sp_T) (e : Int) : Int := T.1.2.1.getD e.toNat 0
def sp_set (c : sp_S) (e z : Int) : sp_S := (c.1, c.2.1.set e.toNat z, c.2.2)
def sp_num (T : sp_T) (e z a th : Int) (T' : sp_T) (w : Int) : Prop := (sp_in z ∧ th = 0 ∧ T' = sp_up T (sp_set T.1 e z) ∧ ∃ d : Nat, a = (d : Int) ∧ zc_dg (z.natAbs : Int) d) ∨ (¬ sp_in z ∧ th = w ∧ T' = T)
def sp_rnd (T : sp_T) (e : Int) (R : Int → Prop) (a th : Int) (T' : sp_T) : Prop := th = 0 ∧ ((T.1.1 ≤ 0 ∧ a = -9 ∧ T' = sp_ja T) ∨ (0 < T.1.1 ∧ R a ∧ ((a = -8 ∧ T' = sp_mi T) ∨ (0 ≤ a ∧ T' = sp_up T (sp_set T.1 e a)))))
def sp_row (e e2 : Int) : Prop := -9999 ≤ e ∧ e ≤ 9999 ∧ 1 ≤ e2 ∧ e2 ≤ 999
def sp_md (T : sp_T) (e : Int) : Int := sp_at T e % T.1.1
def sp_d0 (e e2 : Int) (T : sp_T) (a th : Int) (T' : sp_T) : Prop := ((-9 ≤ e ∧ e ≤ 400) ∧ th = 0 ∧ a = T.1.1 ∧ T' = sp_up T (e, T.1.2)) ∨ (¬ (-9 ≤ e ∧ e ≤ 400) ∧ th = 1 ∧ T' = T)
def sp_d1 (e e2 : Int) (T : sp_T) (a th : Int) (T' : sp_T) : Prop := (sp_s1 e ∧ sp_num T e e2 a th T' 9) ∨ (¬ sp_s1 e ∧ th = 1 ∧ T' = T)
def sp_d2 (e e2 : Int) (T : sp_T) (a th : Int) (T' : sp_T) : Prop := (sp_s1 e ∧ (((0 ≤ e2 ∧ e2 < 1000000000) ∧ sp_num T e (sp_at T e * 1000000000 + e2) a th T' 3) ∨ (¬ (0 ≤ e2 ∧ e2 < 1000000000) ∧ th = 2 ∧ T' = T))) ∨ (¬ sp_s1 e ∧ th = 1 ∧ T' = T)
def sp_d3 (e e2 : Int) (T : sp_T) (a th : Int) (T' : sp_T) : Prop := ((sp_s1 e ∧ sp_s1 e2) ∧ sp_num T e (sp_at T e + sp_at T e2) a th T' 2) ∨ (¬ (sp_s1 e ∧ sp_s1 e2) ∧ th = 1 ∧ T' = T)
def sp_d4 (e e2 : Int) (T : sp_T) (a th : Int) (T' : sp_T) : Prop := ((sp_s1 e ∧ sp_s1 e2) ∧ sp_num T e (sp_at T e * sp_at T e2) a th T' 2) ∨ (¬ (sp_s1 e ∧ sp_s1 e2) ∧ th = 1 ∧ T' = T)
def sp_d5 (e e2 : Int) (T : sp_T) (a th : Int) (T' : sp_T) : Prop := (sp_s1 e ∧ th = 0 ∧ a = -(sp_at T e).sign ∧ T' = sp_up T (sp_set T.1 e (-(sp_at T e)))) ∨ (¬ sp_s1 e ∧ th = 1 ∧ T' = T)
def sp_d6 (e e2 : Int) (T : sp_T) (a th : Int) (T' : sp_T) : Prop := (sp_s1 e ∧ sp_rnd T e (fun v => v = sp_md T e) a th T') ∨ (¬ sp_s1 e ∧ th = 1 ∧ T' = T)
def sp_d7 (e e2 : Int) (T : sp_T) (a th : Int) (T' : sp_T) : Prop := ((sp_s1 e ∧ sp_s1 e2) ∧ sp_rnd T e (fun v => v = (sp_md T e + sp_md T e2) % T.1.1) a th T') ∨ (¬ (sp_s1 e ∧ sp_s1 e2) ∧ th = 1 ∧ T' = T)
def sp_d8 (e e2 : Int) (T : sp_T) (a th : Int) (T' : sp_T) : Prop := ((sp_s1 e ∧ sp_s1 e2) ∧ sp_rnd T e (fun v => v = sp_md T e * sp_md T e2 % T.1.1) a th T') ∨ (¬ (sp_s1 e ∧ sp_s1 e2) ∧ th = 1 ∧ T' = T)
def sp_d9 (e e2 : Int) (T : sp_T) (a th : Int) (T' : sp_T) : Prop := ((sp_s1 e ∧ sp_s1 e2) ∧ sp_rnd T e (fun v => zc_pw (sp_md T e).toNat T.1.1.toNat (sp_at T e2) v) a th T') ∨ (¬ (sp_s1 e ∧ sp_s1 e2) ∧ th = 1 ∧ T' = T)
def sp_d10 (e e2 : Int) (T : sp_T) (a th : Int) (T' : sp_T) : Prop := (sp_s1 e ∧ sp_rnd T e (fun v => sm_inv (sp_md T e).toNat T.1.1.toNat v) a th T') ∨ (¬ sp_s1 e ∧ th = 1 ∧ T' = T)
def sp_rw (T : sp_T) (e e2 : Int) : sp_S := (T.1.1, T.1.2.1, T.1.2.2.1 ++ [(e % e2, e2)], T.1.2.2.2)
def sp_d11 (e e2 : Int) (T : sp_T) (a th : Int) (T' : sp_T) : Prop := (sp_row e e2 ∧ ((T.1.2.2.1.length < 6 ∧ th = 0 ∧ a = (T.1.2.2.1.length : Int) ∧ T' = sp_up T (sp_rw T e e2)) ∨ (¬ T.1.2.2.1.length < 6 ∧ th = 2 ∧ T' = T))) ∨ (¬ sp_row e e2 ∧ th = 1 ∧ T' = T)
def sp_d12 (e e2 : Int) (T : sp_T) (a th : Int) (T' : sp_T) : Prop := (sp_row e e2 ∧ ((T.1.2.2.1.length < 6 ∧ th = 0 ∧ ((sp_fit (T.1.2.2.1 ++ [(e % e2, e2)]) ∧ a = 1 ∧ T' = sp_up T (sp_rw T e e2)) ∨ (¬ sp_fit (T.1.2.2.1 ++ [(e % e2, e2)]) ∧ a = 0 ∧ T' = T))) ∨ (¬ T.1.2.2.1.length < 6 ∧ th = 2 ∧ T' = T))) ∨ (¬ sp_row e e2 ∧ th = 1 ∧ T' = T)
def sp_d13 (e e2 : Int) (T : sp_T) (a th : Int) (T' : sp_T) : Prop := ((0 ≤ e ∧ e < (T.1.2.2.1.length : Int)) ∧ th = 0 ∧ a = ((T.1.2.2.1.eraseIdx e.toNat).length : Int) ∧ T' = sp_up T (T.1.1, T.1.2.1, T.1.2.2.1.eraseIdx e.toNat, T.1.2.2.2)) ∨ (¬ (0 ≤ e ∧ e < (T.1.2.2.1.length : Int)) ∧ th = 1 ∧ T' = T)
def sp_d14 (e e2 : Int) (T : sp_T) (a th : Int) (T' : sp_T) : Prop := ((2 ≤ e ∧ e ≤ 999) ∧ ((sp_tb T.1 e ∧ th = 0 ∧ a = (T.1.2.2.2.length : Int) ∧ T' = sp_up T (T.1.1, T.1.2.1, T.1.2.2.1, T.1.2.2.2 ++ [e])) ∨ (¬ sp_tb T.1 e ∧ th = 2 ∧ T' = T))) ∨ (¬ (2 ≤ e ∧ e ≤ 999) ∧ th = 1 ∧ T' = T)
def sp_d15 (e e2 : Int) (T : sp_T) (a th : Int) (T' : sp_T) : Prop := (∃ (B : List Int) (b : Int), T.1.2.2.2 = B ++ [b] ∧ th = 0 ∧ a = b ∧ T' = sp_up T (T.1.1, T.1.2.1, T.1.2.2.1, B)) ∨ (T.1.2.2.2 = [] ∧ th = 1 ∧ T' = T)
def sp_d16 (e e2 : Int) (T : sp_T) (a th : Int) (T' : sp_T) : Prop := (∃ (P : List sp_S) (s : sp_S), T.2.1 = P ++ [s] ∧ th = 0 ∧ a = (P.length : Int) ∧ T' = (s, P, T.2.2)) ∨ (T.2.1 = [] ∧ th = 1 ∧ T' = T)
def sp_d17 (e e2 : Int) (T : sp_T) (a th : Int) (T' : sp_T) : Prop := th = 0 ∧ a = T.2.2.2.2 + 1 ∧ T' = (T.1, T.2.1, T.2.2.1, T.2.2.2.1, T.2.2.2.2 + 1)
theorem sm_inv.fn {a m : Nat} {v w : Int} (h1 : sm_inv a m v) (h2 : sm_inv a m w) : v = w := by
  rcases h1 with ⟨a1_, a2_⟩ | ⟨a1_, a2_, a3_, a4_⟩
  · rcases h2 with ⟨b1_, b2_⟩ | ⟨b1_, -⟩
    · rw [a2_, b2_]
    · exact absurd b1_ a1_
  · rcases h2 with ⟨b1_, -⟩ | ⟨b1_, b2_, b3_, b4_⟩
    · exact absurd a1_ b1_
    · have d_ : (m : Int) ∣ (a : Int) * v - (a : Int) * w := zj_emd (a4_.trans b4_.symm)
      rw [← Int.mul_sub] at d_
      have d2_ : (m : Int) ∣ v - w := Int.ofNat_dvd_left.mpr ((Nat.Coprime.dvd_of_dvd_mul_left (show Nat.Coprime m a from (Nat.gcd_comm m a).trans a1_)) (by
        have := Int.ofNat_dvd_left.mp d_
        rw [Int.natAbs_mul, Int.natAbs_natCast] at this
        exact this))
      obtain ⟨q_, hq_⟩ := d2_
      have q0_ : q_ = 0 := by
        apply Classical.byContradiction
        intro c_
        rcases Int.lt_or_gt_of_ne c_ with l_ | l_
        · have := Int.mul_le_mul_of_nonneg_left (show q_ ≤ -1 by omega) (show 0 ≤ (m : Int) by omega)
          omega
        · have := Int.mul_le_mul_of_nonneg_left (show 1 ≤ q_ by omega) (show 0 ≤ (m : Int) by omega)
          omega
      rw [q0_, Int.mul_zero] at hq_
      omega
theorem zc_pw.fn {a m : Nat} {e v w : Int} (h1 : zc_pw a m e v) (h2 : zc_pw a m e w) : v = w := by
  rcases h1 with ⟨a1_, a2_, a3_⟩ | ⟨a1_, f_, a2_, a3_, a4_, a5_⟩
  · rcases h2 with ⟨b1_, b2_, b3_⟩ | ⟨b1_, -⟩
    · rw [a3_, b3_]
    · exact absurd (b1_ a1_) a2_
  · rcases h2 with ⟨b1_, b2_, b3_⟩ | ⟨b1_, g_, b2_, b3_, b4_, b5_⟩
    · exact absurd (a1_ b1_) b2_
    · have fg_ : f_ = g_ := by
        by_cases c_ : e < 0
        · have s1_ : sm_inv a m (f_ : Int) := Or.inr ⟨a1_ c_, by omega, by omega, a3_ c_⟩
          have s2_ : sm_inv a m (g_ : Int) := Or.inr ⟨a1_ c_, by omega, by omega, b3_ c_⟩
          have := s1_.fn s2_
          omega
        · rw [a4_ c_, b4_ c_]
      rw [a5_, b5_, fg_]
def sp_al (a th : Int) (T' : sp_T) (a2 th2 : Int) (T2 : sp_T) : Prop := th = th2 ∧ T' = T2 ∧ (th = 0 → a = a2)
theorem sp_al.re {a th a2 th2 w : Int} {T T' T2 : sp_T} (hw : w ≠ 0) (h1 : th = w ∧ T' = T) (h2 : th2 = w ∧ T2 = T) : sp_al a th T' a2 th2 T2 := ⟨by rw [h1.1, h2.1], by rw [h1.2, h2.2], fun z => absurd (h1.1.symm.trans z) hw⟩
theorem sp_num.fn {T T' T2 : sp_T} {e z a th a2 th2 w : Int} (hw : w ≠ 0) (h1 : sp_num T e z a th T' w) (h2 : sp_num T e z a2 th2 T2 w) : sp_al a th T' a2 th2 T2 := by
  rcases h1 with ⟨a1_, a2_, a3_, d_, a4_, a5_⟩ | ⟨a1_, a2_⟩
  · rcases h2 with ⟨b1_, b2_, b3_, d2_, b4_, b5_⟩ | ⟨b1_, -⟩
    · exact ⟨by rw [a2_, b2_], by rw [a3_, b3_], fun _ => by rw [a4_, b4_, a5_.fn b5_]⟩
    · exact absurd a1_ b1_
  · rcases h2 with ⟨b1_, -⟩ | ⟨b1_, b2_⟩
    · exact absurd b1_ a1_
    · exact sp_al.re hw a2_ b2_
theorem sp_rnd.fn {T T' T2 : sp_T} {e a th a2 th2 : Int} {R : Int → Prop} (hR : ∀ v w, R v → R w → v = w) (h1 : sp_rnd T e R a th T') (h2 : sp_rnd T e R a2 th2 T2) : sp_al a th T' a2 th2 T2 := by
  obtain ⟨t1_, h1⟩ := h1
  obtain ⟨t2_, h2⟩ := h2
  rcases h1 with ⟨c1_, a1_, a2_⟩ | ⟨c1_, r1_, a1_⟩
  · rcases h2 with ⟨c2_, b1_, b2_⟩ | ⟨c2_, -⟩
    · exact ⟨by rw [t1_, t2_], by rw [a2_, b2_], fun _ => by rw [a1_, b1_]⟩
    · omega
  · rcases h2 with ⟨c2_, -⟩ | ⟨c2_, r2_, b1_⟩
    · omega
    · have e_ := hR _ _ r1_ r2_
      subst e_
      rcases a1_ with ⟨a1_, a2_⟩ | ⟨a1_, a2_⟩
      · rcases b1_ with ⟨b1_, b2_⟩ | ⟨b1_, b2_⟩
        · exact ⟨by rw [t1_, t2_], by rw [a2_, b2_], fun _ => rfl⟩
        · omega
      · rcases b1_ with ⟨b1_, b2_⟩ | ⟨b1_, b2_⟩
        · omega
        · exact ⟨by rw [t1_, t2_], by rw [a2_, b2_], fun _ => rfl⟩
theorem sp_d0.fn {e e2 a th a2 th2 : Int} {T T' T2 : sp_T} (h1 : sp_d0 e e2 T a th T') (h2 : sp_d0 e e2 T a2 th2 T2) : sp_al a th T' a2 th2 T2 := by
  rcases h1 with ⟨x1_, h1⟩ | ⟨x1_, h1⟩
  · rcases h2 with ⟨x2_, h2⟩ | ⟨x2_, -⟩
    · exact ⟨by rw [h1.1, h2.1], by rw [h1.2.2, h2.2.2], fun _ => by rw [h1.2.1, h2.2.1]⟩
    · exact absurd x1_ x2_
  · rcases h2 with ⟨x2_, -⟩ | ⟨x2_, h2⟩
    · exact absurd x2_ x1_
    · exact sp_al.re (by decide) h1 h2
theorem sp_d1.fn {e e2 a th a2 th2 : Int} {T T' T2 : sp_T} (h1 : sp_d1 e e2 T a th T') (h2 : sp_d1 e e2 T a2 th2 T2) : sp_al a th T' a2 th2 T2 := by
  rcases h1 with ⟨x1_, h1⟩ | ⟨x1_, h1⟩
  · rcases h2 with ⟨x2_, h2⟩ | ⟨x2_, -⟩
    · exact sp_num.fn (by decide) h1 h2
    · exact absurd x1_ x2_
  · rcases h2 with ⟨x2_, -⟩ | ⟨x2_, h2⟩
    · exact absurd x2_ x1_
    · exact sp_al.re (by decide) h1 h2
theorem sp_d2.fn {e e2 a th a2 th2 : Int} {T T' T2 : sp_T} (h1 : sp_d2 e e2 T a th T') (h2 : sp_d2 e e2 T a2 th2 T2) : sp_al a th T' a2 th2 T2 := by
  rcases h1 with ⟨x1_, h1⟩ | ⟨x1_, h1⟩
  · rcases h2 with ⟨x2_, h2⟩ | ⟨x2_, -⟩
    · rcases h1 with ⟨y1_, h1⟩ | ⟨y1_, h1⟩
      · rcases h2 with ⟨y2_, h2⟩ | ⟨y2_, -⟩
        · exact sp_num.fn (by decide) h1 h2
        · exact absurd y1_ y2_
      · rcases h2 with ⟨y2_, -⟩ | ⟨y2_, h2⟩
        · exact absurd y2_ y1_
        · exact sp_al.re (by decide) h1 h2
    · exact absurd x1_ x2_
  · rcases h2 with ⟨x2_, -⟩ | ⟨x2_, h2⟩
    · exact absurd x2_ x1_
    · exact sp_al.re (by decide) h1 h2
theorem sp_d3.fn {e e2 a th a2 th2 : Int} {T T' T2 : sp_T} (h1 : sp_d3 e e2 T a th T') (h2 : sp_d3 e e2 T a2 th2 T2) : sp_al a th T' a2 th2 T2 := by
  rcases h1 with ⟨x1_, h1⟩ | ⟨x1_, h1⟩
  · rcases h2 with ⟨x2_, h2⟩ | ⟨x2_, -⟩
    · exact sp_num.fn (by decide) h1 h2
    · exact absurd x1_ x2_
  · rcases h2 with ⟨x2_, -⟩ | ⟨x2_, h2⟩
    · exact absurd x2_ x1_
    · exact sp_al.re (by decide) h1 h2
theorem sp_d4.fn {e e2 a th a2 th2 : Int} {T T' T2 : sp_T} (h1 : sp_d4 e e2 T a th T') (h2 : sp_d4 e e2 T a2 th2 T2) : sp_al a th T' a2 th2 T2 := by
  rcases h1 with ⟨x1_, h1⟩ | ⟨x1_, h1⟩
  · rcases h2 with ⟨x2_, h2⟩ | ⟨x2_, -⟩
    · exact sp_num.fn (by decide) h1 h2
    · exact absurd x1_ x2_
  · rcases h2 with ⟨x2_, -⟩ | ⟨x2_, h2⟩
    · exact absurd x2_ x1_
    · exact sp_al.re (by decide) h1 h2
theorem sp_d5.fn {e e2 a th a2 th2 : Int} {T T' T2 : sp_T} (h1 : sp_d5 e e2 T a th T') (h2 : sp_d5 e e2 T a2 th2 T2) : sp_al a th T' a2 th2 T2 := by
  rcases h1 with ⟨x1_, h1⟩ | ⟨x1_, h1⟩
  · rcases h2 with ⟨x2_, h2⟩ | ⟨x2_, -⟩
    · exact ⟨by rw [h1.1, h2.1], by rw [h1.2.2, h2.2.2], fun _ => by rw [h1.2.1, h2.2.1]⟩
    · exact absurd x1_ x2_
  · rcases h2 with ⟨x2_, -⟩ | ⟨x2_, h2⟩
    · exact absurd x2_ x1_
    · exact sp_al.re (by decide) h1 h2
theorem sp_d6.fn {e e2 a th a2 th2 : Int} {T T' T2 : sp_T} (h1 : sp_d6 e e2 T a th T') (h2 : sp_d6 e e2 T a2 th2 T2) : sp_al a th T' a2 th2 T2 := by
  rcases h1 with ⟨x1_, h1⟩ | ⟨x1_, h1⟩
  · rcases h2 with ⟨x2_, h2⟩ | ⟨x2_, -⟩
    · exact sp_rnd.fn (fun v w y1 y2 => y1.trans y2.symm) h1 h2
    · exact absurd x1_ x2_
  · rcases h2 with ⟨x2_, -⟩ | ⟨x2_, h2⟩
    · exact absurd x2_ x1_
    · exact sp_al.re (by decide) h1 h2
theorem sp_d7.fn {e e2 a th a2 th2 : Int} {T T' T2 : sp_T} (h1 : sp_d7 e e2 T a th T') (h2 : sp_d7 e e2 T a2 th2 T2) : sp_al a th T' a2 th2 T2 := by
  rcases h1 with ⟨x1_, h1⟩ | ⟨x1_, h1⟩
  · rcases h2 with ⟨x2_, h2⟩ | ⟨x2_, -⟩
    · exact sp_rnd.fn (fun v w y1 y2 => y1.trans y2.symm) h1 h2
    · exact absurd x1_ x2_
  · rcases h2 with ⟨x2_, -⟩ | ⟨x2_, h2⟩
    · exact absurd x2_ x1_
    · exact sp_al.re (by decide) h1 h2
theorem sp_d8.fn {e e2 a th a2 th2 : Int} {T T' T2 : sp_T} (h1 : sp_d8 e e2 T a th T') (h2 : sp_d8 e e2 T a2 th2 T2) : sp_al a th T' a2 th2 T2 := by
  rcases h1 with ⟨x1_, h1⟩ | ⟨x1_, h1⟩
  · rcases h2 with ⟨x2_, h2⟩ | ⟨x2_, -⟩
    · exact sp_rnd.fn (fun v w y1 y2 => y1.trans y2.symm) h1 h2
    · exact absurd x1_ x2_
  · rcases h2 with ⟨x2_, -⟩ | ⟨x2_, h2⟩
    · exact absurd x2_ x1_
    · exact sp_al.re (by decide) h1 h2
theorem sp_d9.fn {e e2 a th a2 th2 : Int} {T T' T2 : sp_T} (h1 : sp_d9 e e2 T a th T') (h2 : sp_d9 e e2 T a2 th2 T2) : sp_al a th T' a2 th2 T2 := by
  rcases h1 with ⟨x1_, h1⟩ | ⟨x1_, h1⟩
  · rcases h2 with ⟨x2_, h2⟩ | ⟨x2_, -⟩
    · exact sp_rnd.fn (fun v w y1 y2 => zc_pw.fn y1 y2) h1 h2
    · exact absurd x1_ x2_
  · rcases h2 with ⟨x2_, -⟩ | ⟨x2_, h2⟩
    · exact absurd x2_ x1_
    · exact sp_al.re (by decide) h1 h2
theorem sp_d10.fn {e e2 a th a2 th2 : Int} {T T' T2 : sp_T} (h1 : sp_d10 e e2 T a th T') (h2 : sp_d10 e e2 T a2 th2 T2) : sp_al a th T' a2 th2 T2 := by
  rcases h1 with ⟨x1_, h1⟩ | ⟨x1_, h1⟩
  · rcases h2 with ⟨x2_, h2⟩ | ⟨x2_, -⟩
    · exact sp_rnd.fn (fun v w y1 y2 => sm_inv.fn y1 y2) h1 h2
    · exact absurd x1_ x2_
  · rcases h2 with ⟨x2_, -⟩ | ⟨x2_, h2⟩
    · exact absurd x2_ x1_
    · exact sp_al.re (by decide) h1 h2
theorem sp_d11.fn {e e2 a th a2 th2 : Int} {T T' T2 : sp_T} (h1 : sp_d11 e e2 T a th T') (h2 : sp_d11 e e2 T a2 th2 T2) : sp_al a th T' a2 th2 T2 := by
  rcases h1 with ⟨x1_, h1⟩ | ⟨x1_, h1⟩
  · rcases h2 with ⟨x2_, h2⟩ | ⟨x2_, -⟩
    · rcases h1 with ⟨y1_, h1⟩ | ⟨y1_, h1⟩
      · rcases h2 with ⟨y2_, h2⟩ | ⟨y2_, -⟩
        · exact ⟨by rw [h1.1, h2.1], by rw [h1.2.2, h2.2.2], fun _ => by rw [h1.2.1, h2.2.1]⟩
        · exact absurd y1_ y2_
      · rcases h2 with ⟨y2_, -⟩ | ⟨y2_, h2⟩
        · exact absurd y2_ y1_
        · exact sp_al.re (by decide) h1 h2
    · exact absurd x1_ x2_
  · rcases h2 with ⟨x2_, -⟩ | ⟨x2_, h2⟩
    · exact absurd x2_ x1_
    · exact sp_al.re (by decide) h1 h2
theorem sp_d12.fn {e e2 a th a2 th2 : Int} {T T' T2 : sp_T} (h1 : sp_d12 e e2 T a th T') (h2 : sp_d12 e e2 T a2 th2 T2) : sp_al a th T' a2 th2 T2 := by
  rcases h1 with ⟨x1_, h1⟩ | ⟨x1_, h1⟩
  · rcases h2 with ⟨x2_, h2⟩ | ⟨x2_, -⟩
    · rcases h1 with ⟨y1_, h1⟩ | ⟨y1_, h1⟩
      · rcases h2 with ⟨y2_, h2⟩ | ⟨y2_, -⟩
        · obtain ⟨t1_, h1⟩ := h1
          obtain ⟨t2_, h2⟩ := h2
          rcases h1 with ⟨z1_, h1⟩ | ⟨z1_, h1⟩
          · rcases h2 with ⟨z2_, h2⟩ | ⟨z2_, -⟩
            · exact ⟨by rw [t1_, t2_], by rw [h1.2, h2.2], fun _ => by rw [h1.1, h2.1]⟩
            · exact absurd z1_ z2_
          · rcases h2 with ⟨z2_, -⟩ | ⟨z2_, h2⟩
            · exact absurd z2_ z1_
            · exact ⟨by rw [t1_, t2_], by rw [h1.2, h2.2], fun _ => by rw [h1.1, h2.1]⟩
        · exact absurd y1_ y2_
      · rcases h2 with ⟨y2_, -⟩ | ⟨y2_, h2⟩
        · exact absurd y2_ y1_
        · exact sp_al.re (by decide) h1 h2
    · exact absurd x1_ x2_
  · rcases h2 with ⟨x2_, -⟩ | ⟨x2_, h2⟩
    · exact absurd x2_ x1_
    · exact sp_al.re (by decide) h1 h2
theorem sp_d13.fn {e e2 a th a2 th2 : Int} {T T' T2 : sp_T} (h1 : sp_d13 e e2 T a th T') (h2 : sp_d13 e e2 T a2 th2 T2) : sp_al a th T' a2 th2 T2 := by
  rcases h1 with ⟨x1_, h1⟩ | ⟨x1_, h1⟩
  · rcases h2 with ⟨x2_, h2⟩ | ⟨x2_, -⟩
    · exact ⟨by rw [h1.1, h2.1], by rw [h1.2.2, h2.2.2], fun _ => by rw [h1.2.1, h2.2.1]⟩
    · exact absurd x1_ x2_
  · rcases h2 with ⟨x2_, -⟩ | ⟨x2_, h2⟩
    · exact absurd x2_ x1_
    · exact sp_al.re (by decide) h1 h2
theorem sp_d14.fn {e e2 a th a2 th2 : Int} {T T' T2 : sp_T} (h1 : sp_d14 e e2 T a th T') (h2 : sp_d14 e e2 T a2 th2 T2) : sp_al a th T' a2 th2 T2 := by
  rcases h1 with ⟨x1_, h1⟩ | ⟨x1_, h1⟩
  · rcases h2 with ⟨x2_, h2⟩ | ⟨x2_, -⟩
    · rcases h1 with ⟨y1_, h1⟩ | ⟨y1_, h1⟩
      · rcases h2 with ⟨y2_, h2⟩ | ⟨y2_, -⟩
        · exact ⟨by rw [h1.1, h2.1], by rw [h1.2.2, h2.2.2], fun _ => by rw [h1.2.1, h2.2.1]⟩
        · exact absurd y1_ y2_
      · rcases h2 with ⟨y2_, -⟩ | ⟨y2_, h2⟩
        · exact absurd y2_ y1_
        · exact sp_al.re (by decide) h1 h2
    · exact absurd x1_ x2_
  · rcases h2 with ⟨x2_, -⟩ | ⟨x2_, h2⟩
    · exact absurd x2_ x1_
    · exact sp_al.re (by decide) h1 h2
theorem sp_d15.fn {e e2 a th a2 th2 : Int} {T T' T2 : sp_T} (h1 : sp_d15 e e2 T a th T') (h2 : sp_d15 e e2 T a2 th2 T2) : sp_al a th T' a2 th2 T2 := by
  rcases h1 with ⟨A_, b_, x1_, h1⟩ | ⟨x1_, h1⟩
  · rcases h2 with ⟨A2_, b2_, x2_, h2⟩ | ⟨x2_, -⟩
    · have e_ := x1_.symm.trans x2_
      have e1_ := List.append_inj_left' e_ rfl
      have e2_ := List.append_inj_right' e_ rfl
      cases e1_
      cases e2_
      exact ⟨by rw [h1.1, h2.1], by rw [h1.2.2, h2.2.2], fun _ => by rw [h1.2.1, h2.2.1]⟩
    · rw [x1_] at x2_
      exact absurd x2_ (by simp)
  · rcases h2 with ⟨A2_, b2_, x2_, -⟩ | ⟨x2_, h2⟩
    · rw [x1_] at x2_
      exact absurd x2_.symm (by simp)
    · exact sp_al.re (by decide) h1 h2
theorem sp_d16.fn {e e2 a th a2 th2 : Int} {T T' T2 : sp_T} (h1 : sp_d16 e e2 T a th T') (h2 : sp_d16 e e2 T a2 th2 T2) : sp_al a th T' a2 th2 T2 := by
  rcases h1 with ⟨A_, b_, x1_, h1⟩ | ⟨x1_, h1⟩
  · rcases h2 with ⟨A2_, b2_, x2_, h2⟩ | ⟨x2_, -⟩
    · have e_ := x1_.symm.trans x2_
      have e1_ := List.append_inj_left' e_ rfl
      have e2_ := List.append_inj_right' e_ rfl
      cases e1_
      cases e2_
      exact ⟨by rw [h1.1, h2.1], by rw [h1.2.2, h2.2.2], fun _ => by rw [h1.2.1, h2.2.1]⟩
    · rw [x1_] at x2_
      exact absurd x2_ (by simp)
  · rcases h2 with ⟨A2_, b2_, x2_, -⟩ | ⟨x2_, h2⟩
    · rw [x1_] at x2_
      exact absurd x2_.symm (by simp)
    · exact sp_al.re (by decide) h1 h2
theorem sp_d17.fn {e e2 a th a2 th2 : Int} {T T' T2 : sp_T} (h1 : sp_d17 e e2 T a th T') (h2 : sp_d17 e e2 T a2 th2 T2) : sp_al a th T' a2 th2 T2 := by
  exact ⟨by rw [h1.1, h2.1], by rw [h1.2.2, h2.2.2], fun _ => by rw [h1.2.1, h2.2.1]⟩
end
section
/-! THE CALLS OF THE REFERENCE, TO BE WALKED BY HAND -/
def gt_yX14_dial_X : ck_TB := ([], [], [], [(18, 19, 1), (65, 18, 0)], [(65, 18, 0, 0)], [], [], [], ([(59, 1), (62, 2)], [], [(39, 0)], []), [], [], [], 0)
def ge_yX14_dial_X : ck_E := (gT, [], (([], [], [], 0, []), ((0, []), (0, [])), [], [], ([], [], [], 0, []), []), 3, [(0, (0, 5, 0, 0, 1, 0, [])), (1, (0, 3, 1, 0, 2, 0, [])), (2, (0, 0, 0, (-9), 4, 0, [])), (4, (0, 0, 0, 400, 7, 0, [])), (7, (16, 0, 0, 0, 10, 0, [])), (10, (1, 1, 0, 0, 13, 17, [])), (13, (0, 0, 0, 1, 14, 0, [])), (14, (3, 0, 0, 0, 0, 18, [])), (17, (0, 0, 0, 0, 18, 0, [])), (18, (0, 0, 0, 1, 19, 0, [])), (19, (16, 1, 0, 0, 22, 0, [])), (22, (1, 0, 0, 0, 25, 27, [])), (25, (0, 0, 0, 0, 26, 0, [])), (26, (14, 0, 0, 0, 0, 0, [])), (27, (0, 5, 0, 0, 28, 0, [])), (28, (16, 2, 0, 0, 31, 0, [])), (31, (0, 5, 0, 0, 32, 0, [])), (32, (7, 19, 1, 0, 35, 0, [])), (35, (7, 18, 0, 0, 38, 0, [])), (38, (0, 6, 2, 0, 39, 0, [])), (39, (0, 5, 0, 0, 40, 0, [])), (40, (7, 19, 1, 0, 43, 0, [])), (43, (0, 3, 1, 0, 44, 0, [])), (44, (8, 18, 0, 0, 47, 0, [])), (47, (0, 3, 2, 0, 48, 0, [])), (48, (14, 0, 0, 0, 0, 0, []))], [(none, 3, []), (some 19, 3, []), (some 19, 1, [])], [], [], [])
theorem gd_yX14_dial_X : ck_dec prog_14_method_10_code gt_yX14_dial_X ge_yX14_dial_X.2.2.2.2.1 = true := by decide +kernel
theorem gh_yX14_dial_X {l : Launch} {G : am_G} {X : ck_XT} (g : gM l G X) {a : List Value} {h : List am_C} {mc ms : Nat} {Post : am_O → List am_C → Prop} (hay : (am_lay a).length ≤ 3) (H : ∀ (S : ck_SS) (SX : Nat → ck_SX), ck_hs G S SX Post mc ms (ck_cms [am_cm l G yX14_isIn (.code yX14_isIn prog_14_method_5_code 3 (some .boolean)) 1 20, am_cm l G yX14_start (.code yX14_start prog_14_method_4_code 3 (some .boolean)) 2 42, am_cm l G yX14_keep (.code yX14_keep prog_14_method_9_code 1 none) 10 274]) ge_yX14_dial_X → (∀ pc, ck_sR G S pc) → ck_hw S → zw_hx SX Post mc ms → S 0 (am_ent a 3) [] h 0 0) : am_M l G yX14_dial (.code yX14_dial prog_14_method_10_code 3 (some .int)) 11 294 mc ms a h Post :=
  zw_handX (E := ge_yX14_dial_X) (tb := gt_yX14_dial_X) (init := false) (cm := (ck_cms [am_cm l G yX14_isIn (.code yX14_isIn prog_14_method_5_code 3 (some .boolean)) 1 20, am_cm l G yX14_start (.code yX14_start prog_14_method_4_code 3 (some .boolean)) 2 42, am_cm l G yX14_keep (.code yX14_keep prog_14_method_9_code 1 none) 10 274])) g.1.1 (by decide +kernel) rfl gd_yX14_dial_X ⟨(List.forall_mem_nil _), (List.forall_mem_nil _), (List.forall_mem_nil _), (List.forall_mem_cons.mpr ⟨⟨⟨_, _, _, rfl, Or.inl w1718⟩, by decide, _, _, g_fd19_1⟩, (List.forall_mem_cons.mpr ⟨⟨⟨_, _, _, rfl, Or.inl w1699⟩, by decide, _, _, g_fd18_0⟩, (List.forall_mem_nil _)⟩)⟩), (List.forall_mem_nil _), (List.forall_mem_nil _), (List.forall_mem_nil _), (List.forall_mem_nil _)⟩ (List.forall_mem_cons.mpr ⟨⟨⟨_, _, _, rfl, Or.inl w1699⟩, by decide, _, rfl, Or.inl g_fd18_0⟩, (List.forall_mem_nil _)⟩) (fun h => nomatch h) ⟨_, rfl, rfl⟩ (by decide) (by decide) g_oi g_ar
    (fun s hk _ => (List.forall_mem_nil _)) (fun s hk => (List.forall_mem_nil _))
    (List.forall_mem_cons.mpr ⟨(ck_kV g_y_yX14_start w1747 w1749 w31 (T := TX14) (N := 6) rfl (by decide) (by decide) (by decide)), (List.forall_mem_cons.mpr ⟨(ck_kV g_y_yX14_keep w1755 w1757 w33 (T := TX14) (N := 6) rfl (by decide) (by decide) (by decide)), (List.forall_mem_nil _)⟩)⟩) (List.forall_mem_nil _) (List.forall_mem_cons.mpr ⟨(ck_kS g_y_yX14_isIn w1744 w1745 (by decide) (by decide)), (List.forall_mem_nil _)⟩) (List.forall_mem_nil _)
    (List.forall_mem_nil _) hay H
def gt_yX14_set_X : ck_TB := ([], [], [], [], [], [], [], [], ([(59, 1), (79, 3)], [], [(11, 2), (75, 0)], []), [], [], [], 0)
def ge_yX14_set_X : ck_E := (gT, [], (([], [], [], 0, []), ((0, []), (0, [])), [], [], ([], [], [], 0, []), []), 3, [(0, (0, 5, 0, 0, 1, 0, [])), (1, (0, 3, 1, 0, 2, 0, [])), (2, (16, 0, 0, 0, 5, 0, [])), (5, (0, 0, 0, 1, 6, 0, [])), (6, (16, 1, 0, 0, 9, 0, [])), (9, (1, 0, 0, 0, 12, 16, [])), (12, (0, 0, 0, 0, 13, 0, [])), (13, (3, 0, 0, 0, 0, 26, [])), (16, (0, 5, 0, 0, 17, 0, [])), (17, (0, 3, 1, 0, 18, 0, [])), (18, (0, 3, 2, 0, 19, 0, [])), (19, (0, 19, 0, 0, 20, 0, [])), (20, (16, 2, 0, 0, 23, 0, [])), (23, (16, 3, 0, 0, 26, 0, [])), (26, (14, 0, 0, 0, 0, 0, []))], [(none, 1, []), (some 19, 3, []), (none, 1, []), (some 19, 3, [])], [], [], [])
theorem gd_yX14_set_X : ck_dec prog_14_method_12_code gt_yX14_set_X ge_yX14_set_X.2.2.2.2.1 = true := by decide +kernel
theorem gh_yX14_set_X {l : Launch} {G : am_G} {X : ck_XT} (g : gM l G X) {a : List Value} {h : List am_C} {mc ms : Nat} {Post : am_O → List am_C → Prop} (hay : (am_lay a).length ≤ 3) (H : ∀ (S : ck_SS) (SX : Nat → ck_SX), ck_hs G S SX Post mc ms (ck_cms [am_cm l G yX14_isNoSlot (.code yX14_isNoSlot prog_14_method_6_code 1 (some .boolean)) 2 42, am_cm l G yX14_start (.code yX14_start prog_14_method_4_code 3 (some .boolean)) 2 42, am_cm l G yX12_of (.code yX12_of prog_15_method_2_code 6 (some (.object "ClockhouseModel$Num"))) 2 44, am_cm l G yX14_put (.code yX14_put prog_14_method_11_code 3 (some .int)) 11 294]) ge_yX14_set_X → (∀ pc, ck_sR G S pc) → ck_hw S → zw_hx SX Post mc ms → S 0 (am_ent a 3) [] h 0 0) : am_M l G yX14_set (.code yX14_set prog_14_method_12_code 3 (some .int)) 12 316 mc ms a h Post :=
  zw_handX (E := ge_yX14_set_X) (tb := gt_yX14_set_X) (init := false) (cm := (ck_cms [am_cm l G yX14_isNoSlot (.code yX14_isNoSlot prog_14_method_6_code 1 (some .boolean)) 2 42, am_cm l G yX14_start (.code yX14_start prog_14_method_4_code 3 (some .boolean)) 2 42, am_cm l G yX12_of (.code yX12_of prog_15_method_2_code 6 (some (.object "ClockhouseModel$Num"))) 2 44, am_cm l G yX14_put (.code yX14_put prog_14_method_11_code 3 (some .int)) 11 294])) g.1.1 (by decide +kernel) rfl gd_yX14_set_X ⟨(List.forall_mem_nil _), (List.forall_mem_nil _), (List.forall_mem_nil _), (List.forall_mem_nil _), (List.forall_mem_nil _), (List.forall_mem_nil _), (List.forall_mem_nil _), (List.forall_mem_nil _)⟩ (List.forall_mem_nil _) (fun h => nomatch h) ⟨_, rfl, rfl⟩ (by decide) (by decide) g_oi g_ar
    (fun s hk _ => (List.forall_mem_nil _)) (fun s hk => (List.forall_mem_nil _))
    (List.forall_mem_cons.mpr ⟨(ck_kV g_y_yX14_start w1747 w1749 w31 (T := TX14) (N := 6) rfl (by decide) (by decide) (by decide)), (List.forall_mem_cons.mpr ⟨(ck_kV g_y_yX14_put w1922 w1924 w38 (T := TX14) (N := 6) rfl (by decide) (by decide) (by decide)), (List.forall_mem_nil _)⟩)⟩) (List.forall_mem_nil _) (List.forall_mem_cons.mpr ⟨(ck_kS g_y_yX12_of w1646 w1647 (by decide) (by decide)), (List.forall_mem_cons.mpr ⟨(ck_kS g_y_yX14_isNoSlot w1919 w1920 (by decide) (by decide)), (List.forall_mem_nil _)⟩)⟩) (List.forall_mem_nil _)
    (List.forall_mem_nil _) hay H
def gt_yX14_lengthen_X : ck_TB := ([(83, 999999999)], [(84, 1000000000)], [], [(18, 19, 1), (68, 18, 1)], [], [], [], [], ([(35, 3), (59, 1), (72, 7), (79, 8), (86, 5), (90, 6)], [], [(11, 4), (39, 2), (75, 0)], []), [], [], [], 0)
def ge_yX14_lengthen_X : ck_E := (gT, [], (([], [], [], 0, []), ((0, []), (0, [])), [], [], ([], [], [], 0, []), []), 4, [(0, (0, 5, 0, 0, 1, 0, [])), (1, (0, 3, 1, 0, 2, 0, [])), (2, (16, 0, 0, 0, 5, 0, [])), (5, (0, 0, 0, 1, 6, 0, [])), (6, (16, 1, 0, 0, 9, 0, [])), (9, (1, 1, 0, 0, 12, 35, [])), (12, (0, 5, 0, 0, 13, 0, [])), (13, (0, 3, 2, 0, 14, 0, [])), (14, (0, 0, 0, 0, 15, 0, [])), (15, (0, 0, 0, 999999999, 17, 0, [])), (17, (16, 2, 0, 0, 20, 0, [])), (20, (1, 1, 0, 0, 23, 27, [])), (23, (0, 0, 0, 1, 24, 0, [])), (24, (3, 0, 0, 0, 0, 28, [])), (27, (0, 0, 0, 0, 28, 0, [])), (28, (0, 0, 0, 2, 29, 0, [])), (29, (16, 3, 0, 0, 32, 0, [])), (32, (1, 0, 0, 0, 35, 37, [])), (35, (0, 0, 0, 0, 36, 0, [])), (36, (14, 0, 0, 0, 0, 0, [])), (37, (0, 5, 0, 0, 38, 0, [])), (38, (7, 19, 1, 0, 41, 0, [])), (41, (7, 18, 1, 0, 44, 0, [])), (44, (0, 3, 1, 0, 45, 0, [])), (45, (12, 53, 58, 0, 46, 0, [])), (46, (0, 1, 0, 1000000000, 49, 0, [])), (49, (16, 4, 0, 0, 52, 0, [])), (52, (16, 5, 0, 0, 55, 0, [])), (55, (0, 3, 2, 0, 56, 0, [])), (56, (0, 19, 0, 0, 57, 0, [])), (57, (16, 4, 0, 0, 60, 0, [])), (60, (16, 6, 0, 0, 63, 0, [])), (63, (0, 8, 3, 0, 64, 0, [])), (64, (0, 5, 0, 0, 65, 0, [])), (65, (0, 5, 3, 0, 66, 0, [])), (66, (16, 7, 0, 0, 69, 0, [])), (69, (0, 0, 0, 36, 71, 0, [])), (71, (2, 5, 0, 0, 74, 78, [])), (74, (0, 0, 0, 1, 75, 0, [])), (75, (3, 0, 0, 0, 0, 79, [])), (78, (0, 0, 0, 0, 79, 0, [])), (79, (0, 0, 0, 3, 80, 0, [])), (80, (16, 3, 0, 0, 83, 0, [])), (83, (1, 0, 0, 0, 86, 90, [])), (86, (0, 0, 0, 0, 87, 0, [])), (87, (3, 0, 0, 0, 0, 96, [])), (90, (0, 5, 0, 0, 91, 0, [])), (91, (0, 3, 1, 0, 92, 0, [])), (92, (0, 5, 3, 0, 93, 0, [])), (93, (16, 8, 0, 0, 96, 0, [])), (96, (14, 0, 0, 0, 0, 0, []))], [(none, 1, []), (some 19, 3, []), (none, 3, []), (some 19, 3, []), (none, 1, []), (some 17, 2, []), (some 17, 2, []), (some 17, 1, []), (some 19, 3, [])], [], [], [])
theorem gd_yX14_lengthen_X : ck_dec prog_14_method_13_code gt_yX14_lengthen_X ge_yX14_lengthen_X.2.2.2.2.1 = true := by decide +kernel
theorem gh_yX14_lengthen_X {l : Launch} {G : am_G} {X : ck_XT} (g : gM l G X) {a : List Value} {h : List am_C} {mc ms : Nat} {Post : am_O → List am_C → Prop} (hay : (am_lay a).length ≤ 4) (H : ∀ (S : ck_SS) (SX : Nat → ck_SX), ck_hs G S SX Post mc ms (ck_cms [am_cm l G yX14_isNoSlot (.code yX14_isNoSlot prog_14_method_6_code 1 (some .boolean)) 2 42, am_cm l G yX14_start (.code yX14_start prog_14_method_4_code 3 (some .boolean)) 2 42, am_cm l G yX14_isIn (.code yX14_isIn prog_14_method_5_code 3 (some .boolean)) 1 20, am_cm l G yX14_refuse (.code yX14_refuse prog_14_method_3_code 3 (some .boolean)) 1 20, am_cm l G yX12_of (.code yX12_of prog_15_method_2_code 6 (some (.object "ClockhouseModel$Num"))) 2 44, am_cm l G yX12_times (.code yX12_times prog_15_method_11_code 7 (some (.object "ClockhouseModel$Num"))) 2 44, am_cm l G yX12_plus (.code yX12_plus prog_15_method_10_code 2 (some (.object "ClockhouseModel$Num"))) 3 67, am_cm l G yX12_many (.code yX12_many prog_15_method_5_code 1 (some .int)) 2 40, am_cm l G yX14_put (.code yX14_put prog_14_method_11_code 3 (some .int)) 11 294]) ge_yX14_lengthen_X → (∀ pc, ck_sR G S pc) → ck_hw S → zw_hx SX Post mc ms → S 0 (am_ent a 4) [] h 0 0) : am_M l G yX14_lengthen (.code yX14_lengthen prog_14_method_13_code 4 (some .int)) 12 316 mc ms a h Post :=
  zw_handX (E := ge_yX14_lengthen_X) (tb := gt_yX14_lengthen_X) (init := false) (cm := (ck_cms [am_cm l G yX14_isNoSlot (.code yX14_isNoSlot prog_14_method_6_code 1 (some .boolean)) 2 42, am_cm l G yX14_start (.code yX14_start prog_14_method_4_code 3 (some .boolean)) 2 42, am_cm l G yX14_isIn (.code yX14_isIn prog_14_method_5_code 3 (some .boolean)) 1 20, am_cm l G yX14_refuse (.code yX14_refuse prog_14_method_3_code 3 (some .boolean)) 1 20, am_cm l G yX12_of (.code yX12_of prog_15_method_2_code 6 (some (.object "ClockhouseModel$Num"))) 2 44, am_cm l G yX12_times (.code yX12_times prog_15_method_11_code 7 (some (.object "ClockhouseModel$Num"))) 2 44, am_cm l G yX12_plus (.code yX12_plus prog_15_method_10_code 2 (some (.object "ClockhouseModel$Num"))) 3 67, am_cm l G yX12_many (.code yX12_many prog_15_method_5_code 1 (some .int)) 2 40, am_cm l G yX14_put (.code yX14_put prog_14_method_11_code 3 (some .int)) 11 294])) g.1.1 (by decide +kernel) rfl gd_yX14_lengthen_X ⟨(List.forall_mem_cons.mpr ⟨ck_cst (by decide +kernel) w1938, (List.forall_mem_nil _)⟩), (List.forall_mem_cons.mpr ⟨ck_csl (by decide +kernel) w1939, (List.forall_mem_nil _)⟩), (List.forall_mem_nil _), (List.forall_mem_cons.mpr ⟨⟨⟨_, _, _, rfl, Or.inl w1718⟩, by decide, _, _, g_fd19_1⟩, (List.forall_mem_cons.mpr ⟨⟨⟨_, _, _, rfl, Or.inl w1701⟩, by decide, _, _, g_fd18_1⟩, (List.forall_mem_nil _)⟩)⟩), (List.forall_mem_nil _), (List.forall_mem_nil _), (List.forall_mem_nil _), (List.forall_mem_nil _)⟩ (List.forall_mem_nil _) (fun h => nomatch h) ⟨_, rfl, rfl⟩ (by decide) (by decide) g_oi g_ar
    (fun s hk _ => (List.forall_mem_nil _)) (fun s hk => (List.forall_mem_nil _))
    (List.forall_mem_cons.mpr ⟨(ck_kV g_y_yX14_refuse w1751 w1753 w32 (T := TX14) (N := 6) rfl (by decide) (by decide) (by decide)), (List.forall_mem_cons.mpr ⟨(ck_kV g_y_yX14_start w1747 w1749 w31 (T := TX14) (N := 6) rfl (by decide) (by decide) (by decide)), (List.forall_mem_cons.mpr ⟨(ck_kV g_y_yX12_many w1926 w1927 w1928 (T := TX12) (N := 2) rfl (by decide) (by decide) (by decide)), (List.forall_mem_cons.mpr ⟨(ck_kV g_y_yX14_put w1922 w1924 w38 (T := TX14) (N := 6) rfl (by decide) (by decide) (by decide)), (List.forall_mem_cons.mpr ⟨(ck_kV g_y_yX12_times w1940 w1941 w1942 (T := TX12) (N := 2) rfl (by decide) (by decide) (by decide)), (List.forall_mem_cons.mpr ⟨(ck_kV g_y_yX12_plus w1944 w1945 w1946 (T := TX12) (N := 2) rfl (by decide) (by decide) (by decide)), (List.forall_mem_nil _)⟩)⟩)⟩)⟩)⟩)⟩) (List.forall_mem_nil _) (List.forall_mem_cons.mpr ⟨(ck_kS g_y_yX12_of w1646 w1647 (by decide) (by decide)), (List.forall_mem_cons.mpr ⟨(ck_kS g_y_yX14_isIn w1744 w1745 (by decide) (by decide)), (List.forall_mem_cons.mpr ⟨(ck_kS g_y_yX14_isNoSlot w1919 w1920 (by decide) (by decide)), (List.forall_mem_nil _)⟩)⟩)⟩) (List.forall_mem_nil _)
    (List.forall_mem_nil _) hay H
def gt_yX14_plus_X : ck_TB := ([], [], [], [(18, 19, 1), (68, 18, 1)], [], [], [], [], ([(35, 4), (59, 1), (72, 3), (79, 5), (90, 2)], [], [(75, 0)], []), [], [], [], 0)
def ge_yX14_plus_X : ck_E := (gT, [], (([], [], [], 0, []), ((0, []), (0, [])), [], [], ([], [], [], 0, []), []), 4, [(0, (0, 5, 0, 0, 1, 0, [])), (1, (0, 3, 1, 0, 2, 0, [])), (2, (16, 0, 0, 0, 5, 0, [])), (5, (1, 1, 0, 0, 8, 15, [])), (8, (0, 3, 2, 0, 9, 0, [])), (9, (16, 0, 0, 0, 12, 0, [])), (12, (1, 0, 0, 0, 15, 19, [])), (15, (0, 0, 0, 1, 16, 0, [])), (16, (3, 0, 0, 0, 0, 20, [])), (19, (0, 0, 0, 0, 20, 0, [])), (20, (0, 0, 0, 1, 21, 0, [])), (21, (16, 1, 0, 0, 24, 0, [])), (24, (1, 0, 0, 0, 27, 29, [])), (27, (0, 0, 0, 0, 28, 0, [])), (28, (14, 0, 0, 0, 0, 0, [])), (29, (0, 5, 0, 0, 30, 0, [])), (30, (7, 19, 1, 0, 33, 0, [])), (33, (7, 18, 1, 0, 36, 0, [])), (36, (0, 3, 1, 0, 37, 0, [])), (37, (12, 53, 58, 0, 38, 0, [])), (38, (0, 5, 0, 0, 39, 0, [])), (39, (7, 19, 1, 0, 42, 0, [])), (42, (7, 18, 1, 0, 45, 0, [])), (45, (0, 3, 2, 0, 46, 0, [])), (46, (12, 53, 58, 0, 47, 0, [])), (47, (16, 2, 0, 0, 50, 0, [])), (50, (0, 8, 3, 0, 51, 0, [])), (51, (0, 5, 0, 0, 52, 0, [])), (52, (0, 5, 3, 0, 53, 0, [])), (53, (16, 3, 0, 0, 56, 0, [])), (56, (0, 0, 0, 36, 58, 0, [])), (58, (2, 5, 0, 0, 61, 65, [])), (61, (0, 0, 0, 1, 62, 0, [])), (62, (3, 0, 0, 0, 0, 66, [])), (65, (0, 0, 0, 0, 66, 0, [])), (66, (0, 0, 0, 2, 67, 0, [])), (67, (16, 4, 0, 0, 70, 0, [])), (70, (1, 0, 0, 0, 73, 77, [])), (73, (0, 0, 0, 0, 74, 0, [])), (74, (3, 0, 0, 0, 0, 83, [])), (77, (0, 5, 0, 0, 78, 0, [])), (78, (0, 3, 1, 0, 79, 0, [])), (79, (0, 5, 3, 0, 80, 0, [])), (80, (16, 5, 0, 0, 83, 0, [])), (83, (14, 0, 0, 0, 0, 0, []))], [(none, 1, []), (some 19, 3, []), (some 17, 2, []), (some 17, 1, []), (some 19, 3, []), (some 19, 3, [])], [], [], [])
theorem gd_yX14_plus_X : ck_dec prog_14_method_14_code gt_yX14_plus_X ge_yX14_plus_X.2.2.2.2.1 = true := by decide +kernel
theorem gh_yX14_plus_X {l : Launch} {G : am_G} {X : ck_XT} (g : gM l G X) {a : List Value} {h : List am_C} {mc ms : Nat} {Post : am_O → List am_C → Prop} (hay : (am_lay a).length ≤ 4) (H : ∀ (S : ck_SS) (SX : Nat → ck_SX), ck_hs G S SX Post mc ms (ck_cms [am_cm l G yX14_isNoSlot (.code yX14_isNoSlot prog_14_method_6_code 1 (some .boolean)) 2 42, am_cm l G yX14_start (.code yX14_start prog_14_method_4_code 3 (some .boolean)) 2 42, am_cm l G yX12_plus (.code yX12_plus prog_15_method_10_code 2 (some (.object "ClockhouseModel$Num"))) 3 67, am_cm l G yX12_many (.code yX12_many prog_15_method_5_code 1 (some .int)) 2 40, am_cm l G yX14_refuse (.code yX14_refuse prog_14_method_3_code 3 (some .boolean)) 1 20, am_cm l G yX14_put (.code yX14_put prog_14_method_11_code 3 (some .int)) 11 294]) ge_yX14_plus_X → (∀ pc, ck_sR G S pc) → ck_hw S → zw_hx SX Post mc ms → S 0 (am_ent a 4) [] h 0 0) : am_M l G yX14_plus (.code yX14_plus prog_14_method_14_code 4 (some .int)) 12 316 mc ms a h Post :=
  zw_handX (E := ge_yX14_plus_X) (tb := gt_yX14_plus_X) (init := false) (cm := (ck_cms [am_cm l G yX14_isNoSlot (.code yX14_isNoSlot prog_14_method_6_code 1 (some .boolean)) 2 42, am_cm l G yX14_start (.code yX14_start prog_14_method_4_code 3 (some .boolean)) 2 42, am_cm l G yX12_plus (.code yX12_plus prog_15_method_10_code 2 (some (.object "ClockhouseModel$Num"))) 3 67, am_cm l G yX12_many (.code yX12_many prog_15_method_5_code 1 (some .int)) 2 40, am_cm l G yX14_refuse (.code yX14_refuse prog_14_method_3_code 3 (some .boolean)) 1 20, am_cm l G yX14_put (.code yX14_put prog_14_method_11_code 3 (some .int)) 11 294])) g.1.1 (by decide +kernel) rfl gd_yX14_plus_X ⟨(List.forall_mem_nil _), (List.forall_mem_nil _), (List.forall_mem_nil _), (List.forall_mem_cons.mpr ⟨⟨⟨_, _, _, rfl, Or.inl w1718⟩, by decide, _, _, g_fd19_1⟩, (List.forall_mem_cons.mpr ⟨⟨⟨_, _, _, rfl, Or.inl w1701⟩, by decide, _, _, g_fd18_1⟩, (List.forall_mem_nil _)⟩)⟩), (List.forall_mem_nil _), (List.forall_mem_nil _), (List.forall_mem_nil _), (List.forall_mem_nil _)⟩ (List.forall_mem_nil _) (fun h => nomatch h) ⟨_, rfl, rfl⟩ (by decide) (by decide) g_oi g_ar
    (fun s hk _ => (List.forall_mem_nil _)) (fun s hk => (List.forall_mem_nil _))
    (List.forall_mem_cons.mpr ⟨(ck_kV g_y_yX14_refuse w1751 w1753 w32 (T := TX14) (N := 6) rfl (by decide) (by decide) (by decide)), (List.forall_mem_cons.mpr ⟨(ck_kV g_y_yX14_start w1747 w1749 w31 (T := TX14) (N := 6) rfl (by decide) (by decide) (by decide)), (List.forall_mem_cons.mpr ⟨(ck_kV g_y_yX12_many w1926 w1927 w1928 (T := TX12) (N := 2) rfl (by decide) (by decide) (by decide)), (List.forall_mem_cons.mpr ⟨(ck_kV g_y_yX14_put w1922 w1924 w38 (T := TX14) (N := 6) rfl (by decide) (by decide) (by decide)), (List.forall_mem_cons.mpr ⟨(ck_kV g_y_yX12_plus w1944 w1945 w1946 (T := TX12) (N := 2) rfl (by decide) (by decide) (by decide)), (List.forall_mem_nil _)⟩)⟩)⟩)⟩)⟩) (List.forall_mem_nil _) (List.forall_mem_cons.mpr ⟨(ck_kS g_y_yX14_isNoSlot w1919 w1920 (by decide) (by decide)), (List.forall_mem_nil _)⟩) (List.forall_mem_nil _)
    (List.forall_mem_nil _) hay H
def gt_yX14_times_X : ck_TB := ([], [], [], [(18, 19, 1), (68, 18, 1)], [], [], [], [], ([(35, 4), (59, 1), (72, 3), (79, 5), (86, 2)], [], [(75, 0)], []), [], [], [], 0)
def ge_yX14_times_X : ck_E := (gT, [], (([], [], [], 0, []), ((0, []), (0, [])), [], [], ([], [], [], 0, []), []), 4, [(0, (0, 5, 0, 0, 1, 0, [])), (1, (0, 3, 1, 0, 2, 0, [])), (2, (16, 0, 0, 0, 5, 0, [])), (5, (1, 1, 0, 0, 8, 15, [])), (8, (0, 3, 2, 0, 9, 0, [])), (9, (16, 0, 0, 0, 12, 0, [])), (12, (1, 0, 0, 0, 15, 19, [])), (15, (0, 0, 0, 1, 16, 0, [])), (16, (3, 0, 0, 0, 0, 20, [])), (19, (0, 0, 0, 0, 20, 0, [])), (20, (0, 0, 0, 1, 21, 0, [])), (21, (16, 1, 0, 0, 24, 0, [])), (24, (1, 0, 0, 0, 27, 29, [])), (27, (0, 0, 0, 0, 28, 0, [])), (28, (14, 0, 0, 0, 0, 0, [])), (29, (0, 5, 0, 0, 30, 0, [])), (30, (7, 19, 1, 0, 33, 0, [])), (33, (7, 18, 1, 0, 36, 0, [])), (36, (0, 3, 1, 0, 37, 0, [])), (37, (12, 53, 58, 0, 38, 0, [])), (38, (0, 5, 0, 0, 39, 0, [])), (39, (7, 19, 1, 0, 42, 0, [])), (42, (7, 18, 1, 0, 45, 0, [])), (45, (0, 3, 2, 0, 46, 0, [])), (46, (12, 53, 58, 0, 47, 0, [])), (47, (16, 2, 0, 0, 50, 0, [])), (50, (0, 8, 3, 0, 51, 0, [])), (51, (0, 5, 0, 0, 52, 0, [])), (52, (0, 5, 3, 0, 53, 0, [])), (53, (16, 3, 0, 0, 56, 0, [])), (56, (0, 0, 0, 36, 58, 0, [])), (58, (2, 5, 0, 0, 61, 65, [])), (61, (0, 0, 0, 1, 62, 0, [])), (62, (3, 0, 0, 0, 0, 66, [])), (65, (0, 0, 0, 0, 66, 0, [])), (66, (0, 0, 0, 2, 67, 0, [])), (67, (16, 4, 0, 0, 70, 0, [])), (70, (1, 0, 0, 0, 73, 77, [])), (73, (0, 0, 0, 0, 74, 0, [])), (74, (3, 0, 0, 0, 0, 83, [])), (77, (0, 5, 0, 0, 78, 0, [])), (78, (0, 3, 1, 0, 79, 0, [])), (79, (0, 5, 3, 0, 80, 0, [])), (80, (16, 5, 0, 0, 83, 0, [])), (83, (14, 0, 0, 0, 0, 0, []))], [(none, 1, []), (some 19, 3, []), (some 17, 2, []), (some 17, 1, []), (some 19, 3, []), (some 19, 3, [])], [], [], [])
theorem gd_yX14_times_X : ck_dec prog_14_method_15_code gt_yX14_times_X ge_yX14_times_X.2.2.2.2.1 = true := by decide +kernel
theorem gh_yX14_times_X {l : Launch} {G : am_G} {X : ck_XT} (g : gM l G X) {a : List Value} {h : List am_C} {mc ms : Nat} {Post : am_O → List am_C → Prop} (hay : (am_lay a).length ≤ 4) (H : ∀ (S : ck_SS) (SX : Nat → ck_SX), ck_hs G S SX Post mc ms (ck_cms [am_cm l G yX14_isNoSlot (.code yX14_isNoSlot prog_14_method_6_code 1 (some .boolean)) 2 42, am_cm l G yX14_start (.code yX14_start prog_14_method_4_code 3 (some .boolean)) 2 42, am_cm l G yX12_times (.code yX12_times prog_15_method_11_code 7 (some (.object "ClockhouseModel$Num"))) 2 44, am_cm l G yX12_many (.code yX12_many prog_15_method_5_code 1 (some .int)) 2 40, am_cm l G yX14_refuse (.code yX14_refuse prog_14_method_3_code 3 (some .boolean)) 1 20, am_cm l G yX14_put (.code yX14_put prog_14_method_11_code 3 (some .int)) 11 294]) ge_yX14_times_X → (∀ pc, ck_sR G S pc) → ck_hw S → zw_hx SX Post mc ms → S 0 (am_ent a 4) [] h 0 0) : am_M l G yX14_times (.code yX14_times prog_14_method_15_code 4 (some .int)) 12 316 mc ms a h Post :=
  zw_handX (E := ge_yX14_times_X) (tb := gt_yX14_times_X) (init := false) (cm := (ck_cms [am_cm l G yX14_isNoSlot (.code yX14_isNoSlot prog_14_method_6_code 1 (some .boolean)) 2 42, am_cm l G yX14_start (.code yX14_start prog_14_method_4_code 3 (some .boolean)) 2 42, am_cm l G yX12_times (.code yX12_times prog_15_method_11_code 7 (some (.object "ClockhouseModel$Num"))) 2 44, am_cm l G yX12_many (.code yX12_many prog_15_method_5_code 1 (some .int)) 2 40, am_cm l G yX14_refuse (.code yX14_refuse prog_14_method_3_code 3 (some .boolean)) 1 20, am_cm l G yX14_put (.code yX14_put prog_14_method_11_code 3 (some .int)) 11 294])) g.1.1 (by decide +kernel) rfl gd_yX14_times_X ⟨(List.forall_mem_nil _), (List.forall_mem_nil _), (List.forall_mem_nil _), (List.forall_mem_cons.mpr ⟨⟨⟨_, _, _, rfl, Or.inl w1718⟩, by decide, _, _, g_fd19_1⟩, (List.forall_mem_cons.mpr ⟨⟨⟨_, _, _, rfl, Or.inl w1701⟩, by decide, _, _, g_fd18_1⟩, (List.forall_mem_nil _)⟩)⟩), (List.forall_mem_nil _), (List.forall_mem_nil _), (List.forall_mem_nil _), (List.forall_mem_nil _)⟩ (List.forall_mem_nil _) (fun h => nomatch h) ⟨_, rfl, rfl⟩ (by decide) (by decide) g_oi g_ar
    (fun s hk _ => (List.forall_mem_nil _)) (fun s hk => (List.forall_mem_nil _))
    (List.forall_mem_cons.mpr ⟨(ck_kV g_y_yX14_refuse w1751 w1753 w32 (T := TX14) (N := 6) rfl (by decide) (by decide) (by decide)), (List.forall_mem_cons.mpr ⟨(ck_kV g_y_yX14_start w1747 w1749 w31 (T := TX14) (N := 6) rfl (by decide) (by decide) (by decide)), (List.forall_mem_cons.mpr ⟨(ck_kV g_y_yX12_many w1926 w1927 w1928 (T := TX12) (N := 2) rfl (by decide) (by decide) (by decide)), (List.forall_mem_cons.mpr ⟨(ck_kV g_y_yX14_put w1922 w1924 w38 (T := TX14) (N := 6) rfl (by decide) (by decide) (by decide)), (List.forall_mem_cons.mpr ⟨(ck_kV g_y_yX12_times w1940 w1941 w1942 (T := TX12) (N := 2) rfl (by decide) (by decide) (by decide)), (List.forall_mem_nil _)⟩)⟩)⟩)⟩)⟩) (List.forall_mem_nil _) (List.forall_mem_cons.mpr ⟨(ck_kS g_y_yX14_isNoSlot w1919 w1920 (by decide) (by decide)), (List.forall_mem_nil _)⟩) (List.forall_mem_nil _)
    (List.forall_mem_nil _) hay H
def gt_yX14_negate_X : ck_TB := ([], [], [], [(18, 19, 1), (68, 18, 1)], [], [], [], [], ([(59, 1), (79, 3), (93, 2), (97, 4)], [], [(75, 0)], []), [], [], [], 0)
def ge_yX14_negate_X : ck_E := (gT, [], (([], [], [], 0, []), ((0, []), (0, [])), [], [], ([], [], [], 0, []), []), 2, [(0, (0, 5, 0, 0, 1, 0, [])), (1, (0, 3, 1, 0, 2, 0, [])), (2, (16, 0, 0, 0, 5, 0, [])), (5, (0, 0, 0, 1, 6, 0, [])), (6, (16, 1, 0, 0, 9, 0, [])), (9, (1, 0, 0, 0, 12, 14, [])), (12, (0, 0, 0, 0, 13, 0, [])), (13, (14, 0, 0, 0, 0, 0, [])), (14, (0, 5, 0, 0, 15, 0, [])), (15, (0, 3, 1, 0, 16, 0, [])), (16, (0, 5, 0, 0, 17, 0, [])), (17, (7, 19, 1, 0, 20, 0, [])), (20, (7, 18, 1, 0, 23, 0, [])), (23, (0, 3, 1, 0, 24, 0, [])), (24, (12, 53, 58, 0, 25, 0, [])), (25, (16, 2, 0, 0, 28, 0, [])), (28, (16, 3, 0, 0, 31, 0, [])), (31, (0, 10, 0, 0, 32, 0, [])), (32, (0, 5, 0, 0, 33, 0, [])), (33, (7, 19, 1, 0, 36, 0, [])), (36, (7, 18, 1, 0, 39, 0, [])), (39, (0, 3, 1, 0, 40, 0, [])), (40, (12, 53, 58, 0, 41, 0, [])), (41, (16, 4, 0, 0, 44, 0, [])), (44, (14, 0, 0, 0, 0, 0, []))], [(none, 1, []), (some 19, 3, []), (some 17, 1, []), (some 19, 3, []), (some 17, 1, [])], [], [], [])
theorem gd_yX14_negate_X : ck_dec prog_14_method_16_code gt_yX14_negate_X ge_yX14_negate_X.2.2.2.2.1 = true := by decide +kernel
theorem gh_yX14_negate_X {l : Launch} {G : am_G} {X : ck_XT} (g : gM l G X) {a : List Value} {h : List am_C} {mc ms : Nat} {Post : am_O → List am_C → Prop} (hay : (am_lay a).length ≤ 2) (H : ∀ (S : ck_SS) (SX : Nat → ck_SX), ck_hs G S SX Post mc ms (ck_cms [am_cm l G yX14_isNoSlot (.code yX14_isNoSlot prog_14_method_6_code 1 (some .boolean)) 2 42, am_cm l G yX14_start (.code yX14_start prog_14_method_4_code 3 (some .boolean)) 2 42, am_cm l G yX12_turned (.code yX12_turned prog_15_method_6_code 1 (some (.object "ClockhouseModel$Num"))) 2 44, am_cm l G yX14_put (.code yX14_put prog_14_method_11_code 3 (some .int)) 11 294, am_cm l G yX12_sign (.code yX12_sign prog_15_method_4_code 1 (some .int)) 2 40]) ge_yX14_negate_X → (∀ pc, ck_sR G S pc) → ck_hw S → zw_hx SX Post mc ms → S 0 (am_ent a 2) [] h 0 0) : am_M l G yX14_negate (.code yX14_negate prog_14_method_16_code 2 (some .int)) 12 316 mc ms a h Post :=
  zw_handX (E := ge_yX14_negate_X) (tb := gt_yX14_negate_X) (init := false) (cm := (ck_cms [am_cm l G yX14_isNoSlot (.code yX14_isNoSlot prog_14_method_6_code 1 (some .boolean)) 2 42, am_cm l G yX14_start (.code yX14_start prog_14_method_4_code 3 (some .boolean)) 2 42, am_cm l G yX12_turned (.code yX12_turned prog_15_method_6_code 1 (some (.object "ClockhouseModel$Num"))) 2 44, am_cm l G yX14_put (.code yX14_put prog_14_method_11_code 3 (some .int)) 11 294, am_cm l G yX12_sign (.code yX12_sign prog_15_method_4_code 1 (some .int)) 2 40])) g.1.1 (by decide +kernel) rfl gd_yX14_negate_X ⟨(List.forall_mem_nil _), (List.forall_mem_nil _), (List.forall_mem_nil _), (List.forall_mem_cons.mpr ⟨⟨⟨_, _, _, rfl, Or.inl w1718⟩, by decide, _, _, g_fd19_1⟩, (List.forall_mem_cons.mpr ⟨⟨⟨_, _, _, rfl, Or.inl w1701⟩, by decide, _, _, g_fd18_1⟩, (List.forall_mem_nil _)⟩)⟩), (List.forall_mem_nil _), (List.forall_mem_nil _), (List.forall_mem_nil _), (List.forall_mem_nil _)⟩ (List.forall_mem_nil _) (fun h => nomatch h) ⟨_, rfl, rfl⟩ (by decide) (by decide) g_oi g_ar
    (fun s hk _ => (List.forall_mem_nil _)) (fun s hk => (List.forall_mem_nil _))
    (List.forall_mem_cons.mpr ⟨(ck_kV g_y_yX14_start w1747 w1749 w31 (T := TX14) (N := 6) rfl (by decide) (by decide) (by decide)), (List.forall_mem_cons.mpr ⟨(ck_kV g_y_yX14_put w1922 w1924 w38 (T := TX14) (N := 6) rfl (by decide) (by decide) (by decide)), (List.forall_mem_cons.mpr ⟨(ck_kV g_y_yX12_turned w1967 w1968 w1969 (T := TX12) (N := 2) rfl (by decide) (by decide) (by decide)), (List.forall_mem_cons.mpr ⟨(ck_kV g_y_yX12_sign w1971 w1972 w1973 (T := TX12) (N := 2) rfl (by decide) (by decide) (by decide)), (List.forall_mem_nil _)⟩)⟩)⟩)⟩) (List.forall_mem_nil _) (List.forall_mem_cons.mpr ⟨(ck_kS g_y_yX14_isNoSlot w1919 w1920 (by decide) (by decide)), (List.forall_mem_nil _)⟩) (List.forall_mem_nil _)
    (List.forall_mem_nil _) hay H
def gt_yX14_reduce_X : ck_TB := ([], [], [], [], [], [], [], [], ([(59, 1), (114, 2), (117, 3)], [], [(75, 0)], []), [], [], [], 0)
def ge_yX14_reduce_X : ck_E := (gT, [], (([], [], [], 0, []), ((0, []), (0, [])), [], [], ([], [], [], 0, []), []), 2, [(0, (0, 5, 0, 0, 1, 0, [])), (1, (0, 3, 1, 0, 2, 0, [])), (2, (16, 0, 0, 0, 5, 0, [])), (5, (0, 0, 0, 1, 6, 0, [])), (6, (16, 1, 0, 0, 9, 0, [])), (9, (1, 0, 0, 0, 12, 16, [])), (12, (0, 0, 0, 0, 13, 0, [])), (13, (3, 0, 0, 0, 0, 26, [])), (16, (0, 5, 0, 0, 17, 0, [])), (17, (0, 3, 1, 0, 18, 0, [])), (18, (0, 5, 0, 0, 19, 0, [])), (19, (0, 3, 1, 0, 20, 0, [])), (20, (16, 2, 0, 0, 23, 0, [])), (23, (16, 3, 0, 0, 26, 0, [])), (26, (14, 0, 0, 0, 0, 0, []))], [(none, 1, []), (some 19, 3, []), (some 19, 2, []), (some 19, 3, [])], [], [], [])
theorem gd_yX14_reduce_X : ck_dec prog_14_method_20_code gt_yX14_reduce_X ge_yX14_reduce_X.2.2.2.2.1 = true := by decide +kernel
theorem gh_yX14_reduce_X {l : Launch} {G : am_G} {X : ck_XT} (g : gM l G X) {a : List Value} {h : List am_C} {mc ms : Nat} {Post : am_O → List am_C → Prop} (hay : (am_lay a).length ≤ 2) (H : ∀ (S : ck_SS) (SX : Nat → ck_SX), ck_hs G S SX Post mc ms (ck_cms [am_cm l G yX14_isNoSlot (.code yX14_isNoSlot prog_14_method_6_code 1 (some .boolean)) 2 42, am_cm l G yX14_start (.code yX14_start prog_14_method_4_code 3 (some .boolean)) 2 42, am_cm l G yX14_modAt (.code yX14_modAt prog_14_method_19_code 2 (some .int)) 2 43, am_cm l G yX14_round (.code yX14_round prog_14_method_18_code 3 (some .int)) 12 316]) ge_yX14_reduce_X → (∀ pc, ck_sR G S pc) → ck_hw S → zw_hx SX Post mc ms → S 0 (am_ent a 2) [] h 0 0) : am_M l G yX14_reduce (.code yX14_reduce prog_14_method_20_code 2 (some .int)) 13 338 mc ms a h Post :=
  zw_handX (E := ge_yX14_reduce_X) (tb := gt_yX14_reduce_X) (init := false) (cm := (ck_cms [am_cm l G yX14_isNoSlot (.code yX14_isNoSlot prog_14_method_6_code 1 (some .boolean)) 2 42, am_cm l G yX14_start (.code yX14_start prog_14_method_4_code 3 (some .boolean)) 2 42, am_cm l G yX14_modAt (.code yX14_modAt prog_14_method_19_code 2 (some .int)) 2 43, am_cm l G yX14_round (.code yX14_round prog_14_method_18_code 3 (some .int)) 12 316])) g.1.1 (by decide +kernel) rfl gd_yX14_reduce_X ⟨(List.forall_mem_nil _), (List.forall_mem_nil _), (List.forall_mem_nil _), (List.forall_mem_nil _), (List.forall_mem_nil _), (List.forall_mem_nil _), (List.forall_mem_nil _), (List.forall_mem_nil _)⟩ (List.forall_mem_nil _) (fun h => nomatch h) ⟨_, rfl, rfl⟩ (by decide) (by decide) g_oi g_ar
    (fun s hk _ => (List.forall_mem_nil _)) (fun s hk => (List.forall_mem_nil _))
    (List.forall_mem_cons.mpr ⟨(ck_kV g_y_yX14_start w1747 w1749 w31 (T := TX14) (N := 6) rfl (by decide) (by decide) (by decide)), (List.forall_mem_cons.mpr ⟨(ck_kV g_y_yX14_modAt w1979 w1981 w39 (T := TX14) (N := 6) rfl (by decide) (by decide) (by decide)), (List.forall_mem_cons.mpr ⟨(ck_kV g_y_yX14_round w1991 w1993 w41 (T := TX14) (N := 6) rfl (by decide) (by decide) (by decide)), (List.forall_mem_nil _)⟩)⟩)⟩) (List.forall_mem_nil _) (List.forall_mem_cons.mpr ⟨(ck_kS g_y_yX14_isNoSlot w1919 w1920 (by decide) (by decide)), (List.forall_mem_nil _)⟩) (List.forall_mem_nil _)
    (List.forall_mem_nil _) hay H
def gt_yX14_roundPlus_X : ck_TB := ([], [], [], [(18, 19, 1), (65, 18, 0)], [], [], [], [], ([(59, 1), (106, 2), (114, 3), (117, 4)], [], [(75, 0)], []), [], [], [], 0)
def ge_yX14_roundPlus_X : ck_E := (gT, [], (([], [], [], 0, []), ((0, []), (0, [])), [], [], ([], [], [], 0, []), []), 3, [(0, (0, 5, 0, 0, 1, 0, [])), (1, (0, 3, 1, 0, 2, 0, [])), (2, (16, 0, 0, 0, 5, 0, [])), (5, (1, 1, 0, 0, 8, 15, [])), (8, (0, 3, 2, 0, 9, 0, [])), (9, (16, 0, 0, 0, 12, 0, [])), (12, (1, 0, 0, 0, 15, 19, [])), (15, (0, 0, 0, 1, 16, 0, [])), (16, (3, 0, 0, 0, 0, 20, [])), (19, (0, 0, 0, 0, 20, 0, [])), (20, (0, 0, 0, 1, 21, 0, [])), (21, (16, 1, 0, 0, 24, 0, [])), (24, (1, 0, 0, 0, 27, 29, [])), (27, (0, 0, 0, 0, 28, 0, [])), (28, (14, 0, 0, 0, 0, 0, [])), (29, (0, 5, 0, 0, 30, 0, [])), (30, (0, 3, 1, 0, 31, 0, [])), (31, (0, 5, 0, 0, 32, 0, [])), (32, (16, 2, 0, 0, 35, 0, [])), (35, (1, 0, 0, 0, 38, 43, [])), (38, (0, 0, 0, (-9), 40, 0, [])), (40, (3, 0, 0, 0, 0, 62, [])), (43, (0, 5, 0, 0, 44, 0, [])), (44, (0, 3, 1, 0, 45, 0, [])), (45, (16, 3, 0, 0, 48, 0, [])), (48, (0, 5, 0, 0, 49, 0, [])), (49, (0, 3, 2, 0, 50, 0, [])), (50, (16, 3, 0, 0, 53, 0, [])), (53, (0, 15, 0, 0, 54, 0, [])), (54, (0, 5, 0, 0, 55, 0, [])), (55, (7, 19, 1, 0, 58, 0, [])), (58, (7, 18, 0, 0, 61, 0, [])), (61, (0, 15, 4, 0, 62, 0, [])), (62, (16, 4, 0, 0, 65, 0, [])), (65, (14, 0, 0, 0, 0, 0, []))], [(none, 1, []), (some 19, 3, []), (some 19, 1, []), (some 19, 2, []), (some 19, 3, [])], [], [], [])
theorem gd_yX14_roundPlus_X : ck_dec prog_14_method_21_code gt_yX14_roundPlus_X ge_yX14_roundPlus_X.2.2.2.2.1 = true := by decide +kernel
theorem gh_yX14_roundPlus_X {l : Launch} {G : am_G} {X : ck_XT} (g : gM l G X) {a : List Value} {h : List am_C} {mc ms : Nat} {Post : am_O → List am_C → Prop} (hay : (am_lay a).length ≤ 3) (H : ∀ (S : ck_SS) (SX : Nat → ck_SX), ck_hs G S SX Post mc ms (ck_cms [am_cm l G yX14_isNoSlot (.code yX14_isNoSlot prog_14_method_6_code 1 (some .boolean)) 2 42, am_cm l G yX14_start (.code yX14_start prog_14_method_4_code 3 (some .boolean)) 2 42, am_cm l G yX14_isJammed (.code yX14_isJammed prog_14_method_17_code 1 (some .boolean)) 1 20, am_cm l G yX14_modAt (.code yX14_modAt prog_14_method_19_code 2 (some .int)) 2 43, am_cm l G yX14_round (.code yX14_round prog_14_method_18_code 3 (some .int)) 12 316]) ge_yX14_roundPlus_X → (∀ pc, ck_sR G S pc) → ck_hw S → zw_hx SX Post mc ms → S 0 (am_ent a 3) [] h 0 0) : am_M l G yX14_roundPlus (.code yX14_roundPlus prog_14_method_21_code 3 (some .int)) 13 338 mc ms a h Post :=
  zw_handX (E := ge_yX14_roundPlus_X) (tb := gt_yX14_roundPlus_X) (init := false) (cm := (ck_cms [am_cm l G yX14_isNoSlot (.code yX14_isNoSlot prog_14_method_6_code 1 (some .boolean)) 2 42, am_cm l G yX14_start (.code yX14_start prog_14_method_4_code 3 (some .boolean)) 2 42, am_cm l G yX14_isJammed (.code yX14_isJammed prog_14_method_17_code 1 (some .boolean)) 1 20, am_cm l G yX14_modAt (.code yX14_modAt prog_14_method_19_code 2 (some .int)) 2 43, am_cm l G yX14_round (.code yX14_round prog_14_method_18_code 3 (some .int)) 12 316])) g.1.1 (by decide +kernel) rfl gd_yX14_roundPlus_X ⟨(List.forall_mem_nil _), (List.forall_mem_nil _), (List.forall_mem_nil _), (List.forall_mem_cons.mpr ⟨⟨⟨_, _, _, rfl, Or.inl w1718⟩, by decide, _, _, g_fd19_1⟩, (List.forall_mem_cons.mpr ⟨⟨⟨_, _, _, rfl, Or.inl w1699⟩, by decide, _, _, g_fd18_0⟩, (List.forall_mem_nil _)⟩)⟩), (List.forall_mem_nil _), (List.forall_mem_nil _), (List.forall_mem_nil _), (List.forall_mem_nil _)⟩ (List.forall_mem_nil _) (fun h => nomatch h) ⟨_, rfl, rfl⟩ (by decide) (by decide) g_oi g_ar
    (fun s hk _ => (List.forall_mem_nil _)) (fun s hk => (List.forall_mem_nil _))
    (List.forall_mem_cons.mpr ⟨(ck_kV g_y_yX14_start w1747 w1749 w31 (T := TX14) (N := 6) rfl (by decide) (by decide) (by decide)), (List.forall_mem_cons.mpr ⟨(ck_kV g_y_yX14_isJammed w1983 w1985 w40 (T := TX14) (N := 6) rfl (by decide) (by decide) (by decide)), (List.forall_mem_cons.mpr ⟨(ck_kV g_y_yX14_modAt w1979 w1981 w39 (T := TX14) (N := 6) rfl (by decide) (by decide) (by decide)), (List.forall_mem_cons.mpr ⟨(ck_kV g_y_yX14_round w1991 w1993 w41 (T := TX14) (N := 6) rfl (by decide) (by decide) (by decide)), (List.forall_mem_nil _)⟩)⟩)⟩)⟩) (List.forall_mem_nil _) (List.forall_mem_cons.mpr ⟨(ck_kS g_y_yX14_isNoSlot w1919 w1920 (by decide) (by decide)), (List.forall_mem_nil _)⟩) (List.forall_mem_nil _)
    (List.forall_mem_nil _) hay H
def gt_yX14_roundTimes_X : ck_TB := ([], [], [], [(18, 19, 1), (65, 18, 0)], [], [], [], [], ([(59, 1), (106, 2), (114, 3), (117, 4)], [], [(75, 0)], []), [], [], [], 0)
def ge_yX14_roundTimes_X : ck_E := (gT, [], (([], [], [], 0, []), ((0, []), (0, [])), [], [], ([], [], [], 0, []), []), 3, [(0, (0, 5, 0, 0, 1, 0, [])), (1, (0, 3, 1, 0, 2, 0, [])), (2, (16, 0, 0, 0, 5, 0, [])), (5, (1, 1, 0, 0, 8, 15, [])), (8, (0, 3, 2, 0, 9, 0, [])), (9, (16, 0, 0, 0, 12, 0, [])), (12, (1, 0, 0, 0, 15, 19, [])), (15, (0, 0, 0, 1, 16, 0, [])), (16, (3, 0, 0, 0, 0, 20, [])), (19, (0, 0, 0, 0, 20, 0, [])), (20, (0, 0, 0, 1, 21, 0, [])), (21, (16, 1, 0, 0, 24, 0, [])), (24, (1, 0, 0, 0, 27, 29, [])), (27, (0, 0, 0, 0, 28, 0, [])), (28, (14, 0, 0, 0, 0, 0, [])), (29, (0, 5, 0, 0, 30, 0, [])), (30, (0, 3, 1, 0, 31, 0, [])), (31, (0, 5, 0, 0, 32, 0, [])), (32, (16, 2, 0, 0, 35, 0, [])), (35, (1, 0, 0, 0, 38, 43, [])), (38, (0, 0, 0, (-9), 40, 0, [])), (40, (3, 0, 0, 0, 0, 62, [])), (43, (0, 5, 0, 0, 44, 0, [])), (44, (0, 3, 1, 0, 45, 0, [])), (45, (16, 3, 0, 0, 48, 0, [])), (48, (0, 5, 0, 0, 49, 0, [])), (49, (0, 3, 2, 0, 50, 0, [])), (50, (16, 3, 0, 0, 53, 0, [])), (53, (0, 15, 2, 0, 54, 0, [])), (54, (0, 5, 0, 0, 55, 0, [])), (55, (7, 19, 1, 0, 58, 0, [])), (58, (7, 18, 0, 0, 61, 0, [])), (61, (0, 15, 4, 0, 62, 0, [])), (62, (16, 4, 0, 0, 65, 0, [])), (65, (14, 0, 0, 0, 0, 0, []))], [(none, 1, []), (some 19, 3, []), (some 19, 1, []), (some 19, 2, []), (some 19, 3, [])], [], [], [])
theorem gd_yX14_roundTimes_X : ck_dec prog_14_method_22_code gt_yX14_roundTimes_X ge_yX14_roundTimes_X.2.2.2.2.1 = true := by decide +kernel
theorem gh_yX14_roundTimes_X {l : Launch} {G : am_G} {X : ck_XT} (g : gM l G X) {a : List Value} {h : List am_C} {mc ms : Nat} {Post : am_O → List am_C → Prop} (hay : (am_lay a).length ≤ 3) (H : ∀ (S : ck_SS) (SX : Nat → ck_SX), ck_hs G S SX Post mc ms (ck_cms [am_cm l G yX14_isNoSlot (.code yX14_isNoSlot prog_14_method_6_code 1 (some .boolean)) 2 42, am_cm l G yX14_start (.code yX14_start prog_14_method_4_code 3 (some .boolean)) 2 42, am_cm l G yX14_isJammed (.code yX14_isJammed prog_14_method_17_code 1 (some .boolean)) 1 20, am_cm l G yX14_modAt (.code yX14_modAt prog_14_method_19_code 2 (some .int)) 2 43, am_cm l G yX14_round (.code yX14_round prog_14_method_18_code 3 (some .int)) 12 316]) ge_yX14_roundTimes_X → (∀ pc, ck_sR G S pc) → ck_hw S → zw_hx SX Post mc ms → S 0 (am_ent a 3) [] h 0 0) : am_M l G yX14_roundTimes (.code yX14_roundTimes prog_14_method_22_code 3 (some .int)) 13 338 mc ms a h Post :=
  zw_handX (E := ge_yX14_roundTimes_X) (tb := gt_yX14_roundTimes_X) (init := false) (cm := (ck_cms [am_cm l G yX14_isNoSlot (.code yX14_isNoSlot prog_14_method_6_code 1 (some .boolean)) 2 42, am_cm l G yX14_start (.code yX14_start prog_14_method_4_code 3 (some .boolean)) 2 42, am_cm l G yX14_isJammed (.code yX14_isJammed prog_14_method_17_code 1 (some .boolean)) 1 20, am_cm l G yX14_modAt (.code yX14_modAt prog_14_method_19_code 2 (some .int)) 2 43, am_cm l G yX14_round (.code yX14_round prog_14_method_18_code 3 (some .int)) 12 316])) g.1.1 (by decide +kernel) rfl gd_yX14_roundTimes_X ⟨(List.forall_mem_nil _), (List.forall_mem_nil _), (List.forall_mem_nil _), (List.forall_mem_cons.mpr ⟨⟨⟨_, _, _, rfl, Or.inl w1718⟩, by decide, _, _, g_fd19_1⟩, (List.forall_mem_cons.mpr ⟨⟨⟨_, _, _, rfl, Or.inl w1699⟩, by decide, _, _, g_fd18_0⟩, (List.forall_mem_nil _)⟩)⟩), (List.forall_mem_nil _), (List.forall_mem_nil _), (List.forall_mem_nil _), (List.forall_mem_nil _)⟩ (List.forall_mem_nil _) (fun h => nomatch h) ⟨_, rfl, rfl⟩ (by decide) (by decide) g_oi g_ar
    (fun s hk _ => (List.forall_mem_nil _)) (fun s hk => (List.forall_mem_nil _))
    (List.forall_mem_cons.mpr ⟨(ck_kV g_y_yX14_start w1747 w1749 w31 (T := TX14) (N := 6) rfl (by decide) (by decide) (by decide)), (List.forall_mem_cons.mpr ⟨(ck_kV g_y_yX14_isJammed w1983 w1985 w40 (T := TX14) (N := 6) rfl (by decide) (by decide) (by decide)), (List.forall_mem_cons.mpr ⟨(ck_kV g_y_yX14_modAt w1979 w1981 w39 (T := TX14) (N := 6) rfl (by decide) (by decide) (by decide)), (List.forall_mem_cons.mpr ⟨(ck_kV g_y_yX14_round w1991 w1993 w41 (T := TX14) (N := 6) rfl (by decide) (by decide) (by decide)), (List.forall_mem_nil _)⟩)⟩)⟩)⟩) (List.forall_mem_nil _) (List.forall_mem_cons.mpr ⟨(ck_kS g_y_yX14_isNoSlot w1919 w1920 (by decide) (by decide)), (List.forall_mem_nil _)⟩) (List.forall_mem_nil _)
    (List.forall_mem_nil _) hay H
def gt_yX14_roundPower_X : ck_TB := ([], [], [], [(18, 19, 1), (68, 18, 1)], [], [], [], [], ([(59, 1), (117, 3), (132, 2)], [], [(75, 0)], []), [], [], [], 0)
def ge_yX14_roundPower_X : ck_E := (gT, [], (([], [], [], 0, []), ((0, []), (0, [])), [], [], ([], [], [], 0, []), []), 3, [(0, (0, 5, 0, 0, 1, 0, [])), (1, (0, 3, 1, 0, 2, 0, [])), (2, (16, 0, 0, 0, 5, 0, [])), (5, (1, 1, 0, 0, 8, 15, [])), (8, (0, 3, 2, 0, 9, 0, [])), (9, (16, 0, 0, 0, 12, 0, [])), (12, (1, 0, 0, 0, 15, 19, [])), (15, (0, 0, 0, 1, 16, 0, [])), (16, (3, 0, 0, 0, 0, 20, [])), (19, (0, 0, 0, 0, 20, 0, [])), (20, (0, 0, 0, 1, 21, 0, [])), (21, (16, 1, 0, 0, 24, 0, [])), (24, (1, 0, 0, 0, 27, 29, [])), (27, (0, 0, 0, 0, 28, 0, [])), (28, (14, 0, 0, 0, 0, 0, [])), (29, (0, 5, 0, 0, 30, 0, [])), (30, (0, 3, 1, 0, 31, 0, [])), (31, (0, 5, 0, 0, 32, 0, [])), (32, (0, 3, 1, 0, 33, 0, [])), (33, (0, 5, 0, 0, 34, 0, [])), (34, (7, 19, 1, 0, 37, 0, [])), (37, (7, 18, 1, 0, 40, 0, [])), (40, (0, 3, 2, 0, 41, 0, [])), (41, (12, 53, 58, 0, 42, 0, [])), (42, (16, 2, 0, 0, 45, 0, [])), (45, (16, 3, 0, 0, 48, 0, [])), (48, (14, 0, 0, 0, 0, 0, []))], [(none, 1, []), (some 19, 3, []), (some 19, 3, []), (some 19, 3, [])], [], [], [])
theorem gd_yX14_roundPower_X : ck_dec prog_14_method_25_code gt_yX14_roundPower_X ge_yX14_roundPower_X.2.2.2.2.1 = true := by decide +kernel
theorem gh_yX14_roundPower_X {l : Launch} {G : am_G} {X : ck_XT} (g : gM l G X) {a : List Value} {h : List am_C} {mc ms : Nat} {Post : am_O → List am_C → Prop} (hay : (am_lay a).length ≤ 3) (H : ∀ (S : ck_SS) (SX : Nat → ck_SX), ck_hs G S SX Post mc ms (ck_cms [am_cm l G yX14_isNoSlot (.code yX14_isNoSlot prog_14_method_6_code 1 (some .boolean)) 2 42, am_cm l G yX14_start (.code yX14_start prog_14_method_4_code 3 (some .boolean)) 2 42, am_cm l G yX14_powerAt (.code yX14_powerAt prog_14_method_24_code 8 (some .int)) 4 87, am_cm l G yX14_round (.code yX14_round prog_14_method_18_code 3 (some .int)) 12 316]) ge_yX14_roundPower_X → (∀ pc, ck_sR G S pc) → ck_hw S → zw_hx SX Post mc ms → S 0 (am_ent a 3) [] h 0 0) : am_M l G yX14_roundPower (.code yX14_roundPower prog_14_method_25_code 3 (some .int)) 13 338 mc ms a h Post :=
  zw_handX (E := ge_yX14_roundPower_X) (tb := gt_yX14_roundPower_X) (init := false) (cm := (ck_cms [am_cm l G yX14_isNoSlot (.code yX14_isNoSlot prog_14_method_6_code 1 (some .boolean)) 2 42, am_cm l G yX14_start (.code yX14_start prog_14_method_4_code 3 (some .boolean)) 2 42, am_cm l G yX14_powerAt (.code yX14_powerAt prog_14_method_24_code 8 (some .int)) 4 87, am_cm l G yX14_round (.code yX14_round prog_14_method_18_code 3 (some .int)) 12 316])) g.1.1 (by decide +kernel) rfl gd_yX14_roundPower_X ⟨(List.forall_mem_nil _), (List.forall_mem_nil _), (List.forall_mem_nil _), (List.forall_mem_cons.mpr ⟨⟨⟨_, _, _, rfl, Or.inl w1718⟩, by decide, _, _, g_fd19_1⟩, (List.forall_mem_cons.mpr ⟨⟨⟨_, _, _, rfl, Or.inl w1701⟩, by decide, _, _, g_fd18_1⟩, (List.forall_mem_nil _)⟩)⟩), (List.forall_mem_nil _), (List.forall_mem_nil _), (List.forall_mem_nil _), (List.forall_mem_nil _)⟩ (List.forall_mem_nil _) (fun h => nomatch h) ⟨_, rfl, rfl⟩ (by decide) (by decide) g_oi g_ar
    (fun s hk _ => (List.forall_mem_nil _)) (fun s hk => (List.forall_mem_nil _))
    (List.forall_mem_cons.mpr ⟨(ck_kV g_y_yX14_start w1747 w1749 w31 (T := TX14) (N := 6) rfl (by decide) (by decide) (by decide)), (List.forall_mem_cons.mpr ⟨(ck_kV g_y_yX14_round w1991 w1993 w41 (T := TX14) (N := 6) rfl (by decide) (by decide) (by decide)), (List.forall_mem_cons.mpr ⟨(ck_kV g_y_yX14_powerAt w2007 w2009 w42 (T := TX14) (N := 6) rfl (by decide) (by decide) (by decide)), (List.forall_mem_nil _)⟩)⟩)⟩) (List.forall_mem_nil _) (List.forall_mem_cons.mpr ⟨(ck_kS g_y_yX14_isNoSlot w1919 w1920 (by decide) (by decide)), (List.forall_mem_nil _)⟩) (List.forall_mem_nil _)
    (List.forall_mem_nil _) hay H
def gt_yX14_roundInverse_X : ck_TB := ([], [], [], [], [], [], [], [], ([(59, 1), (117, 3), (125, 2)], [], [(75, 0)], []), [], [], [], 0)
def ge_yX14_roundInverse_X : ck_E := (gT, [], (([], [], [], 0, []), ((0, []), (0, [])), [], [], ([], [], [], 0, []), []), 2, [(0, (0, 5, 0, 0, 1, 0, [])), (1, (0, 3, 1, 0, 2, 0, [])), (2, (16, 0, 0, 0, 5, 0, [])), (5, (0, 0, 0, 1, 6, 0, [])), (6, (16, 1, 0, 0, 9, 0, [])), (9, (1, 0, 0, 0, 12, 16, [])), (12, (0, 0, 0, 0, 13, 0, [])), (13, (3, 0, 0, 0, 0, 26, [])), (16, (0, 5, 0, 0, 17, 0, [])), (17, (0, 3, 1, 0, 18, 0, [])), (18, (0, 5, 0, 0, 19, 0, [])), (19, (0, 3, 1, 0, 20, 0, [])), (20, (16, 2, 0, 0, 23, 0, [])), (23, (16, 3, 0, 0, 26, 0, [])), (26, (14, 0, 0, 0, 0, 0, []))], [(none, 1, []), (some 19, 3, []), (some 19, 2, []), (some 19, 3, [])], [], [], [])
theorem gd_yX14_roundInverse_X : ck_dec prog_14_method_26_code gt_yX14_roundInverse_X ge_yX14_roundInverse_X.2.2.2.2.1 = true := by decide +kernel
theorem gh_yX14_roundInverse_X {l : Launch} {G : am_G} {X : ck_XT} (g : gM l G X) {a : List Value} {h : List am_C} {mc ms : Nat} {Post : am_O → List am_C → Prop} (hay : (am_lay a).length ≤ 2) (H : ∀ (S : ck_SS) (SX : Nat → ck_SX), ck_hs G S SX Post mc ms (ck_cms [am_cm l G yX14_isNoSlot (.code yX14_isNoSlot prog_14_method_6_code 1 (some .boolean)) 2 42, am_cm l G yX14_start (.code yX14_start prog_14_method_4_code 3 (some .boolean)) 2 42, am_cm l G yX14_inverseAt (.code yX14_inverseAt prog_14_method_23_code 4 (some .int)) 3 64, am_cm l G yX14_round (.code yX14_round prog_14_method_18_code 3 (some .int)) 12 316]) ge_yX14_roundInverse_X → (∀ pc, ck_sR G S pc) → ck_hw S → zw_hx SX Post mc ms → S 0 (am_ent a 2) [] h 0 0) : am_M l G yX14_roundInverse (.code yX14_roundInverse prog_14_method_26_code 2 (some .int)) 13 338 mc ms a h Post :=
  zw_handX (E := ge_yX14_roundInverse_X) (tb := gt_yX14_roundInverse_X) (init := false) (cm := (ck_cms [am_cm l G yX14_isNoSlot (.code yX14_isNoSlot prog_14_method_6_code 1 (some .boolean)) 2 42, am_cm l G yX14_start (.code yX14_start prog_14_method_4_code 3 (some .boolean)) 2 42, am_cm l G yX14_inverseAt (.code yX14_inverseAt prog_14_method_23_code 4 (some .int)) 3 64, am_cm l G yX14_round (.code yX14_round prog_14_method_18_code 3 (some .int)) 12 316])) g.1.1 (by decide +kernel) rfl gd_yX14_roundInverse_X ⟨(List.forall_mem_nil _), (List.forall_mem_nil _), (List.forall_mem_nil _), (List.forall_mem_nil _), (List.forall_mem_nil _), (List.forall_mem_nil _), (List.forall_mem_nil _), (List.forall_mem_nil _)⟩ (List.forall_mem_nil _) (fun h => nomatch h) ⟨_, rfl, rfl⟩ (by decide) (by decide) g_oi g_ar
    (fun s hk _ => (List.forall_mem_nil _)) (fun s hk => (List.forall_mem_nil _))
    (List.forall_mem_cons.mpr ⟨(ck_kV g_y_yX14_start w1747 w1749 w31 (T := TX14) (N := 6) rfl (by decide) (by decide) (by decide)), (List.forall_mem_cons.mpr ⟨(ck_kV g_y_yX14_round w1991 w1993 w41 (T := TX14) (N := 6) rfl (by decide) (by decide) (by decide)), (List.forall_mem_cons.mpr ⟨(ck_kV g_y_yX14_inverseAt w2011 w2013 w43 (T := TX14) (N := 6) rfl (by decide) (by decide) (by decide)), (List.forall_mem_nil _)⟩)⟩)⟩) (List.forall_mem_nil _) (List.forall_mem_cons.mpr ⟨(ck_kS g_y_yX14_isNoSlot w1919 w1920 (by decide) (by decide)), (List.forall_mem_nil _)⟩) (List.forall_mem_nil _)
    (List.forall_mem_nil _) hay H
def gt_yX14_tell_X : ck_TB := ([], [], [], [(18, 19, 1), (160, 18, 2)], [], [], [], [], ([(35, 3), (51, 2), (59, 1), (174, 4)], [], [(170, 0)], []), [], [], [], 0)
def ge_yX14_tell_X : ck_E := (gT, [], (([], [], [], 0, []), ((0, []), (0, [])), [], [], ([], [], [], 0, []), []), 3, [(0, (0, 5, 0, 0, 1, 0, [])), (1, (0, 3, 1, 0, 2, 0, [])), (2, (0, 3, 2, 0, 3, 0, [])), (3, (16, 0, 0, 0, 6, 0, [])), (6, (0, 0, 0, 1, 7, 0, [])), (7, (16, 1, 0, 0, 10, 0, [])), (10, (1, 1, 0, 0, 13, 41, [])), (13, (0, 5, 0, 0, 14, 0, [])), (14, (0, 5, 0, 0, 15, 0, [])), (15, (7, 19, 1, 0, 18, 0, [])), (18, (7, 18, 2, 0, 21, 0, [])), (21, (16, 2, 0, 0, 24, 0, [])), (24, (0, 0, 0, 6, 26, 0, [])), (26, (2, 1, 0, 0, 29, 33, [])), (29, (0, 0, 0, 1, 30, 0, [])), (30, (3, 0, 0, 0, 0, 34, [])), (33, (0, 0, 0, 0, 34, 0, [])), (34, (0, 0, 0, 2, 35, 0, [])), (35, (16, 3, 0, 0, 38, 0, [])), (38, (1, 0, 0, 0, 41, 43, [])), (41, (0, 0, 0, 0, 42, 0, [])), (42, (14, 0, 0, 0, 0, 0, [])), (43, (0, 5, 0, 0, 44, 0, [])), (44, (0, 3, 1, 0, 45, 0, [])), (45, (0, 3, 2, 0, 46, 0, [])), (46, (16, 4, 0, 0, 49, 0, [])), (49, (14, 0, 0, 0, 0, 0, []))], [(none, 2, []), (some 19, 3, []), (some 6, 1, []), (some 19, 3, []), (some 19, 3, [])], [], [], [])
theorem gd_yX14_tell_X : ck_dec prog_14_method_33_code gt_yX14_tell_X ge_yX14_tell_X.2.2.2.2.1 = true := by decide +kernel
theorem gh_yX14_tell_X {l : Launch} {G : am_G} {X : ck_XT} (g : gM l G X) {a : List Value} {h : List am_C} {mc ms : Nat} {Post : am_O → List am_C → Prop} (hay : (am_lay a).length ≤ 3) (H : ∀ (S : ck_SS) (SX : Nat → ck_SX), ck_hs G S SX Post mc ms (ck_cms [am_cm l G yX14_isNoRow (.code yX14_isNoRow prog_14_method_27_code 2 (some .boolean)) 2 42, am_cm l G yX14_start (.code yX14_start prog_14_method_4_code 3 (some .boolean)) 2 42, am_cm l G yJx4a65c_size_8abf5 (.code yJx4a65c_size_8abf5 prog_46_method_8_code 1 (some .int)) 1 20, am_cm l G yX14_refuse (.code yX14_refuse prog_14_method_3_code 3 (some .boolean)) 1 20, am_cm l G yX14_add (.code yX14_add prog_14_method_32_code 3 (some .int)) 11 294]) ge_yX14_tell_X → (∀ pc, ck_sR G S pc) → ck_hw S → zw_hx SX Post mc ms → S 0 (am_ent a 3) [] h 0 0) : am_M l G yX14_tell (.code yX14_tell prog_14_method_33_code 3 (some .int)) 12 316 mc ms a h Post :=
  zw_handX (E := ge_yX14_tell_X) (tb := gt_yX14_tell_X) (init := false) (cm := (ck_cms [am_cm l G yX14_isNoRow (.code yX14_isNoRow prog_14_method_27_code 2 (some .boolean)) 2 42, am_cm l G yX14_start (.code yX14_start prog_14_method_4_code 3 (some .boolean)) 2 42, am_cm l G yJx4a65c_size_8abf5 (.code yJx4a65c_size_8abf5 prog_46_method_8_code 1 (some .int)) 1 20, am_cm l G yX14_refuse (.code yX14_refuse prog_14_method_3_code 3 (some .boolean)) 1 20, am_cm l G yX14_add (.code yX14_add prog_14_method_32_code 3 (some .int)) 11 294])) g.1.1 (by decide +kernel) rfl gd_yX14_tell_X ⟨(List.forall_mem_nil _), (List.forall_mem_nil _), (List.forall_mem_nil _), (List.forall_mem_cons.mpr ⟨⟨⟨_, _, _, rfl, Or.inl w1718⟩, by decide, _, _, g_fd19_1⟩, (List.forall_mem_cons.mpr ⟨⟨⟨_, _, _, rfl, Or.inl w1703⟩, by decide, _, _, g_fd18_2⟩, (List.forall_mem_nil _)⟩)⟩), (List.forall_mem_nil _), (List.forall_mem_nil _), (List.forall_mem_nil _), (List.forall_mem_nil _)⟩ (List.forall_mem_nil _) (fun h => nomatch h) ⟨_, rfl, rfl⟩ (by decide) (by decide) g_oi g_ar
    (fun s hk _ => (List.forall_mem_nil _)) (fun s hk => (List.forall_mem_nil _))
    (List.forall_mem_cons.mpr ⟨(ck_kV g_y_yX14_refuse w1751 w1753 w32 (T := TX14) (N := 6) rfl (by decide) (by decide) (by decide)), (List.forall_mem_cons.mpr ⟨(ck_kV g_y_yJx4a65c_size_8abf5 w1898 w1899 w1900 (T := TJx4a65c) (N := 3) rfl (by decide) (by decide) (by decide)), (List.forall_mem_cons.mpr ⟨(ck_kV g_y_yX14_start w1747 w1749 w31 (T := TX14) (N := 6) rfl (by decide) (by decide) (by decide)), (List.forall_mem_cons.mpr ⟨(ck_kV g_y_yX14_add w2026 w2028 w44 (T := TX14) (N := 6) rfl (by decide) (by decide) (by decide)), (List.forall_mem_nil _)⟩)⟩)⟩)⟩) (List.forall_mem_nil _) (List.forall_mem_cons.mpr ⟨(ck_kS g_y_yX14_isNoRow w2023 w2024 (by decide) (by decide)), (List.forall_mem_nil _)⟩) (List.forall_mem_nil _)
    (List.forall_mem_nil _) hay H
def gt_yX14_tellIf_X : ck_TB := ([], [], [], [(18, 19, 1), (160, 18, 2)], [], [], [], [], ([(35, 3), (51, 2), (59, 1), (174, 5), (176, 4)], [], [(170, 0)], []), [], [], [], 1)
def ge_yX14_tellIf_X : ck_E := (gT, [], (([], [], [], 0, []), ((0, []), (0, [])), [], [], ([], [], [], 0, []), []), 3, [(0, (0, 5, 0, 0, 1, 0, [])), (1, (0, 3, 1, 0, 2, 0, [])), (2, (0, 3, 2, 0, 3, 0, [])), (3, (16, 0, 0, 0, 6, 0, [])), (6, (0, 0, 0, 1, 7, 0, [])), (7, (16, 1, 0, 0, 10, 0, [])), (10, (1, 1, 0, 0, 13, 50, [])), (13, (0, 5, 0, 0, 14, 0, [])), (14, (0, 5, 0, 0, 15, 0, [])), (15, (7, 19, 1, 0, 18, 0, [])), (18, (7, 18, 2, 0, 21, 0, [])), (21, (16, 2, 0, 0, 24, 0, [])), (24, (0, 0, 0, 6, 26, 0, [])), (26, (2, 1, 0, 0, 29, 33, [])), (29, (0, 0, 0, 1, 30, 0, [])), (30, (3, 0, 0, 0, 0, 34, [])), (33, (0, 0, 0, 0, 34, 0, [])), (34, (0, 0, 0, 2, 35, 0, [])), (35, (16, 3, 0, 0, 38, 0, [])), (38, (1, 1, 0, 0, 41, 50, [])), (41, (0, 5, 0, 0, 42, 0, [])), (42, (0, 3, 1, 0, 43, 0, [])), (43, (0, 3, 2, 0, 44, 0, [])), (44, (16, 4, 0, 0, 47, 0, [])), (47, (1, 1, 0, 0, 50, 52, [])), (50, (0, 0, 0, 0, 51, 0, [])), (51, (14, 0, 0, 1, 0, 0, [])), (52, (0, 5, 0, 0, 53, 0, [])), (53, (0, 3, 1, 0, 54, 0, [])), (54, (0, 3, 2, 0, 55, 0, [])), (55, (16, 5, 0, 0, 58, 0, [])), (58, (0, 10, 0, 0, 59, 0, [])), (59, (0, 0, 0, 1, 60, 0, [])), (60, (14, 0, 0, 1, 0, 0, []))], [(none, 2, []), (some 19, 3, []), (some 6, 1, []), (some 19, 3, []), (some 19, 3, []), (some 19, 3, [])], [], [], [])
theorem gd_yX14_tellIf_X : ck_dec prog_14_method_34_code gt_yX14_tellIf_X ge_yX14_tellIf_X.2.2.2.2.1 = true := by decide +kernel
theorem gh_yX14_tellIf_X {l : Launch} {G : am_G} {X : ck_XT} (g : gM l G X) {a : List Value} {h : List am_C} {mc ms : Nat} {Post : am_O → List am_C → Prop} (hay : (am_lay a).length ≤ 3) (H : ∀ (S : ck_SS) (SX : Nat → ck_SX), ck_hs G S SX Post mc ms (ck_cms [am_cm l G yX14_isNoRow (.code yX14_isNoRow prog_14_method_27_code 2 (some .boolean)) 2 42, am_cm l G yX14_start (.code yX14_start prog_14_method_4_code 3 (some .boolean)) 2 42, am_cm l G yJx4a65c_size_8abf5 (.code yJx4a65c_size_8abf5 prog_46_method_8_code 1 (some .int)) 1 20, am_cm l G yX14_refuse (.code yX14_refuse prog_14_method_3_code 3 (some .boolean)) 1 20, am_cm l G yX14_isFit (.code yX14_isFit prog_14_method_31_code 4 (some .boolean)) 4 92, am_cm l G yX14_add (.code yX14_add prog_14_method_32_code 3 (some .int)) 11 294]) ge_yX14_tellIf_X → (∀ pc, ck_sR G S pc) → ck_hw S → zw_hx SX Post mc ms → S 0 (am_ent a 3) [] h 0 0) : am_M l G yX14_tellIf (.code yX14_tellIf prog_14_method_34_code 3 (some .boolean)) 12 316 mc ms a h Post :=
  zw_handX (E := ge_yX14_tellIf_X) (tb := gt_yX14_tellIf_X) (init := false) (cm := (ck_cms [am_cm l G yX14_isNoRow (.code yX14_isNoRow prog_14_method_27_code 2 (some .boolean)) 2 42, am_cm l G yX14_start (.code yX14_start prog_14_method_4_code 3 (some .boolean)) 2 42, am_cm l G yJx4a65c_size_8abf5 (.code yJx4a65c_size_8abf5 prog_46_method_8_code 1 (some .int)) 1 20, am_cm l G yX14_refuse (.code yX14_refuse prog_14_method_3_code 3 (some .boolean)) 1 20, am_cm l G yX14_isFit (.code yX14_isFit prog_14_method_31_code 4 (some .boolean)) 4 92, am_cm l G yX14_add (.code yX14_add prog_14_method_32_code 3 (some .int)) 11 294])) g.1.1 (by decide +kernel) rfl gd_yX14_tellIf_X ⟨(List.forall_mem_nil _), (List.forall_mem_nil _), (List.forall_mem_nil _), (List.forall_mem_cons.mpr ⟨⟨⟨_, _, _, rfl, Or.inl w1718⟩, by decide, _, _, g_fd19_1⟩, (List.forall_mem_cons.mpr ⟨⟨⟨_, _, _, rfl, Or.inl w1703⟩, by decide, _, _, g_fd18_2⟩, (List.forall_mem_nil _)⟩)⟩), (List.forall_mem_nil _), (List.forall_mem_nil _), (List.forall_mem_nil _), (List.forall_mem_nil _)⟩ (List.forall_mem_nil _) (fun h => nomatch h) ⟨_, rfl, rfl⟩ (by decide) (by decide) g_oi g_ar
    (fun s hk _ => (List.forall_mem_nil _)) (fun s hk => (List.forall_mem_nil _))
    (List.forall_mem_cons.mpr ⟨(ck_kV g_y_yX14_refuse w1751 w1753 w32 (T := TX14) (N := 6) rfl (by decide) (by decide) (by decide)), (List.forall_mem_cons.mpr ⟨(ck_kV g_y_yJx4a65c_size_8abf5 w1898 w1899 w1900 (T := TJx4a65c) (N := 3) rfl (by decide) (by decide) (by decide)), (List.forall_mem_cons.mpr ⟨(ck_kV g_y_yX14_start w1747 w1749 w31 (T := TX14) (N := 6) rfl (by decide) (by decide) (by decide)), (List.forall_mem_cons.mpr ⟨(ck_kV g_y_yX14_add w2026 w2028 w44 (T := TX14) (N := 6) rfl (by decide) (by decide) (by decide)), (List.forall_mem_cons.mpr ⟨(ck_kV g_y_yX14_isFit w2037 w2039 w45 (T := TX14) (N := 6) rfl (by decide) (by decide) (by decide)), (List.forall_mem_nil _)⟩)⟩)⟩)⟩)⟩) (List.forall_mem_nil _) (List.forall_mem_cons.mpr ⟨(ck_kS g_y_yX14_isNoRow w2023 w2024 (by decide) (by decide)), (List.forall_mem_nil _)⟩) (List.forall_mem_nil _)
    (List.forall_mem_nil _) hay H
def gt_yX14_drop_X : ck_TB := ([], [], [], [(18, 19, 1), (160, 18, 2)], [], [], [], [], ([(51, 4), (55, 3), (59, 1), (62, 2), (179, 0)], [], [], []), [], [], [], 0)
def ge_yX14_drop_X : ck_E := (gT, [], (([], [], [], 0, []), ((0, []), (0, [])), [], [], ([], [], [], 0, []), []), 2, [(0, (0, 5, 0, 0, 1, 0, [])), (1, (0, 5, 0, 0, 2, 0, [])), (2, (0, 3, 1, 0, 3, 0, [])), (3, (16, 0, 0, 0, 6, 0, [])), (6, (0, 0, 0, 1, 7, 0, [])), (7, (16, 1, 0, 0, 10, 0, [])), (10, (1, 0, 0, 0, 13, 15, [])), (13, (0, 0, 0, 0, 14, 0, [])), (14, (14, 0, 0, 0, 0, 0, [])), (15, (0, 5, 0, 0, 16, 0, [])), (16, (16, 2, 0, 0, 19, 0, [])), (19, (0, 5, 0, 0, 20, 0, [])), (20, (7, 19, 1, 0, 23, 0, [])), (23, (7, 18, 2, 0, 26, 0, [])), (26, (0, 3, 1, 0, 27, 0, [])), (27, (16, 3, 0, 0, 30, 0, [])), (30, (0, 10, 0, 0, 31, 0, [])), (31, (0, 5, 0, 0, 32, 0, [])), (32, (7, 19, 1, 0, 35, 0, [])), (35, (7, 18, 2, 0, 38, 0, [])), (38, (16, 4, 0, 0, 41, 0, [])), (41, (14, 0, 0, 0, 0, 0, []))], [(some 19, 2, []), (some 19, 3, []), (some 19, 1, []), (some 6, 2, []), (some 6, 1, [])], [], [], [])
theorem gd_yX14_drop_X : ck_dec prog_14_method_36_code gt_yX14_drop_X ge_yX14_drop_X.2.2.2.2.1 = true := by decide +kernel
theorem gh_yX14_drop_X {l : Launch} {G : am_G} {X : ck_XT} (g : gM l G X) {a : List Value} {h : List am_C} {mc ms : Nat} {Post : am_O → List am_C → Prop} (hay : (am_lay a).length ≤ 2) (H : ∀ (S : ck_SS) (SX : Nat → ck_SX), ck_hs G S SX Post mc ms (ck_cms [am_cm l G yX14_isNoPlace (.code yX14_isNoPlace prog_14_method_35_code 2 (some .boolean)) 2 42, am_cm l G yX14_start (.code yX14_start prog_14_method_4_code 3 (some .boolean)) 2 42, am_cm l G yX14_keep (.code yX14_keep prog_14_method_9_code 1 none) 10 274, am_cm l G yJx4a65c_remove_915e3 (.code yJx4a65c_remove_915e3 prog_46_method_29_code 4 (some (.object "java/lang/Object"))) 3 82, am_cm l G yJx4a65c_size_8abf5 (.code yJx4a65c_size_8abf5 prog_46_method_8_code 1 (some .int)) 1 20]) ge_yX14_drop_X → (∀ pc, ck_sR G S pc) → ck_hw S → zw_hx SX Post mc ms → S 0 (am_ent a 2) [] h 0 0) : am_M l G yX14_drop (.code yX14_drop prog_14_method_36_code 2 (some .int)) 11 294 mc ms a h Post :=
  zw_handX (E := ge_yX14_drop_X) (tb := gt_yX14_drop_X) (init := false) (cm := (ck_cms [am_cm l G yX14_isNoPlace (.code yX14_isNoPlace prog_14_method_35_code 2 (some .boolean)) 2 42, am_cm l G yX14_start (.code yX14_start prog_14_method_4_code 3 (some .boolean)) 2 42, am_cm l G yX14_keep (.code yX14_keep prog_14_method_9_code 1 none) 10 274, am_cm l G yJx4a65c_remove_915e3 (.code yJx4a65c_remove_915e3 prog_46_method_29_code 4 (some (.object "java/lang/Object"))) 3 82, am_cm l G yJx4a65c_size_8abf5 (.code yJx4a65c_size_8abf5 prog_46_method_8_code 1 (some .int)) 1 20])) g.1.1 (by decide +kernel) rfl gd_yX14_drop_X ⟨(List.forall_mem_nil _), (List.forall_mem_nil _), (List.forall_mem_nil _), (List.forall_mem_cons.mpr ⟨⟨⟨_, _, _, rfl, Or.inl w1718⟩, by decide, _, _, g_fd19_1⟩, (List.forall_mem_cons.mpr ⟨⟨⟨_, _, _, rfl, Or.inl w1703⟩, by decide, _, _, g_fd18_2⟩, (List.forall_mem_nil _)⟩)⟩), (List.forall_mem_nil _), (List.forall_mem_nil _), (List.forall_mem_nil _), (List.forall_mem_nil _)⟩ (List.forall_mem_nil _) (fun h => nomatch h) ⟨_, rfl, rfl⟩ (by decide) (by decide) g_oi g_ar
    (fun s hk _ => (List.forall_mem_nil _)) (fun s hk => (List.forall_mem_nil _))
    (List.forall_mem_cons.mpr ⟨(ck_kV g_y_yJx4a65c_size_8abf5 w1898 w1899 w1900 (T := TJx4a65c) (N := 3) rfl (by decide) (by decide) (by decide)), (List.forall_mem_cons.mpr ⟨(ck_kV g_y_yJx4a65c_remove_915e3 w1902 w1903 w1904 (T := TJx4a65c) (N := 3) rfl (by decide) (by decide) (by decide)), (List.forall_mem_cons.mpr ⟨(ck_kV g_y_yX14_start w1747 w1749 w31 (T := TX14) (N := 6) rfl (by decide) (by decide) (by decide)), (List.forall_mem_cons.mpr ⟨(ck_kV g_y_yX14_keep w1755 w1757 w33 (T := TX14) (N := 6) rfl (by decide) (by decide) (by decide)), (List.forall_mem_cons.mpr ⟨(ck_kV g_y_yX14_isNoPlace w2064 w2066 w46 (T := TX14) (N := 6) rfl (by decide) (by decide) (by decide)), (List.forall_mem_nil _)⟩)⟩)⟩)⟩)⟩) (List.forall_mem_nil _) (List.forall_mem_nil _) (List.forall_mem_nil _)
    (List.forall_mem_nil _) hay H
def gt_yX14_base_X : ck_TB := ([], [], [], [(18, 19, 1), (182, 18, 3)], [], [], [], [(185, [2])], ([(35, 8), (47, 11), (51, 7), (59, 6), (62, 9), (135, 0), (187, 3)], [], [(39, 4), (157, 5), (190, 10)], [(139, 1), (144, 2)]), [], [], [], 0)
def ge_yX14_base_X : ck_E := (gT, [], (([], [], [], 0, []), ((0, []), (0, [])), [], [], ([], [], [], 0, []), []), 5, [(0, (0, 0, 0, 0, 1, 0, [])), (1, (0, 6, 2, 0, 2, 0, [])), (2, (0, 5, 0, 0, 3, 0, [])), (3, (7, 19, 1, 0, 6, 0, [])), (6, (7, 18, 3, 0, 9, 0, [])), (9, (16, 0, 0, 0, 12, 0, [])), (12, (0, 8, 3, 0, 13, 0, [])), (13, (0, 5, 3, 0, 14, 0, [])), (14, (16, 1, 0, 0, 19, 0, [])), (19, (1, 0, 0, 0, 22, 68, [])), (22, (0, 5, 3, 0, 23, 0, [])), (23, (16, 2, 0, 0, 28, 0, [])), (28, (19, 0, 0, 0, 31, 0, [(0, 2)])), (31, (16, 3, 0, 0, 34, 0, [])), (34, (0, 6, 4, 0, 36, 0, [])), (36, (0, 3, 2, 0, 37, 0, [])), (37, (0, 3, 1, 0, 38, 0, [])), (38, (0, 0, 0, 2, 39, 0, [])), (39, (0, 0, 0, 999, 42, 0, [])), (42, (16, 4, 0, 0, 45, 0, [])), (45, (1, 0, 0, 0, 48, 62, [])), (48, (0, 3, 1, 0, 49, 0, [])), (49, (0, 3, 4, 0, 51, 0, [])), (51, (16, 5, 0, 0, 54, 0, [])), (54, (0, 0, 0, 1, 55, 0, [])), (55, (2, 0, 0, 0, 58, 62, [])), (58, (0, 0, 0, 1, 59, 0, [])), (59, (3, 0, 0, 0, 0, 63, [])), (62, (0, 0, 0, 0, 63, 0, [])), (63, (0, 15, 6, 0, 64, 0, [])), (64, (0, 6, 2, 0, 65, 0, [])), (65, (3, 0, 0, 0, 0, 13, [])), (68, (0, 5, 0, 0, 69, 0, [])), (69, (0, 3, 1, 0, 70, 0, [])), (70, (0, 0, 0, 2, 71, 0, [])), (71, (0, 0, 0, 999, 74, 0, [])), (74, (16, 4, 0, 0, 77, 0, [])), (77, (1, 1, 0, 0, 80, 84, [])), (80, (0, 0, 0, 1, 81, 0, [])), (81, (3, 0, 0, 0, 0, 85, [])), (84, (0, 0, 0, 0, 85, 0, [])), (85, (0, 0, 0, 1, 86, 0, [])), (86, (16, 6, 0, 0, 89, 0, [])), (89, (1, 1, 0, 0, 92, 123, [])), (92, (0, 5, 0, 0, 93, 0, [])), (93, (0, 5, 0, 0, 94, 0, [])), (94, (7, 19, 1, 0, 97, 0, [])), (97, (7, 18, 3, 0, 100, 0, [])), (100, (16, 7, 0, 0, 103, 0, [])), (103, (0, 0, 0, 5, 104, 0, [])), (104, (2, 0, 0, 0, 107, 111, [])), (107, (0, 3, 2, 0, 108, 0, [])), (108, (1, 0, 0, 0, 111, 115, [])), (111, (0, 0, 0, 1, 112, 0, [])), (112, (3, 0, 0, 0, 0, 116, [])), (115, (0, 0, 0, 0, 116, 0, [])), (116, (0, 0, 0, 2, 117, 0, [])), (117, (16, 8, 0, 0, 120, 0, [])), (120, (1, 0, 0, 0, 123, 125, [])), (123, (0, 0, 0, 0, 124, 0, [])), (124, (14, 0, 0, 0, 0, 0, [])), (125, (0, 5, 0, 0, 126, 0, [])), (126, (16, 9, 0, 0, 129, 0, [])), (129, (0, 5, 0, 0, 130, 0, [])), (130, (7, 19, 1, 0, 133, 0, [])), (133, (7, 18, 3, 0, 136, 0, [])), (136, (0, 3, 1, 0, 137, 0, [])), (137, (16, 10, 0, 0, 140, 0, [])), (140, (16, 11, 0, 0, 143, 0, [])), (143, (0, 10, 0, 0, 144, 0, [])), (144, (0, 5, 0, 0, 145, 0, [])), (145, (7, 19, 1, 0, 148, 0, [])), (148, (7, 18, 3, 0, 151, 0, [])), (151, (16, 7, 0, 0, 154, 0, [])), (154, (0, 0, 0, 1, 155, 0, [])), (155, (0, 15, 1, 0, 156, 0, [])), (156, (14, 0, 0, 0, 0, 0, []))], [(some 6, 1, []), (some 5, 1, []), (some 5, 1, []), (some 2, 1, []), (none, 3, []), (none, 2, []), (some 19, 3, []), (some 6, 1, []), (some 19, 3, []), (some 19, 1, []), (none, 1, []), (some 6, 2, [])], [], [], [])
theorem gd_yX14_base_X : ck_dec prog_14_method_37_code gt_yX14_base_X ge_yX14_base_X.2.2.2.2.1 = true := by decide +kernel
theorem gh_yX14_base_X {l : Launch} {G : am_G} {X : ck_XT} (g : gM l G X) {a : List Value} {h : List am_C} {mc ms : Nat} {Post : am_O → List am_C → Prop} (hay : (am_lay a).length ≤ 5) (H : ∀ (S : ck_SS) (SX : Nat → ck_SX), ck_hs G S SX Post mc ms (ck_cms [am_cm l G yJx4a65c_iterator_32c93 (.code yJx4a65c_iterator_32c93 prog_46_method_55_code 1 (some (.object "java/util/Iterator"))) 2 41, am_cn l G yJx35411_hasNext_aae02 (.code yJx35411_hasNext_aae02 prog_47_method_2_code 1 (some .boolean)) 1 20, am_cn l G yJx35411_next_0502b (.code yJx35411_next_0502b prog_47_method_3_code 3 (some (.object "java/lang/Object"))) 2 40, am_cm l G yJ6_intValue_8abf5 (.code yJ6_intValue_8abf5 prog_28_method_27_code 1 (some .int)) 1 20, am_cm l G yX14_isIn (.code yX14_isIn prog_14_method_5_code 3 (some .boolean)) 1 20, am_cm l G yX14_gcdOf (.code yX14_gcdOf prog_14_method_8_code 4 (some .int)) 1 20, am_cm l G yX14_start (.code yX14_start prog_14_method_4_code 3 (some .boolean)) 2 42, am_cm l G yJx4a65c_size_8abf5 (.code yJx4a65c_size_8abf5 prog_46_method_8_code 1 (some .int)) 1 20, am_cm l G yX14_refuse (.code yX14_refuse prog_14_method_3_code 3 (some .boolean)) 1 20, am_cm l G yX14_keep (.code yX14_keep prog_14_method_9_code 1 none) 10 274, am_cm l G yJ6_valueOf_2dffe (.code yJ6_valueOf_2dffe prog_28_method_22_code 1 (some (.object "java/lang/Integer"))) 3 61, am_cm l G yJx4a65c_add_9ea2d (.code yJx4a65c_add_9ea2d prog_46_method_25_code 2 (some .boolean)) 8 230]) ge_yX14_base_X → (∀ pc, ck_sR G S pc) → ck_hw S → zw_hx SX Post mc ms → S 0 (am_ent a 5) [] h 0 0) : am_M l G yX14_base (.code yX14_base prog_14_method_37_code 5 (some .int)) 11 294 mc ms a h Post :=
  zw_handX (E := ge_yX14_base_X) (tb := gt_yX14_base_X) (init := false) (cm := (ck_cms [am_cm l G yJx4a65c_iterator_32c93 (.code yJx4a65c_iterator_32c93 prog_46_method_55_code 1 (some (.object "java/util/Iterator"))) 2 41, am_cn l G yJx35411_hasNext_aae02 (.code yJx35411_hasNext_aae02 prog_47_method_2_code 1 (some .boolean)) 1 20, am_cn l G yJx35411_next_0502b (.code yJx35411_next_0502b prog_47_method_3_code 3 (some (.object "java/lang/Object"))) 2 40, am_cm l G yJ6_intValue_8abf5 (.code yJ6_intValue_8abf5 prog_28_method_27_code 1 (some .int)) 1 20, am_cm l G yX14_isIn (.code yX14_isIn prog_14_method_5_code 3 (some .boolean)) 1 20, am_cm l G yX14_gcdOf (.code yX14_gcdOf prog_14_method_8_code 4 (some .int)) 1 20, am_cm l G yX14_start (.code yX14_start prog_14_method_4_code 3 (some .boolean)) 2 42, am_cm l G yJx4a65c_size_8abf5 (.code yJx4a65c_size_8abf5 prog_46_method_8_code 1 (some .int)) 1 20, am_cm l G yX14_refuse (.code yX14_refuse prog_14_method_3_code 3 (some .boolean)) 1 20, am_cm l G yX14_keep (.code yX14_keep prog_14_method_9_code 1 none) 10 274, am_cm l G yJ6_valueOf_2dffe (.code yJ6_valueOf_2dffe prog_28_method_22_code 1 (some (.object "java/lang/Integer"))) 3 61, am_cm l G yJx4a65c_add_9ea2d (.code yJx4a65c_add_9ea2d prog_46_method_25_code 2 (some .boolean)) 8 230])) g.1.1 (by decide +kernel) rfl gd_yX14_base_X ⟨(List.forall_mem_nil _), (List.forall_mem_nil _), (List.forall_mem_nil _), (List.forall_mem_cons.mpr ⟨⟨⟨_, _, _, rfl, Or.inl w1718⟩, by decide, _, _, g_fd19_1⟩, (List.forall_mem_cons.mpr ⟨⟨⟨_, _, _, rfl, Or.inl w1705⟩, by decide, _, _, g_fd18_3⟩, (List.forall_mem_nil _)⟩)⟩), (List.forall_mem_nil _), (List.forall_mem_nil _), (List.forall_mem_nil _), (List.forall_mem_nil _)⟩ (List.forall_mem_nil _) (fun h => nomatch h) ⟨_, rfl, rfl⟩ (by decide) (by decide) g_oi g_ar
    (fun s hk _ => (List.forall_mem_nil _)) (fun s hk => (List.forall_mem_cons.mpr ⟨⟨_, w2072, (List.forall_mem_cons.mpr ⟨am_isa_obj hk (ci := 2) rfl (by decide), (List.forall_mem_nil _)⟩)⟩, (List.forall_mem_nil _)⟩))
    (List.forall_mem_cons.mpr ⟨(ck_kV g_y_yX14_refuse w1751 w1753 w32 (T := TX14) (N := 6) rfl (by decide) (by decide) (by decide)), (List.forall_mem_cons.mpr ⟨(ck_kV g_y_yJx4a65c_add_9ea2d w1897 w1818 w1819 (T := TJx4a65c) (N := 3) rfl (by decide) (by decide) (by decide)), (List.forall_mem_cons.mpr ⟨(ck_kV g_y_yJx4a65c_size_8abf5 w1898 w1899 w1900 (T := TJx4a65c) (N := 3) rfl (by decide) (by decide) (by decide)), (List.forall_mem_cons.mpr ⟨(ck_kV g_y_yX14_start w1747 w1749 w31 (T := TX14) (N := 6) rfl (by decide) (by decide) (by decide)), (List.forall_mem_cons.mpr ⟨(ck_kV g_y_yX14_keep w1755 w1757 w33 (T := TX14) (N := 6) rfl (by decide) (by decide) (by decide)), (List.forall_mem_cons.mpr ⟨(ck_kV g_y_yJx4a65c_iterator_32c93 w2044 w1771 w1772 (T := TJx4a65c) (N := 3) rfl (by decide) (by decide) (by decide)), (List.forall_mem_cons.mpr ⟨(ck_kV g_y_yJ6_intValue_8abf5 w2073 w1874 w1875 (T := TJ6) (N := 1) rfl (by decide) (by decide) (by decide)), (List.forall_mem_nil _)⟩)⟩)⟩)⟩)⟩)⟩)⟩) (List.forall_mem_nil _) (List.forall_mem_cons.mpr ⟨(ck_kS g_y_yX14_isIn w1744 w1745 (by decide) (by decide)), (List.forall_mem_cons.mpr ⟨(ck_kS g_y_yX14_gcdOf w2056 w2057 (by decide) (by decide)), (List.forall_mem_cons.mpr ⟨(ck_kS g_y_yJ6_valueOf_2dffe w2074 w1878 (by decide) (by decide)), (List.forall_mem_nil _)⟩)⟩)⟩) (List.forall_mem_cons.mpr ⟨(ck_kF (x := ({ cls := "java/util/Iterator", name := "hasNext", desc := "()Z" } : MethodName)) g_y_yJx35411_hasNext_aae02 w2046 w1798 w1800 w1796 w1795 w1801 w1799 w1797 (by decide +kernel) (T := TJx35411) (N := 4) rfl (by decide) (by decide) (by decide)), (List.forall_mem_cons.mpr ⟨(ck_kF (x := ({ cls := "java/util/Iterator", name := "next", desc := "()Ljava/lang/Object;" } : MethodName)) g_y_yJx35411_next_0502b w2048 w1807 w1809 w1806 w1805 w1810 w1808 w1797 (by decide +kernel) (T := TJx35411) (N := 4) rfl (by decide) (by decide) (by decide)), (List.forall_mem_nil _)⟩)⟩)
    (List.forall_mem_nil _) hay H
def gt_yX14_unbase_X : ck_TB := ([], [], [], [(18, 19, 1), (182, 18, 3)], [], [], [], [(185, [2])], ([(51, 3), (55, 4), (59, 1), (62, 2), (187, 5), (194, 0)], [], [], []), [], [], [], 0)
def ge_yX14_unbase_X : ck_E := (gT, [], (([], [], [], 0, []), ((0, []), (0, [])), [], [], ([], [], [], 0, []), []), 1, [(0, (0, 5, 0, 0, 1, 0, [])), (1, (0, 5, 0, 0, 2, 0, [])), (2, (7, 19, 1, 0, 5, 0, [])), (5, (7, 18, 3, 0, 8, 0, [])), (8, (16, 0, 0, 0, 11, 0, [])), (11, (0, 0, 0, 1, 12, 0, [])), (12, (16, 1, 0, 0, 15, 0, [])), (15, (1, 0, 0, 0, 18, 20, [])), (18, (0, 0, 0, 0, 19, 0, [])), (19, (14, 0, 0, 0, 0, 0, [])), (20, (0, 5, 0, 0, 21, 0, [])), (21, (16, 2, 0, 0, 24, 0, [])), (24, (0, 5, 0, 0, 25, 0, [])), (25, (7, 19, 1, 0, 28, 0, [])), (28, (7, 18, 3, 0, 31, 0, [])), (31, (0, 5, 0, 0, 32, 0, [])), (32, (7, 19, 1, 0, 35, 0, [])), (35, (7, 18, 3, 0, 38, 0, [])), (38, (16, 3, 0, 0, 41, 0, [])), (41, (0, 0, 0, 1, 42, 0, [])), (42, (0, 15, 1, 0, 43, 0, [])), (43, (16, 4, 0, 0, 46, 0, [])), (46, (19, 0, 0, 0, 49, 0, [(0, 2)])), (49, (16, 5, 0, 0, 52, 0, [])), (52, (14, 0, 0, 0, 0, 0, []))], [(some 6, 1, []), (some 19, 3, []), (some 19, 1, []), (some 6, 1, []), (some 6, 2, []), (some 2, 1, [])], [], [], [])
theorem gd_yX14_unbase_X : ck_dec prog_14_method_38_code gt_yX14_unbase_X ge_yX14_unbase_X.2.2.2.2.1 = true := by decide +kernel
theorem gh_yX14_unbase_X {l : Launch} {G : am_G} {X : ck_XT} (g : gM l G X) {a : List Value} {h : List am_C} {mc ms : Nat} {Post : am_O → List am_C → Prop} (hay : (am_lay a).length ≤ 1) (H : ∀ (S : ck_SS) (SX : Nat → ck_SX), ck_hs G S SX Post mc ms (ck_cms [am_cm l G yJx4a65c_isEmpty_aae02 (.code yJx4a65c_isEmpty_aae02 prog_46_method_9_code 1 (some .boolean)) 1 20, am_cm l G yX14_start (.code yX14_start prog_14_method_4_code 3 (some .boolean)) 2 42, am_cm l G yX14_keep (.code yX14_keep prog_14_method_9_code 1 none) 10 274, am_cm l G yJx4a65c_size_8abf5 (.code yJx4a65c_size_8abf5 prog_46_method_8_code 1 (some .int)) 1 20, am_cm l G yJx4a65c_remove_915e3 (.code yJx4a65c_remove_915e3 prog_46_method_29_code 4 (some (.object "java/lang/Object"))) 3 82, am_cm l G yJ6_intValue_8abf5 (.code yJ6_intValue_8abf5 prog_28_method_27_code 1 (some .int)) 1 20]) ge_yX14_unbase_X → (∀ pc, ck_sR G S pc) → ck_hw S → zw_hx SX Post mc ms → S 0 (am_ent a 1) [] h 0 0) : am_M l G yX14_unbase (.code yX14_unbase prog_14_method_38_code 1 (some .int)) 11 294 mc ms a h Post :=
  zw_handX (E := ge_yX14_unbase_X) (tb := gt_yX14_unbase_X) (init := false) (cm := (ck_cms [am_cm l G yJx4a65c_isEmpty_aae02 (.code yJx4a65c_isEmpty_aae02 prog_46_method_9_code 1 (some .boolean)) 1 20, am_cm l G yX14_start (.code yX14_start prog_14_method_4_code 3 (some .boolean)) 2 42, am_cm l G yX14_keep (.code yX14_keep prog_14_method_9_code 1 none) 10 274, am_cm l G yJx4a65c_size_8abf5 (.code yJx4a65c_size_8abf5 prog_46_method_8_code 1 (some .int)) 1 20, am_cm l G yJx4a65c_remove_915e3 (.code yJx4a65c_remove_915e3 prog_46_method_29_code 4 (some (.object "java/lang/Object"))) 3 82, am_cm l G yJ6_intValue_8abf5 (.code yJ6_intValue_8abf5 prog_28_method_27_code 1 (some .int)) 1 20])) g.1.1 (by decide +kernel) rfl gd_yX14_unbase_X ⟨(List.forall_mem_nil _), (List.forall_mem_nil _), (List.forall_mem_nil _), (List.forall_mem_cons.mpr ⟨⟨⟨_, _, _, rfl, Or.inl w1718⟩, by decide, _, _, g_fd19_1⟩, (List.forall_mem_cons.mpr ⟨⟨⟨_, _, _, rfl, Or.inl w1705⟩, by decide, _, _, g_fd18_3⟩, (List.forall_mem_nil _)⟩)⟩), (List.forall_mem_nil _), (List.forall_mem_nil _), (List.forall_mem_nil _), (List.forall_mem_nil _)⟩ (List.forall_mem_nil _) (fun h => nomatch h) ⟨_, rfl, rfl⟩ (by decide) (by decide) g_oi g_ar
    (fun s hk _ => (List.forall_mem_nil _)) (fun s hk => (List.forall_mem_cons.mpr ⟨⟨_, w2072, (List.forall_mem_cons.mpr ⟨am_isa_obj hk (ci := 2) rfl (by decide), (List.forall_mem_nil _)⟩)⟩, (List.forall_mem_nil _)⟩))
    (List.forall_mem_cons.mpr ⟨(ck_kV g_y_yJx4a65c_size_8abf5 w1898 w1899 w1900 (T := TJx4a65c) (N := 3) rfl (by decide) (by decide) (by decide)), (List.forall_mem_cons.mpr ⟨(ck_kV g_y_yJx4a65c_remove_915e3 w1902 w1903 w1904 (T := TJx4a65c) (N := 3) rfl (by decide) (by decide) (by decide)), (List.forall_mem_cons.mpr ⟨(ck_kV g_y_yX14_start w1747 w1749 w31 (T := TX14) (N := 6) rfl (by decide) (by decide) (by decide)), (List.forall_mem_cons.mpr ⟨(ck_kV g_y_yX14_keep w1755 w1757 w33 (T := TX14) (N := 6) rfl (by decide) (by decide) (by decide)), (List.forall_mem_cons.mpr ⟨(ck_kV g_y_yJ6_intValue_8abf5 w2073 w1874 w1875 (T := TJ6) (N := 1) rfl (by decide) (by decide) (by decide)), (List.forall_mem_cons.mpr ⟨(ck_kV g_y_yJx4a65c_isEmpty_aae02 w2079 w2080 w2081 (T := TJx4a65c) (N := 3) rfl (by decide) (by decide) (by decide)), (List.forall_mem_nil _)⟩)⟩)⟩)⟩)⟩)⟩) (List.forall_mem_nil _) (List.forall_mem_nil _) (List.forall_mem_nil _)
    (List.forall_mem_nil _) hay H
def gt_yX14_undo_X : ck_TB := ([], [], [], [(27, 19, 2)], [(18, 19, 1, 4)], [], [], [(7, [18])], ([(51, 2), (55, 3), (59, 1), (194, 0)], [], [], []), [], [], [], 0)
def ge_yX14_undo_X : ck_E := (gT, [], (([], [], [], 0, []), ((0, []), (0, [])), [], [], ([], [], [], 0, []), []), 1, [(0, (0, 5, 0, 0, 1, 0, [])), (1, (0, 5, 0, 0, 2, 0, [])), (2, (7, 19, 2, 0, 5, 0, [])), (5, (16, 0, 0, 0, 8, 0, [])), (8, (0, 0, 0, 1, 9, 0, [])), (9, (16, 1, 0, 0, 12, 0, [])), (12, (1, 0, 0, 0, 15, 17, [])), (15, (0, 0, 0, 0, 16, 0, [])), (16, (14, 0, 0, 0, 0, 0, [])), (17, (0, 5, 0, 0, 18, 0, [])), (18, (0, 5, 0, 0, 19, 0, [])), (19, (7, 19, 2, 0, 22, 0, [])), (22, (0, 5, 0, 0, 23, 0, [])), (23, (7, 19, 2, 0, 26, 0, [])), (26, (16, 2, 0, 0, 29, 0, [])), (29, (0, 0, 0, 1, 30, 0, [])), (30, (0, 15, 1, 0, 31, 0, [])), (31, (16, 3, 0, 0, 34, 0, [])), (34, (19, 0, 0, 0, 37, 0, [(0, 18)])), (37, (8, 19, 1, 4, 40, 0, [])), (40, (0, 5, 0, 0, 41, 0, [])), (41, (7, 19, 2, 0, 44, 0, [])), (44, (16, 2, 0, 0, 47, 0, [])), (47, (14, 0, 0, 0, 0, 0, []))], [(some 6, 1, []), (some 19, 3, []), (some 6, 1, []), (some 6, 2, [])], [], [], [])
theorem gd_yX14_undo_X : ck_dec prog_14_method_39_code gt_yX14_undo_X ge_yX14_undo_X.2.2.2.2.1 = true := by decide +kernel
theorem gh_yX14_undo_X {l : Launch} {G : am_G} {X : ck_XT} (g : gM l G X) {a : List Value} {h : List am_C} {mc ms : Nat} {Post : am_O → List am_C → Prop} (hay : (am_lay a).length ≤ 1) (H : ∀ (S : ck_SS) (SX : Nat → ck_SX), ck_hs G S SX Post mc ms (ck_cms [am_cm l G yJx4a65c_isEmpty_aae02 (.code yJx4a65c_isEmpty_aae02 prog_46_method_9_code 1 (some .boolean)) 1 20, am_cm l G yX14_start (.code yX14_start prog_14_method_4_code 3 (some .boolean)) 2 42, am_cm l G yJx4a65c_size_8abf5 (.code yJx4a65c_size_8abf5 prog_46_method_8_code 1 (some .int)) 1 20, am_cm l G yJx4a65c_remove_915e3 (.code yJx4a65c_remove_915e3 prog_46_method_29_code 4 (some (.object "java/lang/Object"))) 3 82]) ge_yX14_undo_X → (∀ pc, ck_sR G S pc) → ck_hw S → zw_hx SX Post mc ms → S 0 (am_ent a 1) [] h 0 0) : am_M l G yX14_undo (.code yX14_undo prog_14_method_39_code 1 (some .int)) 4 105 mc ms a h Post :=
  zw_handX (E := ge_yX14_undo_X) (tb := gt_yX14_undo_X) (init := false) (cm := (ck_cms [am_cm l G yJx4a65c_isEmpty_aae02 (.code yJx4a65c_isEmpty_aae02 prog_46_method_9_code 1 (some .boolean)) 1 20, am_cm l G yX14_start (.code yX14_start prog_14_method_4_code 3 (some .boolean)) 2 42, am_cm l G yJx4a65c_size_8abf5 (.code yJx4a65c_size_8abf5 prog_46_method_8_code 1 (some .int)) 1 20, am_cm l G yJx4a65c_remove_915e3 (.code yJx4a65c_remove_915e3 prog_46_method_29_code 4 (some (.object "java/lang/Object"))) 3 82])) g.1.1 (by decide +kernel) rfl gd_yX14_undo_X ⟨(List.forall_mem_nil _), (List.forall_mem_nil _), (List.forall_mem_nil _), (List.forall_mem_cons.mpr ⟨⟨⟨_, _, _, rfl, Or.inl w1719⟩, by decide, _, _, g_fd19_2⟩, (List.forall_mem_nil _)⟩), (List.forall_mem_nil _), (List.forall_mem_nil _), (List.forall_mem_nil _), (List.forall_mem_nil _)⟩ (List.forall_mem_cons.mpr ⟨⟨⟨_, _, _, rfl, Or.inl w1718⟩, by decide, _, Or.inl ⟨_, rfl⟩, Or.inl g_fd19_1⟩, (List.forall_mem_nil _)⟩) (fun h => nomatch h) ⟨_, rfl, rfl⟩ (by decide) (by decide) g_oi g_ar
    (fun s hk _ => (List.forall_mem_nil _)) (fun s hk => (List.forall_mem_cons.mpr ⟨⟨_, w1642, (List.forall_mem_cons.mpr ⟨am_isa_obj hk (ci := 18) rfl (by decide), (List.forall_mem_nil _)⟩)⟩, (List.forall_mem_nil _)⟩))
    (List.forall_mem_cons.mpr ⟨(ck_kV g_y_yJx4a65c_size_8abf5 w1898 w1899 w1900 (T := TJx4a65c) (N := 3) rfl (by decide) (by decide) (by decide)), (List.forall_mem_cons.mpr ⟨(ck_kV g_y_yJx4a65c_remove_915e3 w1902 w1903 w1904 (T := TJx4a65c) (N := 3) rfl (by decide) (by decide) (by decide)), (List.forall_mem_cons.mpr ⟨(ck_kV g_y_yX14_start w1747 w1749 w31 (T := TX14) (N := 6) rfl (by decide) (by decide) (by decide)), (List.forall_mem_cons.mpr ⟨(ck_kV g_y_yJx4a65c_isEmpty_aae02 w2079 w2080 w2081 (T := TJx4a65c) (N := 3) rfl (by decide) (by decide) (by decide)), (List.forall_mem_nil _)⟩)⟩)⟩)⟩) (List.forall_mem_nil _) (List.forall_mem_nil _) (List.forall_mem_nil _)
    (List.forall_mem_nil _) hay H
def gt_yX14_knock_X : ck_TB := ([], [], [], [(197, 19, 5)], [(31, 19, 0, 0), (197, 19, 5, 0)], [], [], [], ([], [], [], []), [], [], [], 0)
def ge_yX14_knock_X : ck_E := (gT, [], (([], [], [], 0, []), ((0, []), (0, [])), [], [], ([], [], [], 0, []), []), 1, [(0, (0, 5, 0, 0, 1, 0, [])), (1, (0, 0, 0, 0, 2, 0, [])), (2, (8, 19, 0, 0, 5, 0, [])), (5, (0, 5, 0, 0, 6, 0, [])), (6, (0, 12, 0, 0, 7, 0, [])), (7, (7, 19, 5, 0, 10, 0, [])), (10, (0, 0, 0, 1, 11, 0, [])), (11, (0, 15, 0, 0, 12, 0, [])), (12, (0, 13, 0, 0, 13, 0, [])), (13, (8, 19, 5, 0, 16, 0, [])), (16, (14, 0, 0, 0, 0, 0, []))], [], [], [], [])
theorem gd_yX14_knock_X : ck_dec prog_14_method_40_code gt_yX14_knock_X ge_yX14_knock_X.2.2.2.2.1 = true := by decide +kernel
theorem gh_yX14_knock_X {l : Launch} {G : am_G} {X : ck_XT} (g : gM l G X) {a : List Value} {h : List am_C} {mc ms : Nat} {Post : am_O → List am_C → Prop} (hay : (am_lay a).length ≤ 1) (H : ∀ (S : ck_SS) (SX : Nat → ck_SX), ck_hs G S SX Post mc ms (ck_cms []) ge_yX14_knock_X → (∀ pc, ck_sR G S pc) → ck_hw S → zw_hx SX Post mc ms → S 0 (am_ent a 1) [] h 0 0) : am_M l G yX14_knock (.code yX14_knock prog_14_method_40_code 1 (some .int)) 1 20 mc ms a h Post :=
  zw_handX (E := ge_yX14_knock_X) (tb := gt_yX14_knock_X) (init := false) (cm := (ck_cms [])) g.1.1 (by decide +kernel) rfl gd_yX14_knock_X ⟨(List.forall_mem_nil _), (List.forall_mem_nil _), (List.forall_mem_nil _), (List.forall_mem_cons.mpr ⟨⟨⟨_, _, _, rfl, Or.inl w1722⟩, by decide, _, _, g_fd19_5⟩, (List.forall_mem_nil _)⟩), (List.forall_mem_nil _), (List.forall_mem_nil _), (List.forall_mem_nil _), (List.forall_mem_nil _)⟩ (List.forall_mem_cons.mpr ⟨⟨⟨_, _, _, rfl, Or.inl w1717⟩, by decide, _, rfl, Or.inl g_fd19_0⟩, (List.forall_mem_cons.mpr ⟨⟨⟨_, _, _, rfl, Or.inl w1722⟩, by decide, _, rfl, Or.inl g_fd19_5⟩, (List.forall_mem_nil _)⟩)⟩) (fun h => nomatch h) ⟨_, rfl, rfl⟩ (by decide) (by decide) g_oi g_ar
    (fun s hk _ => (List.forall_mem_nil _)) (fun s hk => (List.forall_mem_nil _))
    (List.forall_mem_nil _) (List.forall_mem_nil _) (List.forall_mem_nil _) (List.forall_mem_nil _)
    (List.forall_mem_nil _) hay H
def gt_yX14_size_X : ck_TB := ([], [], [], [(18, 19, 1), (65, 18, 0)], [(31, 19, 0, 0)], [], [], [], ([], [], [], []), [], [], [], 0)
def ge_yX14_size_X : ck_E := (gT, [], (([], [], [], 0, []), ((0, []), (0, [])), [], [], ([], [], [], 0, []), []), 1, [(0, (0, 5, 0, 0, 1, 0, [])), (1, (0, 0, 0, 0, 2, 0, [])), (2, (8, 19, 0, 0, 5, 0, [])), (5, (0, 5, 0, 0, 6, 0, [])), (6, (7, 19, 1, 0, 9, 0, [])), (9, (7, 18, 0, 0, 12, 0, [])), (12, (14, 0, 0, 0, 0, 0, []))], [], [], [], [])
theorem gd_yX14_size_X : ck_dec prog_14_method_48_code gt_yX14_size_X ge_yX14_size_X.2.2.2.2.1 = true := by decide +kernel
theorem gh_yX14_size_X {l : Launch} {G : am_G} {X : ck_XT} (g : gM l G X) {a : List Value} {h : List am_C} {mc ms : Nat} {Post : am_O → List am_C → Prop} (hay : (am_lay a).length ≤ 1) (H : ∀ (S : ck_SS) (SX : Nat → ck_SX), ck_hs G S SX Post mc ms (ck_cms []) ge_yX14_size_X → (∀ pc, ck_sR G S pc) → ck_hw S → zw_hx SX Post mc ms → S 0 (am_ent a 1) [] h 0 0) : am_M l G yX14_size (.code yX14_size prog_14_method_48_code 1 (some .int)) 1 20 mc ms a h Post :=
  zw_handX (E := ge_yX14_size_X) (tb := gt_yX14_size_X) (init := false) (cm := (ck_cms [])) g.1.1 (by decide +kernel) rfl gd_yX14_size_X ⟨(List.forall_mem_nil _), (List.forall_mem_nil _), (List.forall_mem_nil _), (List.forall_mem_cons.mpr ⟨⟨⟨_, _, _, rfl, Or.inl w1718⟩, by decide, _, _, g_fd19_1⟩, (List.forall_mem_cons.mpr ⟨⟨⟨_, _, _, rfl, Or.inl w1699⟩, by decide, _, _, g_fd18_0⟩, (List.forall_mem_nil _)⟩)⟩), (List.forall_mem_nil _), (List.forall_mem_nil _), (List.forall_mem_nil _), (List.forall_mem_nil _)⟩ (List.forall_mem_cons.mpr ⟨⟨⟨_, _, _, rfl, Or.inl w1717⟩, by decide, _, rfl, Or.inl g_fd19_0⟩, (List.forall_mem_nil _)⟩) (fun h => nomatch h) ⟨_, rfl, rfl⟩ (by decide) (by decide) g_oi g_ar
    (fun s hk _ => (List.forall_mem_nil _)) (fun s hk => (List.forall_mem_nil _))
    (List.forall_mem_nil _) (List.forall_mem_nil _) (List.forall_mem_nil _) (List.forall_mem_nil _)
    (List.forall_mem_nil _) hay H
end
section
/-! THE CALLS OF THE REFERENCE: numbers and dial -/
def zm_Y (G : am_G) (h : List am_C) (x : Nat) (th : Int) (T : sp_T) : Prop := zm_X G h x th T.2.2.1 T.2.2.2.1 T.2.2.2.2 T.1 T.2.1
theorem zm_big {ds : List Int} {b z : Int} {n : Nat} (hi : zn_is ds b z) (hn : 1 ≤ n) (h : (z.natAbs : Int) < 10 ^ n) : ds.length ≤ n := by
  have := (zm_dg hi).le hn h
  split at this <;> omega
theorem zm_mulb {a b : Int} (h1 : sp_in a) (h2 : sp_in b) : ((a * b).natAbs : Int) < 10 ^ 72 := by
  rw [sp_in.abs] at h1 h2
  rw [Int.natAbs_mul]
  have e_ : (10 : Int) ^ 36 = ((10 ^ 36 : Nat) : Int) := by rw [Int.natCast_pow]; rfl
  rw [e_] at h1 h2
  have := Nat.mul_lt_mul'' (Int.ofNat_lt.mp h1) (Int.ofNat_lt.mp h2)
  rw [← Nat.pow_add] at this
  have e2_ : (10 : Int) ^ 72 = ((10 ^ (36 + 36) : Nat) : Int) := by rw [Int.natCast_pow]; rfl
  rw [e2_]
  exact Int.ofNat_lt.mpr this
set_option maxHeartbeats 4000000 in
theorem zm_dial_M {l : Launch} {G : am_G} {X : ck_XT} (g : gM l G X) {o : Nat → Nat} {x tx now qw : Nat} {th j m k : Int} {c : sp_S} {P : List sp_S} {h : List am_C} (hX : zm_x G h o x tx now qw th j m k c P) (hok : sp_ok c) (hp12 : P.length ≤ 12) {e e2 : Int} (he1 : -2147483648 ≤ e) (he2 : e ≤ 2147483647) {mc ms : Nat} {Post : am_O → List am_C → Prop} (hmc : 14 ≤ mc) (hms : 69 ≤ ms)
    (hP : ∀ (a th : Int) (T' : sp_T) (h' : List am_C), sp_d0 e e2 (c, P, j, m, k) a th T' → zm_fr G h h' → zm_Y G h' x th T' → Post (.inl (some (.int (Int32.ofInt a)))) h') :
    am_M l G yX14_dial (.code yX14_dial prog_14_method_10_code 3 (some .int)) 11 294 mc ms [.ref x, .int (Int32.ofInt e)] h Post := by
  refine gh_yX14_dial_X g (Nat.le_of_ble_eq_true rfl) fun S SX hs hr hw hx => ?_
  have rv : ∀ x : Int32, ck_fv 0 (.int x) := fun x => ⟨_, rfl⟩
  obtain ⟨a1_, a2_, a3_, a4_⟩ := id hX
  by_cases c1_ : -9 ≤ e ∧ e ≤ 400
  rotate_left
  · 
    refine hs 0 _ rfl _ _ _ _ _ _ _ rfl ?_
    refine hs 1 _ rfl _ _ _ _ _ _ _ rfl ?_
    refine hs 2 _ rfl _ _ _ _ _ _ _ rfl ?_
    refine hs 3 _ rfl _ _ _ _ _ _ _ rfl ?_
    refine zw_c (hs 4 _ rfl) (a := [.int (Int32.ofInt e), .int (Int32.ofInt (-9 : Int)), .int (Int32.ofInt (400 : Int))]) (st := [.ref x]) rfl rfl (Nat.le_of_ble_eq_true rfl) trivial (by omega) (by omega) (zm_isIn_M g (v := e) (a := (-9)) (b := 400) (by omega) (by omega) (by omega) (by omega) (by omega) (by omega) (fun y_ => absurd y_ (by omega)) (fun y_ => ?_))
    show S 10 [some (.ref x), some (.int (Int32.ofInt e)), none] [.int (Int32.ofInt (0 : Int)), .ref x] _ _ _
    refine hs 5 _ rfl _ _ _ _ _ _ (fun zq => absurd (hd_c1z (c := 1) (by omega) (by omega) zq) (by omega : ¬ ((0 : Int) ≠ 0))) (fun _ => ?_)
    refine hs 6 _ rfl _ _ _ _ _ _ _ rfl ?_
    refine hs 7 _ rfl _ _ _ _ _ ?_
    refine hs 9 _ rfl _ _ _ _ _ _ _ rfl ?_
    refine zw_c (hs 10 _ rfl) (a := [.ref x, .int (Int32.ofInt (1 : Int)), .int (Int32.ofInt (1 : Int))]) (st := []) rfl rfl (Nat.le_of_ble_eq_true rfl) ⟨_, _, _, rfl, a1_, a2_.1⟩ (by omega) (by omega) (zm_start_M g hX (i_ := 1) (w_ := 1) (Or.inr rfl) (by decide) (fun y_ h2_ f2_ x2_ => ?_) (fun y_ => absurd y_ (by decide)))
    show S 22 [some (.ref x), some (.int (Int32.ofInt e)), none] [.int (Int32.ofInt (1 : Int))] _ _ _
    refine hs 11 _ rfl _ _ _ _ _ _ (fun zq => absurd (hd_c1z (c := 0) (by omega) (by omega) zq) (by omega : ¬ ((1 : Int) = 0))) (fun _ => ?_)
    refine hs 12 _ rfl _ _ _ _ _ _ _ rfl ?_
    exact hs 13 _ rfl _ _ _ _ _ (rv _) (by omega) (by omega) (hP 0 _ _ _ (Or.inr ⟨c1_, rfl, rfl⟩) f2_ ⟨_, _, _, _, x2_⟩)
  · have n9_ := hX.lt
    refine hs 0 _ rfl _ _ _ _ _ _ _ rfl ?_
    refine hs 1 _ rfl _ _ _ _ _ _ _ rfl ?_
    refine hs 2 _ rfl _ _ _ _ _ _ _ rfl ?_
    refine hs 3 _ rfl _ _ _ _ _ _ _ rfl ?_
    refine zw_c (hs 4 _ rfl) (a := [.int (Int32.ofInt e), .int (Int32.ofInt (-9 : Int)), .int (Int32.ofInt (400 : Int))]) (st := [.ref x]) rfl rfl (Nat.le_of_ble_eq_true rfl) trivial (by omega) (by omega) (zm_isIn_M g (v := e) (a := (-9)) (b := 400) (by omega) (by omega) (by omega) (by omega) (by omega) (by omega) (fun y_ => ?_) (fun y_ => absurd (by omega) y_))
    show S 10 [some (.ref x), some (.int (Int32.ofInt e)), none] [.int (Int32.ofInt (1 : Int)), .ref x] _ _ _
    refine hs 5 _ rfl _ _ _ _ _ _ (fun _ => ?_) (fun zq => absurd (hd_c1t (c := 1) (by omega) (by omega) (by omega : (1 : Int) ≠ 0)) zq)
    refine hs 8 _ rfl _ _ _ _ _ _ _ rfl ?_
    refine hs 9 _ rfl _ _ _ _ _ _ _ rfl ?_
    refine zw_c (hs 10 _ rfl) (a := [.ref x, .int (Int32.ofInt (0 : Int)), .int (Int32.ofInt (1 : Int))]) (st := []) rfl rfl (Nat.le_of_ble_eq_true rfl) ⟨_, _, _, rfl, a1_, a2_.1⟩ (by omega) (by omega) (zm_start_M g hX (i_ := 0) (w_ := 1) (Or.inl rfl) (by decide) (fun y_ => absurd y_ (by decide)) (fun y_ h2_ f2_ x2_ => ?_))
    show S 22 [some (.ref x), some (.int (Int32.ofInt e)), none] [.int (Int32.ofInt (0 : Int))] _ _ _
    refine hs 11 _ rfl _ _ _ _ _ _ (fun _ => ?_) (fun zq => absurd (hd_c1t (c := 0) (by omega) (by omega) (by omega : (0 : Int) = 0)) zq)
    refine hs 14 _ rfl _ _ _ _ _ _ _ rfl ?_
    refine zw_cm (hs 15 _ rfl) (a := [.ref x]) (st := []) 14 69 rfl rfl (Nat.le_of_ble_eq_true rfl) ⟨_, _, _, rfl, x2_.1, a2_.1⟩ (by omega) (by omega) (zm_keep_M g x2_ hok hp12 (by omega) (by omega) fun h3_ o3_ f3_ x3_ => ?_)
    obtain ⟨t_, qn_, ql_, qb_, s1_, up_⟩ := x3_.dialL
    show S 31 [some (.ref x), some (.int (Int32.ofInt e)), none] [] _ _ _
    refine hs 16 _ rfl _ _ _ _ _ _ _ rfl ?_
    refine hs 17 _ rfl _ _ _ _ _ _ _ _ _ (x3_.1) a2_.1 rfl ?_
    refine hs 18 _ rfl _ _ _ _ _ _ _ _ _ (s1_.1) s1_.2 rfl ?_
    refine hs 19 _ rfl _ _ _ _ _ _ _ rfl ?_
    refine hs 20 _ rfl _ _ _ _ _ _ _ rfl ?_
    refine hs 21 _ rfl _ _ _ _ _ _ _ _ _ (x3_.1) a2_.1 rfl ?_
    refine hs 22 _ rfl _ _ _ _ _ _ _ rfl ?_
    refine zw_U (hs 23 _ rfl) (by omega) (s1_.1) s1_.2 ⟨_, rfl⟩ fun hz323 wz324 => ?_
    have wz324 : hd_w G h3_ hz323 now (t_, [.int (Int32.ofInt e), .ref qn_, .ref ql_, .ref qb_]) := wz324
    have lwz324 := wz324.1
    refine hs 24 _ rfl _ _ _ _ _ _ _ rfl ?_
    exact hs 25 _ rfl _ _ _ _ _ (rv _) (by omega) (by omega) (hP _ _ _ _ (Or.inl ⟨c1_, rfl, rfl, rfl⟩) ((f2_.tr f3_).tr (zm_fr.w wz324 s1_.1 (Or.inr (Or.inl s1_.2)))) ⟨_, _, _, _, up_ _ _ wz324⟩)
theorem zm_rc {G : am_G} {h : List am_C} {o : Nat → Nat} {x tx now qw : Nat} {th j m k : Int} {c : sp_S} {P : List sp_S} {u : List Value} (a : zm_x G h o x tx now qw th j m k c P) : ck_rcv G (some 19) (.ref x :: u) h := ⟨_, _, _, rfl, a.1, a.2.1.1⟩
set_option maxHeartbeats 4000000 in
theorem zm_set_M {l : Launch} {G : am_G} {X : ck_XT} (g : gM l G X) {o : Nat → Nat} {x tx now qw : Nat} {th j m k : Int} {c : sp_S} {P : List sp_S} {h : List am_C} (hX : zm_x G h o x tx now qw th j m k c P) (hok : sp_ok c) (hp12 : P.length ≤ 12) {e e2 : Int} (he1 : -2147483648 ≤ e) (he2 : e ≤ 2147483647) (hf1 : -2147483648 ≤ e2) (hf2 : e2 ≤ 2147483647) {mc ms : Nat} {Post : am_O → List am_C → Prop} (hmc : 17 ≤ mc) (hms : 111 ≤ ms)
    (hP : ∀ (a th : Int) (T' : sp_T) (h' : List am_C), sp_d1 e e2 (c, P, j, m, k) a th T' → zm_fr G h h' → zm_Y G h' x th T' → Post (.inl (some (.int (Int32.ofInt a)))) h') :
    am_M l G yX14_set (.code yX14_set prog_14_method_12_code 3 (some .int)) 12 316 mc ms [.ref x, .int (Int32.ofInt e), .int (Int32.ofInt e2)] h Post := by
  refine gh_yX14_set_X g (Nat.le_of_ble_eq_true rfl) fun S SX hs hr hw hx => ?_
  have rv : ∀ x : Int32, ck_fv 0 (.int x) := fun x => ⟨_, rfl⟩
  obtain ⟨a1_, a2_, a3_, a4_⟩ := id hX
  by_cases c1_ : sp_s1 e
  rotate_left
  · have c1b_ : ¬ (0 ≤ e ∧ e < 6) := c1_
    refine hs 0 _ rfl _ _ _ _ _ _ _ rfl ?_
    refine hs 1 _ rfl _ _ _ _ _ _ _ rfl ?_
    refine zw_c (hs 2 _ rfl) (a := [.int (Int32.ofInt e)]) (st := [.ref x]) rfl rfl (Nat.le_of_ble_eq_true rfl) trivial (by omega) (by omega) (zm_noSlot_M g (e := e) (by omega) (by omega) (fun y_ => ?_) (fun y_ => absurd y_ (by omega)))
    show S 5 [some (.ref x), some (.int (Int32.ofInt e)), some (.int (Int32.ofInt e2))] [.int (Int32.ofInt (1 : Int)), .ref x] _ _ _
    refine hs 3 _ rfl _ _ _ _ _ _ _ rfl ?_
    refine zw_c (hs 4 _ rfl) (a := [.ref x, .int (Int32.ofInt (1 : Int)), .int (Int32.ofInt (1 : Int))]) (st := []) rfl rfl (Nat.le_of_ble_eq_true rfl) ⟨_, _, _, rfl, a1_, a2_.1⟩ (by omega) (by omega) (zm_start_M g hX (i_ := 1) (w_ := 1) (Or.inr rfl) (by decide) (fun y_ h2_ f2_ x2_ => ?_) (fun y_ => absurd y_ (by decide)))
    show S 9 [some (.ref x), some (.int (Int32.ofInt e)), some (.int (Int32.ofInt e2))] [.int (Int32.ofInt (1 : Int))] _ _ _
    refine hs 5 _ rfl _ _ _ _ _ _ (fun zq => absurd (hd_c1z (c := 0) (by omega) (by omega) zq) (by omega : ¬ ((1 : Int) = 0))) (fun _ => ?_)
    refine hs 6 _ rfl _ _ _ _ _ _ _ rfl ?_
    refine hs 7 _ rfl _ _ _ _ _ ?_
    exact hs 14 _ rfl _ _ _ _ _ (rv _) (by omega) (by omega) (hP 0 _ _ _ (Or.inr ⟨c1_, rfl, rfl⟩) f2_ ⟨_, _, _, _, x2_⟩)
  · 
    obtain ⟨i, rfl⟩ : ∃ i : Nat, e = (i : Int) := ⟨e.toNat, by have := c1_.1; omega⟩
    have hi : i < 6 := by have := c1_.2; omega
    have c1b_ := c1_.1
    have c1c_ := c1_.2
    have in_ : sp_in e2 := by unfold sp_in; omega
    refine hs 0 _ rfl _ _ _ _ _ _ _ rfl ?_
    refine hs 1 _ rfl _ _ _ _ _ _ _ rfl ?_
    refine zw_c (hs 2 _ rfl) (a := [.int (Int32.ofInt (i : Int))]) (st := [.ref x]) rfl rfl (Nat.le_of_ble_eq_true rfl) trivial (by omega) (by omega) (zm_noSlot_M g (e := (i : Int)) (by omega) (by omega) (fun y_ => absurd (by omega) y_) (fun y_ => ?_))
    show S 5 [some (.ref x), some (.int (Int32.ofInt (i : Int))), some (.int (Int32.ofInt e2))] [.int (Int32.ofInt (0 : Int)), .ref x] _ _ _
    refine hs 3 _ rfl _ _ _ _ _ _ _ rfl ?_
    refine zw_c (hs 4 _ rfl) (a := [.ref x, .int (Int32.ofInt (0 : Int)), .int (Int32.ofInt (1 : Int))]) (st := []) rfl rfl (Nat.le_of_ble_eq_true rfl) ⟨_, _, _, rfl, a1_, a2_.1⟩ (by omega) (by omega) (zm_start_M g hX (i_ := 0) (w_ := 1) (Or.inl rfl) (by decide) (fun y_ => absurd y_ (by decide)) (fun y_ h2_ f2_ x2_ => ?_))
    show S 9 [some (.ref x), some (.int (Int32.ofInt (i : Int))), some (.int (Int32.ofInt e2))] [.int (Int32.ofInt (0 : Int))] _ _ _
    refine hs 5 _ rfl _ _ _ _ _ _ (fun _ => ?_) (fun zq => absurd (hd_c1t (c := 0) (by omega) (by omega) (by omega : (0 : Int) = 0)) zq)
    refine hs 8 _ rfl _ _ _ _ _ _ _ rfl ?_
    refine hs 9 _ rfl _ _ _ _ _ _ _ rfl ?_
    refine hs 10 _ rfl _ _ _ _ _ _ _ rfl ?_
    refine hs 11 _ rfl _ _ _ _ _ _ _ (hd_i2l (by omega) (by omega)) ?_
    refine zw_cm (hs 12 _ rfl) (a := [.long (Int64.ofInt e2)]) (st := [.int (Int32.ofInt (i : Int)), .ref x]) 3 42 rfl rfl (Nat.le_of_ble_eq_true rfl) trivial (by omega) (by omega) (zn_of_M g (v := e2) (by omega) (by omega) (by omega) (by omega) fun h3_ q3_ g3_ z3_ => ?_)
    show S 23 [some (.ref x), some (.int (Int32.ofInt (i : Int))), some (.int (Int32.ofInt e2))] [.ref q3_, .int (Int32.ofInt (i : Int)), .ref x] _ _ _
    refine zw_cm (hs 13 _ rfl) (a := [.ref x, .int (Int32.ofInt (i : Int)), .ref q3_]) (st := []) 14 69 rfl rfl (Nat.le_of_ble_eq_true rfl) (zm_rc (x2_.g g3_ fun _ _ => rfl)) (by omega) (by omega) (zm_put_M g (x2_.g g3_ fun _ _ => rfl) hok hp12 rfl hi z3_ in_ (by omega) (by omega) fun h4_ d_ f4_ x4_ dg_ => ?_)
    show S 26 [some (.ref x), some (.int (Int32.ofInt (i : Int))), some (.int (Int32.ofInt e2))] [.int (Int32.ofInt (d_ : Int))] _ _ _
    exact hs 14 _ rfl _ _ _ _ _ (rv _) (by omega) (by omega) (hP _ _ _ _ (Or.inl ⟨c1_, Or.inl ⟨in_, rfl, rfl, d_, rfl, dg_⟩⟩) ((f2_.tr (zm_fr.g g3_)).tr f4_) x4_)
set_option maxHeartbeats 4000000 in
theorem zm_plus_M {l : Launch} {G : am_G} {X : ck_XT} (g : gM l G X) {o : Nat → Nat} {x tx now qw : Nat} {th j m k : Int} {c : sp_S} {P : List sp_S} {h : List am_C} (hX : zm_x G h o x tx now qw th j m k c P) (hok : sp_ok c) (hp12 : P.length ≤ 12) {e e2 : Int} (he1 : -2147483648 ≤ e) (he2 : e ≤ 2147483647) (hf1 : -2147483648 ≤ e2) (hf2 : e2 ≤ 2147483647) {mc ms : Nat} {Post : am_O → List am_C → Prop} (hmc : 17 ≤ mc) (hms : 145 ≤ ms)
    (hP : ∀ (a th : Int) (T' : sp_T) (h' : List am_C), sp_d3 e e2 (c, P, j, m, k) a th T' → zm_fr G h h' → zm_Y G h' x th T' → Post (.inl (some (.int (Int32.ofInt a)))) h') :
    am_M l G yX14_plus (.code yX14_plus prog_14_method_14_code 4 (some .int)) 12 316 mc ms [.ref x, .int (Int32.ofInt e), .int (Int32.ofInt e2)] h Post := by
  refine gh_yX14_plus_X g (Nat.le_of_ble_eq_true rfl) fun S SX hs hr hw hx => ?_
  have rv : ∀ x : Int32, ck_fv 0 (.int x) := fun x => ⟨_, rfl⟩
  obtain ⟨a1_, a2_, a3_, a4_⟩ := id hX
  by_cases c1_ : sp_s1 e ∧ sp_s1 e2
  rotate_left
  · by_cases c3_ : 0 ≤ e ∧ e < 6
    · have c4_ : ¬ (0 ≤ e2 ∧ e2 < 6) := fun y_ => c1_ ⟨c3_, y_⟩
      refine hs 0 _ rfl _ _ _ _ _ _ _ rfl ?_
      refine hs 1 _ rfl _ _ _ _ _ _ _ rfl ?_
      refine zw_c (hs 2 _ rfl) (a := [.int (Int32.ofInt e)]) (st := [.ref x]) rfl rfl (Nat.le_of_ble_eq_true rfl) trivial (by omega) (by omega) (zm_noSlot_M g (e := e) (by omega) (by omega) (fun y_ => absurd (by omega) y_) (fun y_ => ?_))
      show S 5 [some (.ref x), some (.int (Int32.ofInt e)), some (.int (Int32.ofInt e2)), none] [.int (Int32.ofInt (0 : Int)), .ref x] _ _ _
      refine hs 3 _ rfl _ _ _ _ _ _ (fun zq => absurd (hd_c1z (c := 1) (by omega) (by omega) zq) (by omega : ¬ ((0 : Int) ≠ 0))) (fun _ => ?_)
      refine hs 4 _ rfl _ _ _ _ _ _ _ rfl ?_
      refine zw_c (hs 5 _ rfl) (a := [.int (Int32.ofInt e2)]) (st := [.ref x]) rfl rfl (Nat.le_of_ble_eq_true rfl) trivial (by omega) (by omega) (zm_noSlot_M g (e := e2) (by omega) (by omega) (fun y_ => ?_) (fun y_ => absurd y_ (by omega)))
      show S 12 [some (.ref x), some (.int (Int32.ofInt e)), some (.int (Int32.ofInt e2)), none] [.int (Int32.ofInt (1 : Int)), .ref x] _ _ _
      refine hs 6 _ rfl _ _ _ _ _ _ (fun zq => absurd (hd_c1z (c := 0) (by omega) (by omega) zq) (by omega : ¬ ((1 : Int) = 0))) (fun _ => ?_)
      refine hs 7 _ rfl _ _ _ _ _ _ _ rfl ?_
      refine hs 8 _ rfl _ _ _ _ _ ?_
      refine hs 10 _ rfl _ _ _ _ _ _ _ rfl ?_
      refine zw_c (hs 11 _ rfl) (a := [.ref x, .int (Int32.ofInt (1 : Int)), .int (Int32.ofInt (1 : Int))]) (st := []) rfl rfl (Nat.le_of_ble_eq_true rfl) ⟨_, _, _, rfl, a1_, a2_.1⟩ (by omega) (by omega) (zm_start_M g hX (i_ := 1) (w_ := 1) (Or.inr rfl) (by decide) (fun y_ h2_ f2_ x2_ => ?_) (fun y_ => absurd y_ (by decide)))
      show S 24 [some (.ref x), some (.int (Int32.ofInt e)), some (.int (Int32.ofInt e2)), none] [.int (Int32.ofInt (1 : Int))] _ _ _
      refine hs 12 _ rfl _ _ _ _ _ _ (fun zq => absurd (hd_c1z (c := 0) (by omega) (by omega) zq) (by omega : ¬ ((1 : Int) = 0))) (fun _ => ?_)
      refine hs 13 _ rfl _ _ _ _ _ _ _ rfl ?_
      exact hs 14 _ rfl _ _ _ _ _ (rv _) (by omega) (by omega) (hP 0 _ _ _ (Or.inr ⟨c1_, rfl, rfl⟩) f2_ ⟨_, _, _, _, x2_⟩)
    · 
      refine hs 0 _ rfl _ _ _ _ _ _ _ rfl ?_
      refine hs 1 _ rfl _ _ _ _ _ _ _ rfl ?_
      refine zw_c (hs 2 _ rfl) (a := [.int (Int32.ofInt e)]) (st := [.ref x]) rfl rfl (Nat.le_of_ble_eq_true rfl) trivial (by omega) (by omega) (zm_noSlot_M g (e := e) (by omega) (by omega) (fun y_ => ?_) (fun y_ => absurd y_ (by omega)))
      show S 5 [some (.ref x), some (.int (Int32.ofInt e)), some (.int (Int32.ofInt e2)), none] [.int (Int32.ofInt (1 : Int)), .ref x] _ _ _
      refine hs 3 _ rfl _ _ _ _ _ _ (fun _ => ?_) (fun zq => absurd (hd_c1t (c := 1) (by omega) (by omega) (by omega : (1 : Int) ≠ 0)) zq)
      refine hs 7 _ rfl _ _ _ _ _ _ _ rfl ?_
      refine hs 8 _ rfl _ _ _ _ _ ?_
      refine hs 10 _ rfl _ _ _ _ _ _ _ rfl ?_
      refine zw_c (hs 11 _ rfl) (a := [.ref x, .int (Int32.ofInt (1 : Int)), .int (Int32.ofInt (1 : Int))]) (st := []) rfl rfl (Nat.le_of_ble_eq_true rfl) ⟨_, _, _, rfl, a1_, a2_.1⟩ (by omega) (by omega) (zm_start_M g hX (i_ := 1) (w_ := 1) (Or.inr rfl) (by decide) (fun y_ h2_ f2_ x2_ => ?_) (fun y_ => absurd y_ (by decide)))
      show S 24 [some (.ref x), some (.int (Int32.ofInt e)), some (.int (Int32.ofInt e2)), none] [.int (Int32.ofInt (1 : Int))] _ _ _
      refine hs 12 _ rfl _ _ _ _ _ _ (fun zq => absurd (hd_c1z (c := 0) (by omega) (by omega) zq) (by omega : ¬ ((1 : Int) = 0))) (fun _ => ?_)
      refine hs 13 _ rfl _ _ _ _ _ _ _ rfl ?_
      exact hs 14 _ rfl _ _ _ _ _ (rv _) (by omega) (by omega) (hP 0 _ _ _ (Or.inr ⟨c1_, rfl, rfl⟩) f2_ ⟨_, _, _, _, x2_⟩)
  · obtain ⟨i, rfl⟩ : ∃ i : Nat, e = (i : Int) := ⟨e.toNat, by have := c1_.1.1; omega⟩
    obtain ⟨i2, rfl⟩ : ∃ i2 : Nat, e2 = (i2 : Int) := ⟨e2.toNat, by have := c1_.2.1; omega⟩
    have hi : i < 6 := by have := c1_.1.2; omega
    have hi2 : i2 < 6 := by have := c1_.2.2; omega
    refine hs 0 _ rfl _ _ _ _ _ _ _ rfl ?_
    refine hs 1 _ rfl _ _ _ _ _ _ _ rfl ?_
    refine zw_c (hs 2 _ rfl) (a := [.int (Int32.ofInt (i : Int))]) (st := [.ref x]) rfl rfl (Nat.le_of_ble_eq_true rfl) trivial (by omega) (by omega) (zm_noSlot_M g (e := (i : Int)) (by omega) (by omega) (fun y_ => absurd (by omega) y_) (fun y_ => ?_))
    show S 5 [some (.ref x), some (.int (Int32.ofInt (i : Int))), some (.int (Int32.ofInt (i2 : Int))), none] [.int (Int32.ofInt (0 : Int)), .ref x] _ _ _
    refine hs 3 _ rfl _ _ _ _ _ _ (fun zq => absurd (hd_c1z (c := 1) (by omega) (by omega) zq) (by omega : ¬ ((0 : Int) ≠ 0))) (fun _ => ?_)
    refine hs 4 _ rfl _ _ _ _ _ _ _ rfl ?_
    refine zw_c (hs 5 _ rfl) (a := [.int (Int32.ofInt (i2 : Int))]) (st := [.ref x]) rfl rfl (Nat.le_of_ble_eq_true rfl) trivial (by omega) (by omega) (zm_noSlot_M g (e := (i2 : Int)) (by omega) (by omega) (fun y_ => absurd (by omega) y_) (fun y_ => ?_))
    show S 12 [some (.ref x), some (.int (Int32.ofInt (i : Int))), some (.int (Int32.ofInt (i2 : Int))), none] [.int (Int32.ofInt (0 : Int)), .ref x] _ _ _
    refine hs 6 _ rfl _ _ _ _ _ _ (fun _ => ?_) (fun zq => absurd (hd_c1t (c := 0) (by omega) (by omega) (by omega : (0 : Int) = 0)) zq)
    refine hs 9 _ rfl _ _ _ _ _ _ _ rfl ?_
    refine hs 10 _ rfl _ _ _ _ _ _ _ rfl ?_
    refine zw_c (hs 11 _ rfl) (a := [.ref x, .int (Int32.ofInt (0 : Int)), .int (Int32.ofInt (1 : Int))]) (st := []) rfl rfl (Nat.le_of_ble_eq_true rfl) ⟨_, _, _, rfl, a1_, a2_.1⟩ (by omega) (by omega) (zm_start_M g hX (i_ := 0) (w_ := 1) (Or.inl rfl) (by decide) (fun y_ => absurd y_ (by decide)) (fun y_ h2_ f2_ x2_ => ?_))
    have ok1_ := hok.2.1.1
    obtain ⟨t_, qn_, tn_, ql_, qb_, vn_, s1_, ⟨b1_, b2_, b3_⟩, ⟨d1_, d2_⟩, up_⟩ := x2_.numL
    obtain ⟨v_, hvv_⟩ : ∃ v_, vn_[i]? = some v_ := ⟨_, List.getElem?_eq_getElem (by omega)⟩
    have gzv_ : c.2.1[i]? = some (c.2.1.getD i 0) := sb_ge (by omega)
    obtain ⟨nt_, nd_, ntd_, nb_, nds_, n1_, n2_, n3_, n4_, n5_⟩ := d2_ _ _ _ hvv_ gzv_
    have nl_ : nds_.length ≤ 36 := zm_len n5_ (hok.get (by omega))
    obtain ⟨v2_, hvv2_⟩ : ∃ v_, vn_[i2]? = some v_ := ⟨_, List.getElem?_eq_getElem (by omega)⟩
    have gzv2_ : c.2.1[i2]? = some (c.2.1.getD i2 0) := sb_ge (by omega)
    obtain ⟨pt_, pd_, ptd_, pb_, pds_, p1_, p2_, p3_, p4_, p5_⟩ := d2_ _ _ _ hvv2_ gzv2_
    have pl_ : pds_.length ≤ 36 := zm_len p5_ (hok.get (by omega))
    show S 24 [some (.ref x), some (.int (Int32.ofInt (i : Int))), some (.int (Int32.ofInt (i2 : Int))), none] [.int (Int32.ofInt (0 : Int))] _ _ _
    refine hs 12 _ rfl _ _ _ _ _ _ (fun _ => ?_) (fun zq => absurd (hd_c1t (c := 0) (by omega) (by omega) (by omega : (0 : Int) = 0)) zq)
    refine hs 15 _ rfl _ _ _ _ _ _ _ rfl ?_
    refine hs 16 _ rfl _ _ _ _ _ _ _ _ _ (x2_.1) a2_.1 rfl ?_
    refine hs 17 _ rfl _ _ _ _ _ _ _ _ _ (s1_.1) s1_.2 rfl ?_
    refine hs 18 _ rfl _ _ _ _ _ _ _ rfl ?_
    refine zw_Ar (hs 19 _ rfl) (b1_) (by first | rfl | (rw [b2_]; rfl)) (j := i) (by omega) (by omega) (zm_nv hvv_) ?_
    refine hs 20 _ rfl _ _ _ _ _ _ _ rfl ?_
    refine hs 21 _ rfl _ _ _ _ _ _ _ _ _ (x2_.1) a2_.1 rfl ?_
    refine hs 22 _ rfl _ _ _ _ _ _ _ _ _ (s1_.1) s1_.2 rfl ?_
    refine hs 23 _ rfl _ _ _ _ _ _ _ rfl ?_
    refine zw_Ar (hs 24 _ rfl) (b1_) (by first | rfl | (rw [b2_]; rfl)) (j := i2) (by omega) (by omega) (zm_nv hvv2_) ?_
    refine zw_cm (hs 25 _ rfl) (a := [.ref v_, .ref v2_]) (st := []) 3 76 rfl rfl (Nat.le_of_ble_eq_true rfl) ⟨_, _, _, rfl, n1_, n2_⟩ (by omega) (by omega) (zn_plus_M g n1_ n2_ n3_ n4_ n5_ p1_ p2_ p3_ p4_ p5_ (M := max nds_.length pds_.length) (by omega) (by omega) (by omega) (by omega) (by omega) (by omega) fun h3_ q3_ g3_ z3_ => ?_)
    show S 50 [some (.ref x), some (.int (Int32.ofInt (i : Int))), some (.int (Int32.ofInt (i2 : Int))), none] [.ref q3_] _ _ _
    have x3_ := x2_.g g3_ fun _ _ => rfl
    obtain ⟨rt_, rd_, rtd_, rb_, rds_, r1_, r2_, r3_, r4_, r5_⟩ := id z3_
    have ia_ : sp_in (c.2.1.getD i 0) := hok.get hi
    have ib_ : sp_in (c.2.1.getD i2 0) := hok.get hi2
    have hb_ : ((c.2.1.getD i 0 + c.2.1.getD i2 0).natAbs : Int) < 10 ^ 72 := by unfold sp_in at ia_ ib_; rw [show (10 : Int) ^ 72 = 1000000000000000000000000000000000000000000000000000000000000000000000000 from by decide]; omega
    have rl_ : rds_.length ≤ 72 := zm_big r5_ (by decide) hb_
    have md_ := zm_dg r5_
    have mu_ := md_.le (n := 72) (by decide) hb_
    refine hs 26 _ rfl _ _ _ _ _ _ _ rfl ?_
    refine hs 27 _ rfl _ _ _ _ _ _ _ rfl ?_
    refine hs 28 _ rfl _ _ _ _ _ _ _ rfl ?_
    refine zw_c (hs 29 _ rfl) (a := [.ref q3_]) (st := [.ref x]) rfl rfl (Nat.le_of_ble_eq_true rfl) ⟨_, _, _, rfl, r1_, r2_⟩ (by omega) (by omega) (zn_many_M g r1_ r2_ r3_ r4_ r5_ (by omega) ?_)
    show S 56 [some (.ref x), some (.int (Int32.ofInt (i : Int))), some (.int (Int32.ofInt (i2 : Int))), some (.ref q3_)] [.int (Int32.ofInt ((if rds_.length = 0 then 1 else rds_.length : Nat) : Int)), .ref x] _ _ _
    by_cases c2_ : sp_in (c.2.1.getD i 0 + c.2.1.getD i2 0)
    · have ml_ := md_.le (n := 36) (by decide) (sp_in.abs.mp c2_)
      refine hs 30 _ rfl _ _ _ _ _ _ _ rfl ?_
      refine hs 31 _ rfl _ _ _ _ _ _ _ (fun _ => ?_) (fun zq => absurd (hd_c2t (c := 5) (by omega) (by omega) (by omega) (by omega) (by omega : (((if rds_.length = 0 then 1 else rds_.length : Nat) : Int) - (36 : Int)) ≤ 0)) zq)
      refine hs 34 _ rfl _ _ _ _ _ _ _ rfl ?_
      refine hs 35 _ rfl _ _ _ _ _ _ _ rfl ?_
      refine zw_c (hs 36 _ rfl) (a := [.ref x, .int (Int32.ofInt (0 : Int)), .int (Int32.ofInt (2 : Int))]) (st := []) rfl rfl (Nat.le_of_ble_eq_true rfl) ⟨_, _, _, rfl, x3_.1, a2_.1⟩ (by omega) (by omega) (zm_refuse_M g x3_ (i_ := 0) (w_ := 2) (Or.inl rfl) (by decide) (fun y_ => absurd y_ (by decide)) (fun y_ => ?_))
      show S 70 [some (.ref x), some (.int (Int32.ofInt (i : Int))), some (.int (Int32.ofInt (i2 : Int))), some (.ref q3_)] [.int (Int32.ofInt (0 : Int))] _ _ _
      refine hs 37 _ rfl _ _ _ _ _ _ (fun _ => ?_) (fun zq => absurd (hd_c1t (c := 0) (by omega) (by omega) (by omega : (0 : Int) = 0)) zq)
      refine hs 40 _ rfl _ _ _ _ _ _ _ rfl ?_
      refine hs 41 _ rfl _ _ _ _ _ _ _ rfl ?_
      refine hs 42 _ rfl _ _ _ _ _ _ _ rfl ?_
      refine zw_cm (hs 43 _ rfl) (a := [.ref x, .int (Int32.ofInt (i : Int)), .ref q3_]) (st := []) 14 69 rfl rfl (Nat.le_of_ble_eq_true rfl) (zm_rc x3_) (by omega) (by omega) (zm_put_M g x3_ hok hp12 rfl hi z3_ c2_ (by omega) (by omega) fun h4_ d_ f4_ x4_ dg_ => ?_)
      show S 83 [some (.ref x), some (.int (Int32.ofInt (i : Int))), some (.int (Int32.ofInt (i2 : Int))), some (.ref q3_)] [.int (Int32.ofInt (d_ : Int))] _ _ _
      exact hs 44 _ rfl _ _ _ _ _ (rv _) (by omega) (by omega) (hP _ _ _ _ (Or.inl ⟨c1_, Or.inl ⟨c2_, rfl, rfl, d_, rfl, dg_⟩⟩) ((f2_.tr (zm_fr.g g3_)).tr f4_) x4_)
    · have ml_ := md_.gt (n := 36) (fun y_ => c2_ (sp_in.abs.mpr y_))
      refine hs 30 _ rfl _ _ _ _ _ _ _ rfl ?_
      refine hs 31 _ rfl _ _ _ _ _ _ _ (fun zq => absurd (hd_c2z (c := 5) (by omega) (by omega) (by omega) (by omega) zq) (by omega : ¬ ((((if rds_.length = 0 then 1 else rds_.length : Nat) : Int) - (36 : Int)) ≤ 0))) (fun _ => ?_)
      refine hs 32 _ rfl _ _ _ _ _ _ _ rfl ?_
      refine hs 33 _ rfl _ _ _ _ _ ?_
      refine hs 35 _ rfl _ _ _ _ _ _ _ rfl ?_
      refine zw_c (hs 36 _ rfl) (a := [.ref x, .int (Int32.ofInt (1 : Int)), .int (Int32.ofInt (2 : Int))]) (st := []) rfl rfl (Nat.le_of_ble_eq_true rfl) ⟨_, _, _, rfl, x3_.1, a2_.1⟩ (by omega) (by omega) (zm_refuse_M g x3_ (i_ := 1) (w_ := 2) (Or.inr rfl) (by decide) (fun y_ h4_ f4_ x4_ => ?_) (fun y_ => absurd y_ (by decide)))
      show S 70 [some (.ref x), some (.int (Int32.ofInt (i : Int))), some (.int (Int32.ofInt (i2 : Int))), some (.ref q3_)] [.int (Int32.ofInt (1 : Int))] _ _ _
      refine hs 37 _ rfl _ _ _ _ _ _ (fun zq => absurd (hd_c1z (c := 0) (by omega) (by omega) zq) (by omega : ¬ ((1 : Int) = 0))) (fun _ => ?_)
      refine hs 38 _ rfl _ _ _ _ _ _ _ rfl ?_
      refine hs 39 _ rfl _ _ _ _ _ ?_
      exact hs 44 _ rfl _ _ _ _ _ (rv _) (by omega) (by omega) (hP _ _ _ _ (Or.inl ⟨c1_, Or.inr ⟨c2_, rfl, rfl⟩⟩) ((f2_.tr (zm_fr.g g3_)).tr f4_) ⟨_, _, _, _, x4_⟩)
set_option maxHeartbeats 4000000 in
theorem zm_times_M {l : Launch} {G : am_G} {X : ck_XT} (g : gM l G X) {o : Nat → Nat} {x tx now qw : Nat} {th j m k : Int} {c : sp_S} {P : List sp_S} {h : List am_C} (hX : zm_x G h o x tx now qw th j m k c P) (hok : sp_ok c) (hp12 : P.length ≤ 12) {e e2 : Int} (he1 : -2147483648 ≤ e) (he2 : e ≤ 2147483647) (hf1 : -2147483648 ≤ e2) (hf2 : e2 ≤ 2147483647) {mc ms : Nat} {Post : am_O → List am_C → Prop} (hmc : 17 ≤ mc) (hms : 217 ≤ ms)
    (hP : ∀ (a th : Int) (T' : sp_T) (h' : List am_C), sp_d4 e e2 (c, P, j, m, k) a th T' → zm_fr G h h' → zm_Y G h' x th T' → Post (.inl (some (.int (Int32.ofInt a)))) h') :
    am_M l G yX14_times (.code yX14_times prog_14_method_15_code 4 (some .int)) 12 316 mc ms [.ref x, .int (Int32.ofInt e), .int (Int32.ofInt e2)] h Post := by
  refine gh_yX14_times_X g (Nat.le_of_ble_eq_true rfl) fun S SX hs hr hw hx => ?_
  have rv : ∀ x : Int32, ck_fv 0 (.int x) := fun x => ⟨_, rfl⟩
  obtain ⟨a1_, a2_, a3_, a4_⟩ := id hX
  by_cases c1_ : sp_s1 e ∧ sp_s1 e2
  rotate_left
  · by_cases c3_ : 0 ≤ e ∧ e < 6
    · have c4_ : ¬ (0 ≤ e2 ∧ e2 < 6) := fun y_ => c1_ ⟨c3_, y_⟩
      refine hs 0 _ rfl _ _ _ _ _ _ _ rfl ?_
      refine hs 1 _ rfl _ _ _ _ _ _ _ rfl ?_
      refine zw_c (hs 2 _ rfl) (a := [.int (Int32.ofInt e)]) (st := [.ref x]) rfl rfl (Nat.le_of_ble_eq_true rfl) trivial (by omega) (by omega) (zm_noSlot_M g (e := e) (by omega) (by omega) (fun y_ => absurd (by omega) y_) (fun y_ => ?_))
      show S 5 [some (.ref x), some (.int (Int32.ofInt e)), some (.int (Int32.ofInt e2)), none] [.int (Int32.ofInt (0 : Int)), .ref x] _ _ _
      refine hs 3 _ rfl _ _ _ _ _ _ (fun zq => absurd (hd_c1z (c := 1) (by omega) (by omega) zq) (by omega : ¬ ((0 : Int) ≠ 0))) (fun _ => ?_)
      refine hs 4 _ rfl _ _ _ _ _ _ _ rfl ?_
      refine zw_c (hs 5 _ rfl) (a := [.int (Int32.ofInt e2)]) (st := [.ref x]) rfl rfl (Nat.le_of_ble_eq_true rfl) trivial (by omega) (by omega) (zm_noSlot_M g (e := e2) (by omega) (by omega) (fun y_ => ?_) (fun y_ => absurd y_ (by omega)))
      show S 12 [some (.ref x), some (.int (Int32.ofInt e)), some (.int (Int32.ofInt e2)), none] [.int (Int32.ofInt (1 : Int)), .ref x] _ _ _
      refine hs 6 _ rfl _ _ _ _ _ _ (fun zq => absurd (hd_c1z (c := 0) (by omega) (by omega) zq) (by omega : ¬ ((1 : Int) = 0))) (fun _ => ?_)
      refine hs 7 _ rfl _ _ _ _ _ _ _ rfl ?_
      refine hs 8 _ rfl _ _ _ _ _ ?_
      refine hs 10 _ rfl _ _ _ _ _ _ _ rfl ?_
      refine zw_c (hs 11 _ rfl) (a := [.ref x, .int (Int32.ofInt (1 : Int)), .int (Int32.ofInt (1 : Int))]) (st := []) rfl rfl (Nat.le_of_ble_eq_true rfl) ⟨_, _, _, rfl, a1_, a2_.1⟩ (by omega) (by omega) (zm_start_M g hX (i_ := 1) (w_ := 1) (Or.inr rfl) (by decide) (fun y_ h2_ f2_ x2_ => ?_) (fun y_ => absurd y_ (by decide)))
      show S 24 [some (.ref x), some (.int (Int32.ofInt e)), some (.int (Int32.ofInt e2)), none] [.int (Int32.ofInt (1 : Int))] _ _ _
      refine hs 12 _ rfl _ _ _ _ _ _ (fun zq => absurd (hd_c1z (c := 0) (by omega) (by omega) zq) (by omega : ¬ ((1 : Int) = 0))) (fun _ => ?_)
      refine hs 13 _ rfl _ _ _ _ _ _ _ rfl ?_
      exact hs 14 _ rfl _ _ _ _ _ (rv _) (by omega) (by omega) (hP 0 _ _ _ (Or.inr ⟨c1_, rfl, rfl⟩) f2_ ⟨_, _, _, _, x2_⟩)
    · 
      refine hs 0 _ rfl _ _ _ _ _ _ _ rfl ?_
      refine hs 1 _ rfl _ _ _ _ _ _ _ rfl ?_
      refine zw_c (hs 2 _ rfl) (a := [.int (Int32.ofInt e)]) (st := [.ref x]) rfl rfl (Nat.le_of_ble_eq_true rfl) trivial (by omega) (by omega) (zm_noSlot_M g (e := e) (by omega) (by omega) (fun y_ => ?_) (fun y_ => absurd y_ (by omega)))
      show S 5 [some (.ref x), some (.int (Int32.ofInt e)), some (.int (Int32.ofInt e2)), none] [.int (Int32.ofInt (1 : Int)), .ref x] _ _ _
      refine hs 3 _ rfl _ _ _ _ _ _ (fun _ => ?_) (fun zq => absurd (hd_c1t (c := 1) (by omega) (by omega) (by omega : (1 : Int) ≠ 0)) zq)
      refine hs 7 _ rfl _ _ _ _ _ _ _ rfl ?_
      refine hs 8 _ rfl _ _ _ _ _ ?_
      refine hs 10 _ rfl _ _ _ _ _ _ _ rfl ?_
      refine zw_c (hs 11 _ rfl) (a := [.ref x, .int (Int32.ofInt (1 : Int)), .int (Int32.ofInt (1 : Int))]) (st := []) rfl rfl (Nat.le_of_ble_eq_true rfl) ⟨_, _, _, rfl, a1_, a2_.1⟩ (by omega) (by omega) (zm_start_M g hX (i_ := 1) (w_ := 1) (Or.inr rfl) (by decide) (fun y_ h2_ f2_ x2_ => ?_) (fun y_ => absurd y_ (by decide)))
      show S 24 [some (.ref x), some (.int (Int32.ofInt e)), some (.int (Int32.ofInt e2)), none] [.int (Int32.ofInt (1 : Int))] _ _ _
      refine hs 12 _ rfl _ _ _ _ _ _ (fun zq => absurd (hd_c1z (c := 0) (by omega) (by omega) zq) (by omega : ¬ ((1 : Int) = 0))) (fun _ => ?_)
      refine hs 13 _ rfl _ _ _ _ _ _ _ rfl ?_
      exact hs 14 _ rfl _ _ _ _ _ (rv _) (by omega) (by omega) (hP 0 _ _ _ (Or.inr ⟨c1_, rfl, rfl⟩) f2_ ⟨_, _, _, _, x2_⟩)
  · obtain ⟨i, rfl⟩ : ∃ i : Nat, e = (i : Int) := ⟨e.toNat, by have := c1_.1.1; omega⟩
    obtain ⟨i2, rfl⟩ : ∃ i2 : Nat, e2 = (i2 : Int) := ⟨e2.toNat, by have := c1_.2.1; omega⟩
    have hi : i < 6 := by have := c1_.1.2; omega
    have hi2 : i2 < 6 := by have := c1_.2.2; omega
    refine hs 0 _ rfl _ _ _ _ _ _ _ rfl ?_
    refine hs 1 _ rfl _ _ _ _ _ _ _ rfl ?_
    refine zw_c (hs 2 _ rfl) (a := [.int (Int32.ofInt (i : Int))]) (st := [.ref x]) rfl rfl (Nat.le_of_ble_eq_true rfl) trivial (by omega) (by omega) (zm_noSlot_M g (e := (i : Int)) (by omega) (by omega) (fun y_ => absurd (by omega) y_) (fun y_ => ?_))
    show S 5 [some (.ref x), some (.int (Int32.ofInt (i : Int))), some (.int (Int32.ofInt (i2 : Int))), none] [.int (Int32.ofInt (0 : Int)), .ref x] _ _ _
    refine hs 3 _ rfl _ _ _ _ _ _ (fun zq => absurd (hd_c1z (c := 1) (by omega) (by omega) zq) (by omega : ¬ ((0 : Int) ≠ 0))) (fun _ => ?_)
    refine hs 4 _ rfl _ _ _ _ _ _ _ rfl ?_
    refine zw_c (hs 5 _ rfl) (a := [.int (Int32.ofInt (i2 : Int))]) (st := [.ref x]) rfl rfl (Nat.le_of_ble_eq_true rfl) trivial (by omega) (by omega) (zm_noSlot_M g (e := (i2 : Int)) (by omega) (by omega) (fun y_ => absurd (by omega) y_) (fun y_ => ?_))
    show S 12 [some (.ref x), some (.int (Int32.ofInt (i : Int))), some (.int (Int32.ofInt (i2 : Int))), none] [.int (Int32.ofInt (0 : Int)), .ref x] _ _ _
    refine hs 6 _ rfl _ _ _ _ _ _ (fun _ => ?_) (fun zq => absurd (hd_c1t (c := 0) (by omega) (by omega) (by omega : (0 : Int) = 0)) zq)
    refine hs 9 _ rfl _ _ _ _ _ _ _ rfl ?_
    refine hs 10 _ rfl _ _ _ _ _ _ _ rfl ?_
    refine zw_c (hs 11 _ rfl) (a := [.ref x, .int (Int32.ofInt (0 : Int)), .int (Int32.ofInt (1 : Int))]) (st := []) rfl rfl (Nat.le_of_ble_eq_true rfl) ⟨_, _, _, rfl, a1_, a2_.1⟩ (by omega) (by omega) (zm_start_M g hX (i_ := 0) (w_ := 1) (Or.inl rfl) (by decide) (fun y_ => absurd y_ (by decide)) (fun y_ h2_ f2_ x2_ => ?_))
    have ok1_ := hok.2.1.1
    obtain ⟨t_, qn_, tn_, ql_, qb_, vn_, s1_, ⟨b1_, b2_, b3_⟩, ⟨d1_, d2_⟩, up_⟩ := x2_.numL
    obtain ⟨v_, hvv_⟩ : ∃ v_, vn_[i]? = some v_ := ⟨_, List.getElem?_eq_getElem (by omega)⟩
    have gzv_ : c.2.1[i]? = some (c.2.1.getD i 0) := sb_ge (by omega)
    obtain ⟨nt_, nd_, ntd_, nb_, nds_, n1_, n2_, n3_, n4_, n5_⟩ := d2_ _ _ _ hvv_ gzv_
    have nl_ : nds_.length ≤ 36 := zm_len n5_ (hok.get (by omega))
    obtain ⟨v2_, hvv2_⟩ : ∃ v_, vn_[i2]? = some v_ := ⟨_, List.getElem?_eq_getElem (by omega)⟩
    have gzv2_ : c.2.1[i2]? = some (c.2.1.getD i2 0) := sb_ge (by omega)
    obtain ⟨pt_, pd_, ptd_, pb_, pds_, p1_, p2_, p3_, p4_, p5_⟩ := d2_ _ _ _ hvv2_ gzv2_
    have pl_ : pds_.length ≤ 36 := zm_len p5_ (hok.get (by omega))
    show S 24 [some (.ref x), some (.int (Int32.ofInt (i : Int))), some (.int (Int32.ofInt (i2 : Int))), none] [.int (Int32.ofInt (0 : Int))] _ _ _
    refine hs 12 _ rfl _ _ _ _ _ _ (fun _ => ?_) (fun zq => absurd (hd_c1t (c := 0) (by omega) (by omega) (by omega : (0 : Int) = 0)) zq)
    refine hs 15 _ rfl _ _ _ _ _ _ _ rfl ?_
    refine hs 16 _ rfl _ _ _ _ _ _ _ _ _ (x2_.1) a2_.1 rfl ?_
    refine hs 17 _ rfl _ _ _ _ _ _ _ _ _ (s1_.1) s1_.2 rfl ?_
    refine hs 18 _ rfl _ _ _ _ _ _ _ rfl ?_
    refine zw_Ar (hs 19 _ rfl) (b1_) (by first | rfl | (rw [b2_]; rfl)) (j := i) (by omega) (by omega) (zm_nv hvv_) ?_
    refine hs 20 _ rfl _ _ _ _ _ _ _ rfl ?_
    refine hs 21 _ rfl _ _ _ _ _ _ _ _ _ (x2_.1) a2_.1 rfl ?_
    refine hs 22 _ rfl _ _ _ _ _ _ _ _ _ (s1_.1) s1_.2 rfl ?_
    refine hs 23 _ rfl _ _ _ _ _ _ _ rfl ?_
    refine zw_Ar (hs 24 _ rfl) (b1_) (by first | rfl | (rw [b2_]; rfl)) (j := i2) (by omega) (by omega) (zm_nv hvv2_) ?_
    refine zw_cm (hs 25 _ rfl) (a := [.ref v_, .ref v2_]) (st := []) 3 148 rfl rfl (Nat.le_of_ble_eq_true rfl) ⟨_, _, _, rfl, n1_, n2_⟩ (by omega) (by omega) (zn_times_M g n1_ n2_ n3_ n4_ n5_ p1_ p2_ p3_ p4_ p5_ (by omega) (by omega) (by omega) (by omega) fun h3_ q3_ g3_ z3_ => ?_)
    show S 50 [some (.ref x), some (.int (Int32.ofInt (i : Int))), some (.int (Int32.ofInt (i2 : Int))), none] [.ref q3_] _ _ _
    have x3_ := x2_.g g3_ fun _ _ => rfl
    obtain ⟨rt_, rd_, rtd_, rb_, rds_, r1_, r2_, r3_, r4_, r5_⟩ := id z3_
    have ia_ : sp_in (c.2.1.getD i 0) := hok.get hi
    have ib_ : sp_in (c.2.1.getD i2 0) := hok.get hi2
    have hb_ : ((c.2.1.getD i 0 * c.2.1.getD i2 0).natAbs : Int) < 10 ^ 72 := zm_mulb ia_ ib_
    have rl_ : rds_.length ≤ 72 := zm_big r5_ (by decide) hb_
    have md_ := zm_dg r5_
    have mu_ := md_.le (n := 72) (by decide) hb_
    refine hs 26 _ rfl _ _ _ _ _ _ _ rfl ?_
    refine hs 27 _ rfl _ _ _ _ _ _ _ rfl ?_
    refine hs 28 _ rfl _ _ _ _ _ _ _ rfl ?_
    refine zw_c (hs 29 _ rfl) (a := [.ref q3_]) (st := [.ref x]) rfl rfl (Nat.le_of_ble_eq_true rfl) ⟨_, _, _, rfl, r1_, r2_⟩ (by omega) (by omega) (zn_many_M g r1_ r2_ r3_ r4_ r5_ (by omega) ?_)
    show S 56 [some (.ref x), some (.int (Int32.ofInt (i : Int))), some (.int (Int32.ofInt (i2 : Int))), some (.ref q3_)] [.int (Int32.ofInt ((if rds_.length = 0 then 1 else rds_.length : Nat) : Int)), .ref x] _ _ _
    by_cases c2_ : sp_in (c.2.1.getD i 0 * c.2.1.getD i2 0)
    · have ml_ := md_.le (n := 36) (by decide) (sp_in.abs.mp c2_)
      refine hs 30 _ rfl _ _ _ _ _ _ _ rfl ?_
      refine hs 31 _ rfl _ _ _ _ _ _ _ (fun _ => ?_) (fun zq => absurd (hd_c2t (c := 5) (by omega) (by omega) (by omega) (by omega) (by omega : (((if rds_.length = 0 then 1 else rds_.length : Nat) : Int) - (36 : Int)) ≤ 0)) zq)
      refine hs 34 _ rfl _ _ _ _ _ _ _ rfl ?_
      refine hs 35 _ rfl _ _ _ _ _ _ _ rfl ?_
      refine zw_c (hs 36 _ rfl) (a := [.ref x, .int (Int32.ofInt (0 : Int)), .int (Int32.ofInt (2 : Int))]) (st := []) rfl rfl (Nat.le_of_ble_eq_true rfl) ⟨_, _, _, rfl, x3_.1, a2_.1⟩ (by omega) (by omega) (zm_refuse_M g x3_ (i_ := 0) (w_ := 2) (Or.inl rfl) (by decide) (fun y_ => absurd y_ (by decide)) (fun y_ => ?_))
      show S 70 [some (.ref x), some (.int (Int32.ofInt (i : Int))), some (.int (Int32.ofInt (i2 : Int))), some (.ref q3_)] [.int (Int32.ofInt (0 : Int))] _ _ _
      refine hs 37 _ rfl _ _ _ _ _ _ (fun _ => ?_) (fun zq => absurd (hd_c1t (c := 0) (by omega) (by omega) (by omega : (0 : Int) = 0)) zq)
      refine hs 40 _ rfl _ _ _ _ _ _ _ rfl ?_
      refine hs 41 _ rfl _ _ _ _ _ _ _ rfl ?_
      refine hs 42 _ rfl _ _ _ _ _ _ _ rfl ?_
      refine zw_cm (hs 43 _ rfl) (a := [.ref x, .int (Int32.ofInt (i : Int)), .ref q3_]) (st := []) 14 69 rfl rfl (Nat.le_of_ble_eq_true rfl) (zm_rc x3_) (by omega) (by omega) (zm_put_M g x3_ hok hp12 rfl hi z3_ c2_ (by omega) (by omega) fun h4_ d_ f4_ x4_ dg_ => ?_)
      show S 83 [some (.ref x), some (.int (Int32.ofInt (i : Int))), some (.int (Int32.ofInt (i2 : Int))), some (.ref q3_)] [.int (Int32.ofInt (d_ : Int))] _ _ _
      exact hs 44 _ rfl _ _ _ _ _ (rv _) (by omega) (by omega) (hP _ _ _ _ (Or.inl ⟨c1_, Or.inl ⟨c2_, rfl, rfl, d_, rfl, dg_⟩⟩) ((f2_.tr (zm_fr.g g3_)).tr f4_) x4_)
    · have ml_ := md_.gt (n := 36) (fun y_ => c2_ (sp_in.abs.mpr y_))
      refine hs 30 _ rfl _ _ _ _ _ _ _ rfl ?_
      refine hs 31 _ rfl _ _ _ _ _ _ _ (fun zq => absurd (hd_c2z (c := 5) (by omega) (by omega) (by omega) (by omega) zq) (by omega : ¬ ((((if rds_.length = 0 then 1 else rds_.length : Nat) : Int) - (36 : Int)) ≤ 0))) (fun _ => ?_)
      refine hs 32 _ rfl _ _ _ _ _ _ _ rfl ?_
      refine hs 33 _ rfl _ _ _ _ _ ?_
      refine hs 35 _ rfl _ _ _ _ _ _ _ rfl ?_
      refine zw_c (hs 36 _ rfl) (a := [.ref x, .int (Int32.ofInt (1 : Int)), .int (Int32.ofInt (2 : Int))]) (st := []) rfl rfl (Nat.le_of_ble_eq_true rfl) ⟨_, _, _, rfl, x3_.1, a2_.1⟩ (by omega) (by omega) (zm_refuse_M g x3_ (i_ := 1) (w_ := 2) (Or.inr rfl) (by decide) (fun y_ h4_ f4_ x4_ => ?_) (fun y_ => absurd y_ (by decide)))
      show S 70 [some (.ref x), some (.int (Int32.ofInt (i : Int))), some (.int (Int32.ofInt (i2 : Int))), some (.ref q3_)] [.int (Int32.ofInt (1 : Int))] _ _ _
      refine hs 37 _ rfl _ _ _ _ _ _ (fun zq => absurd (hd_c1z (c := 0) (by omega) (by omega) zq) (by omega : ¬ ((1 : Int) = 0))) (fun _ => ?_)
      refine hs 38 _ rfl _ _ _ _ _ _ _ rfl ?_
      refine hs 39 _ rfl _ _ _ _ _ ?_
      exact hs 44 _ rfl _ _ _ _ _ (rv _) (by omega) (by omega) (hP _ _ _ _ (Or.inl ⟨c1_, Or.inr ⟨c2_, rfl, rfl⟩⟩) ((f2_.tr (zm_fr.g g3_)).tr f4_) ⟨_, _, _, _, x4_⟩)
end
