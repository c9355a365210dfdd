/-! LISTS THAT HAVE AN OWNER: add, remove -/
theorem zm_ten {d e : Nat} (h : d ≤ e) : (10 : Int) ^ d ≤ 10 ^ e := by
  have := Nat.pow_le_pow_right (show 0 < 10 by decide) h
  have e2_ : ((10 ^ d : Nat) : Int) ≤ ((10 ^ e : Nat) : Int) := Int.ofNat_le.mpr this
  rw [Int.natCast_pow, Int.natCast_pow] at e2_
  exact e2_
theorem zc_dg.le {v : Int} {d n : Nat} (h : zc_dg v d) (hn : 1 ≤ n) (hv : v < 10 ^ n) : d ≤ n := by
  apply Classical.byContradiction
  intro c_
  rcases h.2.2 with z_ | z_
  · omega
  · have := zm_ten (show n ≤ d - 1 by omega)
    omega
theorem zc_dg.gt {v : Int} {d n : Nat} (h : zc_dg v d) (hv : ¬ v < 10 ^ n) : n < d := by
  apply Classical.byContradiction
  intro c_
  have := zm_ten (show d ≤ n by omega)
  have := h.2.1
  omega
theorem zm_dg {ds : List Int} {b z : Int} (hi : zn_is ds b z) : zc_dg (z.natAbs : Int) (if ds.length = 0 then 1 else ds.length) := by
  have ea_ := hi.abs
  by_cases c_ : ds.length = 0
  · rw [if_pos c_, ea_]
    have e_ : ds = [] := List.eq_nil_of_length_eq_zero c_
    rw [e_]
    exact ⟨Nat.le_refl _, by decide, Or.inl rfl⟩
  · rw [if_neg c_, ea_]
    exact ⟨by omega, hi.2.1.lt hi.1, Or.inr (hi.2.1.ge hi.1 (by omega))⟩
def sp_in (z : Int) : Prop := -1000000000000000000000000000000000000 < z ∧ z < 1000000000000000000000000000000000000
theorem sp_in.abs {z : Int} : sp_in z ↔ (z.natAbs : Int) < 10 ^ 36 := by
  unfold sp_in
  rw [show (10 : Int) ^ 36 = 1000000000000000000000000000000000000 from by decide]
  omega
theorem zm_len {ds : List Int} {b z : Int} (hi : zn_is ds b z) (h : sp_in z) : ds.length ≤ 36 := by
  have := (zm_dg hi).le (n := 36) (by decide) (sp_in.abs.mp h)
  split at this <;> omega
/-- a list's own cells: itself, and the row that it has -/
def zm_d4 (o : Nat → Nat) (q : Nat) : Nat → Nat → Prop := fun y k => 1000 ≤ y ∧ ((k = 6 ∧ y = q) ∨ (k = 56 ∧ o y = 8 * q + 4))
theorem zm_d4.f {G : am_G} {o o' : Nat → Nat} {h h' : List am_C} {q p t tp : Nat} {vq vp : List Value} (k : zk G h h' (fun y => y = q ∨ y = p)) (hq : am_g G h q = some (t, vq)) (ht : t % 100 = 6) (hq0 : 1000 ≤ q) (hp : am_g G h p = some (tp, vp)) (htp : tp % 100 = 56) (hl : 1000 ≤ p → o p = 8 * q + 4) (ho : ∀ x, x < 1000 + h.length → o' x = o x) : zm_f G o o' h h' (zm_d4 o q) := ⟨k.1, ho, fun x t2 v2 e hn => by
  by_cases c_ : x < 1000
  · exact (am_gc c_).trans e
  · refine k.2 _ _ e ?_
    rintro (y_ | y_)
    · apply hn
      rw [y_, hq] at e
      have e2_ := congrArg Prod.fst (Option.some.inj e)
      dsimp only at e2_
      exact ⟨by omega, Or.inl ⟨by omega, y_⟩⟩
    · apply hn
      rw [y_, hp] at e
      have e2_ := congrArg Prod.fst (Option.some.inj e)
      dsimp only at e2_
      exact ⟨by omega, Or.inr ⟨by omega, by rw [y_]; exact hl (by omega)⟩⟩⟩
theorem zm_d4.ok {o : Nat → Nat} {q : Nat} : zm_ok (zm_d4 o q) := fun x k h => by
  obtain ⟨h1_, h2_⟩ := h
  exact ⟨h1_, by omega⟩
/-- add to a list that has an owner -/
theorem zm_add_M {l : Launch} {G : am_G} {X : ck_XT} (g : gM l G X) {o : Nat → Nat} {q lab v tv : Nat} {vv : List Value} {vs : List Nat} {h : List am_C} (hl : zm_l G h o q lab vs) (hb : zl_ob G h vs) (hn : vs.length ≤ 14) (hv : am_g G h v = some (tv, vv)) (hk : tv % 100 = 50 ∨ tv % 100 = 2 ∨ tv % 100 = 18) {mc ms : Nat} {Post : am_O → List am_C → Prop} (hmc : 1 ≤ mc) (hms : 20 ≤ ms)
    (hP : ∀ (h' : List am_C) (o' : Nat → Nat), zm_f G o o' h h' (zm_d4 o q) → zm_l G h' o' q lab (vs ++ [v]) → Post (.inl (some (.int (Int32.ofInt 1)))) h') :
    am_M l G yJx4a65c_add_9ea2d (.code yJx4a65c_add_9ea2d prog_46_method_25_code 2 (some .boolean)) 8 230 mc ms [.ref q, .ref v] h Post := by
  obtain ⟨p_, N_, t_, tr_, mo_, a1_, a2_, a3_, a4_, ⟨a5_, a6_⟩, a7_, a8_, a9_⟩ := hl
  have lq_ := zg_lt a1_
  have lp_ := zg_lt a3_
  refine zl_add1_M g a1_ a2_ a3_ a4_ hb a6_ a5_ (by omega) hv hk (fun _ => hmc) (fun _ => by omega) fun hy_ ay_ ty_ ny_ ky_ ly_ my_ oy_ sy_ cy_ dy_ ey_ => ?_
  have nq_ := zg_ne cy_ dy_ (by rw [a2_, ey_]; decide)
  rcases ly_ with ⟨y1_, y2_⟩ | y1_
  · refine hP _ o (zm_d4.f ky_ a1_ a2_ a6_ a3_ a4_ a9_ fun _ _ => rfl) ⟨ay_, ny_, t_, ty_, _, cy_, a2_, dy_, ey_, ⟨by rw [List.length_append, List.length_singleton]; omega, a6_⟩, by omega, a8_, fun _ => ?_⟩
    rw [y1_]
    exact a9_ (by omega)
  · refine hP _ (fun x => if x = ay_ then 8 * q + 4 else o x) (zm_d4.f ky_ a1_ a2_ a6_ a3_ a4_ a9_ fun x hx => if_neg (by omega)) ⟨ay_, ny_, t_, ty_, _, cy_, a2_, dy_, ey_, ⟨by rw [List.length_append, List.length_singleton]; omega, a6_⟩, by omega, ?_, fun _ => if_pos rfl⟩
    show (if q = ay_ then 8 * q + 4 else o q) = lab
    rw [if_neg nq_]
    exact a8_
theorem zm_rem_M {l : Launch} {G : am_G} {X : ck_XT} (g : gM l G X) {o : Nat → Nat} {q lab v j : Nat} {vs : List Nat} {h : List am_C} {e : Int} (hl : zm_l G h o q lab vs) (hb : zl_ob G h vs) (he : e = (j : Int)) (hv : vs[j]? = some v) {mc ms : Nat} {Post : am_O → List am_C → Prop}
    (hP : ∀ (h' : List am_C), zm_f G o o h h' (zm_d4 o q) → zm_l G h' o q lab (vs.eraseIdx j) → Post (.inl (some (.ref v))) h') :
    am_M l G yJx4a65c_remove_915e3 (.code yJx4a65c_remove_915e3 prog_46_method_29_code 4 (some (.object "java/lang/Object"))) 3 82 mc ms [.ref q, .int (Int32.ofInt e)] h Post := by
  subst he
  obtain ⟨p_, N_, t_, tr_, mo_, a1_, a2_, a3_, a4_, ⟨a5_, a6_⟩, a7_, a8_, a9_⟩ := hl
  have hj_ := (List.getElem?_eq_some_iff.mp hv).1
  refine zl_rem_M g a1_ a2_ a3_ a4_ hb a6_ a5_ (by omega) (by omega) hj_ hv fun hy_ ky_ ly_ cy_ dy_ => ?_
  exact hP _ (zm_d4.f ky_ a1_ a2_ a6_ a3_ a4_ a9_ fun _ _ => rfl) ⟨p_, N_, t_, tr_, _, cy_, a2_, dy_, a4_, ⟨by rw [List.length_eraseIdx, if_pos hj_]; omega, a6_⟩, a7_, a8_, a9_⟩
theorem zm_size_M {l : Launch} {G : am_G} {X : ck_XT} (g : gM l G X) {o : Nat → Nat} {q lab : Nat} {vs : List Nat} {h : List am_C} (hl : zm_l G h o q lab vs) {mc ms : Nat} {Post : am_O → List am_C → Prop} (hP : Post (.inl (some (.int (Int32.ofInt (vs.length : Int))))) h) :
    am_M l G yJx4a65c_size_8abf5 (.code yJx4a65c_size_8abf5 prog_46_method_8_code 1 (some .int)) 1 20 mc ms [.ref q] h Post := by
  obtain ⟨p_, N_, mo_, L_, -, -⟩ := hl.L
  exact zl_size_M g L_ hP
theorem zm_emp_M {l : Launch} {G : am_G} {X : ck_XT} (g : gM l G X) {o : Nat → Nat} {q lab : Nat} {vs : List Nat} {h : List am_C} (hl : zm_l G h o q lab vs) {mc ms : Nat} {Post : am_O → List am_C → Prop} (hP1 : vs.length = 0 → Post (.inl (some (.int (Int32.ofInt 1)))) h) (hP0 : vs.length ≠ 0 → Post (.inl (some (.int (Int32.ofInt 0)))) h) :
    am_M l G yJx4a65c_isEmpty_aae02 (.code yJx4a65c_isEmpty_aae02 prog_46_method_9_code 1 (some .boolean)) 1 20 mc ms [.ref q] h Post := by
  obtain ⟨p_, N_, mo_, L_, -, -⟩ := hl.L
  exact zl_isEmpty_M g L_ (fun e_ => hP1 (by rw [e_]; rfl)) (fun e_ => hP0 fun z_ => e_ (List.eq_nil_of_length_eq_zero z_))
/-- THE REFERENCE. What may come back: states ss for P -/
def zm_W (G : am_G) (h : List am_C) (o : Nat → Nat) (qw now : Nat) (P : List sp_S) : Prop := ∃ ss : List Nat, zm_l G h o qw 5 ss ∧ ss.length = P.length ∧ (∀ (i s : Nat) (p : sp_S), ss[i]? = some s → P[i]? = some p → zm_s G h o s p) ∧ (∀ (i j s : Nat), ss[i]? = some s → ss[j]? = some s → i = j) ∧ ∀ i : Nat, ss[i]? ≠ some now
def zm_c (th : Int) (now qw : Nat) (j m k : Int) : List Value := [.int (Int32.ofInt th), .ref now, .ref qw, .int (Int32.ofInt j), .int (Int32.ofInt m), .int (Int32.ofInt k)]
def zm_x (G : am_G) (h : List am_C) (o : Nat → Nat) (x tx now qw : Nat) (th j m k : Int) (c : sp_S) (P : List sp_S) : Prop := am_g G h x = some (tx, zm_c th now qw j m k) ∧ (tx % 100 = 19 ∧ 1000 ≤ x) ∧ zm_s G h o now c ∧ zm_W G h o qw now P
theorem zm_W.f {G : am_G} {o o' : Nat → Nat} {h h' : List am_C} {D : Nat → Nat → Prop} {qw now : Nat} {P : List sp_S} (a : zm_W G h o qw now P) (f : zm_f G o o' h h' D) (hk : zm_ok D) (h1 : ¬ D qw 6) (h2 : ∀ p, o p = 8 * qw + 4 → ¬ D p 56) (hs : ∀ s, s ≠ now → zm_no o s D) : zm_W G h' o' qw now P := by
  obtain ⟨ss_, a1_, a2_, a3_, a4_, a5_⟩ := a
  exact ⟨ss_, a1_.f f hk h1 h2, a2_, fun i s p e1 e2 => (a3_ i s p e1 e2).f f (hs s fun y_ => a5_ i (by rw [← y_]; exact e1)), a4_, a5_⟩
theorem zm_W.lab {G : am_G} {o : Nat → Nat} {h : List am_C} {qw now : Nat} {P : List sp_S} (a : zm_W G h o qw now P) : o qw = 5 := by
  obtain ⟨_, ⟨_, _, _, _, _, -, -, -, -, -, -, z_, -⟩, -⟩ := a
  exact z_
theorem zm_x.lt {G : am_G} {h : List am_C} {o : Nat → Nat} {x tx now qw : Nat} {th j m k : Int} {c : sp_S} {P : List sp_S} (a : zm_x G h o x tx now qw th j m k c P) : 1000 ≤ now := by
  obtain ⟨-, -, ⟨_, _, _, _, _, _, _, _, -, ⟨-, z_⟩, -⟩, -⟩ := a
  exact z_
/-- the reference's own cell is written -/
theorem zm_x.own {G : am_G} {h h' : List am_C} {o : Nat → Nat} {x tx now qw : Nat} {th j m k th2 j2 m2 k2 : Int} {c : sp_S} {P : List sp_S} (a : zm_x G h o x tx now qw th j m k c P) (w : hd_w G h h' x (tx, zm_c th2 now qw j2 m2 k2)) : zm_x G h' o x tx now qw th2 j2 m2 k2 c P := by
  obtain ⟨a1_, a2_, a3_, a4_⟩ := a
  have f_ : zm_f G o o h h' (fun y k => y = x ∧ k = 19) := zm_f.w a1_ w ⟨rfl, a2_.1⟩
  have ok_ : zm_ok (fun y k => y = x ∧ k = 19) := fun y k hD => by
    obtain ⟨y1_, y2_⟩ := hD
    omega
  have no_ : ∀ s, zm_no o s (fun y k => y = x ∧ k = 19) := fun s => ⟨ok_, fun y_ => absurd y_.2 (by decide), fun _ _ y_ => absurd y_.2 (by decide), fun _ _ => ⟨fun y_ => absurd y_.2 (by decide), fun _ _ y_ => absurd y_.2 (by decide)⟩⟩
  exact ⟨w.at, a2_, a3_.f f_ (no_ _), a4_.f f_ ok_ (fun y_ => absurd y_.2 (by decide)) (fun _ _ y_ => absurd y_.2 (by decide)) fun s _ => no_ s⟩
/-- new cells -/
theorem zm_x.g {G : am_G} {h h' : List am_C} {o o' : Nat → Nat} {x tx now qw : Nat} {th j m k : Int} {c : sp_S} {P : List sp_S} (a : zm_x G h o x tx now qw th j m k c P) (f : zg G h h') (ho : ∀ y, y < 1000 + h.length → o' y = o y) : zm_x G h' o' x tx now qw th j m k c P := by
  obtain ⟨a1_, a2_, a3_, a4_⟩ := a
  have f_ : zm_f G o o' h h' (fun _ _ => False) := zm_f.g f ho
  exact ⟨f.2 _ _ a1_, a2_, a3_.f f_ zm_no.no, a4_.f f_ (fun _ _ y_ => y_.elim) id (fun _ _ y_ => y_) fun s _ => zm_no.no⟩
/-- outside the reference nothing has changed -/
def zm_fr (G : am_G) (h h' : List am_C) : Prop := h.length ≤ h'.length ∧ ∀ (y t : Nat) (vs : List Value), am_g G h y = some (t, vs) → (t % 100 ≠ 19 ∧ t % 100 ≠ 18 ∧ t % 100 ≠ 55 ∧ t % 100 ≠ 6 ∧ t % 100 ≠ 56) → am_g G h' y = some (t, vs)
theorem zm_fr.rf {G : am_G} {h : List am_C} : zm_fr G h h := ⟨Nat.le_refl _, fun _ _ _ e _ => e⟩
theorem zm_fr.tr {G : am_G} {h h' h2 : List am_C} (a : zm_fr G h h') (b : zm_fr G h' h2) : zm_fr G h h2 := ⟨Nat.le_trans a.1 b.1, fun y t vs e hk => b.2 y t vs (a.2 y t vs e hk) hk⟩
theorem zm_fr.f {G : am_G} {h h' : List am_C} {o o' : Nat → Nat} {D : Nat → Nat → Prop} (f : zm_f G o o' h h' D) (hk : zm_ok D) : zm_fr G h h' := ⟨f.1, fun y t vs e hn => f.2.2 y t vs e fun hD => by
  have := (hk _ _ hD).2
  omega⟩
theorem zm_fr.g {G : am_G} {h h' : List am_C} (f : zg G h h') : zm_fr G h h' := ⟨f.1, fun y t vs e _ => f.2 _ _ e⟩
theorem zm_fr.w {G : am_G} {h h' : List am_C} {q t : Nat} {vs : List Value} {c : am_C} (w : hd_w G h h' q c) (hg : am_g G h q = some (t, vs)) (ht : t % 100 = 19 ∨ t % 100 = 18 ∨ t % 100 = 55) : zm_fr G h h' := ⟨Nat.le_of_eq w.1.symm, fun y t2 v2 e hn => (w.ne fun y_ => by
  rw [y_, hg] at e
  have e2_ := congrArg Prod.fst (Option.some.inj e)
  dsimp only at e2_
  omega).trans e⟩
theorem zm_fr.num {G : am_G} {h h' : List am_C} {q : Nat} {z : Int} (f : zm_fr G h h') (a : zn_N G h q z) : zn_N G h' q z := by
  obtain ⟨t_, d_, td_, b_, ds_, a1_, a2_, a3_, a4_, a5_⟩ := a
  exact ⟨t_, d_, td_, b_, ds_, f.2 _ _ _ a1_ (by omega), a2_, f.2 _ _ _ a3_ (by omega), a4_, a5_⟩
/-- the reference -/
def zm_X (G : am_G) (h : List am_C) (x : Nat) (th j m k : Int) (c : sp_S) (P : List sp_S) : Prop := ∃ (o : Nat → Nat) (tx now qw : Nat), zm_x G h o x tx now qw th j m k c P
theorem zm_nv {vs : List Nat} {i v : Nat} (h : vs[i]? = some v) : (vs.map fun v => Value.ref v)[i]? = some (.ref v) := by
  rw [List.getElem?_map, h]
  rfl
def zm_d1 (q kd : Nat) : Nat → Nat → Prop := fun y k => y = q ∧ k = kd
theorem zm_d1.ok {q kd : Nat} (hq : 1000 ≤ q) (hk : kd = 19 ∨ kd = 18 ∨ kd = 55) : zm_ok (zm_d1 q kd) := fun y k hD => by
  obtain ⟨y1_, y2_⟩ := hD
  omega
theorem zm_d1.no {q kd k : Nat} {y : Nat} (h : kd ≠ k) : ¬ zm_d1 q kd y k := fun z => h z.2.symm
/-- the numbers of a state, and one written -/
theorem zm_x.numL {G : am_G} {h : List am_C} {o : Nat → Nat} {x tx now qw : Nat} {th j m k : Int} {c : sp_S} {P : List sp_S} (a : zm_x G h o x tx now qw th j m k c P) : ∃ (t qn tn ql qb : Nat) (vn : List Nat), (am_g G h now = some (t, [.int (Int32.ofInt c.1), .ref qn, .ref ql, .ref qb]) ∧ t % 100 = 18) ∧ (am_g G h qn = some (tn, vn.map fun v => Value.ref v) ∧ tn % 100 = 55 ∧ 1000 ≤ qn) ∧ (vn.length = c.2.1.length ∧ ∀ (i v : Nat) (z : Int), vn[i]? = some v → c.2.1[i]? = some z → zn_N G h v z) ∧ ∀ (h' : List am_C) (i q : Nat) (z : Int), hd_w G h h' qn (tn, (vn.map fun v => Value.ref v).set i (.ref q)) → zn_N G h q z → zm_x G h' o x tx now qw th j m k (c.1, c.2.1.set i z, c.2.2) P := by
  obtain ⟨a1_, a2_, hs_, hw_⟩ := a
  obtain ⟨t_, qn_, tn_, ql_, qb_, vn_, vl_, vb_, s1_, ⟨s2_, s3_⟩, ⟨b1_, b2_, b3_, b4_⟩, ⟨c1_, c2_⟩, ⟨d1_, d2_⟩, ⟨e1_, e2_⟩, ⟨f1_, f2_⟩⟩ := hs_
  refine ⟨t_, qn_, tn_, ql_, qb_, vn_, ⟨s1_, s2_⟩, ⟨b1_, b2_, b3_⟩, ⟨d1_, d2_⟩, fun h' i q z w hz => ?_⟩
  have f_ : zm_f G o o h h' (zm_d1 qn_ 55) := zm_f.w b1_ w ⟨rfl, b2_⟩
  have ok_ : zm_ok (zm_d1 qn_ 55) := zm_d1.ok b3_ (by decide)
  have no_ : ∀ s, s ≠ now → zm_no o s (zm_d1 qn_ 55) := fun s hn => ⟨ok_, zm_d1.no (by decide), fun y e y_ => by
    have z_ := y_.1
    rw [z_] at e
    omega, fun _ _ => ⟨zm_d1.no (by decide), fun _ _ => zm_d1.no (by decide)⟩⟩
  refine ⟨f_.2.2 _ _ _ a1_ (by rw [a2_.1]; exact zm_d1.no (by decide)), a2_, ⟨t_, qn_, tn_, ql_, qb_, vn_.set i q, vl_, vb_, f_.2.2 _ _ _ s1_ (by rw [s2_]; exact zm_d1.no (by decide)), ⟨s2_, s3_⟩, ⟨w.at.trans (by rw [List.map_set]), b2_, b3_, b4_⟩, ⟨c1_.f f_ ok_ (zm_d1.no (by decide)) (fun _ _ => zm_d1.no (by decide)), c2_.f f_ ok_ (zm_d1.no (by decide)) (fun _ _ => zm_d1.no (by decide))⟩, ⟨by rw [List.length_set]; exact d1_.trans List.length_set.symm, fun i2 v2 z2 h1 h2 => ?_⟩, ⟨e1_, fun i2 v2 z2 h1 h2 => (e2_ _ _ _ h1 h2).f f_ ok_⟩, ⟨f1_, fun i2 v2 z2 h1 h2 => (f2_ _ _ _ h1 h2).f f_ ok_⟩⟩, hw_.f f_ ok_ (zm_d1.no (by decide)) (fun _ _ => zm_d1.no (by decide)) no_⟩
  have h2 : (c.2.1.set i z)[i2]? = some z2 := h2
  rw [List.getElem?_set] at h1 h2
  by_cases e_ : i = i2
  · rw [if_pos e_] at h1 h2
    split at h1
    · rw [if_pos (by omega)] at h2
      cases h1
      cases h2
      exact hz.f f_ ok_
    · cases h1
  · rw [if_neg e_] at h1 h2
    exact (d2_ _ _ _ h1 h2).f f_ ok_
/-- the dial written -/
theorem zm_x.dialL {G : am_G} {h : List am_C} {o : Nat → Nat} {x tx now qw : Nat} {th j m k : Int} {c : sp_S} {P : List sp_S} (a : zm_x G h o x tx now qw th j m k c P) : ∃ (t qn ql qb : Nat), (am_g G h now = some (t, [.int (Int32.ofInt c.1), .ref qn, .ref ql, .ref qb]) ∧ t % 100 = 18) ∧ ∀ (h' : List am_C) (d : Int), hd_w G h h' now (t, [.int (Int32.ofInt d), .ref qn, .ref ql, .ref qb]) → zm_x G h' o x tx now qw th j m k (d, c.2) P := by
  obtain ⟨a1_, a2_, hs_, hw_⟩ := a
  obtain ⟨t_, qn_, tn_, ql_, qb_, vn_, vl_, vb_, s1_, ⟨s2_, s3_⟩, ⟨b1_, b2_, b3_, b4_⟩, ⟨c1_, c2_⟩, ⟨d1_, d2_⟩, ⟨e1_, e2_⟩, ⟨f1_, f2_⟩⟩ := hs_
  refine ⟨t_, qn_, ql_, qb_, ⟨s1_, s2_⟩, fun h' d w => ?_⟩
  have f_ : zm_f G o o h h' (zm_d1 now 18) := zm_f.w s1_ w ⟨rfl, s2_⟩
  have ok_ : zm_ok (zm_d1 now 18) := zm_d1.ok s3_ (by decide)
  have no_ : ∀ s, s ≠ now → zm_no o s (zm_d1 now 18) := fun s hn => ⟨ok_, fun y_ => hn y_.1, fun _ _ => zm_d1.no (by decide), fun _ _ => ⟨zm_d1.no (by decide), fun _ _ => zm_d1.no (by decide)⟩⟩
  exact ⟨f_.2.2 _ _ _ a1_ (by rw [a2_.1]; exact zm_d1.no (by decide)), a2_, ⟨t_, qn_, tn_, ql_, qb_, vn_, vl_, vb_, w.at, ⟨s2_, s3_⟩, ⟨f_.2.2 _ _ _ b1_ (by rw [b2_]; exact zm_d1.no (by decide)), b2_, b3_, b4_⟩, ⟨c1_.f f_ ok_ (zm_d1.no (by decide)) (fun _ _ => zm_d1.no (by decide)), c2_.f f_ ok_ (zm_d1.no (by decide)) (fun _ _ => zm_d1.no (by decide))⟩, ⟨d1_, fun i2 v2 z2 h1 h2 => (d2_ _ _ _ h1 h2).f f_ ok_⟩, ⟨e1_, fun i2 v2 z2 h1 h2 => (e2_ _ _ _ h1 h2).f f_ ok_⟩, ⟨f1_, fun i2 v2 z2 h1 h2 => (f2_ _ _ _ h1 h2).f f_ ok_⟩⟩, hw_.f f_ ok_ (zm_d1.no (by decide)) (fun _ _ => zm_d1.no (by decide)) no_⟩
theorem zm_l.lab {G : am_G} {o : Nat → Nat} {h : List am_C} {q lab : Nat} {vs : List Nat} (a : zm_l G h o q lab vs) : o q = lab ∧ 1000 ≤ q := by
  obtain ⟨_, _, _, _, _, -, -, -, -, ⟨-, y_⟩, -, z_, -⟩ := a
  exact ⟨z_, y_⟩
/-- a list of the state that is now: others are left alone -/
theorem zm_d4.no {o : Nat → Nat} {q s now d : Nat} (hq : o q = 8 * now + d) (hd : d = 2 ∨ d = 3) (hs : s ≠ now) : zm_no o s (zm_d4 o q) := ⟨zm_d4.ok, fun h => by
  obtain ⟨-, h2_⟩ := h
  omega, fun y e h => by
  obtain ⟨-, h2_⟩ := h
  omega, fun y e => ⟨fun h => by
  obtain ⟨-, h2_⟩ := h
  have z_ : y = q := by omega
  rw [z_] at e
  omega, fun p e2 h => by
  obtain ⟨-, h2_⟩ := h
  have z_ : y = q := by omega
  rw [z_] at e
  omega⟩⟩
theorem zm_d4.nk {o : Nat → Nat} {q y k : Nat} (h6 : k ≠ 6) (h56 : k ≠ 56) : ¬ zm_d4 o q y k := fun h => by
  obtain ⟨-, h2_⟩ := h
  omega
theorem zm_d4.n6 {o : Nat → Nat} {q y : Nat} (h : y ≠ q) : ¬ zm_d4 o q y 6 := fun h2 => by
  obtain ⟨-, h2_⟩ := h2
  omega
theorem zm_d4.n56 {o : Nat → Nat} {q y p : Nat} (h : y ≠ q) (e : o p = 8 * y + 4) : ¬ zm_d4 o q p 56 := fun h2 => by
  obtain ⟨-, h2_⟩ := h2
  omega
/-- the rows of a state -/
theorem zm_x.rowL {G : am_G} {h : List am_C} {o : Nat → Nat} {x tx now qw : Nat} {th j m k : Int} {c : sp_S} {P : List sp_S} (a : zm_x G h o x tx now qw th j m k c P) : ∃ (t qn ql qb : Nat) (vl : List Nat), (am_g G h now = some (t, [.int (Int32.ofInt c.1), .ref qn, .ref ql, .ref qb]) ∧ t % 100 = 18) ∧ zm_l G h o ql (8 * now + 2) vl ∧ (vl.length = c.2.2.1.length ∧ ∀ (i v : Nat) (r : Int × Int), vl[i]? = some v → c.2.2.1[i]? = some r → zm_r G h v r) ∧ ∀ (h' : List am_C) (o' : Nat → Nat) (vl2 : List Nat) (R : List (Int × Int)), zm_f G o o' h h' (zm_d4 o ql) → zm_l G h' o' ql (8 * now + 2) vl2 → vl2.length = R.length → (∀ (i v : Nat) (r : Int × Int), vl2[i]? = some v → R[i]? = some r → zm_r G h' v r) → zm_x G h' o' x tx now qw th j m k (c.1, c.2.1, R, c.2.2.2) P := by
  obtain ⟨a1_, a2_, hs_, hw_⟩ := a
  obtain ⟨t_, qn_, tn_, ql_, qb_, vn_, vl_, vb_, s1_, ⟨s2_, s3_⟩, ⟨b1_, b2_, b3_, b4_⟩, ⟨c1_, c2_⟩, ⟨d1_, d2_⟩, ⟨e1_, e2_⟩, ⟨f1_, f2_⟩⟩ := hs_
  refine ⟨t_, qn_, ql_, qb_, vl_, ⟨s1_, s2_⟩, c1_, ⟨e1_, e2_⟩, fun h' o' vl2 R f_ hl h1 h2 => ?_⟩
  have ok_ : zm_ok (zm_d4 o ql_) := zm_d4.ok
  have l1_ := c1_.lab.1
  have l2_ := c2_.lab.1
  have n1_ : qb_ ≠ ql_ := fun y_ => by
    rw [y_] at l2_
    omega
  have l3_ := hw_.lab
  have n2_ : qw ≠ ql_ := fun y_ => by
    rw [y_] at l3_
    omega
  exact ⟨f_.2.2 _ _ _ a1_ (by rw [a2_.1]; exact zm_d4.nk (by decide) (by decide)), a2_, ⟨t_, qn_, tn_, ql_, qb_, vn_, vl2, vb_, f_.2.2 _ _ _ s1_ (by rw [s2_]; exact zm_d4.nk (by decide) (by decide)), ⟨s2_, s3_⟩, ⟨f_.2.2 _ _ _ b1_ (by rw [b2_]; exact zm_d4.nk (by decide) (by decide)), b2_, b3_, (f_.2.1 _ (zg_lt b1_)).trans b4_⟩, ⟨hl, c2_.f f_ ok_ (zm_d4.n6 n1_) (fun _ e => zm_d4.n56 n1_ e)⟩, ⟨d1_, fun i2 v2 z2 h1 h2 => (d2_ _ _ _ h1 h2).f f_ ok_⟩, ⟨h1, h2⟩, ⟨f1_, fun i2 v2 z2 h1 h2 => (f2_ _ _ _ h1 h2).f f_ ok_⟩⟩, hw_.f f_ ok_ (zm_d4.n6 n2_) (fun _ e => zm_d4.n56 n2_ e) fun s hs => zm_d4.no l1_ (Or.inl rfl) hs⟩
/-- the bases of a state -/
theorem zm_x.baseL {G : am_G} {h : List am_C} {o : Nat → Nat} {x tx now qw : Nat} {th j m k : Int} {c : sp_S} {P : List sp_S} (a : zm_x G h o x tx now qw th j m k c P) : ∃ (t qn ql qb : Nat) (vb : List Nat), (am_g G h now = some (t, [.int (Int32.ofInt c.1), .ref qn, .ref ql, .ref qb]) ∧ t % 100 = 18) ∧ zm_l G h o qb (8 * now + 3) vb ∧ (vb.length = c.2.2.2.length ∧ ∀ (i v : Nat) (b : Int), vb[i]? = some v → c.2.2.2[i]? = some b → zm_i G h v b) ∧ ∀ (h' : List am_C) (o' : Nat → Nat) (vb2 : List Nat) (B : List Int), zm_f G o o' h h' (zm_d4 o qb) → zm_l G h' o' qb (8 * now + 3) vb2 → vb2.length = B.length → (∀ (i v : Nat) (b : Int), vb2[i]? = some v → B[i]? = some b → zm_i G h' v b) → zm_x G h' o' x tx now qw th j m k (c.1, c.2.1, c.2.2.1, B) P := by
  obtain ⟨a1_, a2_, hs_, hw_⟩ := a
  obtain ⟨t_, qn_, tn_, ql_, qb_, vn_, vl_, vb_, s1_, ⟨s2_, s3_⟩, ⟨b1_, b2_, b3_, b4_⟩, ⟨c1_, c2_⟩, ⟨d1_, d2_⟩, ⟨e1_, e2_⟩, ⟨f1_, f2_⟩⟩ := hs_
  refine ⟨t_, qn_, ql_, qb_, vb_, ⟨s1_, s2_⟩, c2_, ⟨f1_, f2_⟩, fun h' o' vb2 B f_ hl h1 h2 => ?_⟩
  have ok_ : zm_ok (zm_d4 o qb_) := zm_d4.ok
  have l1_ := c1_.lab.1
  have l2_ := c2_.lab.1
  have n1_ : ql_ ≠ qb_ := fun y_ => by
    rw [y_] at l1_
    omega
  have l3_ := hw_.lab
  have n2_ : qw ≠ qb_ := fun y_ => by
    rw [y_] at l3_
    omega
  exact ⟨f_.2.2 _ _ _ a1_ (by rw [a2_.1]; exact zm_d4.nk (by decide) (by decide)), a2_, ⟨t_, qn_, tn_, ql_, qb_, vn_, vl_, vb2, f_.2.2 _ _ _ s1_ (by rw [s2_]; exact zm_d4.nk (by decide) (by decide)), ⟨s2_, s3_⟩, ⟨f_.2.2 _ _ _ b1_ (by rw [b2_]; exact zm_d4.nk (by decide) (by decide)), b2_, b3_, (f_.2.1 _ (zg_lt b1_)).trans b4_⟩, ⟨c1_.f f_ ok_ (zm_d4.n6 n1_) (fun _ e => zm_d4.n56 n1_ e), hl⟩, ⟨d1_, fun i2 v2 z2 h1 h2 => (d2_ _ _ _ h1 h2).f f_ ok_⟩, ⟨e1_, fun i2 v2 z2 h1 h2 => (e2_ _ _ _ h1 h2).f f_ ok_⟩, ⟨h1, h2⟩⟩, hw_.f f_ ok_ (zm_d4.n6 n2_) (fun _ e => zm_d4.n56 n2_ e) fun s hs => zm_d4.no l2_ (Or.inr rfl) hs⟩
