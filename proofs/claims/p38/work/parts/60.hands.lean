/-! SYSTEM.ARRAYCOPY OF REFERENCES, IN ROWS OF Object -/
theorem am_asg_of {G : am_G} {s : State} (hk : am_kon G s) {C : String} {k : Nat} {cv : ClassId} (hcv : if k < 50 then cv = G.1.1 k else cv = G.2.1 k) (hfc : s.vm.findClass C = some cv) (hcs : Cond.castable C "java/lang/Object" ∈ lw_ng) : am_asg G s 56 k := by
  obtain ⟨hK, hT⟩ := hk.1
  obtain ⟨-, hra⟩ := hT _ _ (am_tys_at G (show 50 ≤ 56 by decide) (by decide))
  have hra : va_RA s (G.2.1 56) (.object "java/lang/Object") := hra
  obtain ⟨kA, comp, e1, e2, e3, -⟩ := hra
  obtain ⟨c3, c4, f1, f2, f3⟩ := Cond.castable_spec (va_Nw.use (A := #[]) rfl (hk.2.2.2.2.2.2.2 _ hcs))
  cases hfc.symm.trans f1
  cases e3.symm.trans f2
  obtain ⟨kV, hkV, -⟩ := Vm.findClass_spec f1
  obtain ⟨kC, hkC, -⟩ := Vm.findClass_spec f2
  exact ⟨kA, kV, kC, comp, cv, e1, e2, hkC, hcv, hkV, f3⟩
theorem am_asg_arr {G : am_G} {s : State} (hk : am_kon G s) (hcs : Cond.castable "[I" "java/lang/Object" ∈ lw_ng) : am_asg G s 56 50 :=
  am_asg_of hk (k := 50) (cv := G.2.1 50) rfl (va_nm_int (hk.1.2 _ _ (am_tys_at G (show 50 ≤ 50 by decide) (by decide))).2) hcs
theorem am_asg_obj {G : am_G} {s : State} (hk : am_kon G s) {ci : Nat} {C : String} {T : u_T} {N : Nat} (hcl : am_cl[ci]? = some (C, T, N)) (hci : ci < 50) (hcs : Cond.castable C "java/lang/Object" ∈ lw_ng) : am_asg G s 56 ci := by
  obtain ⟨hK, -⟩ := id hk.1
  obtain ⟨-, hca⟩ := hK ci _ hcl
  exact am_asg_of hk (k := ci) (cv := G.1.1 ci) (by rw [if_pos hci]) hca.1 hcs
/-- the kinds that stand in such rows -/
def am_ob (k : Nat) : Bool := Nat.beq k 50 || (Nat.beq k 2 || Nat.beq k 18)
section AMAR
variable {G : am_G} {p : Program} {l : Launch} {e : Env} {R : Room} {s : State} {m : MethodId} {args : Array Value} {below : List Frame} {meth : Method} {c : Code} {mc ms : Nat} {Post : am_O → List am_C → Prop}
variable {own : String} {cc : ByteArray} {nL pc : Nat} {ret : Option FieldType} {L : List (Option Value)} {st : List Value} {h : List am_C} {k n : Nat}
theorem am_R.acopyR (X : am_Cx l G p s m args meth c own cc nL ret) {i src dst ts td : Nat} {sp dp n9 : Int32} {vs vd : List Value} (hl : Cond.methodLink own i am_acN ∈ lw_gw) (hnat : Cond.native am_acN ∈ lw_gw) (hsta : Cond.static am_acN ∈ lw_gw) (hini : Cond.initialized "java/lang/System" ∈ lw_gw)
    (hdst : 1000 ≤ dst) (hgs : am_g G h src = some (ts, vs)) (hgd : am_g G h dst = some (td, vd)) (hks : ts % 100 = 56) (hkd : td % 100 = 56) (h3 : 0 ≤ sp.toInt) (h4 : 0 ≤ dp.toInt) (h5 : 0 ≤ n9.toInt) (h6 : sp.toInt + n9.toInt ≤ vs.length) (h7 : dp.toInt + n9.toInt ≤ vd.length)
    (hv : ∀ (j : Nat) (v : Value), vs[j]? = some v → v = .null ∨ ∃ (q tq : Nat) (vq : List Value), v = .ref q ∧ am_g G h q = some (tq, vq) ∧ tq % 100 < 59 ∧ am_asg G s 56 (tq % 100)) (hLn : L.length = nL) (hst : (st.map fun v => v.category).sum ≤ 8) (hfr : 1 ≤ R.frames) (hlo : 8 + (nativeFrameWords "java/lang/System" "arraycopy" 5 + 11) ≤ R.locals) (d : decode cc pc = .ok (.invokestatic i, 3))
    (kk : am_R G p l e R s m args below meth c mc ms Post (pc + 3) L st (am_s h dst (td, am_cpy vs vd sp.toInt.toNat dp.toInt.toNat n9.toInt.toNat)) k n) : am_R G p l e R s m args below meth c mc ms Post pc L (.int n9 :: .int dp :: .ref dst :: .int sp :: .ref src :: st) h k n := by
  intro ls H locs hL hH hS T hT Y
  obtain ⟨cs, q1, q2⟩ := am_cell hH (am_kt_S X.2.2.2.2.2.1 hS) hgs (by show ts % 100 < 62; omega)
  obtain ⟨cd, d1, d2, d3⟩ := am_cellD hH hdst hgd
  obtain ⟨-, kS, hkS, cpS, hkkS⟩ := am_isArr (q := 56) X.2.2.2.2.2.1 q2 hks (by decide) (by decide)
  obtain ⟨-, kD, hkD, cpD, hkkD⟩ := am_isArr (q := 56) X.2.2.2.2.2.1 d2.rk hkd (by decide) (by decide)
  obtain ⟨-, s1, s2, -⟩ := q2.2.2.2 (by show 50 ≤ ts % 100; omega) (by show ts % 100 < 62; omega)
  obtain ⟨d4, d5, d6⟩ := d2.2.2.2 (by show 50 ≤ td % 100; omega) (by show td % 100 < 62; omega)
  have s1 : vs.length ≤ cs.slots.size := s1
  have d5 : cd.slots.size = vd.length := d5
  have d4 : cd.cls = G.2.1 56 := by rw [← hkd]; exact d4
  have e3 : sp.toNatClampNeg = sp.toInt.toNat := rfl
  have e4 : dp.toNatClampNeg = dp.toInt.toNat := rfl
  have e5 : n9.toNatClampNeg = n9.toInt.toNat := rfl
  have hget : ∀ i : Nat, i < n9.toInt.toNat → ∃ v, vs[sp.toInt.toNat + i]? = some v ∧ cs.slots.getD (sp.toInt.toNat + i) .null = am_rv G v := by
    intro i hi
    have hlt : sp.toInt.toNat + i < vs.length := by omega
    have hv1 := List.getElem?_eq_getElem hlt
    refine ⟨_, hv1, ?_⟩
    have := s2 _ _ hv1
    rw [Array.getD_eq_getD_getElem?, this]
    rfl
  have hneg : ∀ x : Int32, 0 ≤ x.toInt → ¬ x < 0 := fun x hx z => by rw [Int32.lt_iff_toInt_lt, Int32.toInt_zero] at z; omega
  obtain ⟨vm', X', st9⟩ := Y.arraycopy X.1 (own := own) (index := i) X.2.2.2.1 (X.2.2.2.2.1 _ hl) (X.2.2.2.2.1 _ hnat) (X.2.2.2.2.1 _ hsta) (X.2.2.2.2.1 _ hini) (src := am_ad G src) (dst := am_ad G dst) (srcPos := sp) (destPos := dp) (n := n9) (cs := cs) (cd := cd)
    (by rw [hT]; exact q1) (by rw [hT]; exact d1) (fun q z => by have := q2.2.1; rw [z] at this; cases this) (fun q z => by rw [d3] at z; cases z) q2.1 d2.1 hkS hkD hkkS hkkD rfl (hneg _ h3) (hneg _ h4) (hneg _ h5)
    (by omega) (by rw [d5]; omega)
    (fun vm' hal i hi => by
      obtain ⟨v, g1, g2⟩ := hget i hi
      rw [e3, g2]
      rcases hv _ _ g1 with rfl | ⟨q, tq, vq, rfl, f1, f2, f3⟩
      · exact ⟨rfl, trivial⟩
      · obtain ⟨cq, c1, c2⟩ := am_cell hH (am_kt_S X.2.2.2.2.2.1 hS) f1 (by show tq % 100 < 62; omega)
        obtain ⟨kA, kV, kC, comp, cv, a1, a2, a3, a4, a5, a6⟩ := f3
        have hcq : cq.cls = cv := c2.cls (by show tq % 100 < 62; omega) a4
        rw [← d4] at a1
        cases hkD.symm.trans a1
        cases hkkD.symm.trans a2
        obtain ⟨kV', hkV', -⟩ := hal.2.2 _ _ a5
        obtain ⟨kC', hkC', -⟩ := hal.2.2 _ _ a3
        refine ⟨rfl, cq, (show T.heap[am_ad G q]? = some cq by rw [hT]; exact c1), (fun z h => by have := c2.2.1; rw [h] at this; cases this), ⟨kV', by rw [hcq]; exact hkV'⟩, ⟨kC', hkC'⟩, ?_⟩
        show vm'.assignable _ _ = true
        rw [hal.assignable, hcq]
        exact a6)
    (g := F0 m pc ls ((.int n9 :: .int dp :: .ref dst :: .int sp :: .ref src :: st : List Value).map (am_rv G))) rfl (by show ls.size = c.maxLocals; rw [hL.1, hLn]; exact X.2.2.1.symm) (rest := st.map (am_rv G)) rfl (by rw [X.2.1]; exact d) hfr (by
      show 2 * 0 + ((st.map (am_rv G)).map fun v => v.category).sum + _ ≤ _
      rw [am_cats]; omega)
  have hfc := Cell.storeRun_facts cd dp.toNatClampNeg (cs.stretch sp.toNatClampNeg n9.toNatClampNeg)
  let T' : State := (T.setVm vm').setCell (am_ad G dst) (copied cs cd sp dp n9)
  have f1 : T'.heap[am_ad G dst]? = some (copied cs cd sp dp n9) := State.heap_setCell_self (by show T.heap[am_ad G dst]? = some cd; rw [hT]; exact d1)
  have f2 : T'.heap.size = H.size := by show (T.heap.setIfInBounds _ _).size = _; rw [Array.size_setIfInBounds, hT]
  have f3 : ∀ q, q ≠ am_ad G dst → T'.heap[q]? = H[q]? := fun q hq => by
    show (T.heap.setIfInBounds _ _)[q]? = _
    rw [Array.getElem?_setIfInBounds_ne (Ne.symm hq), hT]
  have hro : am_ro G (td, am_cpy vs vd sp.toInt.toNat dp.toInt.toNat n9.toInt.toNat) (copied cs cd sp dp n9) := by
    refine ⟨by show (cd.storeRun _ _).vm ≠ _; rw [hfc.2.1]; exact d2.1, by show (cd.storeRun _ _).vm.isStatics = false; rw [hfc.2.1]; exact d2.2.1, fun z => by exfalso; have : td % 100 < 50 := z; omega, fun _ _ => ⟨by show (cd.storeRun _ _).cls = _; rw [hfc.1, d4, ← hkd], ?_, fun j v hj => ?_⟩⟩
    · show (cd.storeRun _ _).slots.size = (am_cpy _ _ _ _ _).length
      rw [hfc.2.2.1, am_cpy_len, d5]
    · show (cd.storeRun dp.toNatClampNeg (cs.stretch sp.toNatClampNeg n9.toNatClampNeg)).slots[j]? = _
      rw [Cell.storeRun_get _ _ _ _ (by rw [Cell.stretch_length, d5, e4, e5]; omega), Cell.stretch_length, e3, e4, e5]
      rcases am_cpy_at hj (by omega) with ⟨g1, g2, g3⟩ | ⟨g1, g2⟩
      · rw [if_pos ⟨g1, g2⟩]
        obtain ⟨v', k1, k2⟩ := hget (j - dp.toInt.toNat) (by omega)
        rw [g3] at k1
        cases k1
        rw [am_stretch_at (show j - dp.toInt.toNat < n9.toInt.toNat by omega), k2]
      · rw [if_neg g1]
        exact d6 _ _ g2
  obtain ⟨t9, a1, b1⟩ := kk ls T'.heap _ hL (hH.put hdst (am_g_lt hdst hgd) f2 f3 ⟨_, f1, hro, by show (cd.storeRun _ _).vm = _; rw [hfc.2.1]; exact d3⟩) (hS.puts f2 f3 (am_ad_ge hdst) (fun x hx => by
    obtain ⟨y, -, rfl⟩ := List.mem_map.mp hx
    rfl)) T' rfl X'
  exact ⟨t9, st9 t9 a1, b1⟩
def ck_arM (G : am_G) : ck_CM := fun a h _ _ P => ∃ (src dst ts td : Nat) (sp dp n9 : Int32) (vs vd : List Value), a = [.ref src, .int sp, .ref dst, .int dp, .int n9] ∧ 1000 ≤ dst ∧ am_g G h src = some (ts, vs) ∧ am_g G h dst = some (td, vd) ∧ (ts % 100 = 56 ∧ td % 100 = 56) ∧ (0 ≤ sp.toInt ∧ 0 ≤ dp.toInt ∧ 0 ≤ n9.toInt ∧ sp.toInt + n9.toInt ≤ vs.length ∧ dp.toInt + n9.toInt ≤ vd.length) ∧
  (∀ (j : Nat) (v : Value), vs[j]? = some v → v = .null ∨ ∃ (q tq : Nat) (vq : List Value), v = .ref q ∧ am_g G h q = some (tq, vq) ∧ am_ob (tq % 100) = true) ∧ P (.inl none) (am_s h dst (td, am_cpy vs vd sp.toInt.toNat dp.toInt.toNat n9.toInt.toNat))
theorem ck_kAR {fr lo i : Nat} (hl : Cond.methodLink own i am_acN ∈ lw_gw) (hnat : Cond.native am_acN ∈ lw_gw) (hsta : Cond.static am_acN ∈ lw_gw) (hini : Cond.initialized "java/lang/System" ∈ lw_gw) (hc1 : Cond.castable "[I" "java/lang/Object" ∈ lw_ng) (hc2 : Cond.castable "java/lang/Integer" "java/lang/Object" ∈ lw_ng) (hc3 : Cond.castable "ClockhouseModel$State" "java/lang/Object" ∈ lw_ng)
    (hf : 1 ≤ fr) (ho : 8 + (nativeFrameWords "java/lang/System" "arraycopy" 5 + 11) ≤ lo) : ck_any l G own nL fr lo (.invokestatic i) 3 none 5 (ck_arM G) := by
  intro p e s m args below meth c mc ms Post cc ret pc X d a L st h k n mc' ms' P hM hna hL hst hrc hk hn kr kx
  obtain ⟨src, dst, ts, td, sp, dp, n9, vs, vd, rfl, h1, h2, h3, ⟨h4, h5⟩, ⟨h7, h8, h9, h10, h11⟩, h12, hP⟩ := hM
  refine am_R.acopyR X hl hnat hsta hini h1 h2 h3 h4 h5 h7 h8 h9 h10 h11 (fun j v hv => ?_) hL hst hf ho d (am_R.widen (Nat.le_add_right _ _) (Nat.le_add_right _ _) (kr none _ hP))
  rcases h12 j v hv with hz | ⟨q, tq, vq, z1, z2, z3⟩
  · exact Or.inl hz
  · refine Or.inr ⟨q, tq, vq, z1, z2, ?_⟩
    have hk := X.2.2.2.2.2.1
    unfold am_ob at z3
    rcases Bool.or_eq_true_iff.mp z3 with z | z
    · rw [ck_beq z]; exact ⟨by decide, am_asg_arr hk hc1⟩
    · rcases Bool.or_eq_true_iff.mp z with z | z
      · rw [ck_beq z]; exact ⟨by decide, am_asg_obj hk (ci := 2) rfl (by decide) hc2⟩
      · rw [ck_beq z]; exact ⟨by decide, am_asg_obj hk (ci := 18) rfl (by decide) hc3⟩
end AMAR
/-- within one row: so many references are ahead -/
def ck_arK (t : Nat) : ck_KK := (([(0, 2147483647), (0, 2147483647), (0, 2147483647), (0, 80), (0, 80)], [(0, [(-1, 0), (-1, 2), (1, 3)]), (0, [(-1, 1), (-1, 2), (1, 3)]), (0, [(-1, 0), (-1, 2), (1, 4)]), (0, [(-1, 1), (1, 4)])], [(2, 0, 0, t, (0, 0, (0, [(1, 3)]))), (6, 0, 4, t, (0, 0, (0, [(1, 4)])))], 1, [(3, 0, (0, [])), (1, 0, (0, [(1, 0)])), (3, 0, (0, [])), (1, 0, (0, [(1, 1)])), (1, 0, (0, [(1, 2)]))]), ((0, []), (0, [])), [(t, 1000)], [], ([], [], [(6, 0, 4, t, (0, 0, (0, [(1, 1), (1, 2)])))], 0, []), [])
def ck_arOK (T : ck_TT) (t : Nat) : Bool := match ck_lk T t with
  | some (1, _, _, [(5, te, _, _)]) => am_ob (te % 100) && (Nat.beq (t % 100) 56 && Nat.blt t 40000)
  | _ => false
theorem ck_ar_con {G : am_G} {X : ck_XT} {T : ck_TT} {t : Nat} (hX : ck_XO X) (hX0 : ck_X0 X) (hok : ck_arOK T t = true) : ck_Con (am_grow (ck_arM G)) G X T (ck_arK t) := by
  intro K r s a h hH hV hC hF hn hS mc ms hmc hms
  unfold ck_arOK at hok
  split at hok
  · next x1 x2 te x5 x6 e1 =>
    simp only [Bool.and_eq_true] at hok
    obtain ⟨k1, k2, k3⟩ := hok
    have k2 := ck_beq k2
    have k3 : t < 40000 := by simpa using k3
    obtain ⟨q, vs, s1, s2, s3⟩ := hF (2, 0, 0, t, (0, 0, (0, [(1, 3)]))) (by unfold ck_arK; simp)
    obtain ⟨q', vs', xx, d1, d2, d3, d4⟩ := hF (6, 0, 4, t, (0, 0, (0, [(1, 4)]))) (by unfold ck_arK; simp)
    have s1 : s[0]? = some q := s1
    have d1 : s[0]? = some q' := d1
    rw [s1] at d1
    cases d1
    have s2 : am_g G h q = some (t, vs) := s2
    have d2 : am_g G h q = some (t, vs') := d2
    rw [s2] at d2
    cases d2
    have s3 := ck_lvk (ck_lv1 s3)
    have d3 := ck_lvk (ck_lv1 d3)
    have d4 : ∀ k : Nat, (k : Int) < xx → ∃ q : Nat, vs[k]? = some (.ref q) := d4
    have hw : ck_wr T t = true := by unfold ck_wr; rw [e1]; rfl
    have hq := (hH.2 _ _ _ s2).2.2 hw
    match a, hS with
    | [v1, v2, v3, v4, v5], ⟨⟨q1, z1, z1'⟩, ⟨q2, z2, z2'⟩, ⟨q3, z3, z3'⟩, ⟨q4, z4, z4'⟩, ⟨q5, z5, z5'⟩, _⟩ =>
    subst z1' z2 z3' z4 z5
    have z1 : s[0]? = some q1 := z1
    have z3 : s[0]? = some q3 := z3
    rw [s1] at z1 z3
    cases z1
    cases z3
    have w2' := ck_lv1 z2'
    have w4' := ck_lv1 z4'
    have w5' := ck_lv1 z5'
    have y1 := hV.2 0 0 2147483647 _ rfl w2'
    have y2 := hV.2 1 0 2147483647 _ rfl w4'
    have y3 := hV.2 2 0 2147483647 _ rfl w5'
    obtain ⟨u1, ⟨-, u2⟩, u3⟩ := hC (0, [(-1, 0), (-1, 2), (1, 3)]) (by unfold ck_arK; simp)
    obtain ⟨u4, ⟨-, u5⟩, u6⟩ := hC (0, [(-1, 1), (-1, 2), (1, 3)]) (by unfold ck_arK; simp)
    obtain ⟨u7, ⟨-, u8⟩, u9⟩ := hC (0, [(-1, 0), (-1, 2), (1, 4)]) (by unfold ck_arK; simp)
    obtain ⟨o1, ⟨-, o2⟩, o3⟩ := hC (0, [(-1, 1), (1, 4)]) (by unfold ck_arK; simp)
    have u2 : u1 = (0 : Int) + (-1 * r.getD 0 0 + (-1 * r.getD 2 0 + (1 * r.getD 3 0 + 0))) := u2
    have u5 : u4 = (0 : Int) + (-1 * r.getD 1 0 + (-1 * r.getD 2 0 + (1 * r.getD 3 0 + 0))) := u5
    have u8 : u7 = (0 : Int) + (-1 * r.getD 0 0 + (-1 * r.getD 2 0 + (1 * r.getD 4 0 + 0))) := u8
    have o2 : o1 = (0 : Int) + (-1 * r.getD 1 0 + (1 * r.getD 4 0 + 0)) := o2
    rw [ck_lvk w2', ck_lvk w5', s3] at u2
    rw [ck_lvk w4', ck_lvk w5', s3] at u5
    rw [ck_lvk w2', ck_lvk w5', d3] at u8
    rw [ck_lvk w4', d3] at o2
    have hsv : ∀ (j : Nat) (v : Value), vs[j]? = some v → ck_ty K (am_g G h) (5, te, x5, x6) v := by
      intro j v hv
      obtain ⟨y, hy, ht⟩ := ((hH.2 _ _ _ s2).1 _ e1).2 j v hv
      cases hy
      exact ht
    have hp0 : ck_Hp (G, X, T, K, h, r, s, [(t, 1000)], []) r s h := ⟨hH, ck_Kp.rf, Nat.le_refl _, ⟨[], (List.append_nil r).symm⟩, [], (List.append_nil s).symm⟩
    have hput := ck_Hp.put hp0 hX hX0 (t' := t) (vs' := am_cpy vs vs q2.toInt.toNat q4.toInt.toNat q5.toInt.toNat) s2 hq k3 k3 (am_cpy_len _ _ _ _ _) (Or.inl rfl)
      (fun g' hx d hd => by
        have hd : ck_lk T t = some d := hd
        rw [e1] at hd
        cases hd
        refine ⟨by rw [am_cpy_len]; exact ((hH.2 _ _ _ s2).1 _ e1).1, fun j v hv => ⟨_, rfl, ?_⟩⟩
        have : ∃ j' : Nat, vs[j']? = some v := by
          rcases am_cpy_at hv (by omega) with ⟨-, -, g3⟩ | ⟨-, g3⟩
          · exact ⟨_, g3⟩
          · exact ⟨_, g3⟩
        obtain ⟨j', hj'⟩ := this
        exact (hsv j' v hj').ex fun a b c d1 d2 => by obtain ⟨x1, x2, x3, -⟩ := hx a b c d1 d2; exact ⟨x1, x2, x3⟩)
      (Or.inl ⟨rfl, fun j hj => by
        exfalso
        have hj : ck_inM [(t, 1000)] t j = false := hj
        unfold ck_inM at hj
        simp at hj⟩)
    refine ⟨q, q, t, t, q2, q4, q5, vs, vs, rfl, hq, s2, s2, ⟨k2, k2⟩, ⟨by omega, by omega, by omega, by omega, by omega⟩, fun j v hv => ?_, ⟨hput.1, hput.2.1, hput.2.2.1, [], [], (⟨rfl, fun i a b x z => by simp at z⟩ : ck_In ([] : ck_I) []), (List.forall_mem_nil _ : ∀ c ∈ ([] : List ck_L), _), ?_, rfl, trivial⟩, by rw [am_s_len]; omega⟩
    · rcases hsv j v hv with ⟨-, hz | ⟨e, ve, hz, he⟩⟩
      · exact Or.inl hz
      · exact Or.inr ⟨e, te, ve, hz, he, k1⟩
    · intro f hf
      have hf : f ∈ [((6 : Nat), (0 : Nat), (4 : Nat), t, ((0 : Nat), (0 : Nat), ((0 : Int), [((1 : Int), (1 : Nat)), ((1 : Int), (2 : Nat))])))] := hf
      rw [List.mem_singleton] at hf
      subst hf
      have hgn : am_g G (am_s h q (t, am_cpy vs vs q2.toInt.toNat q4.toInt.toNat q5.toInt.toNat)) q = some (t, am_cpy vs vs q2.toInt.toNat q4.toInt.toNat q5.toInt.toNat) := by rw [am_g_s hq (am_g_lt hq s2), if_pos rfl]
      refine ⟨q, _, q4.toInt + q5.toInt, by rw [List.append_nil]; exact s1, hgn, ?_, fun k hk => ?_⟩
      · have := z4'.add z5'
        rw [List.append_nil]
        exact this
      · by_cases e : q4.toInt.toNat ≤ k ∧ k < q4.toInt.toNat + q5.toInt.toNat
        · obtain ⟨qq, hqq⟩ := d4 (q2.toInt.toNat + (k - q4.toInt.toNat)) (by omega)
          refine ⟨qq, ?_⟩
          have hk2 : k < vs.length := by omega
          unfold am_cpy
          rw [List.getElem?_map, List.getElem?_range hk2]
          show some (if q4.toInt.toNat ≤ k ∧ k < q4.toInt.toNat + q5.toInt.toNat then vs.getD _ .null else _) = _
          rw [if_pos e, List.getD_eq_getElem?_getD, hqq]
          rfl
        · obtain ⟨qq, hqq⟩ := d4 k (by omega)
          refine ⟨qq, ?_⟩
          have hk2 : k < vs.length := (List.getElem?_eq_some_iff.mp hqq).1
          unfold am_cpy
          rw [List.getElem?_map, List.getElem?_range hk2]
          show some (if q4.toInt.toNat ≤ k ∧ k < q4.toInt.toNat + q5.toInt.toNat then _ else vs.getD k .null) = _
          rw [if_neg e, List.getD_eq_getElem?_getD, hqq]
          rfl
  · cases hok
/-- the beginning of one row into another one -/
def ck_arcK (ts td : Nat) : ck_KK := (([(0, 80), (0, 80), (0, 80), (0, 80)], [(0, [(-1, 0), (1, 1)]), (0, [(-1, 0), (1, 2)]), (0, [(1, 0), (-1, 3)])], [(2, 0, 0, ts, (0, 0, (0, [(1, 1)]))), (6, 0, 4, ts, (0, 0, (0, [(1, 3)]))), (2, 1, 0, td, (0, 0, (0, [(1, 2)])))], 2, [(3, 0, (0, [])), (1, 0, (0, [])), (3, 1, (0, [])), (1, 0, (0, [])), (1, 0, (0, [(1, 0)]))]), ((0, []), (0, [])), [(td, 1000)], [], ([], [], [(6, 1, 4, td, (0, 0, (0, [(1, 3)])))], 0, []), [])
def ck_arcOK (T : ck_TT) (ts td : Nat) : Bool := match ck_lk T ts, ck_lk T td with
  | some (c, _, hi, [(5, te', _, _)]), some (1, _, _, [(5, te, _, _)]) => (am_ob (te % 100) && (Nat.beq (ts % 100) 56 && (Nat.beq (td % 100) 56 && Nat.blt td 40000))) && (Nat.beq (c % 2) 1 && (ck_nn (-hi) || Nat.beq te te'))
  | _, _ => false
theorem ck_arc_con {G : am_G} {X : ck_XT} {T : ck_TT} {ts td : Nat} (hX : ck_XO X) (hX0 : ck_X0 X) (hok : ck_arcOK T ts td = true) : ck_Con (am_grow (ck_arM G)) G X T (ck_arcK ts td) := by
  intro K r s a h hH hV hC hF hn hS mc ms hmc hms
  unfold ck_arcOK at hok
  split at hok
  · next c x0 hi te' x7 x8 x1 x2 te x5 x6 e0 e1 =>
    simp only [Bool.and_eq_true] at hok
    obtain ⟨⟨k1, k2, k3, k4⟩, k5, k6⟩ := hok
    have k2 := ck_beq k2
    have k3 := ck_beq k3
    have k5 := ck_beq k5
    have k4 : td < 40000 := by simpa using k4
    obtain ⟨src, vs, s1, s2, s3⟩ := hF (2, 0, 0, ts, (0, 0, (0, [(1, 1)]))) (by unfold ck_arcK; simp)
    obtain ⟨src', vs', xx, d1, d2, d3, d4⟩ := hF (6, 0, 4, ts, (0, 0, (0, [(1, 3)]))) (by unfold ck_arcK; simp)
    obtain ⟨dst, vd, t1, t2, t3⟩ := hF (2, 1, 0, td, (0, 0, (0, [(1, 2)]))) (by unfold ck_arcK; simp)
    have s1 : s[0]? = some src := s1
    have d1 : s[0]? = some src' := d1
    rw [s1] at d1
    cases d1
    have s2 : am_g G h src = some (ts, vs) := s2
    have d2 : am_g G h src = some (ts, vs') := d2
    rw [s2] at d2
    cases d2
    have t1 : s[1]? = some dst := t1
    have t2 : am_g G h dst = some (td, vd) := t2
    have s3 := ck_lvk (ck_lv1 s3)
    have d3' := ck_lvk (ck_lv1 d3)
    have t3 := ck_lvk (ck_lv1 t3)
    have d4 : ∀ k : Nat, (k : Int) < xx → ∃ q : Nat, vs[k]? = some (.ref q) := d4
    have hw : ck_wr T td = true := by unfold ck_wr; rw [e1]; rfl
    have hdst := (hH.2 _ _ _ t2).2.2 hw
    match a, hS with
    | [v1, v2, v3, v4, v5], ⟨⟨q1, z1, z1'⟩, ⟨q2, z2, z2'⟩, ⟨q3, z3, z3'⟩, ⟨q4, z4, z4'⟩, ⟨q5, z5, z5'⟩, _⟩ =>
    subst z1' z2 z3' z4 z5
    have z1 : s[0]? = some q1 := z1
    have z3 : s[1]? = some q3 := z3
    rw [s1] at z1
    rw [t1] at z3
    cases z1
    cases z3
    have w2 : q2.toInt = (0 : Int) + 0 := z2'.2
    have w4 : q4.toInt = (0 : Int) + 0 := z4'.2
    have w5' := ck_lv1 z5'
    have y3 := hV.2 0 0 80 _ rfl w5'
    obtain ⟨u1, ⟨-, u2⟩, u3⟩ := hC (0, [(-1, 0), (1, 1)]) (by unfold ck_arcK; simp)
    obtain ⟨u4, ⟨-, u5⟩, u6⟩ := hC (0, [(-1, 0), (1, 2)]) (by unfold ck_arcK; simp)
    obtain ⟨u7, ⟨-, u8⟩, u9⟩ := hC (0, [(1, 0), (-1, 3)]) (by unfold ck_arcK; simp)
    have u2 : u1 = (0 : Int) + (-1 * r.getD 0 0 + (1 * r.getD 1 0 + 0)) := u2
    have u5 : u4 = (0 : Int) + (-1 * r.getD 0 0 + (1 * r.getD 2 0 + 0)) := u5
    have u8 : u7 = (0 : Int) + (1 * r.getD 0 0 + (-1 * r.getD 3 0 + 0)) := u8
    rw [ck_lvk w5', s3] at u2
    rw [ck_lvk w5', t3] at u5
    rw [ck_lvk w5', d3'] at u8
    have hsv : ∀ (j : Nat) (v : Value), vs[j]? = some v → ck_ty K (am_g G h) (5, te, x5, x6) v := by
      intro j v hv
      obtain ⟨f1, f2⟩ := (hH.2 _ _ _ s2).1 _ e0
      obtain ⟨y, hy, ht⟩ := f2 j v hv
      unfold ck_yt at hy
      rw [show Nat.beq (c % 2) 0 = false by rw [k5]; rfl] at hy
      cases hy
      rcases Bool.or_eq_true_iff.mp k6 with k6 | k6
      · exfalso
        have k6 := ck_nn_ok k6
        have hj := (List.getElem?_eq_some_iff.mp hv).1
        have f1 : (vs.length : Int) ≤ hi := f1.2
        omega
      · rw [ck_beq k6]; exact ht
    have hdv : ∀ (j : Nat) (v : Value), vd[j]? = some v → ck_ty K (am_g G h) (5, te, x5, x6) v := by
      intro j v hv
      obtain ⟨y, hy, ht⟩ := ((hH.2 _ _ _ t2).1 _ e1).2 j v hv
      cases hy
      exact ht
    have hp0 : ck_Hp (G, X, T, K, h, r, s, [(td, 1000)], []) r s h := ⟨hH, ck_Kp.rf, Nat.le_refl _, ⟨[], (List.append_nil r).symm⟩, [], (List.append_nil s).symm⟩
    have hput := ck_Hp.put hp0 hX hX0 (t' := td) (vs' := am_cpy vs vd q2.toInt.toNat q4.toInt.toNat q5.toInt.toNat) t2 hdst k4 k4 (am_cpy_len _ _ _ _ _) (Or.inl rfl)
      (fun g' hx d hd => by
        have hd : ck_lk T td = some d := hd
        rw [e1] at hd
        cases hd
        refine ⟨by rw [am_cpy_len]; exact ((hH.2 _ _ _ t2).1 _ e1).1, fun j v hv => ⟨_, rfl, ?_⟩⟩
        have : ck_ty K (am_g G h) (5, te, x5, x6) v := by
          rcases am_cpy_at hv (by omega) with ⟨-, -, g3⟩ | ⟨-, g3⟩
          · exact hsv _ _ g3
          · exact hdv _ _ g3
        exact this.ex fun a b c d1 d2 => by obtain ⟨x1, x2, x3, -⟩ := hx a b c d1 d2; exact ⟨x1, x2, x3⟩)
      (Or.inl ⟨rfl, fun j hj => by
        exfalso
        have hj : ck_inM [(td, 1000)] td j = false := hj
        unfold ck_inM at hj
        simp at hj⟩)
    refine ⟨src, dst, ts, td, q2, q4, q5, vs, vd, rfl, hdst, s2, t2, ⟨k2, k3⟩, ⟨by omega, by omega, by omega, by omega, by omega⟩, fun j v hv => ?_, ⟨hput.1, hput.2.1, hput.2.2.1, [], [], (⟨rfl, fun i a b x z => by simp at z⟩ : ck_In ([] : ck_I) []), (List.forall_mem_nil _ : ∀ c ∈ ([] : List ck_L), _), ?_, rfl, trivial⟩, by rw [am_s_len]; omega⟩
    · rcases hsv j v hv with ⟨-, hz | ⟨e, ve, hz, he⟩⟩
      · exact Or.inl hz
      · exact Or.inr ⟨e, te, ve, hz, he, k1⟩
    · intro f hf
      have hf : f ∈ [((6 : Nat), (1 : Nat), (4 : Nat), td, ((0 : Nat), (0 : Nat), ((0 : Int), [((1 : Int), (3 : Nat))])))] := hf
      rw [List.mem_singleton] at hf
      subst hf
      have hgn : am_g G (am_s h dst (td, am_cpy vs vd q2.toInt.toNat q4.toInt.toNat q5.toInt.toNat)) dst = some (td, am_cpy vs vd q2.toInt.toNat q4.toInt.toNat q5.toInt.toNat) := by rw [am_g_s hdst (am_g_lt hdst t2), if_pos rfl]
      refine ⟨dst, _, xx, by rw [List.append_nil]; exact t1, hgn, by rw [List.append_nil]; exact d3, fun k hk => ?_⟩
      obtain ⟨qq, hqq⟩ := d4 k hk
      refine ⟨qq, ?_⟩
      have hk2 : k < vd.length := by omega
      have e : q4.toInt.toNat ≤ k ∧ k < q4.toInt.toNat + q5.toInt.toNat := by omega
      unfold am_cpy
      rw [List.getElem?_map, List.getElem?_range hk2]
      show some (if q4.toInt.toNat ≤ k ∧ k < q4.toInt.toNat + q5.toInt.toNat then vs.getD _ .null else _) = _
      rw [if_pos e, show q2.toInt.toNat + (k - q4.toInt.toNat) = k by omega, List.getD_eq_getElem?_getD, hqq]
      rfl
  · cases hok
/-! GETCLASS OF A ROW OF Object -/
def ck_gcM (G : am_G) : ck_CM := fun a h _ _ P => ∃ (src t : Nat) (vs : List Value), a = [.ref src] ∧ am_g G h src = some (t, vs) ∧ t % 100 = 56 ∧ P (.inl (some (.ref 5))) h
section AMGC
variable {l : Launch} {G : am_G} {own : String} {nL fr lo i : Nat}
theorem ck_kGC (hl : Cond.methodLink own i am_gcN ∈ lw_gw) (hde : Cond.declares am_gcN ∈ lw_ng) (hse : Cond.selects "[Ljava/lang/Object;" am_gcN am_gcN ∈ lw_gw) (hin : Cond.instanceMethod am_gcN ∈ lw_gw) (hna : Cond.native am_gcN ∈ lw_gw) (hf : 1 ≤ fr) (ho : 22 ≤ lo) : ck_any l G own nL fr lo (.invokevirtual i) 3 (some 56) 1 (ck_gcM G) := by
  intro p e s m args below meth c mc ms Post cc ret pc X d a L st h k n mc' ms' P hM hna' hL hst hrc hk hn kr kx
  obtain ⟨src, t, vs, rfl, g1, g2, hP⟩ := hM
  exact am_R.getC X hl hde hse hin hna g1 g2 (by decide +kernel) hL hst hf ho d (am_R.widen (Nat.le_add_right _ _) (Nat.le_add_right _ _) (kr (some _) _ hP))
end AMGC
def ck_gcK (t : Nat) : ck_KK := (([(0, 80)], [], [(2, 0, 0, t, (0, 0, (0, [(1, 0)])))], 1, [(3, 0, (0, []))]), ((0, []), (0, [])), [], [], ([], [], [(2, 1, 0, 43099, (0, 0, (0, [])))], 1, [(3, 1, (0, []))]), [])
theorem ck_gc_con {G : am_G} {X : ck_XT} {T : ck_TT} {t : Nat} (hKT : ck_KT G T) (hrow : ck_lk T 100005 = some (43099, 0, 0, [])) (ht : t % 100 = 56) : ck_Con (am_grow (ck_gcM G)) G X T (ck_gcK t) := by
  intro K r s a h hH hV hC hF hn hS mc ms hmc hms
  obtain ⟨src, vs, s1, s2, s3⟩ := hF (2, 0, 0, t, (0, 0, (0, [(1, 0)]))) (by unfold ck_gcK; simp)
  have s1 : s[0]? = some src := s1
  have s2 : am_g G h src = some (t, vs) := s2
  match a, hS with
  | [v1], ⟨⟨q1, z1, z1'⟩, _⟩ =>
  subst z1'
  have z1 : s[0]? = some q1 := z1
  rw [s1] at z1
  cases z1
  obtain ⟨-, wv, w1, w2⟩ := hKT 5 _ hrow
  have hn : s.length = 1 := hn
  have hq : (s ++ [5])[1]? = some 5 := by
    rw [List.getElem?_append_right (by omega), hn]
    rfl
  refine ⟨src, t, vs, rfl, s2, ht, ⟨hH, ck_Kp.rf, Nat.le_refl _, [], [5], (⟨rfl, fun i a b x z => by simp at z⟩ : ck_In ([] : ck_I) []), (List.forall_mem_nil _ : ∀ c ∈ ([] : List ck_L), _), fun f hf => ?_, rfl, ⟨⟨5, hq, rfl⟩, trivial⟩⟩, by omega⟩
  have hf : f ∈ [((2 : Nat), (1 : Nat), (0 : Nat), 43099, ((0 : Nat), (0 : Nat), ((0 : Int), ([] : List (Int × Nat)))))] := hf
  rw [List.mem_singleton] at hf
  subst hf
  exact ⟨5, wv, hq, w1, by rw [w2]; exact ck_Lv.k _ 0⟩
