section
/-! SYSTEM.ARRAYCOPY, OF NUMBERS -/
def am_acN : MethodName := ⟨"java/lang/System", "arraycopy", "(Ljava/lang/Object;ILjava/lang/Object;II)V"⟩
/-- the destination's values behind a copy -/
def am_cpy (vs vd : List Value) (sp dp n : Nat) : List Value := (List.range vd.length).map fun j => if dp ≤ j ∧ j < dp + n then vs.getD (sp + (j - dp)) .null else vd.getD j .null
theorem am_cpy_len (vs vd : List Value) (sp dp n : Nat) : (am_cpy vs vd sp dp n).length = vd.length := by unfold am_cpy; simp
theorem am_cpy_at {vs vd : List Value} {sp dp n j : Nat} {v : Value} (h : (am_cpy vs vd sp dp n)[j]? = some v) (h1 : sp + n ≤ vs.length) : (dp ≤ j ∧ j < dp + n ∧ vs[sp + (j - dp)]? = some v) ∨ (¬ (dp ≤ j ∧ j < dp + n) ∧ vd[j]? = some v) := by
  have hj : j < vd.length := by have := (List.getElem?_eq_some_iff.mp h).1; rwa [am_cpy_len] at this
  unfold am_cpy at h
  rw [List.getElem?_map, List.getElem?_range hj] at h
  have h' : (if dp ≤ j ∧ j < dp + n then vs.getD (sp + (j - dp)) .null else vd.getD j .null) = v := Option.some.inj h
  by_cases e : dp ≤ j ∧ j < dp + n
  · rw [if_pos e] at h'
    refine Or.inl ⟨e.1, e.2, ?_⟩
    have hl : sp + (j - dp) < vs.length := by omega
    rw [List.getElem?_eq_getElem hl, ← h', List.getD_eq_getElem?_getD, List.getElem?_eq_getElem hl]
    rfl
  · rw [if_neg e] at h'
    refine Or.inr ⟨e, ?_⟩
    rw [List.getElem?_eq_getElem hj, ← h', List.getD_eq_getElem?_getD, List.getElem?_eq_getElem hj]
    rfl
theorem am_stretch_at {c : Cell} {a n i : Nat} (h : i < n) : (c.stretch a n)[i]? = some (c.slots.getD (a + i) .null) := by
  unfold Cell.stretch
  rw [List.getElem?_map, List.getElem?_range h]
  rfl
section AMAC
variable {G : am_G} {p : Program} {l : Launch} {e : Env} {R : Room} {s : State} {m : MethodId} {args : Array Value} {below : List Frame} {meth : Method} {c : Code} {mc ms : Nat} {Post : am_O → List am_C → Prop}
variable {own : String} {cc : ByteArray} {nL pc : Nat} {ret : Option FieldType} {L : List (Option Value)} {st : List Value} {h : List am_C} {k n : Nat}
theorem va_S.puts {A : Nat → Prop} {H0 H H1 : Heap} {locs ls : List Loc} {a : Nat} (h : va_S A H0 H locs) (z : H1.size = H.size) (oq : ∀ q : Nat, q ≠ a → H1[q]? = H[q]?) (ha : A a) (hl : ∀ x ∈ ls, x.base = a) : va_S A H0 H1 (locs ++ ls) := by
  refine ⟨by rw [z]; exact h.1, fun q h1 h2 => ?_, fun q hq => ?_⟩
  · rw [oq q (fun e => h2 (by rw [e]; exact ha))]
    exact h.2.1 q h1 h2
  · rcases List.mem_append.mp hq with h1 | h1
    · exact h.2.2 q h1
    · rw [hl q h1]; exact ha
theorem am_fits_num {G : am_G} {t : Nat} {v : Value} (h1 : 50 ≤ t) (h2 : t < 53) (h : fits (am_aty t) v = true) : am_rv G v = v ∧ ∀ (T : State) (cp : ClassId), T.takes cp v := by
  have h3 : t = 50 ∨ t = 51 ∨ t = 52 := by omega
  cases v with
  | ref r => rcases h3 with rfl | rfl | rfl <;> cases h
  | _ => exact ⟨rfl, fun _ _ => trivial⟩
theorem am_R.acopy (X : am_Cx l G p s m args meth c own cc nL ret) {i src dst ts td : Nat} {sp dp n9 : Int32} {vs vd : List Value} (hl : Cond.methodLink own i am_acN ∈ lw_gw) (hnat : Cond.native am_acN ∈ lw_gw) (hsta : Cond.static am_acN ∈ lw_gw) (hini : Cond.initialized "java/lang/System" ∈ lw_gw)
    (hdst : 1000 ≤ dst) (hgs : am_g G h src = some (ts, vs)) (hgd : am_g G h dst = some (td, vd)) (hk : ts % 100 = td % 100) (h1 : 50 ≤ ts % 100) (h2 : ts % 100 < 53) (h3 : 0 ≤ sp.toInt) (h4 : 0 ≤ dp.toInt) (h5 : 0 ≤ n9.toInt) (h6 : sp.toInt + n9.toInt ≤ vs.length) (h7 : dp.toInt + n9.toInt ≤ vd.length)
    (hv : ∀ (j : Nat) (v : Value), vs[j]? = some v → fits (am_aty (ts % 100)) v = true) (hLn : L.length = nL) (hst : (st.map fun v => v.category).sum ≤ 8) (hfr : 1 ≤ R.frames) (hlo : 8 + (nativeFrameWords "java/lang/System" "arraycopy" 5 + 11) ≤ R.locals) (d : decode cc pc = .ok (.invokestatic i, 3))
    (kk : am_R G p l e R s m args below meth c mc ms Post (pc + 3) L st (am_s h dst (td, am_cpy vs vd sp.toInt.toNat dp.toInt.toNat n9.toInt.toNat)) k n) : am_R G p l e R s m args below meth c mc ms Post pc L (.int n9 :: .int dp :: .ref dst :: .int sp :: .ref src :: st) h k n := by
  intro ls H locs hL hH hS T hT Y
  obtain ⟨cs, q1, q2⟩ := am_cell hH (am_kt_S X.2.2.2.2.2.1 hS) hgs (by show ts % 100 < 62; omega)
  obtain ⟨cd, d1, d2, d3⟩ := am_cellD hH hdst hgd
  obtain ⟨-, kS, hkS, cpS, hkkS⟩ := am_isArr (q := ts % 100) X.2.2.2.2.2.1 q2 rfl h1 (by omega)
  obtain ⟨-, kD, hkD, cpD, hkkD⟩ := am_isArr (q := ts % 100) X.2.2.2.2.2.1 d2.rk (show td % 100 = ts % 100 by omega) h1 (by omega)
  obtain ⟨-, s1, s2, -⟩ := q2.2.2.2 h1 (by show ts % 100 < 62; omega)
  obtain ⟨d4, d5, d6⟩ := d2.2.2.2 (by show 50 ≤ td % 100; omega) (by show td % 100 < 62; omega)
  have s1 : vs.length ≤ cs.slots.size := s1
  have d5 : cd.slots.size = vd.length := d5
  have e3 : sp.toNatClampNeg = sp.toInt.toNat := rfl
  have e4 : dp.toNatClampNeg = dp.toInt.toNat := rfl
  have e5 : n9.toNatClampNeg = n9.toInt.toNat := rfl
  have hty : ((refKind (am_aty (ts % 100)) != refKind (am_aty (ts % 100))) || (!refKind (am_aty (ts % 100)) && am_aty (ts % 100) != am_aty (ts % 100))) = false := by
    have h3 : ts % 100 = 50 ∨ ts % 100 = 51 ∨ ts % 100 = 52 := by omega
    rcases h3 with h3 | h3 | h3 <;> rw [h3] <;> rfl
  have hget : ∀ i : Nat, i < n9.toInt.toNat → ∃ v, vs[sp.toInt.toNat + i]? = some v ∧ cs.slots.getD (sp.toInt.toNat + i) .null = v ∧ am_rv G v = v ∧ fits (am_aty (ts % 100)) v = true ∧ ∀ (T : State) (cp : ClassId), T.takes cp v := by
    intro i hi
    have hlt : sp.toInt.toNat + i < vs.length := by omega
    have hv1 := List.getElem?_eq_getElem hlt
    have hf := hv _ _ hv1
    obtain ⟨f1, f2⟩ := am_fits_num (G := G) h1 h2 hf
    refine ⟨_, hv1, ?_, f1, hf, f2⟩
    have := s2 _ _ hv1
    rw [f1] at this
    rw [Array.getD_eq_getD_getElem?, this]
    rfl
  have hneg : ∀ x : Int32, 0 ≤ x.toInt → ¬ x < 0 := fun x hx z => by rw [Int32.lt_iff_toInt_lt, Int32.toInt_zero] at z; omega
  obtain ⟨vm', X', st9⟩ := Y.arraycopy X.1 (own := own) (index := i) X.2.2.2.1 (X.2.2.2.2.1 _ hl) (X.2.2.2.2.1 _ hnat) (X.2.2.2.2.1 _ hsta) (X.2.2.2.2.1 _ hini) (src := am_ad G src) (dst := am_ad G dst) (srcPos := sp) (destPos := dp) (n := n9) (cs := cs) (cd := cd)
    (by rw [hT]; exact q1) (by rw [hT]; exact d1) (fun q z => by have := q2.2.1; rw [z] at this; cases this) (fun q z => by rw [d3] at z; cases z) q2.1 d2.1 hkS hkD hkkS hkkD hty (hneg _ h3) (hneg _ h4) (hneg _ h5)
    (by omega) (by rw [d5]; omega)
    (fun vm' _ i hi => by
      obtain ⟨v, -, g2, -, g4, g5⟩ := hget i hi
      rw [e3, g2]
      exact ⟨g4, g5 _ _⟩)
    (g := F0 m pc ls ((.int n9 :: .int dp :: .ref dst :: .int sp :: .ref src :: st : List Value).map (am_rv G))) rfl (by show ls.size = c.maxLocals; rw [hL.1, hLn]; exact X.2.2.1.symm) (rest := st.map (am_rv G)) rfl (by rw [X.2.1]; exact d) hfr (by
      show 2 * 0 + ((st.map (am_rv G)).map fun v => v.category).sum + _ ≤ _
      rw [am_cats]; omega)
  have hfc := Cell.storeRun_facts cd dp.toNatClampNeg (cs.stretch sp.toNatClampNeg n9.toNatClampNeg)
  have hlt : am_ad G dst < H.size := (Array.getElem?_eq_some_iff.mp d1).1
  let T' : State := (T.setVm vm').setCell (am_ad G dst) (copied cs cd sp dp n9)
  have f1 : T'.heap[am_ad G dst]? = some (copied cs cd sp dp n9) := State.heap_setCell_self (by show T.heap[am_ad G dst]? = some cd; rw [hT]; exact d1)
  have f2 : T'.heap.size = H.size := by show (T.heap.setIfInBounds _ _).size = _; rw [Array.size_setIfInBounds, hT]
  have f3 : ∀ q, q ≠ am_ad G dst → T'.heap[q]? = H[q]? := fun q hq => by
    show (T.heap.setIfInBounds _ _)[q]? = _
    rw [Array.getElem?_setIfInBounds_ne (Ne.symm hq), hT]
  have hro : am_ro G (td, am_cpy vs vd sp.toInt.toNat dp.toInt.toNat n9.toInt.toNat) (copied cs cd sp dp n9) := by
    refine ⟨by show (cd.storeRun _ _).vm ≠ _; rw [hfc.2.1]; exact d2.1, by show (cd.storeRun _ _).vm.isStatics = false; rw [hfc.2.1]; exact d2.2.1, fun z => by exfalso; have : td % 100 < 50 := z; omega, fun _ _ => ⟨by show (cd.storeRun _ _).cls = _; rw [hfc.1]; exact d4, ?_, fun j v hj => ?_⟩⟩
    · show (cd.storeRun _ _).slots.size = (am_cpy _ _ _ _ _).length
      rw [hfc.2.2.1, am_cpy_len, d5]
    · show (cd.storeRun dp.toNatClampNeg (cs.stretch sp.toNatClampNeg n9.toNatClampNeg)).slots[j]? = _
      rw [Cell.storeRun_get _ _ _ _ (by rw [Cell.stretch_length, d5, e4, e5]; omega), Cell.stretch_length, e3, e4, e5]
      rcases am_cpy_at hj (by omega) with ⟨g1, g2, g3⟩ | ⟨g1, g2⟩
      · rw [if_pos ⟨g1, g2⟩]
        obtain ⟨v', k1, k2, k3, -, -⟩ := hget (j - dp.toInt.toNat) (by omega)
        rw [g3] at k1
        cases k1
        rw [k3]
        rw [am_stretch_at (show j - dp.toInt.toNat < n9.toInt.toNat by omega), k2]
      · rw [if_neg g1]
        exact d6 _ _ g2
  obtain ⟨t9, a1, b1⟩ := kk ls T'.heap _ hL (hH.put hdst (am_g_lt hdst hgd) f2 f3 ⟨_, f1, hro, by show (cd.storeRun _ _).vm = _; rw [hfc.2.1]; exact d3⟩) (hS.puts f2 f3 (am_ad_ge hdst) (fun x hx => by
    obtain ⟨y, -, rfl⟩ := List.mem_map.mp hx
    rfl)) T' rfl X'
  exact ⟨t9, st9 t9 a1, b1⟩
def ck_acM (G : am_G) : ck_CM := fun a h _ _ P => ∃ (src dst ts td : Nat) (sp dp n9 : Int32) (vs vd : List Value), a = [.ref src, .int sp, .ref dst, .int dp, .int n9] ∧ 1000 ≤ dst ∧ am_g G h src = some (ts, vs) ∧ am_g G h dst = some (td, vd) ∧ (ts % 100 = td % 100 ∧ 50 ≤ ts % 100 ∧ ts % 100 < 53) ∧ (0 ≤ sp.toInt ∧ 0 ≤ dp.toInt ∧ 0 ≤ n9.toInt ∧ sp.toInt + n9.toInt ≤ vs.length ∧ dp.toInt + n9.toInt ≤ vd.length) ∧
  (∀ (j : Nat) (v : Value), vs[j]? = some v → fits (am_aty (ts % 100)) v = true) ∧ P (.inl none) (am_s h dst (td, am_cpy vs vd sp.toInt.toNat dp.toInt.toNat n9.toInt.toNat))
theorem ck_kAC {fr lo i : Nat} (hl : Cond.methodLink own i am_acN ∈ lw_gw) (hnat : Cond.native am_acN ∈ lw_gw) (hsta : Cond.static am_acN ∈ lw_gw) (hini : Cond.initialized "java/lang/System" ∈ lw_gw) (hf : 1 ≤ fr) (ho : 8 + (nativeFrameWords "java/lang/System" "arraycopy" 5 + 11) ≤ lo) : ck_any l G own nL fr lo (.invokestatic i) 3 none 5 (ck_acM G) := by
  intro p e s m args below meth c mc ms Post cc ret pc X d a L st h k n mc' ms' P hM hna hL hst hrc hk hn kr kx
  obtain ⟨src, dst, ts, td, sp, dp, n9, vs, vd, rfl, h1, h2, h3, ⟨h4, h5, h6⟩, ⟨h7, h8, h9, h10, h11⟩, h12, hP⟩ := hM
  exact am_R.acopy X hl hnat hsta hini h1 h2 h3 h4 h5 h6 h7 h8 h9 h10 h11 h12 hL hst hf ho d (am_R.widen (Nat.le_add_right _ _) (Nat.le_add_right _ _) (kr none _ hP))
def ck_acK (ts td : Nat) (l1 h1 l2 h2 : Int) : ck_KK := (([(0, 2147483647), (0, 2147483647), (0, 2147483647), (l1, h1), (l2, h2)], [(0, [(-1, 0), (-1, 2), (1, 3)]), (0, [(-1, 1), (-1, 2), (1, 4)])], [(2, 0, 0, ts, (0, 0, (0, [(1, 3)]))), (2, 1, 0, td, (0, 0, (0, [(1, 4)])))], 2, [(3, 0, (0, [])), (1, 0, (0, [(1, 0)])), (3, 1, (0, [])), (1, 0, (0, [(1, 1)])), (1, 0, (0, [(1, 2)]))]), ((0, []), (0, [])), [(td, 1000)], [], ([], [], [], 0, []), [])
def ck_acOK (T : ck_TT) (ts td : Nat) : Bool := match ck_lk T ts, ck_lk T td with
  | some (c1, _, _, [(1, _, a, b)]), some (c2, _, _, [(1, _, a', b')]) => ((Nat.beq (c1 % 2) 1 && Nat.beq c2 1) && (ck_nn (a - a') && ck_nn (b' - b))) && ((Nat.beq (ts % 100) (td % 100) && Nat.blt td 40000) && (Nat.beq (ts % 100) 50 || (Nat.beq (ts % 100) 51 && (ck_nn (a + 128) && ck_nn (127 - b)))))
  | _, _ => false
theorem ck_lv1 {r : List Int} {i : Nat} {x : Int} (h : ck_Lv r (0, [(1, i)]) x) : r[i]? = some x := by
  obtain ⟨h1, h2⟩ := h
  have hi : i < r.length := h1 (1, i) List.mem_cons_self
  have h3 : x = (0 : Int) + (1 * r.getD i 0 + 0) := h2
  rw [List.getD_eq_getElem?_getD, List.getElem?_eq_getElem hi] at h3
  have h3 : x = (0 : Int) + (1 * r[i] + 0) := h3
  rw [List.getElem?_eq_getElem hi, show r[i] = x by omega]
theorem ck_lvk {r : List Int} {i : Nat} {x : Int} (h : r[i]? = some x) : r.getD i 0 = x := by rw [List.getD_eq_getElem?_getD, h]; rfl
theorem ck_ac_con {X : ck_XT} {T : ck_TT} {ts td : Nat} {l1 h1 l2 h2 : Int} (hX : ck_XO X) (hX0 : ck_X0 X) (hok : ck_acOK T ts td = true) : ck_Con (ck_acM G) G X T (ck_acK ts td l1 h1 l2 h2) := by
  intro K r s a h hH hV hC hF hn hS mc ms hmc hms
  unfold ck_acOK at hok
  split at hok
  · next c1 x1 x2 ya a0 b0 c2 x3 x4 yb a1 b1 e1 e2 =>
    simp only [Bool.and_eq_true, Bool.or_eq_true] at hok
    obtain ⟨⟨⟨k1, k2⟩, k3, k4⟩, ⟨k5, k6⟩, k7⟩ := hok
    have k1 := ck_beq k1
    have k2 := ck_beq k2
    have k3 := ck_nn_ok k3
    have k4 := ck_nn_ok k4
    have k5 := ck_beq k5
    have k6 : td < 40000 := by simpa using k6
    obtain ⟨src, vs, s1, s2, s3⟩ := hF (2, 0, 0, ts, (0, 0, (0, [(1, 3)]))) (by unfold ck_acK; simp)
    obtain ⟨dst, vd, d1, d2, d3⟩ := hF (2, 1, 0, td, (0, 0, (0, [(1, 4)]))) (by unfold ck_acK; simp)
    have s1 : s[0]? = some src := s1
    have d1 : s[1]? = some dst := d1
    have s2 : am_g G h src = some (ts, vs) := s2
    have d2 : am_g G h dst = some (td, vd) := d2
    have s3 := ck_lvk (ck_lv1 s3)
    have d3 := ck_lvk (ck_lv1 d3)
    have hw : ck_wr T td = true := by unfold ck_wr; rw [e2, k2]; rfl
    have hdst := (hH.2 _ _ _ d2).2.2 hw
    match a, hS with
    | [v1, v2, v3, v4, v5], ⟨⟨q1, z1, z1'⟩, ⟨q2, z2, z2'⟩, ⟨q3, z3, z3'⟩, ⟨q4, z4, z4'⟩, ⟨q5, z5, z5'⟩, _⟩ =>
    subst z1' z2 z3' z4 z5
    have z1 : s[0]? = some q1 := z1
    have z3 : s[1]? = some q3 := z3
    rw [s1] at z1; cases z1
    rw [d1] at z3; cases z3
    have z2' := ck_lv1 z2'
    have z4' := ck_lv1 z4'
    have z5' := ck_lv1 z5'
    have y1 := hV.2 0 0 2147483647 _ rfl z2'
    have y2 := hV.2 1 0 2147483647 _ rfl z4'
    have y3 := hV.2 2 0 2147483647 _ rfl z5'
    obtain ⟨w1, ⟨-, w2⟩, w3⟩ := hC (0, [(-1, 0), (-1, 2), (1, 3)]) (by unfold ck_acK; simp)
    obtain ⟨u1, ⟨-, u2⟩, u3⟩ := hC (0, [(-1, 1), (-1, 2), (1, 4)]) (by unfold ck_acK; simp)
    have w2 : w1 = (0 : Int) + (-1 * r.getD 0 0 + (-1 * r.getD 2 0 + (1 * r.getD 3 0 + 0))) := w2
    have u2 : u1 = (0 : Int) + (-1 * r.getD 1 0 + (-1 * r.getD 2 0 + (1 * r.getD 4 0 + 0))) := u2
    rw [ck_lvk z2', ck_lvk z5', s3] at w2
    rw [ck_lvk z4', ck_lvk z5', d3] at u2
    have hsv : ∀ (j : Nat) (v : Value), vs[j]? = some v → ∃ x : Int32, v = .int x ∧ a0 ≤ x.toInt ∧ x.toInt ≤ b0 := by
      intro j v hv
      obtain ⟨y, hy, ht⟩ := ((hH.2 _ _ _ s2).1 _ e1).2 j v hv
      unfold ck_yt at hy
      rw [show Nat.beq (c1 % 2) 0 = false by rw [k1]; rfl] at hy
      cases hy
      exact ht
    have hdv : ∀ (j : Nat) (v : Value), vd[j]? = some v → ∃ x : Int32, v = .int x ∧ a1 ≤ x.toInt ∧ x.toInt ≤ b1 := by
      intro j v hv
      obtain ⟨y, hy, ht⟩ := ((hH.2 _ _ _ d2).1 _ e2).2 j v hv
      unfold ck_yt at hy
      rw [show Nat.beq (c2 % 2) 0 = false by rw [k2]; rfl] at hy
      cases hy
      exact ht
    have hkk : ts % 100 = 50 ∨ (ts % 100 = 51 ∧ -128 ≤ a0 ∧ b0 ≤ 127) := k7.imp (fun z => ck_beq z) (fun z => ⟨ck_beq z.1, by have := ck_nn_ok z.2.1; omega, by have := ck_nn_ok z.2.2; omega⟩)
    have hp0 : ck_Hp (G, X, T, K, h, r, s, [(td, 1000)], []) r s h := ⟨hH, ck_Kp.rf, Nat.le_refl _, ⟨[], (List.append_nil r).symm⟩, [], (List.append_nil s).symm⟩
    have hput := ck_Hp.put hp0 hX hX0 (t' := td) (vs' := am_cpy vs vd q2.toInt.toNat q4.toInt.toNat q5.toInt.toNat) d2 hdst k6 k6 (am_cpy_len _ _ _ _ _) (Or.inl rfl)
      (fun g' hx d hd => by
        have hd : ck_lk T td = some d := hd
        rw [e2] at hd
        cases hd
        refine ⟨by rw [am_cpy_len]; exact ((hH.2 _ _ _ d2).1 _ e2).1, fun j v hv => ⟨_, by unfold ck_yt; rw [show Nat.beq (c2 % 2) 0 = false by rw [k2]; rfl]; rfl, ?_⟩⟩
        rcases am_cpy_at hv (by omega) with ⟨-, -, g3⟩ | ⟨-, g3⟩
        · obtain ⟨x, f1, f2, f3⟩ := hsv _ _ g3
          exact ⟨x, f1, by show a1 ≤ _; omega, by show _ ≤ b1; omega⟩
        · exact hdv _ _ g3)
      (Or.inl ⟨rfl, fun j hj => by
        exfalso
        have hj : ck_inM [(td, 1000)] td j = false := hj
        unfold ck_inM at hj
        simp at hj⟩)
    refine ⟨src, dst, ts, td, q2, q4, q5, vs, vd, rfl, hdst, s2, d2, ⟨k5, by omega, by omega⟩, ⟨by omega, by omega, by omega, by omega, by omega⟩, fun j v hv => ?_, hput.1, hput.2.1, hput.2.2.1, [], [], (⟨rfl, fun i a b x z => by simp at z⟩ : ck_In ([] : ck_I) []), (List.forall_mem_nil _ : ∀ c ∈ ([] : List ck_L), _), (List.forall_mem_nil _ : ∀ f ∈ ([] : List ck_F), _), rfl, trivial⟩
    obtain ⟨x, rfl, f2, f3⟩ := hsv j v hv
    rcases hkk with e | ⟨e, e3, e4⟩
    · rw [e]; rfl
    · rw [e]
      show (decide ((-128 : Int32) ≤ x) && decide (x ≤ 127)) = true
      rw [Bool.and_eq_true, decide_eq_true_eq, decide_eq_true_eq, Int32.le_iff_toInt_le, Int32.le_iff_toInt_le]
      exact ⟨by show (-128 : Int) ≤ _; omega, by show _ ≤ (127 : Int); omega⟩
  · cases hok
def ck_acK6 (ts td : Nat) (l1 h1 l2 h2 : Int) : ck_KK := (([(0, 2147483647), (0, 2147483647), (0, 2147483647), (l1, h1), (l2, h2)], [(0, [(-1, 0), (-1, 2), (1, 3)]), (0, [(-1, 1), (-1, 2), (1, 4)])], [(2, 0, 0, ts, (0, 0, (0, [(1, 3)]))), (2, 1, 0, td, (0, 0, (0, [(1, 4)]))), (6, 0, 0, ts, (0, 0, (0, [])))], 2, [(3, 0, (0, [])), (1, 0, (0, [(1, 0)])), (3, 1, (0, [])), (1, 0, (0, [(1, 1)])), (1, 0, (0, [(1, 2)]))]), ((0, []), (0, [])), [(td, 1000)], [], ([], [], [], 0, []), [])
def ck_acOK6 (T : ck_TT) (ts td : Nat) : Bool := match ck_lk T td with
  | some (c2, _, _, [(1, _, a', b')]) => (Nat.beq c2 1 && (ck_nn (0 - a') && ck_nn (b' - 999999999))) && ((Nat.beq (ts % 100) (td % 100) && Nat.blt td 40000) && Nat.beq (ts % 100) 50)
  | _ => false
theorem ck_ac6_con {X : ck_XT} {T : ck_TT} {ts td : Nat} {l1 h1 l2 h2 : Int} (hX : ck_XO X) (hX0 : ck_X0 X) (hok : ck_acOK6 T ts td = true) : ck_Con (ck_acM G) G X T (ck_acK6 ts td l1 h1 l2 h2) := by
  intro K r s a h hH hV hC hF hn hS mc ms hmc hms
  unfold ck_acOK6 at hok
  split at hok
  · next c2 x3 x4 yb a1 b1 e2 =>
    simp only [Bool.and_eq_true, Bool.or_eq_true] at hok
    obtain ⟨⟨k2, k3, k4⟩, ⟨k5, k6⟩, k7⟩ := hok
    have k2 := ck_beq k2
    have k3 := ck_nn_ok k3
    have k4 := ck_nn_ok k4
    have k5 := ck_beq k5
    have k6 : td < 40000 := by simpa using k6
    obtain ⟨src, vs, s1, s2, s3⟩ := hF (2, 0, 0, ts, (0, 0, (0, [(1, 3)]))) (by unfold ck_acK6; simp)
    obtain ⟨dst, vd, d1, d2, d3⟩ := hF (2, 1, 0, td, (0, 0, (0, [(1, 4)]))) (by unfold ck_acK6; simp)
    have s1 : s[0]? = some src := s1
    have d1 : s[1]? = some dst := d1
    have s2 : am_g G h src = some (ts, vs) := s2
    have d2 : am_g G h dst = some (td, vd) := d2
    have s3 := ck_lvk (ck_lv1 s3)
    have d3 := ck_lvk (ck_lv1 d3)
    have hw : ck_wr T td = true := by unfold ck_wr; rw [e2, k2]; rfl
    have hdst := (hH.2 _ _ _ d2).2.2 hw
    match a, hS with
    | [v1, v2, v3, v4, v5], ⟨⟨q1, z1, z1'⟩, ⟨q2, z2, z2'⟩, ⟨q3, z3, z3'⟩, ⟨q4, z4, z4'⟩, ⟨q5, z5, z5'⟩, _⟩ =>
    subst z1' z2 z3' z4 z5
    have z1 : s[0]? = some q1 := z1
    have z3 : s[1]? = some q3 := z3
    rw [s1] at z1; cases z1
    rw [d1] at z3; cases z3
    have z2' := ck_lv1 z2'
    have z4' := ck_lv1 z4'
    have z5' := ck_lv1 z5'
    have y1 := hV.2 0 0 2147483647 _ rfl z2'
    have y2 := hV.2 1 0 2147483647 _ rfl z4'
    have y3 := hV.2 2 0 2147483647 _ rfl z5'
    obtain ⟨w1, ⟨-, w2⟩, w3⟩ := hC (0, [(-1, 0), (-1, 2), (1, 3)]) (by unfold ck_acK6; simp)
    obtain ⟨u1, ⟨-, u2⟩, u3⟩ := hC (0, [(-1, 1), (-1, 2), (1, 4)]) (by unfold ck_acK6; simp)
    have w2 : w1 = (0 : Int) + (-1 * r.getD 0 0 + (-1 * r.getD 2 0 + (1 * r.getD 3 0 + 0))) := w2
    have u2 : u1 = (0 : Int) + (-1 * r.getD 1 0 + (-1 * r.getD 2 0 + (1 * r.getD 4 0 + 0))) := u2
    rw [ck_lvk z2', ck_lvk z5', s3] at w2
    rw [ck_lvk z4', ck_lvk z5', d3] at u2
    have hsv : ∀ (j : Nat) (v : Value), vs[j]? = some v → ∃ x : Int32, v = .int x ∧ 0 ≤ x.toInt ∧ x.toInt ≤ 999999999 := by
      obtain ⟨q9, vs9, x9, o1, o2, -, o3⟩ := hF (6, 0, 0, ts, (0, 0, (0, []))) (by unfold ck_acK6; simp)
      have o1 : s[0]? = some q9 := o1
      have o2 : am_g G h q9 = some (ts, vs9) := o2
      rw [s1] at o1
      cases o1
      rw [s2] at o2
      cases o2
      exact o3
    have hdv : ∀ (j : Nat) (v : Value), vd[j]? = some v → ∃ x : Int32, v = .int x ∧ a1 ≤ x.toInt ∧ x.toInt ≤ b1 := by
      intro j v hv
      obtain ⟨y, hy, ht⟩ := ((hH.2 _ _ _ d2).1 _ e2).2 j v hv
      unfold ck_yt at hy
      rw [show Nat.beq (c2 % 2) 0 = false by rw [k2]; rfl] at hy
      cases hy
      exact ht
    have hkk := ck_beq k7
    have hp0 : ck_Hp (G, X, T, K, h, r, s, [(td, 1000)], []) r s h := ⟨hH, ck_Kp.rf, Nat.le_refl _, ⟨[], (List.append_nil r).symm⟩, [], (List.append_nil s).symm⟩
    have hput := ck_Hp.put hp0 hX hX0 (t' := td) (vs' := am_cpy vs vd q2.toInt.toNat q4.toInt.toNat q5.toInt.toNat) d2 hdst k6 k6 (am_cpy_len _ _ _ _ _) (Or.inl rfl)
      (fun g' hx d hd => by
        have hd : ck_lk T td = some d := hd
        rw [e2] at hd
        cases hd
        refine ⟨by rw [am_cpy_len]; exact ((hH.2 _ _ _ d2).1 _ e2).1, fun j v hv => ⟨_, by unfold ck_yt; rw [show Nat.beq (c2 % 2) 0 = false by rw [k2]; rfl]; rfl, ?_⟩⟩
        rcases am_cpy_at hv (by omega) with ⟨-, -, g3⟩ | ⟨-, g3⟩
        · obtain ⟨x, f1, f2, f3⟩ := hsv _ _ g3
          exact ⟨x, f1, by show a1 ≤ _; omega, by show _ ≤ b1; omega⟩
        · exact hdv _ _ g3)
      (Or.inl ⟨rfl, fun j hj => by
        exfalso
        have hj : ck_inM [(td, 1000)] td j = false := hj
        unfold ck_inM at hj
        simp at hj⟩)
    refine ⟨src, dst, ts, td, q2, q4, q5, vs, vd, rfl, hdst, s2, d2, ⟨k5, by omega, by omega⟩, ⟨by omega, by omega, by omega, by omega, by omega⟩, fun j v hv => ?_, hput.1, hput.2.1, hput.2.2.1, [], [], (⟨rfl, fun i a b x z => by simp at z⟩ : ck_In ([] : ck_I) []), (List.forall_mem_nil _ : ∀ c ∈ ([] : List ck_L), _), (List.forall_mem_nil _ : ∀ f ∈ ([] : List ck_F), _), rfl, trivial⟩
    obtain ⟨x, rfl, f2, f3⟩ := hsv j v hv
    rw [hkk]; rfl
  · cases hok
end AMAC
end
section
/-! WHAT MAY STAND IN AN ARRAY -/
theorem am_asg_own {G : am_G} {s : State} (hk : am_kon G s) {ka ci : Nat} {C : String} {T : u_T} {N : Nat} (h1 : 50 ≤ ka) (h2 : ka < 58) (hty : am_aty ka = .object C) (hcl : am_cl[ci]? = some (C, T, N)) (hci : ci < 50) : am_asg G s ka ci := by
  obtain ⟨hK, hT⟩ := hk.1
  obtain ⟨-, hra⟩ := hT _ _ (am_tys_at G h1 h2)
  have hra : va_RA s (G.2.1 ka) (am_aty ka) := hra
  rw [hty] at hra
  obtain ⟨kA, comp, e1, e2, e3, -⟩ := hra
  obtain ⟨-, hca⟩ := hK ci _ hcl
  obtain ⟨e4, kV, e5, -⟩ := hca
  have e4 : s.vm.findClass C = some (G.1.1 ci) := e4
  rw [e3] at e4
  cases e4
  exact ⟨kA, kV, kV, _, _, e1, by rw [hty]; exact e2, e5, by rw [if_pos hci], e5, by first | exact Vm.assignable_self _ _ | exact Free.SBG.assignable_self _ _ | (unfold Vm.assignable; simp)⟩
end
section
/-! THROWS, IN A METHOD WITHOUT A TABLE -/
def ck_inT (l : List Cond) : Bool := l.all fun w => (goodWord w || am_ngw w) && lw_tbl.any fun v => decide (v = w)
theorem ck_inT_ok {l : List Cond} (h : ck_inT l = true) : ∀ w ∈ l, w ∈ lw_gw ∨ w ∈ lw_ng := by
  intro w hw
  have h1 := List.all_eq_true.mp h w hw
  rw [Bool.and_eq_true, Bool.or_eq_true] at h1
  obtain ⟨h1, h2⟩ := h1
  obtain ⟨v, hv, he⟩ := List.any_eq_true.mp h2
  have he := of_decide_eq_true he
  subst he
  exact h1.imp (fun z => List.mem_filter.mpr ⟨hv, z⟩) (fun z => List.mem_filter.mpr ⟨hv, z⟩)
section AMZ
variable {l : Launch} {G : am_G} {own : String} {cc : ByteArray} {nL fr lo pc : Nat}
theorem ck_zS {cls text : String} {names : List String} {ik is ic n9 : Nat} (hcls : Bundle.fit cls = true) (hnames : ∀ n ∈ names, Bundle.fit n = true)
    (hk9 : Cond.classLink own ik cls ∈ lw_gw) (hini9 : Cond.initialized cls ∈ lw_gw) (hz : (own, is, text, n9) ∈ am_T) (hat9 : ∀ w ∈ vx_atS own ic cls names, w ∈ lw_gw ∨ w ∈ lw_ng) (hgood : ∀ w ∈ vx_atS own ic cls names, vx_ot w = true)
    (d0 : decode cc pc = .ok (.new ik, 3)) (d3 : decode cc (pc + 3) = .ok (.dup, 1)) (d4 : decode cc (pc + 4) = .ok (.ldc is, 2)) (d6 : decode cc (pc + 6) = .ok (.invokespecial ic, 3)) (d9 : decode cc (pc + 9) = .ok (.athrow, 1))
    (hf : names.length + 3 < fr) (hlo : 8 + (13 * (names.length + 1) + 43) ≤ lo) : ck_anyZ l G own cc nL fr lo pc cls := by
  intro p e s m args below meth c mc ms Post ret X ht L st h k n hL hst hk hn hp
  exact am_R.throwS X hcls hnames hk9 hini9 hz hat9 (fun w hw => by
    rcases List.mem_cons.mp hw with rfl | hw
    · simp only [vx_ot, Bool.or_eq_true]; exact Or.inr (List.mem_filter.mp hk9).2
    · rcases List.mem_cons.mp hw with rfl | hw
      · simp only [vx_ot, Bool.or_eq_true]; exact Or.inr (List.mem_filter.mp hini9).2
      · exact hgood w hw) hL d0 d3 d4 d6 d9 (fun x hx => (ht x hx).elim) hf hst hlo hk hn hp hk hn
theorem ck_zW {cls text : String} {names : List String} {ik is ic n9 : Nat} (hcls : Bundle.fit cls = true) (hnames : ∀ n ∈ names, Bundle.fit n = true)
    (hk9 : Cond.classLink own ik cls ∈ lw_gw) (hini9 : Cond.initialized cls ∈ lw_gw) (hz : (own, is, text, n9) ∈ am_T) (hat9 : ∀ w ∈ vx_atS own ic cls names, w ∈ lw_gw ∨ w ∈ lw_ng) (hgood : ∀ w ∈ vx_atS own ic cls names, vx_ot w = true)
    (d0 : decode cc pc = .ok (.new ik, 3)) (d3 : decode cc (pc + 3) = .ok (.dup, 1)) (d4 : decode cc (pc + 4) = .ok (.ldc_w is, 3)) (d6 : decode cc (pc + 7) = .ok (.invokespecial ic, 3)) (d9 : decode cc (pc + 10) = .ok (.athrow, 1))
    (hf : names.length + 3 < fr) (hlo : 8 + (13 * (names.length + 1) + 43) ≤ lo) : ck_anyZ l G own cc nL fr lo pc cls := by
  intro p e s m args below meth c mc ms Post ret X ht L st h k n hL hst hk hn hp
  exact am_R.throwW X hcls hnames hk9 hini9 hz hat9 (fun w hw => by
    rcases List.mem_cons.mp hw with rfl | hw
    · simp only [vx_ot, Bool.or_eq_true]; exact Or.inr (List.mem_filter.mp hk9).2
    · rcases List.mem_cons.mp hw with rfl | hw
      · simp only [vx_ot, Bool.or_eq_true]; exact Or.inr (List.mem_filter.mp hini9).2
      · exact hgood w hw) hL d0 d3 d4 d6 d9 (fun x hx => (ht x hx).elim) hf hst hlo hk hn hp hk hn
end AMZ
def g_sup : List String := ["java/lang/RuntimeException", "java/lang/Exception"]
theorem g_sup_fit : ∀ n ∈ g_sup, Bundle.fit n = true := by decide +kernel
theorem g_at1 : ∀ w ∈ vx_atS RX10 79 "java/lang/IllegalArgumentException" g_sup, w ∈ lw_gw ∨ w ∈ lw_ng := ck_inT_ok (by decide +kernel)
theorem g_ot1 : ∀ w ∈ vx_atS RX10 79 "java/lang/IllegalArgumentException" g_sup, vx_ot w = true := by decide +kernel
end
section
/-! AN ARRAY'S CLONE -/
def am_clO : MethodName := ⟨"java/lang/Object", "clone", "()Ljava/lang/Object;"⟩
theorem am_RAn {U : State} {cA : ClassId} {ty : FieldType} (h : va_RA U cA ty) : U.vm.findClass ("[" ++ ty.toString) = some cA := by
  cases ty with
  | object C => obtain ⟨kA, comp, h1, h2, h3, h4⟩ := h; exact h4
  | _ => exact h
theorem am_isa_own {G : am_G} {s : State} (hk : am_kon G s) {q : Nat} {nm : String} (h1 : 50 ≤ q) (h2 : q < 58) (hn : "[" ++ (am_aty q).toString = nm) : q < 59 ∧ am_isa G s q nm :=
  ⟨by omega, G.2.1 q, G.2.1 q, by rw [if_neg (by omega)], by rw [← hn]; exact am_RAn (hk.1.2 _ _ (am_tys_at G h1 h2)).2, va_asg _ _⟩
section AMCL
variable {G : am_G} {p : Program} {l : Launch} {e : Env} {R : Room} {s : State} {m : MethodId} {args : Array Value} {below : List Frame} {meth : Method} {c : Code} {mc ms : Nat} {Post : am_O → List am_C → Prop}
variable {own : String} {cc : ByteArray} {nL pc : Nat} {ret : Option FieldType} {L : List (Option Value)} {st : List Value} {h : List am_C} {k n : Nat}
theorem am_R.clone (X : am_Cx l G p s m args meth c own cc nL ret) {i src t : Nat} (t' : Nat) {ad : String} {vs : List Value} (hl : Cond.methodLink own i ⟨ad, "clone", "()Ljava/lang/Object;"⟩ ∈ lw_gw) (hsame : Cond.sameMethod ad "java/lang/Object" "clone" "()Ljava/lang/Object;" ∈ lw_gw) (hnat : Cond.native am_clO ∈ lw_gw) (hin : Cond.instanceMethod am_clO ∈ lw_gw) (hsel : Cond.selects ad ⟨ad, "clone", "()Ljava/lang/Object;"⟩ am_clO ∈ lw_gw) (hcs : Cond.castable ad "java/lang/Cloneable" ∈ lw_ng)
    (hnm : "[" ++ (am_aty (t % 100)).toString = ad) (hsrc9 : 1000 ≤ src) (hg : am_g G h src = some (t, vs)) (h1 : 50 ≤ t % 100) (h2 : t % 100 < 58) (ht' : t' % 100 = t % 100) (hv : ∀ (j : Nat) (v : Value), vs[j]? = some v → fits (am_aty (t % 100)) (am_rv G v) = true)
    (hLn : L.length = nL) (hst : (st.map fun v => v.category).sum ≤ 8) (hfr : 1 ≤ R.frames) (hlo : 22 ≤ R.locals) (hcells : k + 1 ≤ R.cells) (hslots : n + vs.length ≤ R.slots) (d : decode cc pc = .ok (.invokevirtual i, 3))
    (kk : am_R G p l e R s m args below meth c mc ms Post (pc + 3) L (.ref (1000 + h.length) :: st) (h ++ [(t', vs)]) (k + 1) (n + vs.length)) : am_R G p l e R s m args below meth c mc ms Post pc L (.ref src :: st) h k n := by
  intro ls H locs hL hH hS T hT Y
  obtain ⟨cs, q1, q2, -⟩ := am_cellD hH hsrc9 hg
  obtain ⟨-, kS, hkS, cpS, hkkS⟩ := am_isArr (q := t % 100) X.2.2.2.2.2.1 q2.rk rfl h1 (by omega)
  obtain ⟨s0, s1, s2⟩ := q2.2.2.2 h1 (by show t % 100 < 62; omega)
  have s0 : cs.cls = G.2.1 (t % 100) := s0
  have s1 : cs.slots.size = vs.length := s1
  obtain ⟨kT, hkT, heT⟩ := Y.warmed.alike.2.2 _ _ hkS
  have hkkT : kT.kind = .array cpS (am_aty (t % 100)) := by rw [heT]; exact hkkS
  have hfc : s.vm.findClass ad = some cs.cls := by rw [s0, ← hnm]; exact am_RAn (X.2.2.2.2.2.1.1.2 _ _ (am_tys_at G h1 h2)).2
  obtain ⟨c0, cC, f1, f2, f3⟩ := Cond.castable_spec (va_Nw.use (A := args) rfl (X.2.2.2.2.2.1.2.2.2.2.2.2.2 _ hcs))
  cases hfc.symm.trans f1
  obtain ⟨vm', X', st9⟩ := Y.cloneArray X.1 (own := own) (ad := ad) (index := i) X.2.2.2.1 (X.2.2.2.2.1 _ hl) (X.2.2.2.2.1 _ hsame) (X.2.2.2.2.1 _ hnat) (X.2.2.2.2.1 _ hin) (X.2.2.2.2.1 _ hsel) (a := am_ad G src) (cell := cs) (by rw [hT]; exact q1)
    (fun q z => by have := q2.2.1; rw [z] at this; cases this) q2.1 hfc f2 f3
    (fun j v hj => by
      have hj1 : j < vs.length := by rw [← s1]; exact (Array.getElem?_eq_some_iff.mp hj).1
      have hj2 := s2 _ _ (List.getElem?_eq_getElem hj1)
      have hj3 : v = am_rv G vs[j] := Option.some.inj (hj.symm.trans hj2)
      have hf := hv _ _ (List.getElem?_eq_getElem hj1)
      rw [← hj3] at hf
      simpa [State.fitsSlot, State.slotType?, hkT, hkkT] using hf)
    (g := F0 m pc ls ((.ref src :: st : List Value).map (am_rv G))) rfl (by show ls.size = c.maxLocals; rw [hL.1, hLn]; exact X.2.2.1.symm) (rest := st.map (am_rv G)) rfl (by rw [X.2.1]; exact d) hfr (by
      show 2 * 0 + ((st.map (am_rv G)).map fun v => v.category).sum + 14 ≤ _
      rw [am_cats]; omega) hcells (by rw [s1]; exact hslots) (hloader := Vm.clonesLoader_of_array hkS hkkS)
  rw [s1] at X'
  have ha : am_ad G (1000 + h.length) = H.size := by unfold am_ad; rw [if_neg (by omega), hH.1]; omega
  have hat : am_at G H.size (t', vs) (H.push { cls := cs.cls, slots := cs.slots }) :=
    ⟨_, Array.getElem?_push_size, ⟨fun z => (by cases z), rfl, fun z => (by exfalso; have : t' % 100 < 50 := z; omega), fun _ _ => ⟨by show cs.cls = G.2.1 (t' % 100); rw [ht']; exact s0, s1, fun j v hj => s2 _ _ hj⟩⟩, rfl⟩
  obtain ⟨t9, a1, b1⟩ := kk ls (H.push { cls := cs.cls, slots := cs.slots }) locs hL (hH.push (by rw [Array.size_push]) (fun q hq => by rw [Array.getElem?_push, if_neg (Nat.ne_of_lt hq)]) hat) ⟨Nat.le_trans hS.1 (by rw [Array.size_push]; omega), fun q h1 h2 => by rw [Array.getElem?_push, if_neg (Nat.ne_of_lt (Nat.lt_of_lt_of_le h1 hS.1))]; exact hS.2.1 q h1 h2, hS.2.2⟩
    ((T.setVm vm').pushCell { cls := cs.cls, slots := cs.slots }) (by rw [← hT]; rfl) X'
  refine ⟨t9, st9 t9 ?_, b1⟩
  rw [List.map_cons, show am_rv G (.ref (1000 + h.length)) = .ref (am_ad G (1000 + h.length)) from rfl, ha] at a1
  rw [hT]
  exact a1
def ck_clM (G : am_G) (kd : Nat) : ck_CM := fun a h mc ms P => ∃ (src t t' : Nat) (vs : List Value), a = [.ref src] ∧ 1000 ≤ src ∧ am_g G h src = some (t, vs) ∧ (t % 100 = kd ∧ t' % 100 = kd) ∧ (∀ (j : Nat) (v : Value), vs[j]? = some v → fits (am_aty kd) (am_rv G v) = true) ∧ 1 ≤ mc ∧ vs.length ≤ ms ∧ P (.inl (some (.ref (1000 + h.length)))) (h ++ [(t', vs)])
theorem ck_kCL {fr lo i kd : Nat} {ad : String} (hl : Cond.methodLink own i ⟨ad, "clone", "()Ljava/lang/Object;"⟩ ∈ lw_gw) (hsame : Cond.sameMethod ad "java/lang/Object" "clone" "()Ljava/lang/Object;" ∈ lw_gw) (hnat : Cond.native am_clO ∈ lw_gw) (hin : Cond.instanceMethod am_clO ∈ lw_gw) (hsel : Cond.selects ad ⟨ad, "clone", "()Ljava/lang/Object;"⟩ am_clO ∈ lw_gw) (hcs : Cond.castable ad "java/lang/Cloneable" ∈ lw_ng)
    (hnm : "[" ++ (am_aty kd).toString = ad) (h1 : 50 ≤ kd) (h2 : kd < 58) (hf : 1 ≤ fr) (ho : 22 ≤ lo) : ck_any l G own nL fr lo (.invokevirtual i) 3 (some kd) 1 (ck_clM G kd) := by
  intro p e s m args below meth c mc ms Post cc ret pc X d a L st h k n mc' ms' P hM hna hL hst hrc hk hn kr kx
  obtain ⟨src, t, t', vs, rfl, g0, g1, ⟨g2, g3⟩, g4, g5, g6, hP⟩ := hM
  subst g2
  exact am_R.clone X t' hl hsame hnat hin hsel hcs hnm g0 g1 h1 h2 g3 g4 hL hst hf ho (by show k + 1 ≤ mc; omega) (by show n + vs.length ≤ ms; omega) d (am_R.widen (by omega) (by omega) (kr (some _) _ hP))
end AMCL
def ck_clK (t t' : Nat) (lo hi : Int) : ck_KK := (([(lo, hi)], [], [(2, 0, 0, t, (0, 0, (0, [(1, 0)])))], 1, [(3, 0, (0, []))]), ((1, []), (0, [(1, 0)])), [], [], ([], [], [(2, 1, 0, t', (0, 0, (0, [(1, 0)]))), (5, 1, 0, 0, (0, 0, (0, [])))], 1, [(3, 1, (0, []))]), [])
def ck_ye2 (a b : ck_Y) : Bool := (Nat.beq a.1 b.1 && Nat.beq a.2.1 b.2.1) && (ck_ie a.2.2.1 b.2.2.1 && ck_ie a.2.2.2 b.2.2.2)
theorem ck_ye2_ok {a b : ck_Y} (h : ck_ye2 a b = true) : a = b := by
  unfold ck_ye2 at h
  simp only [Bool.and_eq_true] at h
  obtain ⟨⟨h1, h2⟩, h3, h4⟩ := h
  obtain ⟨a1, a2, a3, a4⟩ := a
  obtain ⟨b1, b2, b3, b4⟩ := b
  obtain rfl : a1 = b1 := ck_beq h1
  obtain rfl : a2 = b2 := ck_beq h2
  obtain rfl : a3 = b3 := ck_ie_ok h3
  obtain rfl : a4 = b4 := ck_ie_ok h4
  rfl
def ck_clF (kd : Nat) (y : ck_Y) : Bool := bif Nat.beq kd 50 then Nat.beq y.1 1 else bif Nat.beq kd 51 then Nat.beq y.1 1 && (ck_nn (y.2.2.1 + 128) && ck_nn (127 - y.2.2.2)) else bif Nat.beq kd 55 then Nat.beq y.1 3 || Nat.beq y.1 5 else false
theorem ck_clF_ok {G : am_G} {K : Int32} {g : ck_g} {kd : Nat} {y : ck_Y} {v : Value} (h : ck_clF kd y = true) (hv : ck_ty K g y v) : fits (am_aty kd) (am_rv G v) = true := by
  unfold ck_clF at h
  cases h1 : Nat.beq kd 50
  · rw [h1, cond_false] at h
    cases h2 : Nat.beq kd 51
    · rw [h2, cond_false] at h
      cases h3 : Nat.beq kd 55
      · rw [h3] at h; cases h
      · rw [h3, cond_true] at h
        obtain rfl := ck_beq h3
        obtain ⟨y1, y2, y3, y4⟩ := y
        rcases Bool.or_eq_true_iff.mp h with h | h
        · obtain rfl : y1 = 3 := ck_beq h
          obtain ⟨-, q, vs, rfl, -⟩ := hv
          rfl
        · obtain rfl : y1 = 5 := ck_beq h
          obtain ⟨-, rfl | ⟨q, vs, rfl, -⟩⟩ := hv <;> rfl
    · rw [h2, cond_true] at h
      obtain rfl := ck_beq h2
      obtain ⟨y1, y2, y3, y4⟩ := y
      simp only [Bool.and_eq_true] at h
      obtain ⟨h4, h5, h6⟩ := h
      obtain rfl : y1 = 1 := ck_beq h4
      obtain ⟨x, rfl, f2, f3⟩ := hv
      have h5 := ck_nn_ok h5
      have h6 := ck_nn_ok h6
      have f2 : y3 ≤ x.toInt := f2
      have f3 : x.toInt ≤ y4 := f3
      have h5 : 0 ≤ y3 + 128 := h5
      have h6 : 0 ≤ 127 - y4 := h6
      show (decide ((-128 : Int32) ≤ x) && decide (x ≤ 127)) = true
      rw [Bool.and_eq_true, decide_eq_true_eq, decide_eq_true_eq, Int32.le_iff_toInt_le, Int32.le_iff_toInt_le]
      exact ⟨by show (-128 : Int) ≤ _; omega, by show _ ≤ (127 : Int); omega⟩
  · rw [h1, cond_true] at h
    obtain rfl := ck_beq h1
    obtain ⟨y1, y2, y3, y4⟩ := y
    obtain rfl : y1 = 1 := ck_beq h
    obtain ⟨x, rfl, -⟩ := hv
    rfl
def ck_clOK (T : ck_TT) (kd t t' : Nat) : Bool := match ck_lk T t, ck_lk T t' with
  | some (c1, l1, h1, [y]), some (c2, l2, h2, [y2]) => ((Nat.beq c1 1 && Nat.beq (c2 % 2) 1) && ((Nat.beq (t % 100) kd && Nat.beq (t' % 100) kd) && Nat.blt t' 40000)) && ((ck_nn (l1 - l2) && ck_nn (h2 - h1)) && (ck_ye2 y y2 && ck_clF kd y))
  | _, _ => false
theorem ck_cl_con {G : am_G} {X : ck_XT} {T : ck_TT} {kd t t' : Nat} {lo hi : Int} (hX : ck_XO X) (hX0 : ck_X0 X) (hok : ck_clOK T kd t t' = true) : ck_Con (ck_clM G kd) G X T (ck_clK t t' lo hi) := by
  intro K r s a h hH hV hC hF hn hS mc ms hmc hms
  unfold ck_clOK at hok
  split at hok
  · next c1 l1 h1 y c2 l2 h2 y2 e1 e2 =>
    simp only [Bool.and_eq_true] at hok
    obtain ⟨⟨⟨k1, k2⟩, ⟨k3, k4⟩, k5⟩, ⟨k6, k7⟩, k8, k9⟩ := hok
    have k1 := ck_beq k1
    have k2 := ck_beq k2
    have k3 := ck_beq k3
    have k4 := ck_beq k4
    have k5 : t' < 40000 := by simpa using k5
    have k6 := ck_nn_ok k6
    have k7 := ck_nn_ok k7
    obtain rfl := ck_ye2_ok k8
    obtain ⟨src, vs, s1, s2, s3⟩ := hF (2, 0, 0, t, (0, 0, (0, [(1, 0)]))) (by unfold ck_clK; simp)
    have s1 : s[0]? = some src := s1
    have s2 : am_g G h src = some (t, vs) := s2
    have s3' := ck_lvk (ck_lv1 s3)
    match a, hS with
    | [v1], ⟨⟨q1, z1, z1'⟩, _⟩ =>
    subst z1'
    have z1 : s[0]? = some q1 := z1
    rw [s1] at z1
    cases z1
    have hlv : ∀ {e : ck_L} {u w : Int}, ck_Lv r e u → ck_Lv r e w → u = w := fun a b => a.2.trans b.2.symm
    have hms' : (ms : Int) = vs.length := hlv hms s3
    have hmc' : (mc : Int) = 1 := hlv hmc (ck_Lv.k r 1)
    obtain ⟨f1, f2⟩ := (hH.2 _ _ _ s2).1 _ e1
    have hsv : ∀ (j : Nat) (v : Value), vs[j]? = some v → ck_ty K (am_g G h) y v := by
      intro j v hv
      obtain ⟨y', hy, ht⟩ := f2 j v hv
      unfold ck_yt at hy
      rw [show Nat.beq (c1 % 2) 0 = false by rw [k1]; rfl] at hy
      cases hy
      exact ht
    have hp0 : ck_Hp (G, X, T, K, h, r, s, [], []) r s h := ⟨hH, ck_Kp.rf, Nat.le_refl _, ⟨[], (List.append_nil r).symm⟩, [], (List.append_nil s).symm⟩
    have hp := ck_Hp.makeR hp0 hX hX0 (t := t') (vs := vs) k5 (fun g' hx d hd => by
      have hd : ck_lk T t' = some d := hd
      rw [e2] at hd
      cases hd
      refine ⟨⟨by show l2 ≤ _; have : l1 ≤ (vs.length : Int) := f1.1; omega, by show _ ≤ h2; have : (vs.length : Int) ≤ h1 := f1.2; omega⟩, fun j v hv => ⟨y, by unfold ck_yt; rw [show Nat.beq (c2 % 2) 0 = false by rw [k2]; rfl]; rfl, ?_⟩⟩
      exact (hsv j v hv).ex fun a b c d1 d2 => by obtain ⟨x1, x2, x3, -⟩ := hx a b c d1 d2; exact ⟨x1, x2, x3⟩)
    have hq9 : 1000 ≤ src := (hH.2 _ _ _ s2).2.2 (by unfold ck_wr; rw [e1]; show Nat.blt c1 2 = true; rw [k1]; rfl)
    refine ⟨src, t, t', vs, rfl, hq9, s2, ⟨k3, k4⟩, fun j v hv => ck_clF_ok k9 (hsv j v hv), by omega, by omega, hp.1, hp.2.1, hp.2.2.1, [], [1000 + h.length], (⟨rfl, fun i a b x z => by simp at z⟩ : ck_In ([] : ck_I) []), (List.forall_mem_nil _ : ∀ c ∈ ([] : List ck_L), _), ?_, rfl, ?_⟩
    · have hq : (s ++ [1000 + h.length])[1]? = some (1000 + h.length) := by
        have hn : s.length = 1 := hn
        rw [List.getElem?_append_right (by omega), hn]
        rfl
      intro f hf
      have hf : f ∈ [((2 : Nat), (1 : Nat), (0 : Nat), t', ((0 : Nat), (0 : Nat), ((0 : Int), [((1 : Int), (0 : Nat))]))), (5, 1, 0, 0, (0, 0, (0, [])))] := hf
      simp only [List.mem_cons, List.not_mem_nil, or_false] at hf
      rcases hf with rfl | rfl
      · exact ⟨_, vs, hq, by rw [am_g_new, if_pos rfl], s3.app _⟩
      · exact ⟨_, hq, Nat.le_refl _⟩
    · have hq : (s ++ [1000 + h.length])[1]? = some (1000 + h.length) := by
        have hn : s.length = 1 := hn
        rw [List.getElem?_append_right (by omega), hn]
        rfl
      exact ⟨⟨_, hq, rfl⟩, trivial⟩
  · cases hok
end
section
/-! THROWABLES -/
theorem g_at_0 : ∀ w ∈ vx_atS "Clockhouse" 411 "java/lang/IndexOutOfBoundsException" g_sup, w ∈ lw_gw ∨ w ∈ lw_ng := ck_inT_ok (by decide +kernel)
theorem g_ot_0 : ∀ w ∈ vx_atS "Clockhouse" 411 "java/lang/IndexOutOfBoundsException" g_sup, vx_ot w = true := by decide +kernel
theorem g_at_1 : ∀ w ∈ vx_atS "Clockhouse" 79 "java/lang/IllegalArgumentException" g_sup, w ∈ lw_gw ∨ w ∈ lw_ng := ck_inT_ok (by decide +kernel)
theorem g_ot_1 : ∀ w ∈ vx_atS "Clockhouse" 79 "java/lang/IllegalArgumentException" g_sup, vx_ot w = true := by decide +kernel
theorem g_at_2 : ∀ w ∈ vx_atS "Clockhouse" 172 "java/lang/IllegalStateException" g_sup, w ∈ lw_gw ∨ w ∈ lw_ng := ck_inT_ok (by decide +kernel)
theorem g_ot_2 : ∀ w ∈ vx_atS "Clockhouse" 172 "java/lang/IllegalStateException" g_sup, vx_ot w = true := by decide +kernel
end
