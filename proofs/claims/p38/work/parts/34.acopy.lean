/-! SYSTEM.ARRAYCOPY, OF NUMBERS -/
def am_acN : MethodName := ⟨"java/lang/System", "arraycopy", "(Ljava/lang/Object;ILjava/lang/Object;II)V"⟩
/-- the destination's values behind a copy -/
def am_cpy (vs vd : List Value) (sp dp n : Nat) : List Value := (List.range vd.length).map fun j => if dp ≤ j ∧ j < dp + n then vs.getD (sp + (j - dp)) .null else vd.getD j .null
theorem am_cpy_len (vs vd : List Value) (sp dp n : Nat) : (am_cpy vs vd sp dp n).length = vd.length := by unfold am_cpy; simp
theorem am_cpy_at {vs vd : List Value} {sp dp n j : Nat} {v : Value} (h : (am_cpy vs vd sp dp n)[j]? = some v) (h1 : sp + n ≤ vs.length) : (dp ≤ j ∧ j < dp + n ∧ vs[sp + (j - dp)]? = some v) ∨ (¬ (dp ≤ j ∧ j < dp + n) ∧ vd[j]? = some v) := by
  have hj : j < vd.length := by have := (List.getElem?_eq_some_iff.mp h).1; rwa [am_cpy_len] at this
  unfold am_cpy at h
  rw [List.getElem?_map, List.getElem?_range hj] at h
  have h' : (if dp ≤ j ∧ j < dp + n then vs.getD (sp + (j - dp)) .null else vd.getD j .null) = v := Option.some.inj h
  by_cases e : dp ≤ j ∧ j < dp + n
  · rw [if_pos e] at h'
    refine Or.inl ⟨e.1, e.2, ?_⟩
    have hl : sp + (j - dp) < vs.length := by omega
    rw [List.getElem?_eq_getElem hl, ← h', List.getD_eq_getElem?_getD, List.getElem?_eq_getElem hl]
    rfl
  · rw [if_neg e] at h'
    refine Or.inr ⟨e, ?_⟩
    rw [List.getElem?_eq_getElem hj, ← h', List.getD_eq_getElem?_getD, List.getElem?_eq_getElem hj]
    rfl
theorem am_stretch_at {c : Cell} {a n i : Nat} (h : i < n) : (c.stretch a n)[i]? = some (c.slots.getD (a + i) .null) := by
  unfold Cell.stretch
  rw [List.getElem?_map, List.getElem?_range h]
  rfl
section AMAC
variable {G : am_G} {p : Program} {l : Launch} {e : Env} {R : Room} {s : State} {m : MethodId} {args : Array Value} {below : List Frame} {meth : Method} {c : Code} {mc ms : Nat} {Post : am_O → List am_C → Prop}
variable {own : String} {cc : ByteArray} {nL pc : Nat} {ret : Option FieldType} {L : List (Option Value)} {st : List Value} {h : List am_C} {k n : Nat}
theorem va_S.puts {A : Nat → Prop} {H0 H H1 : Heap} {locs ls : List Loc} {a : Nat} (h : va_S A H0 H locs) (z : H1.size = H.size) (oq : ∀ q : Nat, q ≠ a → H1[q]? = H[q]?) (ha : A a) (hl : ∀ x ∈ ls, x.base = a) : va_S A H0 H1 (locs ++ ls) := by
  refine ⟨by rw [z]; exact h.1, fun q h1 h2 => ?_, fun q hq => ?_⟩
  · rw [oq q (fun e => h2 (by rw [e]; exact ha))]
    exact h.2.1 q h1 h2
  · rcases List.mem_append.mp hq with h1 | h1
    · exact h.2.2 q h1
    · rw [hl q h1]; exact ha
theorem am_fits_num {G : am_G} {t : Nat} {v : Value} (h1 : 50 ≤ t) (h2 : t < 53) (h : fits (am_aty t) v = true) : am_rv G v = v ∧ ∀ (T : State) (cp : ClassId), T.takes cp v := by
  have h3 : t = 50 ∨ t = 51 ∨ t = 52 := by omega
  cases v with
  | ref r => rcases h3 with rfl | rfl | rfl <;> cases h
  | _ => exact ⟨rfl, fun _ _ => trivial⟩
theorem am_R.acopy (X : am_Cx l G p s m args meth c own cc nL ret) {i src dst ts td : Nat} {sp dp n9 : Int32} {vs vd : List Value} (hl : Cond.methodLink own i am_acN ∈ lw_gw) (hnat : Cond.native am_acN ∈ lw_gw) (hsta : Cond.static am_acN ∈ lw_gw) (hini : Cond.initialized "java/lang/System" ∈ lw_gw)
    (hdst : 1000 ≤ dst) (hgs : am_g G h src = some (ts, vs)) (hgd : am_g G h dst = some (td, vd)) (hk : ts % 100 = td % 100) (h1 : 50 ≤ ts % 100) (h2 : ts % 100 < 53) (h3 : 0 ≤ sp.toInt) (h4 : 0 ≤ dp.toInt) (h5 : 0 ≤ n9.toInt) (h6 : sp.toInt + n9.toInt ≤ vs.length) (h7 : dp.toInt + n9.toInt ≤ vd.length)
    (hv : ∀ (j : Nat) (v : Value), vs[j]? = some v → fits (am_aty (ts % 100)) v = true) (hLn : L.length = nL) (hst : (st.map fun v => v.category).sum ≤ 8) (hfr : 1 ≤ R.frames) (hlo : 8 + (nativeFrameWords "java/lang/System" "arraycopy" 5 + 11) ≤ R.locals) (d : decode cc pc = .ok (.invokestatic i, 3))
    (kk : am_R G p l e R s m args below meth c mc ms Post (pc + 3) L st (am_s h dst (td, am_cpy vs vd sp.toInt.toNat dp.toInt.toNat n9.toInt.toNat)) k n) : am_R G p l e R s m args below meth c mc ms Post pc L (.int n9 :: .int dp :: .ref dst :: .int sp :: .ref src :: st) h k n := by
  intro ls H locs hL hH hS T hT Y
  obtain ⟨cs, q1, q2⟩ := am_cell hH (am_kt_S X.2.2.2.2.2.1 hS) hgs (by show ts % 100 < 62; omega)
  obtain ⟨cd, d1, d2, d3⟩ := am_cellD hH hdst hgd
  obtain ⟨-, kS, hkS, cpS, hkkS⟩ := am_isArr (q := ts % 100) X.2.2.2.2.2.1 q2 rfl h1 (by omega)
  obtain ⟨-, kD, hkD, cpD, hkkD⟩ := am_isArr (q := ts % 100) X.2.2.2.2.2.1 d2.rk (show td % 100 = ts % 100 by omega) h1 (by omega)
  obtain ⟨-, s1, s2, -⟩ := q2.2.2.2 h1 (by show ts % 100 < 62; omega)
  obtain ⟨d4, d5, d6⟩ := d2.2.2.2 (by show 50 ≤ td % 100; omega) (by show td % 100 < 62; omega)
  have s1 : vs.length ≤ cs.slots.size := s1
  have d5 : cd.slots.size = vd.length := d5
  have e3 : sp.toNatClampNeg = sp.toInt.toNat := rfl
  have e4 : dp.toNatClampNeg = dp.toInt.toNat := rfl
  have e5 : n9.toNatClampNeg = n9.toInt.toNat := rfl
  have hty : ((refKind (am_aty (ts % 100)) != refKind (am_aty (ts % 100))) || (!refKind (am_aty (ts % 100)) && am_aty (ts % 100) != am_aty (ts % 100))) = false := by
    have h3 : ts % 100 = 50 ∨ ts % 100 = 51 ∨ ts % 100 = 52 := by omega
    rcases h3 with h3 | h3 | h3 <;> rw [h3] <;> rfl
  have hget : ∀ i : Nat, i < n9.toInt.toNat → ∃ v, vs[sp.toInt.toNat + i]? = some v ∧ cs.slots.getD (sp.toInt.toNat + i) .null = v ∧ am_rv G v = v ∧ fits (am_aty (ts % 100)) v = true ∧ ∀ (T : State) (cp : ClassId), T.takes cp v := by
    intro i hi
    have hlt : sp.toInt.toNat + i < vs.length := by omega
    have hv1 := List.getElem?_eq_getElem hlt
    have hf := hv _ _ hv1
    obtain ⟨f1, f2⟩ := am_fits_num (G := G) h1 h2 hf
    refine ⟨_, hv1, ?_, f1, hf, f2⟩
    have := s2 _ _ hv1
    rw [f1] at this
    rw [Array.getD_eq_getD_getElem?, this]
    rfl
  have hneg : ∀ x : Int32, 0 ≤ x.toInt → ¬ x < 0 := fun x hx z => by rw [Int32.lt_iff_toInt_lt, Int32.toInt_zero] at z; omega
  obtain ⟨vm', X', st9⟩ := Y.arraycopy X.1 (own := own) (index := i) X.2.2.2.1 (X.2.2.2.2.1 _ hl) (X.2.2.2.2.1 _ hnat) (X.2.2.2.2.1 _ hsta) (X.2.2.2.2.1 _ hini) (src := am_ad G src) (dst := am_ad G dst) (srcPos := sp) (destPos := dp) (n := n9) (cs := cs) (cd := cd)
    (by rw [hT]; exact q1) (by rw [hT]; exact d1) (fun q z => by have := q2.2.1; rw [z] at this; cases this) (fun q z => by rw [d3] at z; cases z) q2.1 d2.1 hkS hkD hkkS hkkD hty (hneg _ h3) (hneg _ h4) (hneg _ h5)
    (by omega) (by rw [d5]; omega)
    (fun vm' _ i hi => by
      obtain ⟨v, -, g2, -, g4, g5⟩ := hget i hi
      rw [e3, g2]
      exact ⟨g4, g5 _ _⟩)
    (g := F0 m pc ls ((.int n9 :: .int dp :: .ref dst :: .int sp :: .ref src :: st : List Value).map (am_rv G))) rfl (by show ls.size = c.maxLocals; rw [hL.1, hLn]; exact X.2.2.1.symm) (rest := st.map (am_rv G)) rfl (by rw [X.2.1]; exact d) hfr (by
      show 2 * 0 + ((st.map (am_rv G)).map fun v => v.category).sum + _ ≤ _
      rw [am_cats]; omega)
  have hfc := Cell.storeRun_facts cd dp.toNatClampNeg (cs.stretch sp.toNatClampNeg n9.toNatClampNeg)
  have hlt : am_ad G dst < H.size := (Array.getElem?_eq_some_iff.mp d1).1
  let T' : State := (T.setVm vm').setCell (am_ad G dst) (copied cs cd sp dp n9)
  have f1 : T'.heap[am_ad G dst]? = some (copied cs cd sp dp n9) := State.heap_setCell_self (by show T.heap[am_ad G dst]? = some cd; rw [hT]; exact d1)
  have f2 : T'.heap.size = H.size := by show (T.heap.setIfInBounds _ _).size = _; rw [Array.size_setIfInBounds, hT]
  have f3 : ∀ q, q ≠ am_ad G dst → T'.heap[q]? = H[q]? := fun q hq => by
    show (T.heap.setIfInBounds _ _)[q]? = _
    rw [Array.getElem?_setIfInBounds_ne (Ne.symm hq), hT]
  have hro : am_ro G (td, am_cpy vs vd sp.toInt.toNat dp.toInt.toNat n9.toInt.toNat) (copied cs cd sp dp n9) := by
    refine ⟨by show (cd.storeRun _ _).vm ≠ _; rw [hfc.2.1]; exact d2.1, by show (cd.storeRun _ _).vm.isStatics = false; rw [hfc.2.1]; exact d2.2.1, fun z => by exfalso; have : td % 100 < 50 := z; omega, fun _ _ => ⟨by show (cd.storeRun _ _).cls = _; rw [hfc.1]; exact d4, ?_, fun j v hj => ?_⟩⟩
    · show (cd.storeRun _ _).slots.size = (am_cpy _ _ _ _ _).length
      rw [hfc.2.2.1, am_cpy_len, d5]
    · show (cd.storeRun dp.toNatClampNeg (cs.stretch sp.toNatClampNeg n9.toNatClampNeg)).slots[j]? = _
      rw [Cell.storeRun_get _ _ _ _ (by rw [Cell.stretch_length, d5, e4, e5]; omega), Cell.stretch_length, e3, e4, e5]
      rcases am_cpy_at hj (by omega) with ⟨g1, g2, g3⟩ | ⟨g1, g2⟩
      · rw [if_pos ⟨g1, g2⟩]
        obtain ⟨v', k1, k2, k3, -, -⟩ := hget (j - dp.toInt.toNat) (by omega)
        rw [g3] at k1
        cases k1
        rw [k3]
        rw [am_stretch_at (show j - dp.toInt.toNat < n9.toInt.toNat by omega), k2]
      · rw [if_neg g1]
        exact d6 _ _ g2
  obtain ⟨t9, a1, b1⟩ := kk ls T'.heap _ hL (hH.put hdst (am_g_lt hdst hgd) f2 f3 ⟨_, f1, hro, by show (cd.storeRun _ _).vm = _; rw [hfc.2.1]; exact d3⟩) (hS.puts f2 f3 (am_ad_ge hdst) (fun x hx => by
    obtain ⟨y, -, rfl⟩ := List.mem_map.mp hx
    rfl)) T' rfl X'
  exact ⟨t9, st9 t9 a1, b1⟩
def ck_acM (G : am_G) : ck_CM := fun a h _ _ P => ∃ (src dst ts td : Nat) (sp dp n9 : Int32) (vs vd : List Value), a = [.ref src, .int sp, .ref dst, .int dp, .int n9] ∧ 1000 ≤ dst ∧ am_g G h src = some (ts, vs) ∧ am_g G h dst = some (td, vd) ∧ (ts % 100 = td % 100 ∧ 50 ≤ ts % 100 ∧ ts % 100 < 53) ∧ (0 ≤ sp.toInt ∧ 0 ≤ dp.toInt ∧ 0 ≤ n9.toInt ∧ sp.toInt + n9.toInt ≤ vs.length ∧ dp.toInt + n9.toInt ≤ vd.length) ∧
  (∀ (j : Nat) (v : Value), vs[j]? = some v → fits (am_aty (ts % 100)) v = true) ∧ P (.inl none) (am_s h dst (td, am_cpy vs vd sp.toInt.toNat dp.toInt.toNat n9.toInt.toNat))
theorem ck_kAC {fr lo i : Nat} (hl : Cond.methodLink own i am_acN ∈ lw_gw) (hnat : Cond.native am_acN ∈ lw_gw) (hsta : Cond.static am_acN ∈ lw_gw) (hini : Cond.initialized "java/lang/System" ∈ lw_gw) (hf : 1 ≤ fr) (ho : 8 + (nativeFrameWords "java/lang/System" "arraycopy" 5 + 11) ≤ lo) : ck_any l G own nL fr lo (.invokestatic i) 3 none 5 (ck_acM G) := by
  intro p e s m args below meth c mc ms Post cc ret pc X d a L st h k n mc' ms' P hM hna hL hst hrc hk hn kr kx
  obtain ⟨src, dst, ts, td, sp, dp, n9, vs, vd, rfl, h1, h2, h3, ⟨h4, h5, h6⟩, ⟨h7, h8, h9, h10, h11⟩, h12, hP⟩ := hM
  exact am_R.acopy X hl hnat hsta hini h1 h2 h3 h4 h5 h6 h7 h8 h9 h10 h11 h12 hL hst hf ho d (am_R.widen (Nat.le_add_right _ _) (Nat.le_add_right _ _) (kr none _ hP))
def ck_acK (ts td : Nat) (l1 h1 l2 h2 : Int) : ck_KK := (([(0, 2147483647), (0, 2147483647), (0, 2147483647), (l1, h1), (l2, h2)], [(0, [(-1, 0), (-1, 2), (1, 3)]), (0, [(-1, 1), (-1, 2), (1, 4)])], [(2, 0, 0, ts, (0, 0, (0, [(1, 3)]))), (2, 1, 0, td, (0, 0, (0, [(1, 4)])))], 2, [(3, 0, (0, [])), (1, 0, (0, [(1, 0)])), (3, 1, (0, [])), (1, 0, (0, [(1, 1)])), (1, 0, (0, [(1, 2)]))]), ((0, []), (0, [])), [(td, 1000)], [], ([], [], [], 0, []), [])
def ck_acOK (T : ck_TT) (ts td : Nat) : Bool := match ck_lk T ts, ck_lk T td with
  | some (c1, _, _, [(1, _, a, b)]), some (c2, _, _, [(1, _, a', b')]) => ((Nat.beq (c1 % 2) 1 && Nat.beq c2 1) && (ck_nn (a - a') && ck_nn (b' - b))) && ((Nat.beq (ts % 100) (td % 100) && Nat.blt td 40000) && (Nat.beq (ts % 100) 50 || (Nat.beq (ts % 100) 51 && (ck_nn (a + 128) && ck_nn (127 - b)))))
  | _, _ => false
theorem ck_lv1 {r : List Int} {i : Nat} {x : Int} (h : ck_Lv r (0, [(1, i)]) x) : r[i]? = some x := by
  obtain ⟨h1, h2⟩ := h
  have hi : i < r.length := h1 (1, i) List.mem_cons_self
  have h3 : x = (0 : Int) + (1 * r.getD i 0 + 0) := h2
  rw [List.getD_eq_getElem?_getD, List.getElem?_eq_getElem hi] at h3
  have h3 : x = (0 : Int) + (1 * r[i] + 0) := h3
  rw [List.getElem?_eq_getElem hi, show r[i] = x by omega]
theorem ck_lvk {r : List Int} {i : Nat} {x : Int} (h : r[i]? = some x) : r.getD i 0 = x := by rw [List.getD_eq_getElem?_getD, h]; rfl
theorem ck_ac_con {X : ck_XT} {T : ck_TT} {ts td : Nat} {l1 h1 l2 h2 : Int} (hX : ck_XO X) (hX0 : ck_X0 X) (hok : ck_acOK T ts td = true) : ck_Con (ck_acM G) G X T (ck_acK ts td l1 h1 l2 h2) := by
  intro K r s a h hH hV hC hF hn hS mc ms hmc hms
  unfold ck_acOK at hok
  split at hok
  · next c1 x1 x2 ya a0 b0 c2 x3 x4 yb a1 b1 e1 e2 =>
    simp only [Bool.and_eq_true, Bool.or_eq_true] at hok
    obtain ⟨⟨⟨k1, k2⟩, k3, k4⟩, ⟨k5, k6⟩, k7⟩ := hok
    have k1 := ck_beq k1
    have k2 := ck_beq k2
    have k3 := ck_nn_ok k3
    have k4 := ck_nn_ok k4
    have k5 := ck_beq k5
    have k6 : td < 40000 := by simpa using k6
    obtain ⟨src, vs, s1, s2, s3⟩ := hF (2, 0, 0, ts, (0, 0, (0, [(1, 3)]))) (by unfold ck_acK; simp)
    obtain ⟨dst, vd, d1, d2, d3⟩ := hF (2, 1, 0, td, (0, 0, (0, [(1, 4)]))) (by unfold ck_acK; simp)
    have s1 : s[0]? = some src := s1
    have d1 : s[1]? = some dst := d1
    have s2 : am_g G h src = some (ts, vs) := s2
    have d2 : am_g G h dst = some (td, vd) := d2
    have s3 := ck_lvk (ck_lv1 s3)
    have d3 := ck_lvk (ck_lv1 d3)
    have hw : ck_wr T td = true := by unfold ck_wr; rw [e2, k2]; rfl
    have hdst := (hH.2 _ _ _ d2).2.2 hw
    match a, hS with
    | [v1, v2, v3, v4, v5], ⟨⟨q1, z1, z1'⟩, ⟨q2, z2, z2'⟩, ⟨q3, z3, z3'⟩, ⟨q4, z4, z4'⟩, ⟨q5, z5, z5'⟩, _⟩ =>
    subst z1' z2 z3' z4 z5
    have z1 : s[0]? = some q1 := z1
    have z3 : s[1]? = some q3 := z3
    rw [s1] at z1; cases z1
    rw [d1] at z3; cases z3
    have z2' := ck_lv1 z2'
    have z4' := ck_lv1 z4'
    have z5' := ck_lv1 z5'
    have y1 := hV.2 0 0 2147483647 _ rfl z2'
    have y2 := hV.2 1 0 2147483647 _ rfl z4'
    have y3 := hV.2 2 0 2147483647 _ rfl z5'
    obtain ⟨w1, ⟨-, w2⟩, w3⟩ := hC (0, [(-1, 0), (-1, 2), (1, 3)]) (by unfold ck_acK; simp)
    obtain ⟨u1, ⟨-, u2⟩, u3⟩ := hC (0, [(-1, 1), (-1, 2), (1, 4)]) (by unfold ck_acK; simp)
    have w2 : w1 = (0 : Int) + (-1 * r.getD 0 0 + (-1 * r.getD 2 0 + (1 * r.getD 3 0 + 0))) := w2
    have u2 : u1 = (0 : Int) + (-1 * r.getD 1 0 + (-1 * r.getD 2 0 + (1 * r.getD 4 0 + 0))) := u2
    rw [ck_lvk z2', ck_lvk z5', s3] at w2
    rw [ck_lvk z4', ck_lvk z5', d3] at u2
    have hsv : ∀ (j : Nat) (v : Value), vs[j]? = some v → ∃ x : Int32, v = .int x ∧ a0 ≤ x.toInt ∧ x.toInt ≤ b0 := by
      intro j v hv
      obtain ⟨y, hy, ht⟩ := ((hH.2 _ _ _ s2).1 _ e1).2 j v hv
      unfold ck_yt at hy
      rw [show Nat.beq (c1 % 2) 0 = false by rw [k1]; rfl] at hy
      cases hy
      exact ht
    have hdv : ∀ (j : Nat) (v : Value), vd[j]? = some v → ∃ x : Int32, v = .int x ∧ a1 ≤ x.toInt ∧ x.toInt ≤ b1 := by
      intro j v hv
      obtain ⟨y, hy, ht⟩ := ((hH.2 _ _ _ d2).1 _ e2).2 j v hv
      unfold ck_yt at hy
      rw [show Nat.beq (c2 % 2) 0 = false by rw [k2]; rfl] at hy
      cases hy
      exact ht
    have hkk : ts % 100 = 50 ∨ (ts % 100 = 51 ∧ -128 ≤ a0 ∧ b0 ≤ 127) := k7.imp (fun z => ck_beq z) (fun z => ⟨ck_beq z.1, by have := ck_nn_ok z.2.1; omega, by have := ck_nn_ok z.2.2; omega⟩)
    have hp0 : ck_Hp (G, X, T, K, h, r, s, [(td, 1000)], []) r s h := ⟨hH, ck_Kp.rf, Nat.le_refl _, ⟨[], (List.append_nil r).symm⟩, [], (List.append_nil s).symm⟩
    have hput := ck_Hp.put hp0 hX hX0 (t' := td) (vs' := am_cpy vs vd q2.toInt.toNat q4.toInt.toNat q5.toInt.toNat) d2 hdst k6 k6 (am_cpy_len _ _ _ _ _) (Or.inl rfl)
      (fun g' hx d hd => by
        have hd : ck_lk T td = some d := hd
        rw [e2] at hd
        cases hd
        refine ⟨by rw [am_cpy_len]; exact ((hH.2 _ _ _ d2).1 _ e2).1, fun j v hv => ⟨_, by unfold ck_yt; rw [show Nat.beq (c2 % 2) 0 = false by rw [k2]; rfl]; rfl, ?_⟩⟩
        rcases am_cpy_at hv (by omega) with ⟨-, -, g3⟩ | ⟨-, g3⟩
        · obtain ⟨x, f1, f2, f3⟩ := hsv _ _ g3
          exact ⟨x, f1, by show a1 ≤ _; omega, by show _ ≤ b1; omega⟩
        · exact hdv _ _ g3)
      (Or.inl ⟨rfl, fun j hj => by
        exfalso
        have hj : ck_inM [(td, 1000)] td j = false := hj
        unfold ck_inM at hj
        simp at hj⟩)
    refine ⟨src, dst, ts, td, q2, q4, q5, vs, vd, rfl, hdst, s2, d2, ⟨k5, by omega, by omega⟩, ⟨by omega, by omega, by omega, by omega, by omega⟩, fun j v hv => ?_, hput.1, hput.2.1, hput.2.2.1, [], [], (⟨rfl, fun i a b x z => by simp at z⟩ : ck_In ([] : ck_I) []), (List.forall_mem_nil _ : ∀ c ∈ ([] : List ck_L), _), (List.forall_mem_nil _ : ∀ f ∈ ([] : List ck_F), _), rfl, trivial⟩
    obtain ⟨x, rfl, f2, f3⟩ := hsv j v hv
    rcases hkk with e | ⟨e, e3, e4⟩
    · rw [e]; rfl
    · rw [e]
      show (decide ((-128 : Int32) ≤ x) && decide (x ≤ 127)) = true
      rw [Bool.and_eq_true, decide_eq_true_eq, decide_eq_true_eq, Int32.le_iff_toInt_le, Int32.le_iff_toInt_le]
      exact ⟨by show (-128 : Int) ≤ _; omega, by show _ ≤ (127 : Int); omega⟩
  · cases hok
def ck_acK6 (ts td : Nat) (l1 h1 l2 h2 : Int) : ck_KK := (([(0, 2147483647), (0, 2147483647), (0, 2147483647), (l1, h1), (l2, h2)], [(0, [(-1, 0), (-1, 2), (1, 3)]), (0, [(-1, 1), (-1, 2), (1, 4)])], [(2, 0, 0, ts, (0, 0, (0, [(1, 3)]))), (2, 1, 0, td, (0, 0, (0, [(1, 4)]))), (6, 0, 0, ts, (0, 0, (0, [])))], 2, [(3, 0, (0, [])), (1, 0, (0, [(1, 0)])), (3, 1, (0, [])), (1, 0, (0, [(1, 1)])), (1, 0, (0, [(1, 2)]))]), ((0, []), (0, [])), [(td, 1000)], [], ([], [], [], 0, []), [])
def ck_acOK6 (T : ck_TT) (ts td : Nat) : Bool := match ck_lk T td with
  | some (c2, _, _, [(1, _, a', b')]) => (Nat.beq c2 1 && (ck_nn (0 - a') && ck_nn (b' - 999999999))) && ((Nat.beq (ts % 100) (td % 100) && Nat.blt td 40000) && Nat.beq (ts % 100) 50)
  | _ => false
theorem ck_ac6_con {X : ck_XT} {T : ck_TT} {ts td : Nat} {l1 h1 l2 h2 : Int} (hX : ck_XO X) (hX0 : ck_X0 X) (hok : ck_acOK6 T ts td = true) : ck_Con (ck_acM G) G X T (ck_acK6 ts td l1 h1 l2 h2) := by
  intro K r s a h hH hV hC hF hn hS mc ms hmc hms
  unfold ck_acOK6 at hok
  split at hok
  · next c2 x3 x4 yb a1 b1 e2 =>
    simp only [Bool.and_eq_true, Bool.or_eq_true] at hok
    obtain ⟨⟨k2, k3, k4⟩, ⟨k5, k6⟩, k7⟩ := hok
    have k2 := ck_beq k2
    have k3 := ck_nn_ok k3
    have k4 := ck_nn_ok k4
    have k5 := ck_beq k5
    have k6 : td < 40000 := by simpa using k6
    obtain ⟨src, vs, s1, s2, s3⟩ := hF (2, 0, 0, ts, (0, 0, (0, [(1, 3)]))) (by unfold ck_acK6; simp)
    obtain ⟨dst, vd, d1, d2, d3⟩ := hF (2, 1, 0, td, (0, 0, (0, [(1, 4)]))) (by unfold ck_acK6; simp)
    have s1 : s[0]? = some src := s1
    have d1 : s[1]? = some dst := d1
    have s2 : am_g G h src = some (ts, vs) := s2
    have d2 : am_g G h dst = some (td, vd) := d2
    have s3 := ck_lvk (ck_lv1 s3)
    have d3 := ck_lvk (ck_lv1 d3)
    have hw : ck_wr T td = true := by unfold ck_wr; rw [e2, k2]; rfl
    have hdst := (hH.2 _ _ _ d2).2.2 hw
    match a, hS with
    | [v1, v2, v3, v4, v5], ⟨⟨q1, z1, z1'⟩, ⟨q2, z2, z2'⟩, ⟨q3, z3, z3'⟩, ⟨q4, z4, z4'⟩, ⟨q5, z5, z5'⟩, _⟩ =>
    subst z1' z2 z3' z4 z5
    have z1 : s[0]? = some q1 := z1
    have z3 : s[1]? = some q3 := z3
    rw [s1] at z1; cases z1
    rw [d1] at z3; cases z3
    have z2' := ck_lv1 z2'
    have z4' := ck_lv1 z4'
    have z5' := ck_lv1 z5'
    have y1 := hV.2 0 0 2147483647 _ rfl z2'
    have y2 := hV.2 1 0 2147483647 _ rfl z4'
    have y3 := hV.2 2 0 2147483647 _ rfl z5'
    obtain ⟨w1, ⟨-, w2⟩, w3⟩ := hC (0, [(-1, 0), (-1, 2), (1, 3)]) (by unfold ck_acK6; simp)
    obtain ⟨u1, ⟨-, u2⟩, u3⟩ := hC (0, [(-1, 1), (-1, 2), (1, 4)]) (by unfold ck_acK6; simp)
    have w2 : w1 = (0 : Int) + (-1 * r.getD 0 0 + (-1 * r.getD 2 0 + (1 * r.getD 3 0 + 0))) := w2
    have u2 : u1 = (0 : Int) + (-1 * r.getD 1 0 + (-1 * r.getD 2 0 + (1 * r.getD 4 0 + 0))) := u2
    rw [ck_lvk z2', ck_lvk z5', s3] at w2
    rw [ck_lvk z4', ck_lvk z5', d3] at u2
    have hsv : ∀ (j : Nat) (v : Value), vs[j]? = some v → ∃ x : Int32, v = .int x ∧ 0 ≤ x.toInt ∧ x.toInt ≤ 999999999 := by
      obtain ⟨q9, vs9, x9, o1, o2, -, o3⟩ := hF (6, 0, 0, ts, (0, 0, (0, []))) (by unfold ck_acK6; simp)
      have o1 : s[0]? = some q9 := o1
      have o2 : am_g G h q9 = some (ts, vs9) := o2
      rw [s1] at o1
      cases o1
      rw [s2] at o2
      cases o2
      exact o3
    have hdv : ∀ (j : Nat) (v : Value), vd[j]? = some v → ∃ x : Int32, v = .int x ∧ a1 ≤ x.toInt ∧ x.toInt ≤ b1 := by
      intro j v hv
      obtain ⟨y, hy, ht⟩ := ((hH.2 _ _ _ d2).1 _ e2).2 j v hv
      unfold ck_yt at hy
      rw [show Nat.beq (c2 % 2) 0 = false by rw [k2]; rfl] at hy
      cases hy
      exact ht
    have hkk := ck_beq k7
    have hp0 : ck_Hp (G, X, T, K, h, r, s, [(td, 1000)], []) r s h := ⟨hH, ck_Kp.rf, Nat.le_refl _, ⟨[], (List.append_nil r).symm⟩, [], (List.append_nil s).symm⟩
    have hput := ck_Hp.put hp0 hX hX0 (t' := td) (vs' := am_cpy vs vd q2.toInt.toNat q4.toInt.toNat q5.toInt.toNat) d2 hdst k6 k6 (am_cpy_len _ _ _ _ _) (Or.inl rfl)
      (fun g' hx d hd => by
        have hd : ck_lk T td = some d := hd
        rw [e2] at hd
        cases hd
        refine ⟨by rw [am_cpy_len]; exact ((hH.2 _ _ _ d2).1 _ e2).1, fun j v hv => ⟨_, by unfold ck_yt; rw [show Nat.beq (c2 % 2) 0 = false by rw [k2]; rfl]; rfl, ?_⟩⟩
        rcases am_cpy_at hv (by omega) with ⟨-, -, g3⟩ | ⟨-, g3⟩
        · obtain ⟨x, f1, f2, f3⟩ := hsv _ _ g3
          exact ⟨x, f1, by show a1 ≤ _; omega, by show _ ≤ b1; omega⟩
        · exact hdv _ _ g3)
      (Or.inl ⟨rfl, fun j hj => by
        exfalso
        have hj : ck_inM [(td, 1000)] td j = false := hj
        unfold ck_inM at hj
        simp at hj⟩)
    refine ⟨src, dst, ts, td, q2, q4, q5, vs, vd, rfl, hdst, s2, d2, ⟨k5, by omega, by omega⟩, ⟨by omega, by omega, by omega, by omega, by omega⟩, fun j v hv => ?_, hput.1, hput.2.1, hput.2.2.1, [], [], (⟨rfl, fun i a b x z => by simp at z⟩ : ck_In ([] : ck_I) []), (List.forall_mem_nil _ : ∀ c ∈ ([] : List ck_L), _), (List.forall_mem_nil _ : ∀ f ∈ ([] : List ck_F), _), rfl, trivial⟩
    obtain ⟨x, rfl, f2, f3⟩ := hsv j v hv
    rw [hkk]; rfl
  · cases hok
end AMAC
