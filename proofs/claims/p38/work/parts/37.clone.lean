/-! AN ARRAY'S CLONE -/
def am_clO : MethodName := ⟨"java/lang/Object", "clone", "()Ljava/lang/Object;"⟩
theorem am_RAn {U : State} {cA : ClassId} {ty : FieldType} (h : va_RA U cA ty) : U.vm.findClass ("[" ++ ty.toString) = some cA := by
  cases ty with
  | object C => obtain ⟨kA, comp, h1, h2, h3, h4⟩ := h; exact h4
  | _ => exact h
theorem am_isa_own {G : am_G} {s : State} (hk : am_kon G s) {q : Nat} {nm : String} (h1 : 50 ≤ q) (h2 : q < 58) (hn : "[" ++ (am_aty q).toString = nm) : q < 59 ∧ am_isa G s q nm :=
  ⟨by omega, G.2.1 q, G.2.1 q, by rw [if_neg (by omega)], by rw [← hn]; exact am_RAn (hk.1.2 _ _ (am_tys_at G h1 h2)).2, va_asg _ _⟩
section AMCL
variable {G : am_G} {p : Program} {l : Launch} {e : Env} {R : Room} {s : State} {m : MethodId} {args : Array Value} {below : List Frame} {meth : Method} {c : Code} {mc ms : Nat} {Post : am_O → List am_C → Prop}
variable {own : String} {cc : ByteArray} {nL pc : Nat} {ret : Option FieldType} {L : List (Option Value)} {st : List Value} {h : List am_C} {k n : Nat}
theorem am_R.clone (X : am_Cx l G p s m args meth c own cc nL ret) {i src t : Nat} (t' : Nat) {ad : String} {vs : List Value} (hl : Cond.methodLink own i ⟨ad, "clone", "()Ljava/lang/Object;"⟩ ∈ lw_gw) (hsame : Cond.sameMethod ad "java/lang/Object" "clone" "()Ljava/lang/Object;" ∈ lw_gw) (hnat : Cond.native am_clO ∈ lw_gw) (hin : Cond.instanceMethod am_clO ∈ lw_gw) (hsel : Cond.selects ad ⟨ad, "clone", "()Ljava/lang/Object;"⟩ am_clO ∈ lw_gw) (hcs : Cond.castable ad "java/lang/Cloneable" ∈ lw_ng)
    (hnm : "[" ++ (am_aty (t % 100)).toString = ad) (hsrc9 : 1000 ≤ src) (hg : am_g G h src = some (t, vs)) (h1 : 50 ≤ t % 100) (h2 : t % 100 < 58) (ht' : t' % 100 = t % 100) (hv : ∀ (j : Nat) (v : Value), vs[j]? = some v → fits (am_aty (t % 100)) (am_rv G v) = true)
    (hLn : L.length = nL) (hst : (st.map fun v => v.category).sum ≤ 8) (hfr : 1 ≤ R.frames) (hlo : 22 ≤ R.locals) (hcells : k + 1 ≤ R.cells) (hslots : n + vs.length ≤ R.slots) (d : decode cc pc = .ok (.invokevirtual i, 3))
    (kk : am_R G p l e R s m args below meth c mc ms Post (pc + 3) L (.ref (1000 + h.length) :: st) (h ++ [(t', vs)]) (k + 1) (n + vs.length)) : am_R G p l e R s m args below meth c mc ms Post pc L (.ref src :: st) h k n := by
  intro ls H locs hL hH hS T hT Y
  obtain ⟨cs, q1, q2, -⟩ := am_cellD hH hsrc9 hg
  obtain ⟨-, kS, hkS, cpS, hkkS⟩ := am_isArr (q := t % 100) X.2.2.2.2.2.1 q2.rk rfl h1 (by omega)
  obtain ⟨s0, s1, s2⟩ := q2.2.2.2 h1 (by show t % 100 < 62; omega)
  have s0 : cs.cls = G.2.1 (t % 100) := s0
  have s1 : cs.slots.size = vs.length := s1
  obtain ⟨kT, hkT, heT⟩ := Y.warmed.alike.2.2 _ _ hkS
  have hkkT : kT.kind = .array cpS (am_aty (t % 100)) := by rw [heT]; exact hkkS
  have hfc : s.vm.findClass ad = some cs.cls := by rw [s0, ← hnm]; exact am_RAn (X.2.2.2.2.2.1.1.2 _ _ (am_tys_at G h1 h2)).2
  obtain ⟨c0, cC, f1, f2, f3⟩ := Cond.castable_spec (va_Nw.use (A := args) rfl (X.2.2.2.2.2.1.2.2.2.2.2.2.2 _ hcs))
  cases hfc.symm.trans f1
  obtain ⟨vm', X', st9⟩ := Y.cloneArray X.1 (own := own) (ad := ad) (index := i) X.2.2.2.1 (X.2.2.2.2.1 _ hl) (X.2.2.2.2.1 _ hsame) (X.2.2.2.2.1 _ hnat) (X.2.2.2.2.1 _ hin) (X.2.2.2.2.1 _ hsel) (a := am_ad G src) (cell := cs) (by rw [hT]; exact q1)
    (fun q z => by have := q2.2.1; rw [z] at this; cases this) q2.1 hfc f2 f3
    (fun j v hj => by
      have hj1 : j < vs.length := by rw [← s1]; exact (Array.getElem?_eq_some_iff.mp hj).1
      have hj2 := s2 _ _ (List.getElem?_eq_getElem hj1)
      have hj3 : v = am_rv G vs[j] := Option.some.inj (hj.symm.trans hj2)
      have hf := hv _ _ (List.getElem?_eq_getElem hj1)
      rw [← hj3] at hf
      simpa [State.fitsSlot, State.slotType?, hkT, hkkT] using hf)
    (g := F0 m pc ls ((.ref src :: st : List Value).map (am_rv G))) rfl (by show ls.size = c.maxLocals; rw [hL.1, hLn]; exact X.2.2.1.symm) (rest := st.map (am_rv G)) rfl (by rw [X.2.1]; exact d) hfr (by
      show 2 * 0 + ((st.map (am_rv G)).map fun v => v.category).sum + 14 ≤ _
      rw [am_cats]; omega) hcells (by rw [s1]; exact hslots) (hloader := Vm.clonesLoader_of_array hkS hkkS)
  rw [s1] at X'
  have ha : am_ad G (1000 + h.length) = H.size := by unfold am_ad; rw [if_neg (by omega), hH.1]; omega
  have hat : am_at G H.size (t', vs) (H.push { cls := cs.cls, slots := cs.slots }) :=
    ⟨_, Array.getElem?_push_size, ⟨fun z => (by cases z), rfl, fun z => (by exfalso; have : t' % 100 < 50 := z; omega), fun _ _ => ⟨by show cs.cls = G.2.1 (t' % 100); rw [ht']; exact s0, s1, fun j v hj => s2 _ _ hj⟩⟩, rfl⟩
  obtain ⟨t9, a1, b1⟩ := kk ls (H.push { cls := cs.cls, slots := cs.slots }) locs hL (hH.push (by rw [Array.size_push]) (fun q hq => by rw [Array.getElem?_push, if_neg (Nat.ne_of_lt hq)]) hat) ⟨Nat.le_trans hS.1 (by rw [Array.size_push]; omega), fun q h1 h2 => by rw [Array.getElem?_push, if_neg (Nat.ne_of_lt (Nat.lt_of_lt_of_le h1 hS.1))]; exact hS.2.1 q h1 h2, hS.2.2⟩
    ((T.setVm vm').pushCell { cls := cs.cls, slots := cs.slots }) (by rw [← hT]; rfl) X'
  refine ⟨t9, st9 t9 ?_, b1⟩
  rw [List.map_cons, show am_rv G (.ref (1000 + h.length)) = .ref (am_ad G (1000 + h.length)) from rfl, ha] at a1
  rw [hT]
  exact a1
def ck_clM (G : am_G) (kd : Nat) : ck_CM := fun a h mc ms P => ∃ (src t t' : Nat) (vs : List Value), a = [.ref src] ∧ 1000 ≤ src ∧ am_g G h src = some (t, vs) ∧ (t % 100 = kd ∧ t' % 100 = kd) ∧ (∀ (j : Nat) (v : Value), vs[j]? = some v → fits (am_aty kd) (am_rv G v) = true) ∧ 1 ≤ mc ∧ vs.length ≤ ms ∧ P (.inl (some (.ref (1000 + h.length)))) (h ++ [(t', vs)])
theorem ck_kCL {fr lo i kd : Nat} {ad : String} (hl : Cond.methodLink own i ⟨ad, "clone", "()Ljava/lang/Object;"⟩ ∈ lw_gw) (hsame : Cond.sameMethod ad "java/lang/Object" "clone" "()Ljava/lang/Object;" ∈ lw_gw) (hnat : Cond.native am_clO ∈ lw_gw) (hin : Cond.instanceMethod am_clO ∈ lw_gw) (hsel : Cond.selects ad ⟨ad, "clone", "()Ljava/lang/Object;"⟩ am_clO ∈ lw_gw) (hcs : Cond.castable ad "java/lang/Cloneable" ∈ lw_ng)
    (hnm : "[" ++ (am_aty kd).toString = ad) (h1 : 50 ≤ kd) (h2 : kd < 58) (hf : 1 ≤ fr) (ho : 22 ≤ lo) : ck_any l G own nL fr lo (.invokevirtual i) 3 (some kd) 1 (ck_clM G kd) := by
  intro p e s m args below meth c mc ms Post cc ret pc X d a L st h k n mc' ms' P hM hna hL hst hrc hk hn kr kx
  obtain ⟨src, t, t', vs, rfl, g0, g1, ⟨g2, g3⟩, g4, g5, g6, hP⟩ := hM
  subst g2
  exact am_R.clone X t' hl hsame hnat hin hsel hcs hnm g0 g1 h1 h2 g3 g4 hL hst hf ho (by show k + 1 ≤ mc; omega) (by show n + vs.length ≤ ms; omega) d (am_R.widen (by omega) (by omega) (kr (some _) _ hP))
end AMCL
def ck_clK (t t' : Nat) (lo hi : Int) : ck_KK := (([(lo, hi)], [], [(2, 0, 0, t, (0, 0, (0, [(1, 0)])))], 1, [(3, 0, (0, []))]), ((1, []), (0, [(1, 0)])), [], [], ([], [], [(2, 1, 0, t', (0, 0, (0, [(1, 0)]))), (5, 1, 0, 0, (0, 0, (0, [])))], 1, [(3, 1, (0, []))]), [])
def ck_ye2 (a b : ck_Y) : Bool := (Nat.beq a.1 b.1 && Nat.beq a.2.1 b.2.1) && (ck_ie a.2.2.1 b.2.2.1 && ck_ie a.2.2.2 b.2.2.2)
theorem ck_ye2_ok {a b : ck_Y} (h : ck_ye2 a b = true) : a = b := by
  unfold ck_ye2 at h
  simp only [Bool.and_eq_true] at h
  obtain ⟨⟨h1, h2⟩, h3, h4⟩ := h
  obtain ⟨a1, a2, a3, a4⟩ := a
  obtain ⟨b1, b2, b3, b4⟩ := b
  obtain rfl : a1 = b1 := ck_beq h1
  obtain rfl : a2 = b2 := ck_beq h2
  obtain rfl : a3 = b3 := ck_ie_ok h3
  obtain rfl : a4 = b4 := ck_ie_ok h4
  rfl
def ck_clF (kd : Nat) (y : ck_Y) : Bool := bif Nat.beq kd 50 then Nat.beq y.1 1 else bif Nat.beq kd 51 then Nat.beq y.1 1 && (ck_nn (y.2.2.1 + 128) && ck_nn (127 - y.2.2.2)) else bif Nat.beq kd 55 then Nat.beq y.1 3 || Nat.beq y.1 5 else false
theorem ck_clF_ok {G : am_G} {K : Int32} {g : ck_g} {kd : Nat} {y : ck_Y} {v : Value} (h : ck_clF kd y = true) (hv : ck_ty K g y v) : fits (am_aty kd) (am_rv G v) = true := by
  unfold ck_clF at h
  cases h1 : Nat.beq kd 50
  · rw [h1, cond_false] at h
    cases h2 : Nat.beq kd 51
    · rw [h2, cond_false] at h
      cases h3 : Nat.beq kd 55
      · rw [h3] at h; cases h
      · rw [h3, cond_true] at h
        obtain rfl := ck_beq h3
        obtain ⟨y1, y2, y3, y4⟩ := y
        rcases Bool.or_eq_true_iff.mp h with h | h
        · obtain rfl : y1 = 3 := ck_beq h
          obtain ⟨-, q, vs, rfl, -⟩ := hv
          rfl
        · obtain rfl : y1 = 5 := ck_beq h
          obtain ⟨-, rfl | ⟨q, vs, rfl, -⟩⟩ := hv <;> rfl
    · rw [h2, cond_true] at h
      obtain rfl := ck_beq h2
      obtain ⟨y1, y2, y3, y4⟩ := y
      simp only [Bool.and_eq_true] at h
      obtain ⟨h4, h5, h6⟩ := h
      obtain rfl : y1 = 1 := ck_beq h4
      obtain ⟨x, rfl, f2, f3⟩ := hv
      have h5 := ck_nn_ok h5
      have h6 := ck_nn_ok h6
      have f2 : y3 ≤ x.toInt := f2
      have f3 : x.toInt ≤ y4 := f3
      have h5 : 0 ≤ y3 + 128 := h5
      have h6 : 0 ≤ 127 - y4 := h6
      show (decide ((-128 : Int32) ≤ x) && decide (x ≤ 127)) = true
      rw [Bool.and_eq_true, decide_eq_true_eq, decide_eq_true_eq, Int32.le_iff_toInt_le, Int32.le_iff_toInt_le]
      exact ⟨by show (-128 : Int) ≤ _; omega, by show _ ≤ (127 : Int); omega⟩
  · rw [h1, cond_true] at h
    obtain rfl := ck_beq h1
    obtain ⟨y1, y2, y3, y4⟩ := y
    obtain rfl : y1 = 1 := ck_beq h
    obtain ⟨x, rfl, -⟩ := hv
    rfl
def ck_clOK (T : ck_TT) (kd t t' : Nat) : Bool := match ck_lk T t, ck_lk T t' with
  | some (c1, l1, h1, [y]), some (c2, l2, h2, [y2]) => ((Nat.beq c1 1 && Nat.beq (c2 % 2) 1) && ((Nat.beq (t % 100) kd && Nat.beq (t' % 100) kd) && Nat.blt t' 40000)) && ((ck_nn (l1 - l2) && ck_nn (h2 - h1)) && (ck_ye2 y y2 && ck_clF kd y))
  | _, _ => false
theorem ck_cl_con {G : am_G} {X : ck_XT} {T : ck_TT} {kd t t' : Nat} {lo hi : Int} (hX : ck_XO X) (hX0 : ck_X0 X) (hok : ck_clOK T kd t t' = true) : ck_Con (ck_clM G kd) G X T (ck_clK t t' lo hi) := by
  intro K r s a h hH hV hC hF hn hS mc ms hmc hms
  unfold ck_clOK at hok
  split at hok
  · next c1 l1 h1 y c2 l2 h2 y2 e1 e2 =>
    simp only [Bool.and_eq_true] at hok
    obtain ⟨⟨⟨k1, k2⟩, ⟨k3, k4⟩, k5⟩, ⟨k6, k7⟩, k8, k9⟩ := hok
    have k1 := ck_beq k1
    have k2 := ck_beq k2
    have k3 := ck_beq k3
    have k4 := ck_beq k4
    have k5 : t' < 40000 := by simpa using k5
    have k6 := ck_nn_ok k6
    have k7 := ck_nn_ok k7
    obtain rfl := ck_ye2_ok k8
    obtain ⟨src, vs, s1, s2, s3⟩ := hF (2, 0, 0, t, (0, 0, (0, [(1, 0)]))) (by unfold ck_clK; simp)
    have s1 : s[0]? = some src := s1
    have s2 : am_g G h src = some (t, vs) := s2
    have s3' := ck_lvk (ck_lv1 s3)
    match a, hS with
    | [v1], ⟨⟨q1, z1, z1'⟩, _⟩ =>
    subst z1'
    have z1 : s[0]? = some q1 := z1
    rw [s1] at z1
    cases z1
    have hlv : ∀ {e : ck_L} {u w : Int}, ck_Lv r e u → ck_Lv r e w → u = w := fun a b => a.2.trans b.2.symm
    have hms' : (ms : Int) = vs.length := hlv hms s3
    have hmc' : (mc : Int) = 1 := hlv hmc (ck_Lv.k r 1)
    obtain ⟨f1, f2⟩ := (hH.2 _ _ _ s2).1 _ e1
    have hsv : ∀ (j : Nat) (v : Value), vs[j]? = some v → ck_ty K (am_g G h) y v := by
      intro j v hv
      obtain ⟨y', hy, ht⟩ := f2 j v hv
      unfold ck_yt at hy
      rw [show Nat.beq (c1 % 2) 0 = false by rw [k1]; rfl] at hy
      cases hy
      exact ht
    have hp0 : ck_Hp (G, X, T, K, h, r, s, [], []) r s h := ⟨hH, ck_Kp.rf, Nat.le_refl _, ⟨[], (List.append_nil r).symm⟩, [], (List.append_nil s).symm⟩
    have hp := ck_Hp.makeR hp0 hX hX0 (t := t') (vs := vs) k5 (fun g' hx d hd => by
      have hd : ck_lk T t' = some d := hd
      rw [e2] at hd
      cases hd
      refine ⟨⟨by show l2 ≤ _; have : l1 ≤ (vs.length : Int) := f1.1; omega, by show _ ≤ h2; have : (vs.length : Int) ≤ h1 := f1.2; omega⟩, fun j v hv => ⟨y, by unfold ck_yt; rw [show Nat.beq (c2 % 2) 0 = false by rw [k2]; rfl]; rfl, ?_⟩⟩
      exact (hsv j v hv).ex fun a b c d1 d2 => by obtain ⟨x1, x2, x3, -⟩ := hx a b c d1 d2; exact ⟨x1, x2, x3⟩)
    have hq9 : 1000 ≤ src := (hH.2 _ _ _ s2).2.2 (by unfold ck_wr; rw [e1]; show Nat.blt c1 2 = true; rw [k1]; rfl)
    refine ⟨src, t, t', vs, rfl, hq9, s2, ⟨k3, k4⟩, fun j v hv => ck_clF_ok k9 (hsv j v hv), by omega, by omega, hp.1, hp.2.1, hp.2.2.1, [], [1000 + h.length], (⟨rfl, fun i a b x z => by simp at z⟩ : ck_In ([] : ck_I) []), (List.forall_mem_nil _ : ∀ c ∈ ([] : List ck_L), _), ?_, rfl, ?_⟩
    · have hq : (s ++ [1000 + h.length])[1]? = some (1000 + h.length) := by
        have hn : s.length = 1 := hn
        rw [List.getElem?_append_right (by omega), hn]
        rfl
      intro f hf
      have hf : f ∈ [((2 : Nat), (1 : Nat), (0 : Nat), t', ((0 : Nat), (0 : Nat), ((0 : Int), [((1 : Int), (0 : Nat))]))), (5, 1, 0, 0, (0, 0, (0, [])))] := hf
      simp only [List.mem_cons, List.not_mem_nil, or_false] at hf
      rcases hf with rfl | rfl
      · exact ⟨_, vs, hq, by rw [am_g_new, if_pos rfl], s3.app _⟩
      · exact ⟨_, hq, Nat.le_refl _⟩
    · have hq : (s ++ [1000 + h.length])[1]? = some (1000 + h.length) := by
        have hn : s.length = 1 := hn
        rw [List.getElem?_append_right (by omega), hn]
        rfl
      exact ⟨⟨_, hq, rfl⟩, trivial⟩
  · cases hok
