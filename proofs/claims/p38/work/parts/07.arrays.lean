section AMA
variable {G : am_G} {p : Program} {l : Launch} {e : Env} {R : Room} {s : State} {m : MethodId} {args : Array Value} {below : List Frame} {meth : Method} {c : Code} {mc ms : Nat} {Post : am_O → List am_C → Prop}
variable {own : String} {cc : ByteArray} {nL pc : Nat} {ret : Option FieldType} {L : List (Option Value)} {st : List Value} {h : List am_C} {k n : Nat}
theorem am_tys_at (G : am_G) {k : Nat} (h1 : 50 ≤ k) (h2 : k < 58) : (am_tys G)[k - 50]? = some (G.2.1 k, am_aty k) := by
  have h3 : k = 50 ∨ k = 51 ∨ k = 52 ∨ k = 53 ∨ k = 54 ∨ k = 55 ∨ k = 56 ∨ k = 57 := by omega
  rcases h3 with rfl | rfl | rfl | rfl | rfl | rfl | rfl | rfl <;> rfl
theorem am_isArr (hk9 : am_kon G s) {ce : am_C} {cell : Cell} (hr : am_rk G ce cell) {q : Nat} (hq : ce.1 % 100 = q) (h1 : 50 ≤ q) (h2 : q < 62) : s.isArrayOf cell (am_aty q) := by
  subst hq
  have hA9 : ArrOfT s (G.2.1 (ce.1 % 100)) (am_aty (ce.1 % 100)) := by
    by_cases z9 : ce.1 % 100 < 58
    · exact (hk9.1.2 _ _ (am_tys_at G h1 z9)).1
    · exact hk9.2.2.1.2 _ (by omega) h2
  obtain ⟨-, kA, hk, comp, hkind⟩ := hA9 0 (fun _ => .null)
  obtain ⟨q1, q2, -, q3⟩ := hr
  obtain ⟨q4, -, -⟩ := q3 h1 h2
  exact ⟨fun k z => (by rw [z] at q2; cases q2), kA, by rw [q4]; exact hk, comp, hkind⟩
/-- a newly made object -/
def am_nw (ci N : Nat) (vs : List Value) : Prop :=
  ∃ (C : String) (T : u_T) (ty0 : Nat → FieldType), am_cl[ci]? = some (C, T, N) ∧ (∀ w ∈ u_ws C T N, w ∈ lw_gw) ∧ (∀ k, k < N → parseFieldDescriptor (T k).2.2.1 = some (ty0 k)) ∧ Cond.instantiable C N ∈ lw_gw ∧ Cond.initialized C ∈ lw_gw ∧ vs.length = N ∧ ∀ j, j < N → vs[j]? = some (defaultValue (ty0 j))
theorem am_rv_def (G : am_G) (t : FieldType) : am_rv G (defaultValue t) = defaultValue t := by cases t <;> rfl
theorem am_R.new (X : am_Cx l G p s m args meth c own cc nL ret) {i ci N : Nat} (t : Nat) {vs : List Value} {C : String} {T : u_T} (hw : am_nw ci N vs) (hcl : am_cl[ci]? = some (C, T, N)) (hlk : Cond.classLink own i C ∈ lw_gw) (ht : t % 100 = ci) (hci : ci < 50) (hcells : k + 1 ≤ R.cells) (hslots : n + N ≤ R.slots)
    (d : decode cc pc = .ok (.new i, 3)) (kk : am_R G p l e R s m args below meth c mc ms Post (pc + 3) L (.ref (1000 + h.length) :: st) (h ++ [(t, vs)]) (k + 1) (n + N)) : am_R G p l e R s m args below meth c mc ms Post pc L st h k n := by
  intro ls H locs hL hH hS
  obtain ⟨C', T', ty0, e1, hin, hty, hins, hini, hlen, hvs⟩ := hw
  cases hcl.symm.trans e1
  obtain ⟨hK, -⟩ := X.2.2.2.2.2.1.1
  obtain ⟨hSl, hfc, kC, hkC, hkind⟩ := hK ci _ e1
  refine W.newcK X.1 X.2.1 X.2.2.2.1 (X.2.2.2.2.1 _ hlk) (X.2.2.2.2.1 _ hins) (X.2.2.2.2.1 _ hini) rfl d hcells hslots hfc rfl fun H' kC' hkC' f1 f2 f3 => ?_
  cases hkC.symm.trans hkC'
  have ha : am_ad G (1000 + h.length) = H.size := by unfold am_ad; rw [if_neg (by omega), hH.1]; omega
  have hat : am_at G H.size (t, vs) H' := by
    refine ⟨_, f1, ⟨fun z => (by cases z), rfl, fun _ => ⟨_, by rw [show (t, vs).1 % 100 = ci from ht]; exact e1, hlen.symm, by rw [show (t, vs).1 % 100 = ci from ht]; rfl, fun j v hj => ?_⟩, fun z => (by exfalso; have : 50 ≤ t % 100 := z; omega)⟩, rfl⟩
    rw [show (t, vs).1 % 100 = ci from ht]
    have hj' : vs[j]? = some v := hj
    have hjN : j < N := by rw [← hlen]; exact (List.getElem?_eq_some_iff.mp hj').1
    rw [hvs j hjN] at hj'
    cases hj'
    obtain ⟨cf, kf, fi, f, hi, hsl⟩ := hSl j hjN
    obtain ⟨-, -, htyp⟩ := u_facts hfc hkC (u_lays X.2.2.2.2.1 hin hjN) hi
    rw [am_rv_def]
    have hft : f.type = ty0 j := (State.fieldFound?_type hi (hty j hjN)).2
    rw [← hsl, ← hft]
    show (kC.instanceTypes.map defaultValue)[f.slot]? = _
    rw [Array.getElem?_map, htyp]
    rfl
  have := kk ls H' locs hL (hH.push f2 (fun q hq => f3 q hq) hat) ⟨Nat.le_trans hS.1 (by rw [f2]; omega), fun q h1 h2 => (f3 q (Nat.lt_of_lt_of_le h1 hS.1)).trans (hS.2.1 q h1 h2), hS.2.2⟩
  rw [List.map_cons, show am_rv G (.ref (1000 + h.length)) = .ref (am_ad G (1000 + h.length)) from rfl, ha] at this
  exact this
theorem am_R.objInit (X : am_Cx l G p s m args meth c own cc nL ret) {i a : Nat} (hl : Cond.methodLink own i objectInit ∈ lw_gw) (h2 : Cond.instanceMethod objectInit ∈ lw_gw) (h3 : Cond.code objectInit ⟨#[0xb1]⟩ 1 none ∈ lw_gw) (hLn : L.length = nL) (hfr : 1 ≤ R.frames) (hlo : (st.map fun v => v.category).sum + 12 ≤ R.locals)
    (d : decode cc pc = .ok (.invokespecial i, 3)) (kk : am_R G p l e R s m args below meth c mc ms Post (pc + 3) L st h k n) : am_R G p l e R s m args below meth c mc ms Post pc L (.ref a :: st) h k n := by
  intro ls H locs hL hH hS
  refine W.objInit X.1 X.2.1 X.2.2.2.1 (X.2.2.2.2.1 _ hl) (X.2.2.2.2.1 _ h2) (X.2.2.2.2.1 _ h3) rfl (by rw [X.2.2.1, ← hLn]; exact hL.1) rfl d hfr ?_ (kk ls H locs hL hH hS)
  show 2 * 0 + ((st.map (am_rv G)).map fun v => v.category).sum + 12 ≤ R.locals
  rw [List.map_map, show ((fun v : Value => v.category) ∘ am_rv G) = (fun v : Value => v.category) from funext fun v => am_rv_cat G v]
  omega
/-- arrays of numbers: kinds 50 ints, 51 bytes, 52 longs -/
theorem am_R.newa (X : am_Cx l G p s m args meth c own cc nL ret) {at9 : ArrayType} {q : Nat} (t : Nat) {x : Int32} {N : Nat} (hq : newarray.typeOf at9 = am_aty q) (h1 : 50 ≤ q) (h2 : q < 53) (hw : Cond.arrayClass (newarray.typeOf at9) ∈ lw_gw) (ht : t % 100 = q) (hx : x.toInt = (N : Int)) (hN : N ≤ 1000000) (hcells : k + 1 ≤ R.cells) (hslots : n + N ≤ R.slots)
    (d : decode cc pc = .ok (.newarray at9, 2)) (kk : am_R G p l e R s m args below meth c mc ms Post (pc + 2) L (.ref (1000 + h.length) :: st) (h ++ [(t, List.replicate N (defaultValue (am_aty q)))]) (k + 1) (n + N)) : am_R G p l e R s m args below meth c mc ms Post pc L (.int x :: st) h k n := by
  intro ls H locs hL hH hS
  have hxn : x.toNatClampNeg = N := by show x.toInt.toNat = N; omega
  have hx0 : ¬ x < 0 := by rw [Int32.lt_iff_toInt_lt, Int32.toInt_zero]; omega
  have hby : x.toNatClampNeg * componentBytes (newarray.typeOf at9) ≤ 536870912 := by
    have h3 : q = 50 ∨ q = 51 ∨ q = 52 := by omega
    rw [hxn, hq]
    rcases h3 with rfl | rfl | rfl
    · show N * 4 ≤ _; omega
    · show N * 1 ≤ _; omega
    · show N * 8 ≤ _; omega
  refine W.newa X.1 X.2.1 (X.2.2.2.2.1 _ hw) rfl d rfl hx0 hby hcells (by rw [hxn]; exact hslots) fun cA kA comp f1 f2 f3 => ?_
  have ha : am_ad G (1000 + h.length) = H.size := by unfold am_ad; rw [if_neg (by omega), hH.1]; omega
  have hcA : cA = G.2.1 q := by
    have h9 := (X.2.2.2.2.2.1.1.2 _ _ (am_tys_at G h1 (by omega))).2
    have h3 : q = 50 ∨ q = 51 ∨ q = 52 := by omega
    rw [hq] at f1
    rcases h3 with rfl | rfl | rfl <;> exact Option.some.inj (f1.symm.trans h9)
  rw [hxn]
  have hat : am_at G H.size (t, List.replicate N (defaultValue (am_aty q))) (H.push { cls := cA, slots := Array.replicate N (defaultValue (newarray.typeOf at9)), vm := .none }) := by
    refine ⟨_, Array.getElem?_push_size, ⟨fun z => (by cases z), rfl, fun z => (by exfalso; have : t % 100 < 50 := z; omega), fun _ _ => ⟨by rw [show (t, List.replicate N (defaultValue (am_aty q))).1 % 100 = q from ht]; exact hcA, by simp, fun j v hj => ?_⟩⟩, rfl⟩
    have hj' : (List.replicate N (defaultValue (am_aty q)))[j]? = some v := hj
    rw [List.getElem?_replicate] at hj'
    split at hj'
    · next hlt =>
      cases hj'
      rw [am_rv_def]
      show (Array.replicate N (defaultValue (newarray.typeOf at9)))[j]? = _
      rw [hq]
      simp [hlt]
    · cases hj'
  have := kk ls _ locs hL (hH.push (by rw [Array.size_push]) (fun q hq => by rw [Array.getElem?_push, if_neg (Nat.ne_of_lt hq)]) hat) ⟨Nat.le_trans hS.1 (by rw [Array.size_push]; omega), fun q h1 h2 => by rw [Array.getElem?_push, if_neg (Nat.ne_of_lt (Nat.lt_of_lt_of_le h1 hS.1))]; exact hS.2.1 q h1 h2, hS.2.2⟩
  rw [List.map_cons, show am_rv G (.ref (1000 + h.length)) = .ref (am_ad G (1000 + h.length)) from rfl, ha] at this
  exact this
/-- arrays of references to objects of a class: kinds 53 .. 56 -/
theorem am_R.newq (X : am_Cx l G p s m args meth c own cc nL ret) {i q : Nat} {C : String} (t : Nat) {x : Int32} {N : Nat} (hq : am_aty q = .object C) (h1 : 53 ≤ q) (h2 : q < 57) (hlk : Cond.classLink own i C ∈ lw_gw) (hw : Cond.arrayOver (.object C) ∈ lw_ng) (ht : t % 100 = q) (hx : x.toInt = (N : Int)) (hN : N ≤ 1000000) (hcells : k + 1 ≤ R.cells) (hslots : n + N ≤ R.slots)
    (d : decode cc pc = .ok (.anewarray i, 3)) (kk : am_R G p l e R s m args below meth c mc ms Post (pc + 3) L (.ref (1000 + h.length) :: st) (h ++ [(t, List.replicate N .null)]) (k + 1) (n + N)) : am_R G p l e R s m args below meth c mc ms Post pc L (.int x :: st) h k n := by
  intro ls H locs hL hH hS
  have hxn : x.toNatClampNeg = N := by show x.toInt.toNat = N; omega
  have hx0 : ¬ x < 0 := by rw [Int32.lt_iff_toInt_lt, Int32.toInt_zero]; omega
  refine W.anew X.1 X.2.1 X.2.2.2.1 (X.2.2.2.2.1 _ hlk) (X.2.2.2.2.2.1.2.2.2.2.2.2.2 _ hw) rfl d rfl hx0 (by rw [hxn]; omega) hcells (by rw [hxn]; exact hslots) fun cA kA comp f1 f2 f3 f4 => ?_
  have ha : am_ad G (1000 + h.length) = H.size := by unfold am_ad; rw [if_neg (by omega), hH.1]; omega
  have hcA : cA = G.2.1 q := by
    have h9 := (X.2.2.2.2.2.1.1.2 _ _ (am_tys_at G (show 50 ≤ q by omega) (by omega))).2
    rw [hq] at h9
    obtain ⟨_, _, _, _, _, h10⟩ := h9
    exact Option.some.inj (f1.symm.trans h10)
  rw [hxn]
  have hat : am_at G H.size (t, List.replicate N .null) (H.push { cls := cA, slots := Array.replicate N .null, vm := .none }) := by
    refine ⟨_, Array.getElem?_push_size, ⟨fun z => (by cases z), rfl, fun z => (by exfalso; have : t % 100 < 50 := z; omega), fun _ _ => ⟨by rw [show (t, List.replicate N Value.null).1 % 100 = q from ht]; exact hcA, by simp, fun j v hj => ?_⟩⟩, rfl⟩
    have hj' : (List.replicate N Value.null)[j]? = some v := hj
    rw [List.getElem?_replicate] at hj'
    split at hj'
    · next hlt =>
      cases hj'
      show (Array.replicate N Value.null)[j]? = _
      simp [hlt]
      rfl
    · cases hj'
  have := kk ls _ locs hL (hH.push (by rw [Array.size_push]) (fun q hq => by rw [Array.getElem?_push, if_neg (Nat.ne_of_lt hq)]) hat) ⟨Nat.le_trans hS.1 (by rw [Array.size_push]; omega), fun q h1 h2 => by rw [Array.getElem?_push, if_neg (Nat.ne_of_lt (Nat.lt_of_lt_of_le h1 hS.1))]; exact hS.2.1 q h1 h2, hS.2.2⟩
  rw [List.map_cons, show am_rv G (.ref (1000 + h.length)) = .ref (am_ad G (1000 + h.length)) from rfl, ha] at this
  exact this
/-- an array of int arrays: kind 57 -/
theorem am_R.newii (X : am_Cx l G p s m args meth c own cc nL ret) {i : Nat} (t : Nat) {x : Int32} {N : Nat} (hlk : Cond.classLink own i (FieldType.array .int).toString ∈ lw_gw) (hw : Cond.arrayOver (.array .int) ∈ lw_ng) (ht : t % 100 = 57) (hx : x.toInt = (N : Int)) (hN : N ≤ 1000000) (hcells : k + 1 ≤ R.cells) (hslots : n + N ≤ R.slots)
    (d : decode cc pc = .ok (.anewarray i, 3)) (kk : am_R G p l e R s m args below meth c mc ms Post (pc + 3) L (.ref (1000 + h.length) :: st) (h ++ [(t, List.replicate N .null)]) (k + 1) (n + N)) : am_R G p l e R s m args below meth c mc ms Post pc L (.int x :: st) h k n := by
  intro ls H locs hL hH hS
  have hxn : x.toNatClampNeg = N := by show x.toInt.toNat = N; omega
  have hx0 : ¬ x < 0 := by rw [Int32.lt_iff_toInt_lt, Int32.toInt_zero]; omega
  refine W.anewA X.1 X.2.1 X.2.2.2.1 (X.2.2.2.2.1 _ hlk) (X.2.2.2.2.2.1.2.2.2.2.2.2.2 _ hw) rfl d rfl hx0 (by rw [hxn]; omega) hcells (by rw [hxn]; exact hslots) fun cA kA comp f1 f2 f3 f4 => ?_
  have ha : am_ad G (1000 + h.length) = H.size := by unfold am_ad; rw [if_neg (by omega), hH.1]; omega
  have hcA : cA = G.2.1 57 := Option.some.inj (f1.symm.trans (X.2.2.2.2.2.1.1.2 _ _ (am_tys_at G (show 50 ≤ 57 by omega) (by omega))).2)
  rw [hxn]
  have hat : am_at G H.size (t, List.replicate N .null) (H.push { cls := cA, slots := Array.replicate N .null, vm := .none }) := by
    refine ⟨_, Array.getElem?_push_size, ⟨fun z => (by cases z), rfl, fun z => (by exfalso; have : t % 100 < 50 := z; omega), fun _ _ => ⟨by rw [show (t, List.replicate N Value.null).1 % 100 = 57 from ht]; exact hcA, by simp, fun j v hj => ?_⟩⟩, rfl⟩
    have hj' : (List.replicate N Value.null)[j]? = some v := hj
    rw [List.getElem?_replicate] at hj'
    split at hj'
    · next hlt =>
      cases hj'
      show (Array.replicate N Value.null)[j]? = _
      simp [hlt]
      rfl
    · cases hj'
  have := kk ls _ locs hL (hH.push (by rw [Array.size_push]) (fun q hq => by rw [Array.getElem?_push, if_neg (Nat.ne_of_lt hq)]) hat) ⟨Nat.le_trans hS.1 (by rw [Array.size_push]; omega), fun q h1 h2 => by rw [Array.getElem?_push, if_neg (Nat.ne_of_lt (Nat.lt_of_lt_of_le h1 hS.1))]; exact hS.2.1 q h1 h2, hS.2.2⟩
  rw [List.map_cons, show am_rv G (.ref (1000 + h.length)) = .ref (am_ad G (1000 + h.length)) from rfl, ha] at this
  exact this
theorem am_R.alen (X : am_Cx l G p s m args meth c own cc nL ret) {a t : Nat} {vs : List Value} (hg : am_g G h a = some (t, vs)) (h1 : 50 ≤ t % 100) (h2 : t % 100 < 62) (d : decode cc pc = .ok (.arraylength, 1)) (kk : am_R G p l e R s m args below meth c mc ms Post (pc + 1) L (.int (Int32.ofNat vs.length) :: st) h k n) : am_R G p l e R s m args below meth c mc ms Post pc L (.ref a :: st) h k n := by
  intro ls H locs hL hH hS
  obtain ⟨cell, q1, q2⟩ := am_cell hH (am_kt_S X.2.2.2.2.2.1 hS) hg (by show t % 100 < 62; omega)
  obtain ⟨-, -, -, q4⟩ := q2.2.2.2 h1 h2
  exact W.alen X.1 X.2.1 q1 (am_isArr X.2.2.2.2.2.1 q2 rfl h1 h2) (by rw [q4]) rfl rfl d (kk ls H locs hL hH hS)
theorem am_idx {x : Int32} {vs : List Value} {v : Value} (h0 : 0 ≤ x.toInt) (hv : vs[x.toInt.toNat]? = some v) {N : Nat} (hN : vs.length ≤ N) : ¬ (x < 0 ∨ N ≤ x.toNatClampNeg) := by
  have h1 := (List.getElem?_eq_some_iff.mp hv).1
  intro z
  rcases z with z | z
  · rw [Int32.lt_iff_toInt_lt, Int32.toInt_zero] at z; omega
  · have : N ≤ x.toInt.toNat := z
    omega
theorem am_R.iald (X : am_Cx l G p s m args meth c own cc nL ret) {a t : Nat} {x : Int32} {vs : List Value} {v : Value} (hg : am_g G h a = some (t, vs)) (ht : t % 100 = 50 ∨ t % 100 = 59) (h0 : 0 ≤ x.toInt) (hv : vs[x.toInt.toNat]? = some v) (d : decode cc pc = .ok (.iaload, 1)) (kk : am_R G p l e R s m args below meth c mc ms Post (pc + 1) L (v :: st) h k n) : am_R G p l e R s m args below meth c mc ms Post pc L (.int x :: .ref a :: st) h k n := by
  intro ls H locs hL hH hS
  obtain ⟨cell, q1, q2⟩ := am_cell hH (am_kt_S X.2.2.2.2.2.1 hS) hg (by show t % 100 < 62; omega)
  obtain ⟨-, q4, q5, -⟩ := q2.2.2.2 (by show 50 ≤ t % 100; omega) (by show t % 100 < 62; omega)
  have hi9 : s.isArrayOf cell .int := by
    rcases ht with e9 | e9
    · exact am_isArr X.2.2.2.2.2.1 q2 (show t % 100 = 50 from e9) (by omega) (by omega)
    · exact am_isArr X.2.2.2.2.2.1 q2 (show t % 100 = 59 from e9) (by omega) (by omega)
  exact W.iald X.1 X.2.1 q1 hi9 q2.1 (am_idx h0 hv q4) (q5 _ _ hv) rfl rfl d (kk ls H locs hL hH hS)
theorem am_R.bald (X : am_Cx l G p s m args meth c own cc nL ret) {a t : Nat} {x : Int32} {vs : List Value} {v : Value} (hg : am_g G h a = some (t, vs)) (ht : t % 100 = 51 ∨ t % 100 = 60 ∨ t % 100 = 61) (h0 : 0 ≤ x.toInt) (hv : vs[x.toInt.toNat]? = some v) (d : decode cc pc = .ok (.baload, 1)) (kk : am_R G p l e R s m args below meth c mc ms Post (pc + 1) L (v :: st) h k n) : am_R G p l e R s m args below meth c mc ms Post pc L (.int x :: .ref a :: st) h k n := by
  intro ls H locs hL hH hS
  obtain ⟨cell, q1, q2⟩ := am_cell hH (am_kt_S X.2.2.2.2.2.1 hS) hg (by show t % 100 < 62; omega)
  obtain ⟨-, q4, q5, -⟩ := q2.2.2.2 (by show 50 ≤ t % 100; omega) (by show t % 100 < 62; omega)
  have hi9 : s.isArrayOf cell .byte := by
    rcases ht with e9 | e9 | e9
    · exact am_isArr X.2.2.2.2.2.1 q2 (show t % 100 = 51 from e9) (by omega) (by omega)
    · exact am_isArr X.2.2.2.2.2.1 q2 (show t % 100 = 60 from e9) (by omega) (by omega)
    · exact am_isArr X.2.2.2.2.2.1 q2 (show t % 100 = 61 from e9) (by omega) (by omega)
  exact W.bald X.1 X.2.1 q1 hi9 q2.1 (am_idx h0 hv q4) (q5 _ _ hv) rfl rfl d (kk ls H locs hL hH hS)
theorem am_R.lald (X : am_Cx l G p s m args meth c own cc nL ret) {a t : Nat} {x : Int32} {vs : List Value} {v : Value} (hg : am_g G h a = some (t, vs)) (ht : t % 100 = 52) (h0 : 0 ≤ x.toInt) (hv : vs[x.toInt.toNat]? = some v) (d : decode cc pc = .ok (.laload, 1)) (kk : am_R G p l e R s m args below meth c mc ms Post (pc + 1) L (v :: st) h k n) : am_R G p l e R s m args below meth c mc ms Post pc L (.int x :: .ref a :: st) h k n := by
  intro ls H locs hL hH hS
  obtain ⟨cell, q1, q2⟩ := am_cell hH (am_kt_S X.2.2.2.2.2.1 hS) hg (by show t % 100 < 62; omega)
  obtain ⟨-, q4, q5, -⟩ := q2.2.2.2 (by show 50 ≤ t % 100; omega) (by show t % 100 < 62; omega)
  exact W.lald X.1 X.2.1 q1 (am_isArr X.2.2.2.2.2.1 q2 (show t % 100 = 52 from ht) (by omega) (by omega)) q2.1 (am_idx h0 hv q4) (q5 _ _ hv) rfl rfl d (kk ls H locs hL hH hS)
theorem am_R.aald (X : am_Cx l G p s m args meth c own cc nL ret) {a t : Nat} {x : Int32} {vs : List Value} {v : Value} (hg : am_g G h a = some (t, vs)) (h1 : 53 ≤ t % 100) (h2 : t % 100 < 59) (h0 : 0 ≤ x.toInt) (hv : vs[x.toInt.toNat]? = some v) (d : decode cc pc = .ok (.aaload, 1)) (kk : am_R G p l e R s m args below meth c mc ms Post (pc + 1) L (v :: st) h k n) : am_R G p l e R s m args below meth c mc ms Post pc L (.int x :: .ref a :: st) h k n := by
  intro ls H locs hL hH hS
  obtain ⟨cell, q1, q2⟩ := am_cell hH (am_kt_S X.2.2.2.2.2.1 hS) hg (by show t % 100 < 62; omega)
  obtain ⟨-, q4, q5, -⟩ := q2.2.2.2 (by show 50 ≤ t % 100; omega) (by show t % 100 < 62; omega)
  have hr : (am_aty (t % 100)).isReference = true := by
    have h3 : t % 100 = 53 ∨ t % 100 = 54 ∨ t % 100 = 55 ∨ t % 100 = 56 ∨ t % 100 = 57 ∨ t % 100 = 58 := by omega
    rcases h3 with h3 | h3 | h3 | h3 | h3 | h3 <;> rw [h3] <;> rfl
  exact W.aald X.1 X.2.1 q1 (am_isArr X.2.2.2.2.2.1 q2 rfl (by show 50 ≤ t % 100; omega) (by show t % 100 < 62; omega)) hr q2.1 (am_idx h0 hv q4) (q5 _ _ hv) rfl rfl d (kk ls H locs hL hH hS)
theorem am_ro.seta {t j : Nat} {vs : List Value} {v : Value} {cell : Cell} (hq : am_ro G (t, vs) cell) (h1 : 50 ≤ t % 100) (h2 : t % 100 < 62) (hj : j < vs.length) : am_ro G (t, vs.set j v) (cell.setSlot j (am_rv G v)) := by
  obtain ⟨q2, q3, -, q4⟩ := hq
  obtain ⟨f1, f2, f3⟩ := q4 h1 h2
  refine ⟨q2, q3, fun z => by exfalso; have : t % 100 < 50 := z; omega, fun _ _ => ⟨f1, ?_, fun i w hw => ?_⟩⟩
  · show (cell.slots.setIfInBounds j _).size = (vs.set j v).length
    rw [Array.size_setIfInBounds, List.length_set]
    exact f2
  · have hw' : (vs.set j v)[i]? = some w := hw
    by_cases e : j = i
    · subst e
      rw [List.getElem?_set_self hj] at hw'
      cases hw'
      exact Cell.slots_setSlot_self _ (by rw [f2]; exact hj)
    · rw [List.getElem?_set_ne e] at hw'
      rw [slot_ne _ _ e]
      exact f3 i w hw'
theorem am_idx' {x : Int32} (h0 : 0 ≤ x.toInt) {N M : Nat} (hv : x.toInt.toNat < M) (hN : N = M) : ¬ (x < 0 ∨ N ≤ x.toNatClampNeg) := by
  intro z
  rcases z with z | z
  · rw [Int32.lt_iff_toInt_lt, Int32.toInt_zero] at z; omega
  · have : N ≤ x.toInt.toNat := z
    omega
theorem am_R.iast (X : am_Cx l G p s m args meth c own cc nL ret) {a t : Nat} {x : Int32} {y : Int32} {vs : List Value} (ha : 1000 ≤ a) (hg : am_g G h a = some (t, vs)) (ht : t % 100 = 50) (h0 : 0 ≤ x.toInt) (hv : x.toInt.toNat < vs.length) (d : decode cc pc = .ok (.iastore, 1)) (kk : am_R G p l e R s m args below meth c mc ms Post (pc + 1) L st (am_s h a (t, vs.set x.toInt.toNat (.int y))) k n) : am_R G p l e R s m args below meth c mc ms Post pc L (.int y :: .int x :: .ref a :: st) h k n := by
  intro ls H locs hL hH hS
  obtain ⟨cell, q1, q2, q3⟩ := am_cellD hH ha hg
  obtain ⟨-, q4, q5⟩ := q2.2.2.2 (by show 50 ≤ t % 100; omega) (by show t % 100 < 62; omega)
  refine W.iast X.1 X.2.1 q1 (am_isArr X.2.2.2.2.2.1 q2.rk (show t % 100 = 50 from ht) (by omega) (by omega)) q2.1 (am_idx' h0 hv q4) rfl rfl d fun H' f1 f2 f3 => ?_
  exact kk ls H' _ hL (hH.put ha (am_g_lt ha hg) f2 f3 ⟨_, f1, q2.seta (by show 50 ≤ t % 100; omega) (by show t % 100 < 62; omega) hv, q3⟩) (hS.put f2 f3 (am_ad_ge ha))
theorem am_R.bast (X : am_Cx l G p s m args meth c own cc nL ret) {a t : Nat} {x : Int32} {y : Int32} {vs : List Value} (ha : 1000 ≤ a) (hg : am_g G h a = some (t, vs)) (ht : t % 100 = 51) (h0 : 0 ≤ x.toInt) (hv : x.toInt.toNat < vs.length) (d : decode cc pc = .ok (.bastore, 1)) (kk : am_R G p l e R s m args below meth c mc ms Post (pc + 1) L st (am_s h a (t, vs.set x.toInt.toNat (.int y.toInt8.toInt32))) k n) : am_R G p l e R s m args below meth c mc ms Post pc L (.int y :: .int x :: .ref a :: st) h k n := by
  intro ls H locs hL hH hS
  obtain ⟨cell, q1, q2, q3⟩ := am_cellD hH ha hg
  obtain ⟨-, q4, q5⟩ := q2.2.2.2 (by show 50 ≤ t % 100; omega) (by show t % 100 < 62; omega)
  refine W.bast X.1 X.2.1 q1 (am_isArr X.2.2.2.2.2.1 q2.rk (show t % 100 = 51 from ht) (by omega) (by omega)) q2.1 (am_idx' h0 hv q4) rfl rfl d fun H' f1 f2 f3 => ?_
  exact kk ls H' _ hL (hH.put ha (am_g_lt ha hg) f2 f3 ⟨_, f1, q2.seta (by show 50 ≤ t % 100; omega) (by show t % 100 < 62; omega) hv, q3⟩) (hS.put f2 f3 (am_ad_ge ha))
theorem am_R.last (X : am_Cx l G p s m args meth c own cc nL ret) {a t : Nat} {x : Int32} {y : Int64} {vs : List Value} (ha : 1000 ≤ a) (hg : am_g G h a = some (t, vs)) (ht : t % 100 = 52) (h0 : 0 ≤ x.toInt) (hv : x.toInt.toNat < vs.length) (d : decode cc pc = .ok (.lastore, 1)) (kk : am_R G p l e R s m args below meth c mc ms Post (pc + 1) L st (am_s h a (t, vs.set x.toInt.toNat (.long y))) k n) : am_R G p l e R s m args below meth c mc ms Post pc L (.long y :: .int x :: .ref a :: st) h k n := by
  intro ls H locs hL hH hS
  obtain ⟨cell, q1, q2, q3⟩ := am_cellD hH ha hg
  obtain ⟨-, q4, q5⟩ := q2.2.2.2 (by show 50 ≤ t % 100; omega) (by show t % 100 < 62; omega)
  refine W.last X.1 X.2.1 q1 (am_isArr X.2.2.2.2.2.1 q2.rk (show t % 100 = 52 from ht) (by omega) (by omega)) q2.1 (am_idx' h0 hv q4) rfl rfl d fun H' f1 f2 f3 => ?_
  exact kk ls H' _ hL (hH.put ha (am_g_lt ha hg) f2 f3 ⟨_, f1, q2.seta (by show 50 ≤ t % 100; omega) (by show t % 100 < 62; omega) hv, q3⟩) (hS.put f2 f3 (am_ad_ge ha))
/-- a value of kind kv may be stored in an array of kind ka -/
def am_asg (G : am_G) (s : State) (ka kv : Nat) : Prop := ∃ (kA kV kC : Class) (comp cv : ClassId), s.vm.classes[G.2.1 ka]? = some kA ∧ kA.kind = .array comp (am_aty ka) ∧ s.vm.classes[comp]? = some kC ∧ (if kv < 50 then cv = G.1.1 kv else cv = G.2.1 kv) ∧ s.vm.classes[cv]? = some kV ∧ s.vm.assignable cv comp = true
theorem am_rk.cls {c9 : am_C} {cell : Cell} (hq : am_rk G c9 cell) (h2 : c9.1 % 100 < 62) {cv : ClassId} (hv : if c9.1 % 100 < 50 then cv = G.1.1 (c9.1 % 100) else cv = G.2.1 (c9.1 % 100)) : cell.cls = cv := by
  by_cases h1 : c9.1 % 100 < 50
  · rw [if_pos h1] at hv
    obtain ⟨r, -, -, h3, -⟩ := hq.2.2.1 h1
    rw [h3, hv]
  · rw [if_neg h1] at hv
    rw [(hq.2.2.2 (by omega) h2).1, hv]
theorem am_R.aast (X : am_Cx l G p s m args meth c own cc nL ret) {a t b tb : Nat} {x : Int32} {vs vb : List Value} (hasg : am_asg G s (t % 100) (tb % 100)) (ha : 1000 ≤ a) (hg : am_g G h a = some (t, vs)) (h1 : 53 ≤ t % 100) (h2 : t % 100 < 59) (hb9 : am_g G h b = some (tb, vb)) (h3 : tb % 100 < 59) (h0 : 0 ≤ x.toInt) (hv : x.toInt.toNat < vs.length) (d : decode cc pc = .ok (.aastore, 1)) (kk : am_R G p l e R s m args below meth c mc ms Post (pc + 1) L st (am_s h a (t, vs.set x.toInt.toNat (.ref b))) k n) : am_R G p l e R s m args below meth c mc ms Post pc L (.ref b :: .int x :: .ref a :: st) h k n := by
  intro ls H locs hL hH hS
  obtain ⟨cell, q1, q2, q3⟩ := am_cellD hH ha hg
  obtain ⟨cellb, b1, b2⟩ := am_cell hH (am_kt_S X.2.2.2.2.2.1 hS) hb9 (by show tb % 100 < 62; omega)
  obtain ⟨q6, q4, q5⟩ := q2.2.2.2 (by show 50 ≤ t % 100; omega) (by show t % 100 < 62; omega)
  obtain ⟨kA, kV, kC, comp, cv, g1, g2, g3, g4, g5, g6⟩ := hasg
  have hr : (am_aty (t % 100)).isReference = true := by
    have h3 : t % 100 = 53 ∨ t % 100 = 54 ∨ t % 100 = 55 ∨ t % 100 = 56 ∨ t % 100 = 57 ∨ t % 100 = 58 := by omega
    rcases h3 with h3 | h3 | h3 | h3 | h3 | h3 <;> rw [h3] <;> rfl
  have hcb : cellb.cls = cv := b2.cls (by show tb % 100 < 62; omega) g4
  refine W.aast X.1 X.2.1 q1 (fun q z => by rw [q3] at z; cases z) q2.1 (by rw [q6]; exact g1) g2 hr g3 ⟨fun z => by rw [Int32.lt_iff_toInt_lt, Int32.toInt_zero] at z; omega, by rw [q4]; exact hv⟩ b1 (fun q z => by have := b2.2.1; rw [z] at this; cases this) (by rw [hcb]; exact g5) (by rw [hcb]; exact g6) rfl rfl d fun H' f1 f2 f3 => ?_
  exact kk ls H' _ hL (hH.put ha (am_g_lt ha hg) f2 f3 ⟨_, f1, q2.seta (v := .ref b) (by show 50 ≤ t % 100; omega) (by show t % 100 < 62; omega) hv, q3⟩) (hS.put f2 f3 (am_ad_ge ha))
/-- null into Object[] -/
theorem am_R.aastN (X : am_Cx l G p s m args meth c own cc nL ret) {a t : Nat} {x : Int32} {vs : List Value} (ha : 1000 ≤ a) (hg : am_g G h a = some (t, vs)) (ht : t % 100 = 56) (h0 : 0 ≤ x.toInt) (hv : x.toInt.toNat < vs.length) (d : decode cc pc = .ok (.aastore, 1)) (kk : am_R G p l e R s m args below meth c mc ms Post (pc + 1) L st (am_s h a (t, vs.set x.toInt.toNat .null)) k n) : am_R G p l e R s m args below meth c mc ms Post pc L (.null :: .int x :: .ref a :: st) h k n := by
  intro ls H locs hL hH hS
  obtain ⟨cell, q1, q2, q3⟩ := am_cellD hH ha hg
  obtain ⟨-, q4, q5⟩ := q2.2.2.2 (by show 50 ≤ t % 100; omega) (by show t % 100 < 62; omega)
  refine va_WaastN (C := "java/lang/Object") X.1 X.2.1 q1 (am_isArr (q := 56) X.2.2.2.2.2.1 q2.rk (show t % 100 = 56 from ht) (by omega) (by omega)) q2.1 (am_idx' h0 hv q4) rfl rfl d fun H' f1 f2 f3 => ?_
  exact kk ls H' _ hL (hH.put ha (am_g_lt ha hg) f2 f3 ⟨_, f1, q2.seta (v := .null) (by show 50 ≤ t % 100; omega) (by show t % 100 < 62; omega) hv, q3⟩) (hS.put f2 f3 (am_ad_ge ha))
theorem am_R.gets (X : am_Cx l G p s m args meth c own cc nL ret) {i : Nat} {z : String × String × String × Value} (hz : z ∈ am_Z) (hl : Cond.fieldLink own i z.1 z.2.1 z.2.2.1 ∈ lw_gw) (d : decode cc pc = .ok (.getstatic i, 3)) (kk : am_R G p l e R s m args below meth c mc ms Post (pc + 3) L (z.2.2.2 :: st) h k n) : am_R G p l e R s m args below meth c mc ms Post pc L st h k n :=
  fun ls H locs hL hH hS => va_gets X.1 X.2.1 (X.2.2.2.2.2.1.2.2.2.1 _ hz) hS X.2.2.2.1 (X.2.2.2.2.1 _ hl) (fun _ h => h) d (kk ls H locs hL hH hS)
theorem am_R.ldcs (X : am_Cx l G p s m args meth c own cc nL ret) {i n9 : Nat} {tx : String} (hz : (own, i, tx, n9) ∈ am_T) (d : decode cc pc = .ok (.ldc i, 2)) (kk : am_R G p l e R s m args below meth c mc ms Post (pc + 2) L (.ref n9 :: st) h k n) : am_R G p l e R s m args below meth c mc ms Post pc L st h k n := by
  intro ls H locs hL hH hS T hT Y
  have hk : vk_R own i tx (am_ad G n9) s := X.2.2.2.2.2.1.2.2.2.2.1 _ hz
  obtain ⟨t, a1, b1⟩ := kk ls H locs hL hH hS T hT Y
  exact ⟨t, Y.ldcString X.1 X.2.2.2.1 hk.1 hk.2 (g := F0 m pc ls (st.map (am_rv G))) rfl (by rw [X.2.1]; exact d) t a1, b1⟩
theorem am_R.ldcsw (X : am_Cx l G p s m args meth c own cc nL ret) {i n9 : Nat} {tx : String} (hz : (own, i, tx, n9) ∈ am_T) (d : decode cc pc = .ok (.ldc_w i, 3)) (kk : am_R G p l e R s m args below meth c mc ms Post (pc + 3) L (.ref n9 :: st) h k n) : am_R G p l e R s m args below meth c mc ms Post pc L st h k n := by
  intro ls H locs hL hH hS T hT Y
  have hk : vk_R own i tx (am_ad G n9) s := X.2.2.2.2.2.1.2.2.2.2.1 _ hz
  obtain ⟨t, a1, b1⟩ := kk ls H locs hL hH hS T hT Y
  exact ⟨t, Y.ldcStringW X.1 X.2.2.2.1 hk.1 hk.2 (g := F0 m pc ls (st.map (am_rv G))) rfl (by rw [X.2.1]; exact d) t a1, b1⟩
/-- what may be cast to the class nm -/
def am_isa (G : am_G) (s : State) (kv : Nat) (nm : String) : Prop := ∃ (cv ct : ClassId), (if kv < 50 then cv = G.1.1 kv else cv = G.2.1 kv) ∧ s.vm.findClass nm = some ct ∧ s.vm.assignable cv ct = true
theorem am_R.cast (X : am_Cx l G p s m args meth c own cc nL ret) {i a t : Nat} {nm : String} {vs : List Value} (hl : Cond.classLink own i nm ∈ lw_gw) (hi : am_isa G s (t % 100) nm) (hg : am_g G h a = some (t, vs)) (ht : t % 100 < 59) (d : decode cc pc = .ok (.checkcast i, 3)) (kk : am_R G p l e R s m args below meth c mc ms Post (pc + 3) L (.ref a :: st) h k n) : am_R G p l e R s m args below meth c mc ms Post pc L (.ref a :: st) h k n := by
  intro ls H locs hL hH hS T hT Y
  obtain ⟨cell, q1, q2⟩ := am_cell hH (am_kt_S X.2.2.2.2.2.1 hS) hg (by show t % 100 < 62; omega)
  obtain ⟨cv, ct, g1, g2, g3⟩ := hi
  have hcl : cell.cls = cv := q2.cls (by show t % 100 < 62; omega) g1
  obtain ⟨vm', X', st9⟩ := Y.checkcastYes X.1 X.2.2.2.1 (X.2.2.2.2.1 _ hl) (by rw [hT]; exact q1) q2.2.1 g2 (by rw [hcl]; exact g3) (g := F0 m pc ls (.ref (am_ad G a) :: st.map (am_rv G))) rfl rfl (by rw [X.2.1]; exact d)
  obtain ⟨t9, a1, b1⟩ := kk ls H locs hL hH hS (T.setVm vm') hT X'
  exact ⟨t9, st9 t9 a1, b1⟩
theorem am_R.castN (X : am_Cx l G p s m args meth c own cc nL ret) {i : Nat} (d : decode cc pc = .ok (.checkcast i, 3)) (kk : am_R G p l e R s m args below meth c mc ms Post (pc + 3) L (.null :: st) h k n) : am_R G p l e R s m args below meth c mc ms Post pc L (.null :: st) h k n :=
  fun ls H locs hL hH hS => lv_castN X.1 X.2.1 d (kk ls H locs hL hH hS)
end AMA
