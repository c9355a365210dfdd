section
section AMA
variable {G : am_G} {p : Program} {l : Launch} {e : Env} {R : Room} {s : State} {m : MethodId} {args : Array Value} {below : List Frame} {meth : Method} {c : Code} {mc ms : Nat} {Post : am_O → List am_C → Prop}
variable {own : String} {cc : ByteArray} {nL pc : Nat} {ret : Option FieldType} {L : List (Option Value)} {st : List Value} {h : List am_C} {k n : Nat}
theorem am_tys_at (G : am_G) {k : Nat} (h1 : 50 ≤ k) (h2 : k < 58) : (am_tys G)[k - 50]? = some (G.2.1 k, am_aty k) := by
  have h3 : k = 50 ∨ k = 51 ∨ k = 52 ∨ k = 53 ∨ k = 54 ∨ k = 55 ∨ k = 56 ∨ k = 57 := by omega
  rcases h3 with rfl | rfl | rfl | rfl | rfl | rfl | rfl | rfl <;> rfl
theorem am_isArr (hk9 : am_kon G s) {ce : am_C} {cell : Cell} (hr : am_rk G ce cell) {q : Nat} (hq : ce.1 % 100 = q) (h1 : 50 ≤ q) (h2 : q < 62) : s.isArrayOf cell (am_aty q) := by
  subst hq
  have hA9 : ArrOfT s (G.2.1 (ce.1 % 100)) (am_aty (ce.1 % 100)) := by
    by_cases z9 : ce.1 % 100 < 58
    · exact (hk9.1.2 _ _ (am_tys_at G h1 z9)).1
    · exact hk9.2.2.1.2 _ (by omega) h2
  obtain ⟨-, kA, hk, comp, hkind⟩ := hA9 0 (fun _ => .null)
  obtain ⟨q1, q2, -, q3⟩ := hr
  obtain ⟨q4, -, -⟩ := q3 h1 h2
  exact ⟨fun k z => (by rw [z] at q2; cases q2), kA, by rw [q4]; exact hk, comp, hkind⟩
/-- a newly made object -/
def am_nw (ci N : Nat) (vs : List Value) : Prop :=
  ∃ (C : String) (T : u_T) (ty0 : Nat → FieldType), am_cl[ci]? = some (C, T, N) ∧ (∀ w ∈ u_ws C T N, w ∈ lw_gw) ∧ (∀ k, k < N → parseFieldDescriptor (T k).2.2.1 = some (ty0 k)) ∧ Cond.instantiable C N ∈ lw_gw ∧ Cond.initialized C ∈ lw_gw ∧ vs.length = N ∧ ∀ j, j < N → vs[j]? = some (defaultValue (ty0 j))
theorem am_rv_def (G : am_G) (t : FieldType) : am_rv G (defaultValue t) = defaultValue t := by cases t <;> rfl
theorem am_R.new (X : am_Cx l G p s m args meth c own cc nL ret) {i ci N : Nat} (t : Nat) {vs : List Value} {C : String} {T : u_T} (hw : am_nw ci N vs) (hcl : am_cl[ci]? = some (C, T, N)) (hlk : Cond.classLink own i C ∈ lw_gw) (ht : t % 100 = ci) (hci : ci < 50) (hcells : k + 1 ≤ R.cells) (hslots : n + N ≤ R.slots)
    (d : decode cc pc = .ok (.new i, 3)) (kk : am_R G p l e R s m args below meth c mc ms Post (pc + 3) L (.ref (1000 + h.length) :: st) (h ++ [(t, vs)]) (k + 1) (n + N)) : am_R G p l e R s m args below meth c mc ms Post pc L st h k n := by
  intro ls H locs hL hH hS
  obtain ⟨C', T', ty0, e1, hin, hty, hins, hini, hlen, hvs⟩ := hw
  cases hcl.symm.trans e1
  obtain ⟨hK, -⟩ := X.2.2.2.2.2.1.1
  obtain ⟨hSl, hfc, kC, hkC, hkind⟩ := hK ci _ e1
  refine W.newcK X.1 X.2.1 X.2.2.2.1 (X.2.2.2.2.1 _ hlk) (X.2.2.2.2.1 _ hins) (X.2.2.2.2.1 _ hini) rfl d hcells hslots hfc rfl fun H' kC' hkC' f1 f2 f3 => ?_
  cases hkC.symm.trans hkC'
  have ha : am_ad G (1000 + h.length) = H.size := by unfold am_ad; rw [if_neg (by omega), hH.1]; omega
  have hat : am_at G H.size (t, vs) H' := by
    refine ⟨_, f1, ⟨fun z => (by cases z), rfl, fun _ => ⟨_, by rw [show (t, vs).1 % 100 = ci from ht]; exact e1, hlen.symm, by rw [show (t, vs).1 % 100 = ci from ht]; rfl, fun j v hj => ?_⟩, fun z => (by exfalso; have : 50 ≤ t % 100 := z; omega)⟩, rfl⟩
    rw [show (t, vs).1 % 100 = ci from ht]
    have hj' : vs[j]? = some v := hj
    have hjN : j < N := by rw [← hlen]; exact (List.getElem?_eq_some_iff.mp hj').1
    rw [hvs j hjN] at hj'
    cases hj'
    obtain ⟨cf, kf, fi, f, hi, hsl⟩ := hSl j hjN
    obtain ⟨-, -, htyp⟩ := u_facts hfc hkC (u_lays X.2.2.2.2.1 hin hjN) hi
    rw [am_rv_def]
    have hft : f.type = ty0 j := (State.fieldFound?_type hi (hty j hjN)).2
    rw [← hsl, ← hft]
    show (kC.instanceTypes.map defaultValue)[f.slot]? = _
    rw [Array.getElem?_map, htyp]
    rfl
  have := kk ls H' locs hL (hH.push f2 (fun q hq => f3 q hq) hat) ⟨Nat.le_trans hS.1 (by rw [f2]; omega), fun q h1 h2 => (f3 q (Nat.lt_of_lt_of_le h1 hS.1)).trans (hS.2.1 q h1 h2), hS.2.2⟩
  rw [List.map_cons, show am_rv G (.ref (1000 + h.length)) = .ref (am_ad G (1000 + h.length)) from rfl, ha] at this
  exact this
theorem am_R.objInit (X : am_Cx l G p s m args meth c own cc nL ret) {i a : Nat} (hl : Cond.methodLink own i objectInit ∈ lw_gw) (h2 : Cond.instanceMethod objectInit ∈ lw_gw) (h3 : Cond.code objectInit ⟨#[0xb1]⟩ 1 none ∈ lw_gw) (hLn : L.length = nL) (hfr : 1 ≤ R.frames) (hlo : (st.map fun v => v.category).sum + 12 ≤ R.locals)
    (d : decode cc pc = .ok (.invokespecial i, 3)) (kk : am_R G p l e R s m args below meth c mc ms Post (pc + 3) L st h k n) : am_R G p l e R s m args below meth c mc ms Post pc L (.ref a :: st) h k n := by
  intro ls H locs hL hH hS
  refine W.objInit X.1 X.2.1 X.2.2.2.1 (X.2.2.2.2.1 _ hl) (X.2.2.2.2.1 _ h2) (X.2.2.2.2.1 _ h3) rfl (by rw [X.2.2.1, ← hLn]; exact hL.1) rfl d hfr ?_ (kk ls H locs hL hH hS)
  show 2 * 0 + ((st.map (am_rv G)).map fun v => v.category).sum + 12 ≤ R.locals
  rw [List.map_map, show ((fun v : Value => v.category) ∘ am_rv G) = (fun v : Value => v.category) from funext fun v => am_rv_cat G v]
  omega
/-- arrays of numbers: kinds 50 ints, 51 bytes, 52 longs -/
theorem am_R.newa (X : am_Cx l G p s m args meth c own cc nL ret) {at9 : ArrayType} {q : Nat} (t : Nat) {x : Int32} {N : Nat} (hq : newarray.typeOf at9 = am_aty q) (h1 : 50 ≤ q) (h2 : q < 53) (hw : Cond.arrayClass (newarray.typeOf at9) ∈ lw_gw) (ht : t % 100 = q) (hx : x.toInt = (N : Int)) (hN : N ≤ 1000000) (hcells : k + 1 ≤ R.cells) (hslots : n + N ≤ R.slots)
    (d : decode cc pc = .ok (.newarray at9, 2)) (kk : am_R G p l e R s m args below meth c mc ms Post (pc + 2) L (.ref (1000 + h.length) :: st) (h ++ [(t, List.replicate N (defaultValue (am_aty q)))]) (k + 1) (n + N)) : am_R G p l e R s m args below meth c mc ms Post pc L (.int x :: st) h k n := by
  intro ls H locs hL hH hS
  have hxn : x.toNatClampNeg = N := by show x.toInt.toNat = N; omega
  have hx0 : ¬ x < 0 := by rw [Int32.lt_iff_toInt_lt, Int32.toInt_zero]; omega
  have hby : x.toNatClampNeg * componentBytes (newarray.typeOf at9) ≤ 536870912 := by
    have h3 : q = 50 ∨ q = 51 ∨ q = 52 := by omega
    rw [hxn, hq]
    rcases h3 with rfl | rfl | rfl
    · show N * 4 ≤ _; omega
    · show N * 1 ≤ _; omega
    · show N * 8 ≤ _; omega
  refine W.newa X.1 X.2.1 (X.2.2.2.2.1 _ hw) rfl d rfl hx0 hby hcells (by rw [hxn]; exact hslots) fun cA kA comp f1 f2 f3 => ?_
  have ha : am_ad G (1000 + h.length) = H.size := by unfold am_ad; rw [if_neg (by omega), hH.1]; omega
  have hcA : cA = G.2.1 q := by
    have h9 := (X.2.2.2.2.2.1.1.2 _ _ (am_tys_at G h1 (by omega))).2
    have h3 : q = 50 ∨ q = 51 ∨ q = 52 := by omega
    rw [hq] at f1
    rcases h3 with rfl | rfl | rfl <;> exact Option.some.inj (f1.symm.trans h9)
  rw [hxn]
  have hat : am_at G H.size (t, List.replicate N (defaultValue (am_aty q))) (H.push { cls := cA, slots := Array.replicate N (defaultValue (newarray.typeOf at9)), vm := .none }) := by
    refine ⟨_, Array.getElem?_push_size, ⟨fun z => (by cases z), rfl, fun z => (by exfalso; have : t % 100 < 50 := z; omega), fun _ _ => ⟨by rw [show (t, List.replicate N (defaultValue (am_aty q))).1 % 100 = q from ht]; exact hcA, by simp, fun j v hj => ?_⟩⟩, rfl⟩
    have hj' : (List.replicate N (defaultValue (am_aty q)))[j]? = some v := hj
    rw [List.getElem?_replicate] at hj'
    split at hj'
    · next hlt =>
      cases hj'
      rw [am_rv_def]
      show (Array.replicate N (defaultValue (newarray.typeOf at9)))[j]? = _
      rw [hq]
      simp [hlt]
    · cases hj'
  have := kk ls _ locs hL (hH.push (by rw [Array.size_push]) (fun q hq => by rw [Array.getElem?_push, if_neg (Nat.ne_of_lt hq)]) hat) ⟨Nat.le_trans hS.1 (by rw [Array.size_push]; omega), fun q h1 h2 => by rw [Array.getElem?_push, if_neg (Nat.ne_of_lt (Nat.lt_of_lt_of_le h1 hS.1))]; exact hS.2.1 q h1 h2, hS.2.2⟩
  rw [List.map_cons, show am_rv G (.ref (1000 + h.length)) = .ref (am_ad G (1000 + h.length)) from rfl, ha] at this
  exact this
/-- arrays of references to objects of a class: kinds 53 .. 56 -/
theorem am_R.newq (X : am_Cx l G p s m args meth c own cc nL ret) {i q : Nat} {C : String} (t : Nat) {x : Int32} {N : Nat} (hq : am_aty q = .object C) (h1 : 53 ≤ q) (h2 : q < 57) (hlk : Cond.classLink own i C ∈ lw_gw) (hw : Cond.arrayOver (.object C) ∈ lw_ng) (ht : t % 100 = q) (hx : x.toInt = (N : Int)) (hN : N ≤ 1000000) (hcells : k + 1 ≤ R.cells) (hslots : n + N ≤ R.slots)
    (d : decode cc pc = .ok (.anewarray i, 3)) (kk : am_R G p l e R s m args below meth c mc ms Post (pc + 3) L (.ref (1000 + h.length) :: st) (h ++ [(t, List.replicate N .null)]) (k + 1) (n + N)) : am_R G p l e R s m args below meth c mc ms Post pc L (.int x :: st) h k n := by
  intro ls H locs hL hH hS
  have hxn : x.toNatClampNeg = N := by show x.toInt.toNat = N; omega
  have hx0 : ¬ x < 0 := by rw [Int32.lt_iff_toInt_lt, Int32.toInt_zero]; omega
  refine W.anew X.1 X.2.1 X.2.2.2.1 (X.2.2.2.2.1 _ hlk) (X.2.2.2.2.2.1.2.2.2.2.2.2.2 _ hw) rfl d rfl hx0 (by rw [hxn]; omega) hcells (by rw [hxn]; exact hslots) fun cA kA comp f1 f2 f3 f4 => ?_
  have ha : am_ad G (1000 + h.length) = H.size := by unfold am_ad; rw [if_neg (by omega), hH.1]; omega
  have hcA : cA = G.2.1 q := by
    have h9 := (X.2.2.2.2.2.1.1.2 _ _ (am_tys_at G (show 50 ≤ q by omega) (by omega))).2
    rw [hq] at h9
    obtain ⟨_, _, _, _, _, h10⟩ := h9
    exact Option.some.inj (f1.symm.trans h10)
  rw [hxn]
  have hat : am_at G H.size (t, List.replicate N .null) (H.push { cls := cA, slots := Array.replicate N .null, vm := .none }) := by
    refine ⟨_, Array.getElem?_push_size, ⟨fun z => (by cases z), rfl, fun z => (by exfalso; have : t % 100 < 50 := z; omega), fun _ _ => ⟨by rw [show (t, List.replicate N Value.null).1 % 100 = q from ht]; exact hcA, by simp, fun j v hj => ?_⟩⟩, rfl⟩
    have hj' : (List.replicate N Value.null)[j]? = some v := hj
    rw [List.getElem?_replicate] at hj'
    split at hj'
    · next hlt =>
      cases hj'
      show (Array.replicate N Value.null)[j]? = _
      simp [hlt]
      rfl
    · cases hj'
  have := kk ls _ locs hL (hH.push (by rw [Array.size_push]) (fun q hq => by rw [Array.getElem?_push, if_neg (Nat.ne_of_lt hq)]) hat) ⟨Nat.le_trans hS.1 (by rw [Array.size_push]; omega), fun q h1 h2 => by rw [Array.getElem?_push, if_neg (Nat.ne_of_lt (Nat.lt_of_lt_of_le h1 hS.1))]; exact hS.2.1 q h1 h2, hS.2.2⟩
  rw [List.map_cons, show am_rv G (.ref (1000 + h.length)) = .ref (am_ad G (1000 + h.length)) from rfl, ha] at this
  exact this
/-- an array of int arrays: kind 57 -/
theorem am_R.newii (X : am_Cx l G p s m args meth c own cc nL ret) {i : Nat} (t : Nat) {x : Int32} {N : Nat} (hlk : Cond.classLink own i (FieldType.array .int).toString ∈ lw_gw) (hw : Cond.arrayOver (.array .int) ∈ lw_ng) (ht : t % 100 = 57) (hx : x.toInt = (N : Int)) (hN : N ≤ 1000000) (hcells : k + 1 ≤ R.cells) (hslots : n + N ≤ R.slots)
    (d : decode cc pc = .ok (.anewarray i, 3)) (kk : am_R G p l e R s m args below meth c mc ms Post (pc + 3) L (.ref (1000 + h.length) :: st) (h ++ [(t, List.replicate N .null)]) (k + 1) (n + N)) : am_R G p l e R s m args below meth c mc ms Post pc L (.int x :: st) h k n := by
  intro ls H locs hL hH hS
  have hxn : x.toNatClampNeg = N := by show x.toInt.toNat = N; omega
  have hx0 : ¬ x < 0 := by rw [Int32.lt_iff_toInt_lt, Int32.toInt_zero]; omega
  refine W.anewA X.1 X.2.1 X.2.2.2.1 (X.2.2.2.2.1 _ hlk) (X.2.2.2.2.2.1.2.2.2.2.2.2.2 _ hw) rfl d rfl hx0 (by rw [hxn]; omega) hcells (by rw [hxn]; exact hslots) fun cA kA comp f1 f2 f3 f4 => ?_
  have ha : am_ad G (1000 + h.length) = H.size := by unfold am_ad; rw [if_neg (by omega), hH.1]; omega
  have hcA : cA = G.2.1 57 := Option.some.inj (f1.symm.trans (X.2.2.2.2.2.1.1.2 _ _ (am_tys_at G (show 50 ≤ 57 by omega) (by omega))).2)
  rw [hxn]
  have hat : am_at G H.size (t, List.replicate N .null) (H.push { cls := cA, slots := Array.replicate N .null, vm := .none }) := by
    refine ⟨_, Array.getElem?_push_size, ⟨fun z => (by cases z), rfl, fun z => (by exfalso; have : t % 100 < 50 := z; omega), fun _ _ => ⟨by rw [show (t, List.replicate N Value.null).1 % 100 = 57 from ht]; exact hcA, by simp, fun j v hj => ?_⟩⟩, rfl⟩
    have hj' : (List.replicate N Value.null)[j]? = some v := hj
    rw [List.getElem?_replicate] at hj'
    split at hj'
    · next hlt =>
      cases hj'
      show (Array.replicate N Value.null)[j]? = _
      simp [hlt]
      rfl
    · cases hj'
  have := kk ls _ locs hL (hH.push (by rw [Array.size_push]) (fun q hq => by rw [Array.getElem?_push, if_neg (Nat.ne_of_lt hq)]) hat) ⟨Nat.le_trans hS.1 (by rw [Array.size_push]; omega), fun q h1 h2 => by rw [Array.getElem?_push, if_neg (Nat.ne_of_lt (Nat.lt_of_lt_of_le h1 hS.1))]; exact hS.2.1 q h1 h2, hS.2.2⟩
  rw [List.map_cons, show am_rv G (.ref (1000 + h.length)) = .ref (am_ad G (1000 + h.length)) from rfl, ha] at this
  exact this
theorem am_R.alen (X : am_Cx l G p s m args meth c own cc nL ret) {a t : Nat} {vs : List Value} (hg : am_g G h a = some (t, vs)) (h1 : 50 ≤ t % 100) (h2 : t % 100 < 62) (d : decode cc pc = .ok (.arraylength, 1)) (kk : am_R G p l e R s m args below meth c mc ms Post (pc + 1) L (.int (Int32.ofNat vs.length) :: st) h k n) : am_R G p l e R s m args below meth c mc ms Post pc L (.ref a :: st) h k n := by
  intro ls H locs hL hH hS
  obtain ⟨cell, q1, q2⟩ := am_cell hH (am_kt_S X.2.2.2.2.2.1 hS) hg (by show t % 100 < 62; omega)
  obtain ⟨-, -, -, q4⟩ := q2.2.2.2 h1 h2
  exact W.alen X.1 X.2.1 q1 (am_isArr X.2.2.2.2.2.1 q2 rfl h1 h2) (by rw [q4]) rfl rfl d (kk ls H locs hL hH hS)
theorem am_idx {x : Int32} {vs : List Value} {v : Value} (h0 : 0 ≤ x.toInt) (hv : vs[x.toInt.toNat]? = some v) {N : Nat} (hN : vs.length ≤ N) : ¬ (x < 0 ∨ N ≤ x.toNatClampNeg) := by
  have h1 := (List.getElem?_eq_some_iff.mp hv).1
  intro z
  rcases z with z | z
  · rw [Int32.lt_iff_toInt_lt, Int32.toInt_zero] at z; omega
  · have : N ≤ x.toInt.toNat := z
    omega
theorem am_R.iald (X : am_Cx l G p s m args meth c own cc nL ret) {a t : Nat} {x : Int32} {vs : List Value} {v : Value} (hg : am_g G h a = some (t, vs)) (ht : t % 100 = 50 ∨ t % 100 = 59) (h0 : 0 ≤ x.toInt) (hv : vs[x.toInt.toNat]? = some v) (d : decode cc pc = .ok (.iaload, 1)) (kk : am_R G p l e R s m args below meth c mc ms Post (pc + 1) L (v :: st) h k n) : am_R G p l e R s m args below meth c mc ms Post pc L (.int x :: .ref a :: st) h k n := by
  intro ls H locs hL hH hS
  obtain ⟨cell, q1, q2⟩ := am_cell hH (am_kt_S X.2.2.2.2.2.1 hS) hg (by show t % 100 < 62; omega)
  obtain ⟨-, q4, q5, -⟩ := q2.2.2.2 (by show 50 ≤ t % 100; omega) (by show t % 100 < 62; omega)
  have hi9 : s.isArrayOf cell .int := by
    rcases ht with e9 | e9
    · exact am_isArr X.2.2.2.2.2.1 q2 (show t % 100 = 50 from e9) (by omega) (by omega)
    · exact am_isArr X.2.2.2.2.2.1 q2 (show t % 100 = 59 from e9) (by omega) (by omega)
  exact W.iald X.1 X.2.1 q1 hi9 q2.1 (am_idx h0 hv q4) (q5 _ _ hv) rfl rfl d (kk ls H locs hL hH hS)
theorem am_R.bald (X : am_Cx l G p s m args meth c own cc nL ret) {a t : Nat} {x : Int32} {vs : List Value} {v : Value} (hg : am_g G h a = some (t, vs)) (ht : t % 100 = 51 ∨ t % 100 = 60 ∨ t % 100 = 61) (h0 : 0 ≤ x.toInt) (hv : vs[x.toInt.toNat]? = some v) (d : decode cc pc = .ok (.baload, 1)) (kk : am_R G p l e R s m args below meth c mc ms Post (pc + 1) L (v :: st) h k n) : am_R G p l e R s m args below meth c mc ms Post pc L (.int x :: .ref a :: st) h k n := by
  intro ls H locs hL hH hS
  obtain ⟨cell, q1, q2⟩ := am_cell hH (am_kt_S X.2.2.2.2.2.1 hS) hg (by show t % 100 < 62; omega)
  obtain ⟨-, q4, q5, -⟩ := q2.2.2.2 (by show 50 ≤ t % 100; omega) (by show t % 100 < 62; omega)
  have hi9 : s.isArrayOf cell .byte := by
    rcases ht with e9 | e9 | e9
    · exact am_isArr X.2.2.2.2.2.1 q2 (show t % 100 = 51 from e9) (by omega) (by omega)
    · exact am_isArr X.2.2.2.2.2.1 q2 (show t % 100 = 60 from e9) (by omega) (by omega)
    · exact am_isArr X.2.2.2.2.2.1 q2 (show t % 100 = 61 from e9) (by omega) (by omega)
  exact W.bald X.1 X.2.1 q1 hi9 q2.1 (am_idx h0 hv q4) (q5 _ _ hv) rfl rfl d (kk ls H locs hL hH hS)
theorem am_R.lald (X : am_Cx l G p s m args meth c own cc nL ret) {a t : Nat} {x : Int32} {vs : List Value} {v : Value} (hg : am_g G h a = some (t, vs)) (ht : t % 100 = 52) (h0 : 0 ≤ x.toInt) (hv : vs[x.toInt.toNat]? = some v) (d : decode cc pc = .ok (.laload, 1)) (kk : am_R G p l e R s m args below meth c mc ms Post (pc + 1) L (v :: st) h k n) : am_R G p l e R s m args below meth c mc ms Post pc L (.int x :: .ref a :: st) h k n := by
  intro ls H locs hL hH hS
  obtain ⟨cell, q1, q2⟩ := am_cell hH (am_kt_S X.2.2.2.2.2.1 hS) hg (by show t % 100 < 62; omega)
  obtain ⟨-, q4, q5, -⟩ := q2.2.2.2 (by show 50 ≤ t % 100; omega) (by show t % 100 < 62; omega)
  exact W.lald X.1 X.2.1 q1 (am_isArr X.2.2.2.2.2.1 q2 (show t % 100 = 52 from ht) (by omega) (by omega)) q2.1 (am_idx h0 hv q4) (q5 _ _ hv) rfl rfl d (kk ls H locs hL hH hS)
theorem am_R.aald (X : am_Cx l G p s m args meth c own cc nL ret) {a t : Nat} {x : Int32} {vs : List Value} {v : Value} (hg : am_g G h a = some (t, vs)) (h1 : 53 ≤ t % 100) (h2 : t % 100 < 59) (h0 : 0 ≤ x.toInt) (hv : vs[x.toInt.toNat]? = some v) (d : decode cc pc = .ok (.aaload, 1)) (kk : am_R G p l e R s m args below meth c mc ms Post (pc + 1) L (v :: st) h k n) : am_R G p l e R s m args below meth c mc ms Post pc L (.int x :: .ref a :: st) h k n := by
  intro ls H locs hL hH hS
  obtain ⟨cell, q1, q2⟩ := am_cell hH (am_kt_S X.2.2.2.2.2.1 hS) hg (by show t % 100 < 62; omega)
  obtain ⟨-, q4, q5, -⟩ := q2.2.2.2 (by show 50 ≤ t % 100; omega) (by show t % 100 < 62; omega)
  have hr : (am_aty (t % 100)).isReference = true := by
    have h3 : t % 100 = 53 ∨ t % 100 = 54 ∨ t % 100 = 55 ∨ t % 100 = 56 ∨ t % 100 = 57 ∨ t % 100 = 58 := by omega
    rcases h3 with h3 | h3 | h3 | h3 | h3 | h3 <;> rw [h3] <;> rfl
  exact W.aald X.1 X.2.1 q1 (am_isArr X.2.2.2.2.2.1 q2 rfl (by show 50 ≤ t % 100; omega) (by show t % 100 < 62; omega)) hr q2.1 (am_idx h0 hv q4) (q5 _ _ hv) rfl rfl d (kk ls H locs hL hH hS)
theorem am_ro.seta {t j : Nat} {vs : List Value} {v : Value} {cell : Cell} (hq : am_ro G (t, vs) cell) (h1 : 50 ≤ t % 100) (h2 : t % 100 < 62) (hj : j < vs.length) : am_ro G (t, vs.set j v) (cell.setSlot j (am_rv G v)) := by
  obtain ⟨q2, q3, -, q4⟩ := hq
  obtain ⟨f1, f2, f3⟩ := q4 h1 h2
  refine ⟨q2, q3, fun z => by exfalso; have : t % 100 < 50 := z; omega, fun _ _ => ⟨f1, ?_, fun i w hw => ?_⟩⟩
  · show (cell.slots.setIfInBounds j _).size = (vs.set j v).length
    rw [Array.size_setIfInBounds, List.length_set]
    exact f2
  · have hw' : (vs.set j v)[i]? = some w := hw
    by_cases e : j = i
    · subst e
      rw [List.getElem?_set_self hj] at hw'
      cases hw'
      exact Cell.slots_setSlot_self _ (by rw [f2]; exact hj)
    · rw [List.getElem?_set_ne e] at hw'
      rw [slot_ne _ _ e]
      exact f3 i w hw'
theorem am_idx' {x : Int32} (h0 : 0 ≤ x.toInt) {N M : Nat} (hv : x.toInt.toNat < M) (hN : N = M) : ¬ (x < 0 ∨ N ≤ x.toNatClampNeg) := by
  intro z
  rcases z with z | z
  · rw [Int32.lt_iff_toInt_lt, Int32.toInt_zero] at z; omega
  · have : N ≤ x.toInt.toNat := z
    omega
theorem am_R.iast (X : am_Cx l G p s m args meth c own cc nL ret) {a t : Nat} {x : Int32} {y : Int32} {vs : List Value} (ha : 1000 ≤ a) (hg : am_g G h a = some (t, vs)) (ht : t % 100 = 50) (h0 : 0 ≤ x.toInt) (hv : x.toInt.toNat < vs.length) (d : decode cc pc = .ok (.iastore, 1)) (kk : am_R G p l e R s m args below meth c mc ms Post (pc + 1) L st (am_s h a (t, vs.set x.toInt.toNat (.int y))) k n) : am_R G p l e R s m args below meth c mc ms Post pc L (.int y :: .int x :: .ref a :: st) h k n := by
  intro ls H locs hL hH hS
  obtain ⟨cell, q1, q2, q3⟩ := am_cellD hH ha hg
  obtain ⟨-, q4, q5⟩ := q2.2.2.2 (by show 50 ≤ t % 100; omega) (by show t % 100 < 62; omega)
  refine W.iast X.1 X.2.1 q1 (am_isArr X.2.2.2.2.2.1 q2.rk (show t % 100 = 50 from ht) (by omega) (by omega)) q2.1 (am_idx' h0 hv q4) rfl rfl d fun H' f1 f2 f3 => ?_
  exact kk ls H' _ hL (hH.put ha (am_g_lt ha hg) f2 f3 ⟨_, f1, q2.seta (by show 50 ≤ t % 100; omega) (by show t % 100 < 62; omega) hv, q3⟩) (hS.put f2 f3 (am_ad_ge ha))
theorem am_R.bast (X : am_Cx l G p s m args meth c own cc nL ret) {a t : Nat} {x : Int32} {y : Int32} {vs : List Value} (ha : 1000 ≤ a) (hg : am_g G h a = some (t, vs)) (ht : t % 100 = 51) (h0 : 0 ≤ x.toInt) (hv : x.toInt.toNat < vs.length) (d : decode cc pc = .ok (.bastore, 1)) (kk : am_R G p l e R s m args below meth c mc ms Post (pc + 1) L st (am_s h a (t, vs.set x.toInt.toNat (.int y.toInt8.toInt32))) k n) : am_R G p l e R s m args below meth c mc ms Post pc L (.int y :: .int x :: .ref a :: st) h k n := by
  intro ls H locs hL hH hS
  obtain ⟨cell, q1, q2, q3⟩ := am_cellD hH ha hg
  obtain ⟨-, q4, q5⟩ := q2.2.2.2 (by show 50 ≤ t % 100; omega) (by show t % 100 < 62; omega)
  refine W.bast X.1 X.2.1 q1 (am_isArr X.2.2.2.2.2.1 q2.rk (show t % 100 = 51 from ht) (by omega) (by omega)) q2.1 (am_idx' h0 hv q4) rfl rfl d fun H' f1 f2 f3 => ?_
  exact kk ls H' _ hL (hH.put ha (am_g_lt ha hg) f2 f3 ⟨_, f1, q2.seta (by show 50 ≤ t % 100; omega) (by show t % 100 < 62; omega) hv, q3⟩) (hS.put f2 f3 (am_ad_ge ha))
theorem am_R.last (X : am_Cx l G p s m args meth c own cc nL ret) {a t : Nat} {x : Int32} {y : Int64} {vs : List Value} (ha : 1000 ≤ a) (hg : am_g G h a = some (t, vs)) (ht : t % 100 = 52) (h0 : 0 ≤ x.toInt) (hv : x.toInt.toNat < vs.length) (d : decode cc pc = .ok (.lastore, 1)) (kk : am_R G p l e R s m args below meth c mc ms Post (pc + 1) L st (am_s h a (t, vs.set x.toInt.toNat (.long y))) k n) : am_R G p l e R s m args below meth c mc ms Post pc L (.long y :: .int x :: .ref a :: st) h k n := by
  intro ls H locs hL hH hS
  obtain ⟨cell, q1, q2, q3⟩ := am_cellD hH ha hg
  obtain ⟨-, q4, q5⟩ := q2.2.2.2 (by show 50 ≤ t % 100; omega) (by show t % 100 < 62; omega)
  refine W.last X.1 X.2.1 q1 (am_isArr X.2.2.2.2.2.1 q2.rk (show t % 100 = 52 from ht) (by omega) (by omega)) q2.1 (am_idx' h0 hv q4) rfl rfl d fun H' f1 f2 f3 => ?_
  exact kk ls H' _ hL (hH.put ha (am_g_lt ha hg) f2 f3 ⟨_, f1, q2.seta (by show 50 ≤ t % 100; omega) (by show t % 100 < 62; omega) hv, q3⟩) (hS.put f2 f3 (am_ad_ge ha))
/-- a value of kind kv may be stored in an array of kind ka -/
def am_asg (G : am_G) (s : State) (ka kv : Nat) : Prop := ∃ (kA kV kC : Class) (comp cv : ClassId), s.vm.classes[G.2.1 ka]? = some kA ∧ kA.kind = .array comp (am_aty ka) ∧ s.vm.classes[comp]? = some kC ∧ (if kv < 50 then cv = G.1.1 kv else cv = G.2.1 kv) ∧ s.vm.classes[cv]? = some kV ∧ s.vm.assignable cv comp = true
theorem am_rk.cls {c9 : am_C} {cell : Cell} (hq : am_rk G c9 cell) (h2 : c9.1 % 100 < 62) {cv : ClassId} (hv : if c9.1 % 100 < 50 then cv = G.1.1 (c9.1 % 100) else cv = G.2.1 (c9.1 % 100)) : cell.cls = cv := by
  by_cases h1 : c9.1 % 100 < 50
  · rw [if_pos h1] at hv
    obtain ⟨r, -, -, h3, -⟩ := hq.2.2.1 h1
    rw [h3, hv]
  · rw [if_neg h1] at hv
    rw [(hq.2.2.2 (by omega) h2).1, hv]
theorem am_R.aast (X : am_Cx l G p s m args meth c own cc nL ret) {a t b tb : Nat} {x : Int32} {vs vb : List Value} (hasg : am_asg G s (t % 100) (tb % 100)) (ha : 1000 ≤ a) (hg : am_g G h a = some (t, vs)) (h1 : 53 ≤ t % 100) (h2 : t % 100 < 59) (hb9 : am_g G h b = some (tb, vb)) (h3 : tb % 100 < 59) (h0 : 0 ≤ x.toInt) (hv : x.toInt.toNat < vs.length) (d : decode cc pc = .ok (.aastore, 1)) (kk : am_R G p l e R s m args below meth c mc ms Post (pc + 1) L st (am_s h a (t, vs.set x.toInt.toNat (.ref b))) k n) : am_R G p l e R s m args below meth c mc ms Post pc L (.ref b :: .int x :: .ref a :: st) h k n := by
  intro ls H locs hL hH hS
  obtain ⟨cell, q1, q2, q3⟩ := am_cellD hH ha hg
  obtain ⟨cellb, b1, b2⟩ := am_cell hH (am_kt_S X.2.2.2.2.2.1 hS) hb9 (by show tb % 100 < 62; omega)
  obtain ⟨q6, q4, q5⟩ := q2.2.2.2 (by show 50 ≤ t % 100; omega) (by show t % 100 < 62; omega)
  obtain ⟨kA, kV, kC, comp, cv, g1, g2, g3, g4, g5, g6⟩ := hasg
  have hr : (am_aty (t % 100)).isReference = true := by
    have h3 : t % 100 = 53 ∨ t % 100 = 54 ∨ t % 100 = 55 ∨ t % 100 = 56 ∨ t % 100 = 57 ∨ t % 100 = 58 := by omega
    rcases h3 with h3 | h3 | h3 | h3 | h3 | h3 <;> rw [h3] <;> rfl
  have hcb : cellb.cls = cv := b2.cls (by show tb % 100 < 62; omega) g4
  refine W.aast X.1 X.2.1 q1 (fun q z => by rw [q3] at z; cases z) q2.1 (by rw [q6]; exact g1) g2 hr g3 ⟨fun z => by rw [Int32.lt_iff_toInt_lt, Int32.toInt_zero] at z; omega, by rw [q4]; exact hv⟩ b1 (fun q z => by have := b2.2.1; rw [z] at this; cases this) (by rw [hcb]; exact g5) (by rw [hcb]; exact g6) rfl rfl d fun H' f1 f2 f3 => ?_
  exact kk ls H' _ hL (hH.put ha (am_g_lt ha hg) f2 f3 ⟨_, f1, q2.seta (v := .ref b) (by show 50 ≤ t % 100; omega) (by show t % 100 < 62; omega) hv, q3⟩) (hS.put f2 f3 (am_ad_ge ha))
/-- null into Object[] -/
theorem am_R.aastN (X : am_Cx l G p s m args meth c own cc nL ret) {a t : Nat} {x : Int32} {vs : List Value} (ha : 1000 ≤ a) (hg : am_g G h a = some (t, vs)) (ht : t % 100 = 56) (h0 : 0 ≤ x.toInt) (hv : x.toInt.toNat < vs.length) (d : decode cc pc = .ok (.aastore, 1)) (kk : am_R G p l e R s m args below meth c mc ms Post (pc + 1) L st (am_s h a (t, vs.set x.toInt.toNat .null)) k n) : am_R G p l e R s m args below meth c mc ms Post pc L (.null :: .int x :: .ref a :: st) h k n := by
  intro ls H locs hL hH hS
  obtain ⟨cell, q1, q2, q3⟩ := am_cellD hH ha hg
  obtain ⟨-, q4, q5⟩ := q2.2.2.2 (by show 50 ≤ t % 100; omega) (by show t % 100 < 62; omega)
  refine va_WaastN (C := "java/lang/Object") X.1 X.2.1 q1 (am_isArr (q := 56) X.2.2.2.2.2.1 q2.rk (show t % 100 = 56 from ht) (by omega) (by omega)) q2.1 (am_idx' h0 hv q4) rfl rfl d fun H' f1 f2 f3 => ?_
  exact kk ls H' _ hL (hH.put ha (am_g_lt ha hg) f2 f3 ⟨_, f1, q2.seta (v := .null) (by show 50 ≤ t % 100; omega) (by show t % 100 < 62; omega) hv, q3⟩) (hS.put f2 f3 (am_ad_ge ha))
theorem am_R.gets (X : am_Cx l G p s m args meth c own cc nL ret) {i : Nat} {z : String × String × String × Value} (hz : z ∈ am_Z) (hl : Cond.fieldLink own i z.1 z.2.1 z.2.2.1 ∈ lw_gw) (d : decode cc pc = .ok (.getstatic i, 3)) (kk : am_R G p l e R s m args below meth c mc ms Post (pc + 3) L (z.2.2.2 :: st) h k n) : am_R G p l e R s m args below meth c mc ms Post pc L st h k n :=
  fun ls H locs hL hH hS => va_gets X.1 X.2.1 (X.2.2.2.2.2.1.2.2.2.1 _ hz) hS X.2.2.2.1 (X.2.2.2.2.1 _ hl) (fun _ h => h) d (kk ls H locs hL hH hS)
theorem am_R.ldcs (X : am_Cx l G p s m args meth c own cc nL ret) {i n9 : Nat} {tx : String} (hz : (own, i, tx, n9) ∈ am_T) (d : decode cc pc = .ok (.ldc i, 2)) (kk : am_R G p l e R s m args below meth c mc ms Post (pc + 2) L (.ref n9 :: st) h k n) : am_R G p l e R s m args below meth c mc ms Post pc L st h k n := by
  intro ls H locs hL hH hS T hT Y
  have hk : vk_R own i tx (am_ad G n9) s := X.2.2.2.2.2.1.2.2.2.2.1 _ hz
  obtain ⟨t, a1, b1⟩ := kk ls H locs hL hH hS T hT Y
  exact ⟨t, Y.ldcString X.1 X.2.2.2.1 hk.1 hk.2 (g := F0 m pc ls (st.map (am_rv G))) rfl (by rw [X.2.1]; exact d) t a1, b1⟩
theorem am_R.ldcsw (X : am_Cx l G p s m args meth c own cc nL ret) {i n9 : Nat} {tx : String} (hz : (own, i, tx, n9) ∈ am_T) (d : decode cc pc = .ok (.ldc_w i, 3)) (kk : am_R G p l e R s m args below meth c mc ms Post (pc + 3) L (.ref n9 :: st) h k n) : am_R G p l e R s m args below meth c mc ms Post pc L st h k n := by
  intro ls H locs hL hH hS T hT Y
  have hk : vk_R own i tx (am_ad G n9) s := X.2.2.2.2.2.1.2.2.2.2.1 _ hz
  obtain ⟨t, a1, b1⟩ := kk ls H locs hL hH hS T hT Y
  exact ⟨t, Y.ldcStringW X.1 X.2.2.2.1 hk.1 hk.2 (g := F0 m pc ls (st.map (am_rv G))) rfl (by rw [X.2.1]; exact d) t a1, b1⟩
/-- what may be cast to the class nm -/
def am_isa (G : am_G) (s : State) (kv : Nat) (nm : String) : Prop := ∃ (cv ct : ClassId), (if kv < 50 then cv = G.1.1 kv else cv = G.2.1 kv) ∧ s.vm.findClass nm = some ct ∧ s.vm.assignable cv ct = true
theorem am_R.cast (X : am_Cx l G p s m args meth c own cc nL ret) {i a t : Nat} {nm : String} {vs : List Value} (hl : Cond.classLink own i nm ∈ lw_gw) (hi : am_isa G s (t % 100) nm) (hg : am_g G h a = some (t, vs)) (ht : t % 100 < 59) (d : decode cc pc = .ok (.checkcast i, 3)) (kk : am_R G p l e R s m args below meth c mc ms Post (pc + 3) L (.ref a :: st) h k n) : am_R G p l e R s m args below meth c mc ms Post pc L (.ref a :: st) h k n := by
  intro ls H locs hL hH hS T hT Y
  obtain ⟨cell, q1, q2⟩ := am_cell hH (am_kt_S X.2.2.2.2.2.1 hS) hg (by show t % 100 < 62; omega)
  obtain ⟨cv, ct, g1, g2, g3⟩ := hi
  have hcl : cell.cls = cv := q2.cls (by show t % 100 < 62; omega) g1
  obtain ⟨vm', X', st9⟩ := Y.checkcastYes X.1 X.2.2.2.1 (X.2.2.2.2.1 _ hl) (by rw [hT]; exact q1) q2.2.1 g2 (by rw [hcl]; exact g3) (g := F0 m pc ls (.ref (am_ad G a) :: st.map (am_rv G))) rfl rfl (by rw [X.2.1]; exact d)
  obtain ⟨t9, a1, b1⟩ := kk ls H locs hL hH hS (T.setVm vm') hT X'
  exact ⟨t9, st9 t9 a1, b1⟩
theorem am_R.castN (X : am_Cx l G p s m args meth c own cc nL ret) {i : Nat} (d : decode cc pc = .ok (.checkcast i, 3)) (kk : am_R G p l e R s m args below meth c mc ms Post (pc + 3) L (.null :: st) h k n) : am_R G p l e R s m args below meth c mc ms Post pc L (.null :: st) h k n :=
  fun ls H locs hL hH hS => lv_castN X.1 X.2.1 d (kk ls H locs hL hH hS)
end AMA
end
section
section AMC
variable {G : am_G} {p : Program} {l : Launch} {e : Env} {R : Room} {s : State} {m : MethodId} {args : Array Value} {below : List Frame} {meth : Method} {c : Code} {mc ms : Nat} {Post : am_O → List am_C → Prop}
variable {own : String} {cc : ByteArray} {nL pc : Nat} {ret : Option FieldType} {L : List (Option Value)} {st : List Value} {h : List am_C} {k n : Nat}
theorem am_kon.at {H : Heap} {locs : List Loc} {U : State} (hk : am_kon G s) (hS : va_S (am_A G) s.heap H locs) (hU : U.heap = H) (hW : s.WarmedH U.vm) : am_kon G U := by
  have hq : ∀ a : Nat, a < s.heap.size → ¬ am_A G a → U.heap[a]? = s.heap[a]? := fun a h1 h2 => by rw [hU]; exact hS.2.1 a h1 h2
  obtain ⟨k1, k2, k3, k4, k5, k6, k7, k8⟩ := hk
  refine ⟨k1.moved hW.alike, k2.kept (fun q hq' => hq q (by have := k3.1; omega) (fun z => by unfold am_A at z; omega)), ⟨by rw [hU]; exact Nat.le_trans k3.1 hS.1, k3.2.moved hW.alike⟩, fun z hz => ((k4 z hz).kept hq).moved hW.alike, fun z hz => (k5 z hz).warm hW, ⟨k6.1.moved hW.alike, (k6.2.kept hq).moved hW.alike⟩, (k7.kept hq).moved hW.alike, fun w hw => am_ng_warm hW (List.mem_filter.mp hw).2 (k8 w hw)⟩
theorem am_P.blind {a : List Value} : FrameBlind (am_P G a h) := by
  intro v U g mk ⟨h1, h2, h3⟩
  refine ⟨h1, h2, h3.at (va_S.rf (A := am_A G)) rfl (State.WarmedH.refl U)⟩
/-- a body's contract, where no row of the natives takes the method's place -/
theorem am_ofW {y : MethodName} {ws ws' : List Cond} {rm : Room} {Pc : Array Value → State → Prop} {Qc : Array Value → State → Outcome → State → Prop} {XC : String → State → State → Prop} {mc ms : Nat} {free : Addr → Prop} {cc : ByteArray} {maxL : Nat} {ret : Option FieldType}
    (hy : plainFor y = true) (hw : ws = Cond.code y cc maxL ret :: ws')
    (body : ∀ p e s m args below meth c s₁, BodyLoose p l y (headSpec ws rm) cc maxL ret e s m args below meth c s₁ → c.maxLocals = maxL → (∀ x ∈ c.exceptionTable.toList, False) → Pc args s →
      W p l e (headSpec ws rm).room s m args below meth c s.heap [] 0 0 (vx_MQ below Qc XC args s mc ms free) (entryFrame m args maxL)) : vx_Met l y ws rm Pc Qc XC mc ms free := by
  refine MetFree.of_bodySF (code := cc) (maxLocals := maxL) (ret := ret) hy (fun a s m h hn => ?_) (fun p e s m args below meth c s₁ B hml hP _ => ?_)
  · obtain ⟨meth, c, h1, h2, h3, h4, h5, h6, -, -⟩ := Cond.code_spec hn (atoms_spec (ws := ws) h _ (by rw [hw]; exact List.mem_cons_self))
    exact ⟨meth, c, h1, h2, h3, h4, h5, h6⟩
  · obtain ⟨meth9, c9, h1, h2, -, -, -, -, h7, -⟩ := Cond.code_spec B.named (atoms_spec (ws := ws) B.pre _ (by rw [hw]; exact List.mem_cons_self))
    cases Option.some.inj (h1.symm.trans B.method)
    cases Option.some.inj (h2.symm.trans (Stand.of_body B).code)
    obtain ⟨t, a1, o, b1, b2, b3⟩ := body p e s m args below meth c s₁ B hml (fun x hx => by
      rw [Array.isEmpty_iff.mp h7] at hx
      cases hx) hP s₁ (by rw [B.state]; rfl) (Stand.of_body B)
    exact ⟨t, o, a1, b1, b2, b3⟩
/-- a contract out of a body -/
theorem am_M.of {y : MethodName} {fr lo : Nat} {a : List Value} (hl : l.stackTraces = false) (hy : plainFor y = true) (hlay : (am_lay a).length ≤ nL)
    (body : ∀ (p : Program) (e : Env) (s : State) (m : MethodId) (args : Array Value) (below : List Frame) (meth : Method) (c : Code), am_Cx l G p s m args meth c y.cls cc nL ret → meth.name = y.name → (∀ x ∈ c.exceptionTable.toList, False) →
      am_R G p l e { frames := fr, cells := mc, slots := ms, locals := lo } s m args below meth c mc ms Post 0 (am_ent a nL) [] h 0 0) : am_M l G y (.code y cc nL ret) fr lo mc ms a h Post := by
  refine am_ofW hy rfl ?_
  intro p e s m args below meth c s₁ B hml ht hPc
  obtain ⟨rfl, hH, hk⟩ := hPc
  rw [lg_entry_eq]
  exact body p e s m _ below meth c ⟨B.exec, B.bytes, hml, findClass_of_methodNamed B.named, fun w hw => atoms_spec (ws := .code y cc nL ret :: lw_gw) B.pre w (List.mem_cons_of_mem _ hw), hk, B.notSynchronized, hl, B.returns⟩ (name_of_methodNamed B.named B.method).1 ht _ _ [] (am_L.entry hlay) hH va_S.rf
theorem am_M.ofH {y : MethodName} {fr lo : Nat} {a : List Value} {hh : List (Nat × Nat × Nat × Nat)} (hl : l.stackTraces = false) (hy : plainName y.cls = true) (hlay : (am_lay a).length ≤ nL)
    (body : ∀ (p : Program) (e : Env) (s : State) (m : MethodId) (args : Array Value) (below : List Frame) (meth : Method) (c : Code), am_Cx l G p s m args meth c y.cls cc nL ret → c.exceptionTable.toList = tableOf hh →
      am_R G p l e { frames := fr, cells := mc, slots := ms, locals := lo } s m args below meth c mc ms Post 0 (am_ent a nL) [] h 0 0) : am_M l G y (.codeWith y cc nL ret hh) fr lo mc ms a h Post := by
  refine vx_ofWH hy rfl ?_
  intro p e s m args below meth c s₁ B hml hPc
  obtain ⟨rfl, hH, hk⟩ := hPc
  rw [lg_entry_eq]
  have hts := atoms_spec (ws := .codeWith y cc nL ret hh :: lw_gw) B.pre
  exact body p e s m _ below meth c ⟨B.exec, B.bytes, hml, findClass_of_methodNamed B.named, fun w hw => hts w (List.mem_cons_of_mem _ hw), hk, B.notSynchronized, hl, B.returns⟩ (vx_table (x := y) B (hts _ List.mem_cons_self)) _ _ [] (am_L.entry hlay) hH va_S.rf
theorem am_M.met {y : MethodName} {cw : Cond} {fr lo : Nat} {a : List Value} (hM : am_M l G y cw fr lo mc ms a h Post) (hno : ∀ E h', ¬ Post (.inr E) h') : Met l y (cw :: lw_gw) { frames := fr, cells := mc, slots := ms, locals := lo } (am_P G a h) (am_Q G Post) mc ms (am_A G) := by
  intro p e h1 h2 h3 s m args below h4 h5 h6 h7
  obtain ⟨n, o, g1, g2, g3, g4⟩ := hM p e h1 h2 h3 s m args below h4 h5 h6 h7
  refine ⟨n, o, g1, g2, g3, ?_⟩
  rcases g4 with g4 | ⟨q, -, E, ce, L, ⟨h', hp, -⟩, -⟩
  · exact g4
  · exact absurd hp (hno E h')
theorem am_M.mono {y : MethodName} {cw : Cond} {fr lo : Nat} {a : List Value} {Post' : am_O → List am_C → Prop} (hM : am_M l G y cw fr lo mc ms a h Post) (hp : ∀ o h', Post o h' → Post' o h') : am_M l G y cw fr lo mc ms a h Post' := by
  intro p e h1 h2 h3 s m args below h4 h5 h6 h7
  obtain ⟨n, o, g1, g2, g3, g4⟩ := hM p e h1 h2 h3 s m args below h4 h5 h6 h7
  refine ⟨n, o, g1, g2, g3, ?_⟩
  rcases g4 with ⟨⟨r, h', e1, e2, e3⟩, e4⟩ | ⟨q, e0, E, ce, L, ⟨h', e2, e3⟩, e4⟩
  · exact Or.inl ⟨⟨r, h', e1, hp _ _ e2, e3⟩, e4⟩
  · exact Or.inr ⟨q, e0, E, ce, L, ⟨h', hp _ _ e2, e3⟩, e4⟩
-- returns
theorem am_R.iret (X : am_Cx l G p s m args meth c own cc nL ret) {v : Int32} (hr : ret = some .int) (h1 : k ≤ mc) (h2 : n ≤ ms) (hp : Post (.inl (some (.int v))) h) (d : decode cc pc = .ok (.ireturn, 1)) : am_R G p l e R s m args below meth c mc ms Post pc L [.int v] h k n :=
  fun ls H locs hL hH hS => W.widen h1 h2 (vx_ret (W.iret X.1 X.2.1 (X.2.2.2.2.2.2.2.2.trans hr) (fun t ht hW => ⟨some (.int v), h, rfl, hp, by rw [ht]; exact hH, hS.F ht⟩) hS.2.2 d (hlocks := X.2.2.2.2.2.2.1)))
theorem am_R.zret (X : am_Cx l G p s m args meth c own cc nL ret) {v : Int32} {ty : FieldType} (hr : ret = some ty) (hn : narrow ty (.int v) = .int v) (h1 : k ≤ mc) (h2 : n ≤ ms) (hp : Post (.inl (some (.int v))) h) (d : decode cc pc = .ok (.ireturn, 1)) : am_R G p l e R s m args below meth c mc ms Post pc L [.int v] h k n :=
  fun ls H locs hL hH hS => W.widen h1 h2 (vx_ret (W.zret X.1 X.2.1 (X.2.2.2.2.2.2.2.2.trans hr) hn (fun t ht hW => ⟨some (.int v), h, rfl, hp, by rw [ht]; exact hH, hS.F ht⟩) hS.2.2 d (hlocks := X.2.2.2.2.2.2.1)))
theorem am_R.lret (X : am_Cx l G p s m args meth c own cc nL ret) {v : Int64} (hr : ret = some .long) (h1 : k ≤ mc) (h2 : n ≤ ms) (hp : Post (.inl (some (.long v))) h) (d : decode cc pc = .ok (.lreturn, 1)) : am_R G p l e R s m args below meth c mc ms Post pc L [.long v] h k n :=
  fun ls H locs hL hH hS => W.widen h1 h2 (vx_ret (W.lret X.1 X.2.1 (X.2.2.2.2.2.2.2.2.trans hr) (fun t ht hW => ⟨some (.long v), h, rfl, hp, by rw [ht]; exact hH, hS.F ht⟩) hS.2.2 d (hlocks := X.2.2.2.2.2.2.1)))
theorem am_R.vret (X : am_Cx l G p s m args meth c own cc nL ret) (hr : ret = none) (h1 : k ≤ mc) (h2 : n ≤ ms) (hp : Post (.inl none) h) (d : decode cc pc = .ok (.return_, 1)) : am_R G p l e R s m args below meth c mc ms Post pc L [] h k n :=
  fun ls H locs hL hH hS => W.widen h1 h2 (vx_ret (W.vret X.1 X.2.1 (X.2.2.2.2.2.2.2.2.trans hr) (fun t ht hW => ⟨none, h, rfl, hp, by rw [ht]; exact hH, hS.F ht⟩) hS.2.2 d (hlocks := X.2.2.2.2.2.2.1)))
theorem am_R.aret (X : am_Cx l G p s m args meth c own cc nL ret) {v : Value} {rt : FieldType} (hr : ret = some rt) (hrt : (∃ n, rt = .object n) ∨ ∃ t, rt = .array t) (hv : v = .null ∨ ∃ a, v = .ref a) (h1 : k ≤ mc) (h2 : n ≤ ms) (hp : Post (.inl (some v)) h) (d : decode cc pc = .ok (.areturn, 1)) : am_R G p l e R s m args below meth c mc ms Post pc L [v] h k n :=
  fun ls H locs hL hH hS => W.widen h1 h2 (vx_ret (W.aret (v := am_rv G v) X.1 X.2.1 (X.2.2.2.2.2.2.2.2.trans hr) hrt (hv.elim (fun z => Or.inl (by rw [z]; rfl)) (fun ⟨a, z⟩ => Or.inr ⟨am_ad G a, by rw [z]; rfl⟩)) (fun t ht hW => ⟨some v, h, rfl, hp, by rw [ht]; exact hH, hS.F ht⟩) hS.2.2 d (hlocks := X.2.2.2.2.2.2.1)))
/-- behind a call: E thrown over this frame -/
def am_RX (G : am_G) (p : Program) (l : Launch) (e : Env) (R : Room) (s : State) (m : MethodId) (args : Array Value) (below : List Frame) (meth : Method) (c : Code) (mc ms : Nat) (Post : am_O → List am_C → Prop)
    (E : String) (pc : Nat) (L : List (Option Value)) (h : List am_C) (k n : Nat) : Prop :=
  ∀ (ls : Array Slot) (H : Heap) (locs : List Loc) (q : Addr) (ce : Cell) (rest : List Value), am_L G ls L → am_H G h H → va_S (am_A G) s.heap H locs → H[q]? = some ce → ce.vm = .none → s.vm.findClass E = some ce.cls →
    vx_W p l e R s m args below meth c H locs k n (vx_MQ below (am_Q G Post) (am_X G Post) args s mc ms (am_A G)) (F0 m pc ls rest) q
theorem am_RX.out (X : am_Cx l G p s m args meth c own cc nL ret) {E : String} (ht : ∀ x ∈ c.exceptionTable.toList, covers x pc = false) (h1 : k ≤ mc) (h2 : n ≤ ms) (hp : Post (.inr E) h) : am_RX G p l e R s m args below meth c mc ms Post E pc L h k n :=
  fun ls H locs q ce rest hL hH hS hq hv hc => vx_out ht X.2.2.2.2.2.2.1 hq hv hc (fun t ht hW => ⟨h, hp, by rw [ht]; exact hH, hS.F ht⟩) hS.2.2 h1 h2
theorem am_post {P' : am_O → List am_C → Prop} {mc' ms' : Nat} {aa : Array Value} {ls : Array Slot} {H : Heap} {locs : List Loc} {st0 : List Value} (hL : am_L G ls L) (hS : va_S (am_A G) s.heap H locs)
    (hr : vx_Run p l e R s m args below meth c H locs k n mc' ms' (F0 m pc ls st0) (st.map (am_rv G)) (am_Q G P' aa) (am_X G P') (am_A G))
    (kr : ∀ (r : Option Value) (h' : List am_C), P' (.inl r) h' → am_R G p l e R s m args below meth c mc ms Post (pc + 3) L (r.toList ++ st) h' (k + mc') (n + ms'))
    (kx : ∀ (E : String) (h' : List am_C), P' (.inr E) h' → am_RX G p l e R s m args below meth c mc ms Post E pc L h' (k + mc') (n + ms')) :
    W p l e R s m args below meth c H locs k n (vx_MQ below (am_Q G Post) (am_X G Post) args s mc ms (am_A G)) (F0 m pc ls st0) := by
  intro T hT Y
  have hjoin : ∀ (T' t st₀ : State) (L9 : List Loc), st₀.heap = H → T'.heap = t.heap → va_F (am_A G) st₀ t → (∀ q ∈ L9, am_A G q.base) → va_S (am_A G) s.heap T'.heap (locs ++ L9) := by
    intro T' t st₀ L9 e0 e1 hF hL9
    refine ⟨Nat.le_trans hS.1 (by rw [e1, ← e0]; exact hF.1), fun q h1 h2 => ?_, fun q hq => ?_⟩
    · rw [e1, hF.2 q (by rw [e0]; exact Nat.lt_of_lt_of_le h1 hS.1) h2, e0]
      exact hS.2.1 q h1 h2
    · rcases List.mem_append.mp hq with h | h
      · exact hS.2.2 q h
      · exact hL9 q h
  rcases hr T hT Y with ⟨v, st₀, t, T', L9, e0, Y', hL9, e1, e2, ⟨r, h', f1, f2, f3, f4⟩, go⟩ | ⟨q, st₀, t, T', L9, E, ce, e0, Y', hL9, e1, e2, ⟨h', f2, f3, f4⟩, g1, g2, g3, go⟩
  · cases f1
    obtain ⟨t2, a1, b1⟩ := kr r h' f2 ls T'.heap (locs ++ L9) hL (by rw [e1]; exact f3) (hjoin T' t st₀ L9 e0 e1 f4 hL9) T' rfl Y'
    refine ⟨t2, go t2 ?_, b1⟩
    have hst : (r.map (am_rv G)).toList ++ st.map (am_rv G) = (r.toList ++ st).map (am_rv G) := by cases r <;> rfl
    show Steps p.tables e below (T'.setTop (F0 m (pc + 3) ls ((r.map (am_rv G)).toList ++ st.map (am_rv G)))) t2
    rw [hst]
    exact a1
  · obtain ⟨t2, a1, b1⟩ := kx E h' f2 ls T'.heap (locs ++ L9) q ce (st.map (am_rv G)) hL (by rw [e1]; exact f3) (hjoin T' t st₀ L9 e0 e1 f4 hL9) (by rw [e1]; exact g1) g2 g3 T' rfl Y'
    exact ⟨t2, go.trans a1, b1⟩
theorem va_Run.vx {mc' ms' : Nat} {ls : Array Slot} {H : Heap} {locs : List Loc} {st0 rest : List Value} {Qa : State → Outcome → State → Prop} {XC : String → State → State → Prop} {free : Addr → Prop}
    (hr : va_Run p l e R s m args below meth c H locs k n mc' ms' (F0 m pc ls st0) rest Qa free) : vx_Run p l e R s m args below meth c H locs k n mc' ms' (F0 m pc ls st0) rest Qa XC free := fun T hT Y => Or.inl (hr T hT Y)
theorem am_gi {ws : List Cond} {cw : Cond} (h1 : ∀ w ∈ ws, w ∈ lw_gw) (h2 : cw ∈ lw_gw) : GoodIn lw_gw (ws ++ (cw :: lw_gw)) := by
  have hg : ∀ w ∈ lw_gw, w ∈ lw_gw ∧ ((w.onTables && w.keeps) = true ∨ ∃ ty, w = .arrayClass ty) := fun w hw => ⟨hw, good_of_word (List.mem_filter.mp hw).2⟩
  intro w hw
  rcases List.mem_append.mp hw with h | h
  · exact hg w (h1 w h)
  · rcases List.mem_cons.mp h with h | h
    · rw [h]; exact hg cw h2
    · exact hg w h
theorem am_cats : (st.map (am_rv G)).map (fun v => v.category) = st.map fun v => v.category := by
  rw [List.map_map]
  exact List.map_congr_left fun v _ => am_rv_cat G v
theorem am_recv {b tb : Nat} {vb : List Value} {C : String} {T : u_T} {N : Nat} {H : Heap} (hk : am_K G s) (hkt : am_kt G H) (hH : am_H G h H) (hb : am_g G h b = some (tb, vb)) (htb : tb % 100 < 50) (hcl : am_cl[tb % 100]? = some (C, T, N)) : ∃ cellB : Cell, H[am_ad G b]? = some cellB ∧ cellB.vm.isStatics = false ∧ s.vm.findClass C = some cellB.cls := by
  obtain ⟨cell, q1, q2⟩ := am_cell hH hkt hb (by show tb % 100 < 62; omega)
  obtain ⟨r, h1, -, h3, -⟩ := q2.2.2.1 htb
  have h1' : am_cl[tb % 100]? = some r := h1
  cases hcl.symm.trans h1'
  exact ⟨cell, q1, q2.2.1, by rw [h3]; exact (hk.1 _ _ hcl).2.1⟩
theorem am_R.callV (X : am_Cx l G p s m args meth c own cc nL ret) {i b tb : Nat} {y : MethodName} {bytes : ByteArray} {maxL fr lo mc' ms' : Nat} {rt : Option FieldType} (a1 : List Value) {vb : List Value} {T : u_T} {N : Nat} {P' : am_O → List am_C → Prop}
    (hM : am_M l G y (.code y bytes maxL rt) fr lo mc' ms' (.ref b :: a1) h P') (hcw : Cond.code y bytes maxL rt ∈ lw_gw) (hl : Cond.methodLink own i y ∈ lw_gw) (hin : Cond.instanceMethod y ∈ lw_gw) (hse : Cond.selects y.cls y y ∈ lw_gw) (hini : Cond.initialized y.cls ∈ lw_gw)
    (hd : y.cls ≠ "java/lang/invoke/MethodHandle" ∧ y.cls ≠ "java/lang/invoke/VarHandle" ∧ (parseMethodDescriptor y.desc).map (fun d => d.parameters.length) = some a1.length) (hR : fr + 1 ≤ R.frames ∧ 8 + (maxL + 11) + lo ≤ R.locals) (hLn : L.length = nL) (hst : (st.map fun v => v.category).sum ≤ 8)
    (hb : am_g G h b = some (tb, vb)) (htb : tb % 100 < 50) (hcl : am_cl[tb % 100]? = some (y.cls, T, N)) (hf : k + mc' ≤ R.cells ∧ n + ms' ≤ R.slots) (d : decode cc pc = .ok (.invokevirtual i, 3))
    (kr : ∀ (r : Option Value) (h' : List am_C), P' (.inl r) h' → am_R G p l e R s m args below meth c mc ms Post (pc + 3) L (r.toList ++ st) h' (k + mc') (n + ms'))
    (kx : ∀ (E : String) (h' : List am_C), P' (.inr E) h' → am_RX G p l e R s m args below meth c mc ms Post E pc L h' (k + mc') (n + ms')) : am_R G p l e R s m args below meth c mc ms Post pc L (a1.reverse ++ .ref b :: st) h k n := by
  intro ls H locs hL hH hS
  refine am_post hL hS (vx_runV (As := a1.map (am_rv G)) (b := am_ad G b) ⟨X.1, X.2.1, X.2.2.1, X.2.2.2.1, X.2.2.2.2.1⟩ hM (cwV a1.length X.2.2.2.2.1 (am_gi (ws := [.methodLink own i y, .instanceMethod y, .selects y.cls y y, .initialized y.cls]) (fun w hw => by simp only [List.mem_cons, List.not_mem_nil, or_false] at hw; rcases hw with rfl | rfl | rfl | rfl <;> assumption) hcw) rfl rfl rfl ⟨rfl, hd⟩ hR)
    ⟨am_P.blind, am_recv X.2.2.2.2.2.1.1 (am_kt_S X.2.2.2.2.2.1 hS) hH hb htb hcl, fun U hU hW => ⟨rfl, by rw [hU]; exact hH, X.2.2.2.2.2.1.at hS hU hW⟩⟩ rfl (by rw [List.length_map]) (by rw [← hLn]; exact hL.1) ?_ ?_ d hf) kr kx
  · show ((a1.reverse ++ .ref b :: st).map (am_rv G)) = _
    rw [List.map_append, List.map_reverse]
    rfl
  · show 2 * 0 + ((st.map (am_rv G)).map fun v => v.category).sum ≤ 8
    rw [am_cats]; omega
theorem am_R.callS (X : am_Cx l G p s m args meth c own cc nL ret) {i : Nat} {y : MethodName} {bytes : ByteArray} {maxL fr lo mc' ms' : Nat} {rt : Option FieldType} (a1 : List Value) {P' : am_O → List am_C → Prop}
    (hM : am_M l G y (.code y bytes maxL rt) fr lo mc' ms' a1 h P') (hcw : Cond.code y bytes maxL rt ∈ lw_gw) (hl : Cond.methodLink own i y ∈ lw_gw) (hsta : Cond.static y ∈ lw_gw) (hini : Cond.initialized y.cls ∈ lw_gw)
    (hd : y.cls ≠ "java/lang/invoke/MethodHandle" ∧ y.cls ≠ "java/lang/invoke/VarHandle" ∧ (parseMethodDescriptor y.desc).map (fun d => d.parameters.length) = some a1.length) (hR : fr + 1 ≤ R.frames ∧ 8 + (maxL + 11) + lo ≤ R.locals) (hLn : L.length = nL) (hst : (st.map fun v => v.category).sum ≤ 8)
    (hf : k + mc' ≤ R.cells ∧ n + ms' ≤ R.slots) (d : decode cc pc = .ok (.invokestatic i, 3))
    (kr : ∀ (r : Option Value) (h' : List am_C), P' (.inl r) h' → am_R G p l e R s m args below meth c mc ms Post (pc + 3) L (r.toList ++ st) h' (k + mc') (n + ms'))
    (kx : ∀ (E : String) (h' : List am_C), P' (.inr E) h' → am_RX G p l e R s m args below meth c mc ms Post E pc L h' (k + mc') (n + ms')) : am_R G p l e R s m args below meth c mc ms Post pc L (a1.reverse ++ st) h k n := by
  intro ls H locs hL hH hS
  have hgi := am_gi (ws := []) (fun w hw => by cases hw) hcw
  refine am_post hL hS (vx_runS (As := a1.map (am_rv G)) ⟨X.1, X.2.1, X.2.2.1, X.2.2.2.1, X.2.2.2.2.1⟩ hM ⟨callB_of a1.length X.2.2.2.2.1 hgi rfl rfl rfl (X.2.2.2.2.1 _ hini) (X.2.2.2.2.1 _ hl) hd hR, X.2.2.2.2.1 _ hsta⟩
    ⟨am_P.blind, fun U hU hW => ⟨rfl, by rw [hU]; exact hH, X.2.2.2.2.2.1.at hS hU hW⟩⟩ rfl (by rw [List.length_map]) (by rw [← hLn]; exact hL.1) ?_ ?_ d hf) kr kx
  · show ((a1.reverse ++ st).map (am_rv G)) = _
    rw [List.map_append, List.map_reverse]
  · show 2 * 0 + ((st.map (am_rv G)).map fun v => v.category).sum ≤ 8
    rw [am_cats]; omega
end AMC
end
