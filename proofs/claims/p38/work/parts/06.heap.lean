section AMH
variable {G : am_G} {p : Program} {l : Launch} {e : Env} {R : Room} {s : State} {m : MethodId} {args : Array Value} {below : List Frame} {meth : Method} {c : Code} {mc ms : Nat} {Post : am_O → List am_C → Prop}
variable {own : String} {cc : ByteArray} {nL pc : Nat} {ret : Option FieldType} {L : List (Option Value)} {st : List Value} {h : List am_C} {k n : Nat}
/-- a field: the class numbered ci, its place j, final or not, its type -/
def am_fd (ci j : Nat) (fin : Bool) (ty : FieldType) : Prop :=
  ∃ (C : String) (T : u_T) (N : Nat) (ty0 : Nat → FieldType), am_cl[ci]? = some (C, T, N) ∧ j < N ∧ (∀ w ∈ u_ws C T N, w ∈ lw_gw) ∧ (∀ k, k < N → parseFieldDescriptor (T k).2.2.1 = some (ty0 k)) ∧ (∀ a, a < N → ∀ b, b < N → a ≠ b → (T a).2.1 ≠ (T b).2.1) ∧ (T j).2.2.2 = fin ∧ parseFieldDescriptor (T j).2.2.1 = some ty
/-- the constant pool's entry i of the class own names that field -/
def am_fl (own : String) (i ci j : Nat) : Prop :=
  ∃ (C : String) (T : u_T) (N : Nat), am_cl[ci]? = some (C, T, N) ∧ (Cond.fieldLink own i (T j).1 (T j).2.1 (T j).2.2.1 ∈ lw_gw ∨ (∃ host : String, Cond.fieldLinkNest own i (T j).1 (T j).2.1 (T j).2.2.1 host ∈ lw_ng) ∨ ∃ ref : String, Cond.fieldLink own i ref (T j).2.1 (T j).2.2.1 ∈ lw_gw ∧ Cond.sameField ref (T j).1 (T j).2.1 (T j).2.2.1 ∈ lw_gw)
/-- an inherited field under its two names -/
theorem am_sameF {A : Array Value} {s : State} {ref owner name desc : String} {r : ClassId × Class × Nat × Field} (w : (Cond.sameField ref owner name desc).before A s = true) (h : s.fieldFound? owner name desc = some r) : s.fieldFound? ref name desc = some r := by
  obtain ⟨a, b, c, d⟩ := r
  cases hr : s.fieldFound? ref name desc with
  | none =>
    simp [Cond.before, Cond.holds, Cond.value, hr] at w
  | some y =>
    obtain ⟨c1, k1, i1, f1⟩ := y
    have := Cond.sameField_spec hr w
    rw [this] at h
    exact h
theorem am_R.getf (X : am_Cx l G p s m args meth c own cc nL ret) {i ci j a t : Nat} {fin : Bool} {ty : FieldType} {vs : List Value} {v : Value} (hf : am_fd ci j fin ty) (hl : am_fl own i ci j) (hg : am_g G h a = some (t, vs)) (ht : t % 100 = ci) (hci : ci < 50) (hv : vs[j]? = some v)
    (d : decode cc pc = .ok (.getfield i, 3)) (kk : am_R G p l e R s m args below meth c mc ms Post (pc + 3) L (v :: st) h k n) : am_R G p l e R s m args below meth c mc ms Post pc L (.ref a :: st) h k n := by
  intro ls H locs hL hH hS
  obtain ⟨C, T, N, ty0, e1, hj, hin, -, -, -, -⟩ := hf
  obtain ⟨C', T', N', e1', hl⟩ := hl
  cases e1.symm.trans e1'
  obtain ⟨cell, q1, q2, q3, q4, -⟩ := am_cell hH (am_kt_S X.2.2.2.2.2.1 hS) hg (by show t % 100 < 62; omega)
  obtain ⟨r, h1, -, h3, h4⟩ := q4 (by show t % 100 < 50; omega)
  have h1' : am_cl[t % 100]? = some r := h1
  rw [ht, e1] at h1'
  cases h1'
  obtain ⟨hK, -⟩ := X.2.2.2.2.2.1.1
  obtain ⟨hSl, hfc, kC, hkC, hkind⟩ := hK ci _ e1
  obtain ⟨cf, kf, fi, f, hi, hsl⟩ := hSl j hj
  have h4' := h4 j v hv
  have ht' : ((t, vs).1 % 100) = ci := ht
  rw [ht'] at h4'
  have hst := (u_facts hfc hkC (u_lays X.2.2.2.2.1 hin hj) hi).1
  rcases hl with hl | ⟨host, hl⟩ | ⟨ref, hl, hsm⟩
  · exact W.getf X.1 X.2.1 X.2.2.2.1 (X.2.2.2.2.1 _ hl) hi hst q1 q2 (v := am_rv G v) (by rw [hsl]; exact h4') rfl rfl d (kk ls H locs hL hH hS)
  rotate_left
  · exact W.getf X.1 X.2.1 X.2.2.2.1 (X.2.2.2.2.1 _ hl) (am_sameF (X.2.2.2.2.1 _ hsm) hi) hst q1 q2 (v := am_rv G v) (by rw [hsl]; exact h4') rfl rfl d (kk ls H locs hL hH hS)
  · exact va_Wgetf X.1 X.2.1 X.2.2.2.1 (va_Nw.use rfl (X.2.2.2.2.2.1.2.2.2.2.2.2.2 _ hl)) hi hst q1 q2 (v := am_rv G v) (by rw [hsl]; exact h4') rfl rfl d (kk ls H locs hL hH hS)
theorem am_ro.set {t j : Nat} {vs : List Value} {v : Value} {cell : Cell} {C : String} {T : u_T} {N ci : Nat} (hq : am_ro G (t, vs) cell) (ht : t % 100 = ci) (hci : ci < 50) (hc : am_cl[ci]? = some (C, T, N)) (hj : j < N) (hap : ∀ x y, x < N → y < N → x ≠ y → G.1.2 ci x ≠ G.1.2 ci y) (hlt : G.1.2 ci j < cell.slots.size) : am_ro G (t, vs.set j v) (cell.setSlot (G.1.2 ci j) (am_rv G v)) := by
  obtain ⟨q2, q3, q4, -⟩ := hq
  refine ⟨q2, q3, fun _ => ?_, fun z => by exfalso; have : 50 ≤ t % 100 := z; omega⟩
  obtain ⟨r, h1, h2, h3, h4⟩ := q4 (by show t % 100 < 50; omega)
  have h1' : am_cl[t % 100]? = some r := h1
  rw [ht, hc] at h1'
  cases h1'
  refine ⟨_, h1, by simpa using h2, h3, fun i w hw => ?_⟩
  have hw' : (vs.set j v)[i]? = some w := hw
  show (cell.setSlot (G.1.2 ci j) (am_rv G v)).slots[G.1.2 (t % 100) i]? = _
  rw [ht]
  by_cases e : j = i
  · subst e
    have hl : j < vs.length := by have := (List.getElem?_eq_some_iff.mp hw').1; simpa using this
    rw [List.getElem?_set_self hl] at hw'
    cases hw'
    exact Cell.slots_setSlot_self _ hlt
  · rw [List.getElem?_set_ne e] at hw'
    have hi : i < N := by
      have h2' : N = vs.length := h2
      rw [h2']
      exact (List.getElem?_eq_some_iff.mp hw').1
    rw [slot_ne _ _ (hap j i hj hi e)]
    have := h4 i w hw'
    have ht' : ((t, vs).1 % 100) = ci := ht
    rw [ht'] at this
    exact this
theorem am_R.putf (X : am_Cx l G p s m args meth c own cc nL ret) {i ci j a t : Nat} {ty : FieldType} {vs : List Value} {v : Value} (hf : am_fd ci j false ty) (hl : am_fl own i ci j) (ha : 1000 ≤ a) (hg : am_g G h a = some (t, vs)) (ht : t % 100 = ci) (hci : ci < 50) (hn : narrow ty (am_rv G v) = am_rv G v) (hfit : fits ty (am_rv G v) = true)
    (d : decode cc pc = .ok (.putfield i, 3)) (kk : am_R G p l e R s m args below meth c mc ms Post (pc + 3) L st (am_s h a (t, vs.set j v)) k n) : am_R G p l e R s m args below meth c mc ms Post pc L (v :: .ref a :: st) h k n := by
  intro ls H locs hL hH hS
  obtain ⟨C, T, N, ty0, e1, hj, hin, hty, hnm, hfin, hd⟩ := hf
  obtain ⟨C', T', N', e1', hl⟩ := hl
  cases e1.symm.trans e1'
  obtain ⟨cell, q1, q2, q3⟩ := am_cellD hH ha hg
  have hap := va_apart (own := own) X.2.2.2.2.1 hin ty0 hty hnm X.2.2.2.2.2.1.1 e1
  obtain ⟨r, h1, h2, h3, h4⟩ := q2.2.2.1 (by show t % 100 < 50; omega)
  have h1' : am_cl[t % 100]? = some r := h1
  rw [ht, e1] at h1'
  cases h1'
  have h3' : cell.cls = G.1.1 ci := by rw [← ht]; exact h3
  obtain ⟨hK, -⟩ := X.2.2.2.2.2.1.1
  obtain ⟨hSl, hfc, kC, hkC, hkind⟩ := hK ci _ e1
  obtain ⟨cf, kf, fi, f, hi, hsl⟩ := hSl j hj
  have hlay := X.2.2.2.2.1 _ (hin _ (u_in_lay hj))
  unfold u_lay at hlay
  rw [if_neg (by rw [hfin]; decide)] at hlay
  have hst := (u_facts hfc hkC (u_lays X.2.2.2.2.1 hin hj) hi).1
  have h6 := u_store hfc hkC hkind hlay hi hd hn hfit
  have hlv : j < vs.length := by have h2' : N = vs.length := h2; omega
  have hlt : G.1.2 ci j < cell.slots.size := by
    have := h4 j _ (List.getElem?_eq_getElem hlv)
    have ht' : ((t, vs).1 % 100) = ci := ht
    rw [ht'] at this
    exact (Array.getElem?_eq_some_iff.mp this).1
  have fin : ∀ H' : Heap, H'[am_ad G a]? = some (cell.setSlot f.slot (am_rv G v)) → H'.size = H.size → (∀ q, q ≠ am_ad G a → H'[q]? = H[q]?) → W p l e R s m args below meth c H' (locs ++ [⟨am_ad G a, f.slot⟩]) k n (vx_MQ below (am_Q G Post) (am_X G Post) args s mc ms (am_A G)) (F0 m (pc + 3) ls (st.map (am_rv G))) := by
    intro H' f1 f2 f3
    rw [hsl] at f1
    exact kk ls H' _ hL (hH.put ha (am_g_lt ha hg) f2 f3 ⟨_, f1, q2.set ht hci e1 hj hap hlt, q3⟩) (hS.put f2 f3 (am_ad_ge ha))
  rcases hl with hl | ⟨host, hl⟩ | ⟨ref, hl, hsm⟩
  rotate_right
  · exact W.putK X.1 X.2.1 (f := f) ⟨X.2.2.2.1, X.2.2.2.2.1 _ hl, ⟨_, _, _, am_sameF (X.2.2.2.2.1 _ hsm) hi⟩, hst⟩ (by rw [h3']; exact h6) q1 q3 (by rw [hsl]; exact hlt) rfl rfl d fin
  · exact W.putK X.1 X.2.1 (f := f) ⟨X.2.2.2.1, X.2.2.2.2.1 _ hl, ⟨_, _, _, hi⟩, hst⟩ (by rw [h3']; exact h6) q1 q3 (by rw [hsl]; exact hlt) rfl rfl d fin
  · exact va_WputK X.1 X.2.1 X.2.2.2.1 (va_Nw.use rfl (X.2.2.2.2.2.1.2.2.2.2.2.2.2 _ hl)) hi hst (by rw [h3']; exact h6) q1 q3 (by rw [hsl]; exact hlt) rfl rfl d fin
/-- a final field, in its class's constructor -/
theorem am_R.putF (X : am_Cx l G p s m args meth c own cc nL ret) (hin2 : meth.name = "<init>") {i ci j a t : Nat} {ty : FieldType} {vs : List Value} {v : Value} (hf : am_fd ci j true ty) (hl : am_fl own i ci j) (hdecl : ∀ r, am_cl[ci]? = some r → (r.2.1 j).1 = own) (ha : 1000 ≤ a) (hg : am_g G h a = some (t, vs)) (ht : t % 100 = ci) (hci : ci < 50) (hn : narrow ty (am_rv G v) = am_rv G v) (hfit : fits ty (am_rv G v) = true)
    (d : decode cc pc = .ok (.putfield i, 3)) (kk : am_R G p l e R s m args below meth c mc ms Post (pc + 3) L st (am_s h a (t, vs.set j v)) k n) : am_R G p l e R s m args below meth c mc ms Post pc L (v :: .ref a :: st) h k n := by
  intro ls H locs hL hH hS
  obtain ⟨C, T, N, ty0, e1, hj, hin, hty, hnm, hfin, hd⟩ := hf
  obtain ⟨C', T', N', e1', hl⟩ := hl
  cases e1.symm.trans e1'
  obtain ⟨cell, q1, q2, q3⟩ := am_cellD hH ha hg
  have hap := va_apart (own := own) X.2.2.2.2.1 hin ty0 hty hnm X.2.2.2.2.2.1.1 e1
  obtain ⟨r, h1, h2, h3, h4⟩ := q2.2.2.1 (by show t % 100 < 50; omega)
  have h1' : am_cl[t % 100]? = some r := h1
  rw [ht, e1] at h1'
  cases h1'
  have h3' : cell.cls = G.1.1 ci := by rw [← ht]; exact h3
  obtain ⟨hK, -⟩ := X.2.2.2.2.2.1.1
  obtain ⟨hSl, hfc, kC, hkC, hkind⟩ := hK ci _ e1
  obtain ⟨cf, kf, fi, f, hi, hsl⟩ := hSl j hj
  have hlay := X.2.2.2.2.1 _ (hin _ (u_in_lay hj))
  unfold u_lay at hlay
  rw [if_pos hfin] at hlay
  have hst := (u_facts hfc hkC (u_lays X.2.2.2.2.1 hin hj) hi).1
  have hcf : m.cls = cf := by
    obtain ⟨_, _, c', _, _, _, -, -, hf', -, -, -, hown2, -⟩ := Cond.laysFinal_spec hlay
    have e1 : c' = cf := by have := hi.symm.trans hf'; simp at this; exact this.1.symm
    rw [show (T j).1 = own from hdecl _ (by assumption)] at hown2
    rw [← e1]; exact Option.some.inj (X.2.2.2.1.symm.trans hown2)
  have h6 := u_fits hfc hkC hkind (Or.inr hlay) hi hd hn hfit
  have hlv : j < vs.length := by have h2' : N = vs.length := h2; omega
  have hlt : G.1.2 ci j < cell.slots.size := by
    have := h4 j _ (List.getElem?_eq_getElem hlv)
    have ht' : ((t, vs).1 % 100) = ci := ht
    rw [ht'] at this
    exact (Array.getElem?_eq_some_iff.mp this).1
  rcases hl with hl | ⟨host, hl⟩ | ⟨ref, hl, hsm⟩
  rotate_right
  · refine W.putFinK X.1 X.2.1 X.2.2.2.1 (X.2.2.2.2.1 _ hl) (am_sameF (X.2.2.2.2.1 _ hsm) hi) hst hcf hin2 (by rw [h3']; exact h6) q1 q3 (by rw [hsl]; exact hlt) rfl rfl d fun H' f1 f2 f3 => ?_
    rw [hsl] at f1
    exact kk ls H' _ hL (hH.put ha (am_g_lt ha hg) f2 f3 ⟨_, f1, q2.set ht hci e1 hj hap hlt, q3⟩) (hS.put f2 f3 (am_ad_ge ha))
  · refine W.putFinK X.1 X.2.1 X.2.2.2.1 (X.2.2.2.2.1 _ hl) hi hst hcf hin2 (by rw [h3']; exact h6) q1 q3 (by rw [hsl]; exact hlt) rfl rfl d fun H' f1 f2 f3 => ?_
    rw [hsl] at f1
    exact kk ls H' _ hL (hH.put ha (am_g_lt ha hg) f2 f3 ⟨_, f1, q2.set ht hci e1 hj hap hlt, q3⟩) (hS.put f2 f3 (am_ad_ge ha))
  · have ha9 : am_ad G a < H.size := (Array.getElem?_eq_some_iff.mp q1).1
    refine va_Wputf X.1 X.2.1 X.2.2.2.1 (va_Nw.use rfl (X.2.2.2.2.2.1.2.2.2.2.2.2.2 _ hl)) hi hst (Or.inr ⟨hcf, hin2⟩) q1 (by rw [q3]; exact fun h => by cases h) (by rw [hsl]; exact hlt) h6.1 (by rw [h3', q3]; exact h6.2) rfl rfl d ?_
    have f1 : (H.setIfInBounds (am_ad G a) (cell.setSlot f.slot (am_rv G v)))[am_ad G a]? = some (cell.setSlot f.slot (am_rv G v)) := by simp [Array.getElem?_setIfInBounds, ha9]
    have f2 : (H.setIfInBounds (am_ad G a) (cell.setSlot f.slot (am_rv G v))).size = H.size := by simp
    have f3 : ∀ q, q ≠ am_ad G a → (H.setIfInBounds (am_ad G a) (cell.setSlot f.slot (am_rv G v)))[q]? = H[q]? := fun q hq => by simp [Array.getElem?_setIfInBounds, Ne.symm hq]
    rw [hsl] at f1 f2 f3 ⊢
    exact kk ls _ _ hL (hH.put ha (am_g_lt ha hg) f2 f3 ⟨_, f1, q2.set ht hci e1 hj hap hlt, q3⟩) (hS.put f2 f3 (am_ad_ge ha))
end AMH
