/-! A METHOD'S CONTRACT OUT OF ITS WALK -/
def am_cm (l : Launch) (G : am_G) (y : MethodName) (cw : Jvm.Cond) (fr lo : Nat) : ck_CM := fun a h mc ms P => am_M l G y cw fr lo mc ms a h P
/-- the same of a method that throws nothing -/
def am_cn (l : Launch) (G : am_G) (y : MethodName) (cw : Jvm.Cond) (fr lo : Nat) : ck_CM := fun a h mc ms P => am_M l G y cw fr lo mc ms a h P ∧ ∀ E h', ¬ P (.inr E) h'
theorem am_cn_ok {l : Launch} {G : am_G} {y : MethodName} {cw : Jvm.Cond} {fr lo : Nat} {X : ck_XT} {T : ck_TT} {c : ck_KK} (h : ck_Con (am_cm l G y cw fr lo) G X T c) (hx : c.2.2.2.2.2 = []) : ck_Con (am_cn l G y cw fr lo) G X T c :=
  fun K r s a h' h1 h2 h3 h4 h5 h6 mc ms h7 h8 => ⟨h K r s a h' h1 h2 h3 h4 h5 h6 mc ms h7 h8, fun E h'' hp => by
    have := hp.2.2.2
    dsimp only at this
    rw [hx] at this
    cases this⟩
/-- a call's step, wherever the caller stands -/
def ck_any (l : Launch) (G : am_G) (own : String) (nL fr lo : Nat) (ins : Instr) (len : Nat) (rc : Option Nat) (na : Nat) (CM : ck_CM) : Prop :=
  ∀ (p : Program) (e : Env) (s : State) (m : MethodId) (args : Array Value) (below : List Frame) (meth : Method) (c : Code) (mc ms : Nat) (Post : am_O → List am_C → Prop) (cc : ByteArray) (ret : Option FieldType) (pc : Nat), am_Cx l G p s m args meth c own cc nL ret → decode cc pc = .ok (ins, len) →
    ck_sQ G (am_S G p l e { frames := fr, cells := mc, slots := ms, locals := lo } s m args below meth c mc ms Post) (am_SX G p l e { frames := fr, cells := mc, slots := ms, locals := lo } s m args below meth c mc ms Post pc) mc ms nL pc (pc + len) rc CM na
def ck_anyL (l : Launch) (G : am_G) (own : String) (nL fr lo : Nat) (f : Nat → Instr) (cm : Nat → ck_CM) (cl : List ck_Cl) (q : Nat × Nat) : Prop := match cl[q.2]? with
  | some (rc, na, _) => ck_any l G own nL fr lo (f q.1) 3 rc na (cm q.2)
  | none => True
def ck_anyF (l : Launch) (G : am_G) (own : String) (nL fr lo : Nat) (cm : Nat → ck_CM) (cl : List ck_Cl) (q : Nat × Nat) : Prop := match cl[q.2]? with
  | some (rc, na, _) => ∀ cn, ck_any l G own nL fr lo (.invokeinterface q.1 cn) 5 rc na (cm q.2)
  | none => True
/-- a throw's step -/
def ck_anyZ (l : Launch) (G : am_G) (own : String) (cc : ByteArray) (nL fr lo pc : Nat) (Ex : String) : Prop :=
  ∀ (p : Program) (e : Env) (s : State) (m : MethodId) (args : Array Value) (below : List Frame) (meth : Method) (c : Code) (mc ms : Nat) (Post : am_O → List am_C → Prop) (ret : Option FieldType), am_Cx l G p s m args meth c own cc nL ret → (∀ x ∈ c.exceptionTable.toList, False) →
    ck_sZ (am_S G p l e { frames := fr, cells := mc, slots := ms, locals := lo } s m args below meth c mc ms Post) Post mc ms nL pc Ex
theorem ck_Rt.of {rt : List Nat} {s : List Nat} {w : ck_W} (hw : w.2.2.2.2.2.2.2.2 = ck_rq rt s) (hs : w.2.2.2.2.2.2.1 = s) (h : ck_rtk rt s.length = true) : ck_Rt w rt := by
  intro t ht
  unfold ck_rtk at h
  split at h
  · cases ht
  · next t0 =>
    rw [List.mem_singleton] at ht
    subst ht
    cases s with
    | nil => cases h
    | cons q u => exact ⟨q, by rw [hs]; rfl, by rw [hw]; exact List.mem_cons_self⟩
  · cases h
set_option maxHeartbeats 8000000 in
theorem ck_meth {l : Launch} {G : am_G} (hl : l.stackTraces = false) {X : ck_XT} {T : ck_TT} (hX : ck_XO X) (hX0 : ck_X0 X) (hKT : ck_KT G T) (hW : ∀ t, t < 100 → ck_wr T t = true)
    {y : MethodName} {cc : ByteArray} {nL : Nat} {ret : Option FieldType} {fr lo fuel : Nat} {E : ck_E} {tb : ck_TB} {init : Bool} {cm : Nat → ck_CM} (hy : plainFor y = true) (hT : E.1 = T) (hnL : E.2.2.2.1 = nL) (hhd : E.2.2.2.2.2.2.1 = []) (hay : (ck_lay E.2.2.1.1.2.2.2.2).length ≤ nL)
    (hchk : ck_chk E fuel = true) (hdec : ck_dec cc tb E.2.2.2.2.1 = true) (h1 : ck_ok1 y.cls tb) (h2 : ck_puts y.cls init tb) (hin : init = true → y.name = "<init>") (h3 : ck_rj tb.2.2.2.2.2.2.2.2.2.2.2.2 ret) (hfr : 1 ≤ fr) (hlo : 20 ≤ lo)
    (hoi : Cond.instanceMethod objectInit ∈ lw_gw ∧ Cond.code objectInit ⟨#[0xb1]⟩ 1 none ∈ lw_gw) (har : Cond.arrayClass .int ∈ lw_gw ∧ Cond.arrayClass .byte ∈ lw_gw ∧ Cond.arrayClass .long ∈ lw_gw)
    (hpr : ∀ s, am_kon G s → (∀ a w, w ∈ lw_gw → w.before a s = true) ∨ True → ∀ q ∈ E.2.1, 53 ≤ q.1 ∧ q.2 < 59 ∧ am_asg G s q.1 q.2) (hca : ∀ s, am_kon G s → ∀ q ∈ tb.2.2.2.2.2.2.2.1, ∃ nm, Cond.classLink y.cls q.1 nm ∈ lw_gw ∧ ∀ k ∈ q.2, k < 59 ∧ am_isa G s k nm)
    (hcl : ∀ (i : Nat) (x : ck_Cl), E.2.2.2.2.2.1[i]? = some x → ∀ c ∈ x.2.2, ck_Con (cm i) G X T c)
    (hv : ∀ q ∈ tb.2.2.2.2.2.2.2.2.1.1, ck_anyL l G y.cls nL fr lo .invokevirtual cm E.2.2.2.2.2.1 q) (hs : ∀ q ∈ tb.2.2.2.2.2.2.2.2.1.2.1, ck_anyL l G y.cls nL fr lo .invokespecial cm E.2.2.2.2.2.1 q) (ht : ∀ q ∈ tb.2.2.2.2.2.2.2.2.1.2.2.1, ck_anyL l G y.cls nL fr lo .invokestatic cm E.2.2.2.2.2.1 q) (hf : ∀ q ∈ tb.2.2.2.2.2.2.2.2.1.2.2.2, ck_anyF l G y.cls nL fr lo cm E.2.2.2.2.2.1 q)
    (hth : ∀ q ∈ tb.2.2.2.2.2.2.2.2.2.1, ∀ Ex, E.2.2.1.2.2.2.2.2[q.2]? = some Ex → ck_anyZ l G y.cls cc nL fr lo q.1 Ex) (hn5 : ∀ f ∈ ck_g5 E, ck_nopP G (cm f)) : ck_Con (am_cm l G y (.code y cc nL ret) fr lo) G X T E.2.2.1 := by
  intro K r s0 a h hH hV hC hF hn hS mc ms hmc hms
  unfold ck_chk at hchk
  simp only [Bool.and_eq_true] at hchk
  obtain ⟨c1, c2, c3, c4⟩ := hchk
  have hlen : ∀ B : List Value, ck_stk r s0 E.2.2.1.1.2.2.2.2 B → (am_lay B).length ≤ nL := fun B hB => by rw [(ck_lay_ok hB).1]; exact hay
  refine am_M.of hl hy (hlen a hS) fun p e s m args below meth c X9 hname htab => ?_
  have hkon := X9.2.2.2.2.2.1
  let w : ck_W := (G, X, T, K, h, r, s0, E.2.2.1.2.2.1, ck_rq E.2.2.1.2.2.2.1 s0)
  have hRt : ck_Rt w E.2.2.1.2.2.2.1 := ck_Rt.of rfl rfl (by rw [hn]; exact c4)
  have hctx : ck_Ctx E w (am_S G p l e { frames := fr, cells := mc, slots := ms, locals := lo } s m args below meth c mc ms (ck_Po G X T K E.2.2.1 r s0 h)) (am_SX G p l e { frames := fr, cells := mc, slots := ms, locals := lo } s m args below meth c mc ms (ck_Po G X T K E.2.2.1 r s0 h)) mc ms cm r s0 := by
    refine ⟨hX, hX0, hT.symm, hW, rfl, rfl, hRt, ⟨hmc, hms⟩, ⟨[], by rw [List.append_nil]⟩, ⟨[], by rw [List.append_nil]⟩, hV.1.symm, hn, hcl, fun pc q hq => ?_, fun pc Ex L h' k n _ hp hk hn' => am_RX.out X9 (fun x hx => (htab x hx).elim) hk hn' hp, fun pc => am_s_retag, fun pc L st h' k n k' n' hk hn' hh => am_R.widen hk hn' hh, hKT, hn5⟩
    rw [hhd] at hq
    cases hq
  refine ck_all_ok (w := w) hctx rfl rfl (fun x hx => ?_) c1 c2 (A := ck_A0 E.2.2.1 E.2.2.2.1) (r := r) (s := s0) ?_
  · have hd := List.all_eq_true.mp hdec x hx
    split at hd
    · next ins len hdc =>
      split at hd
      · next o ho =>
        exact ck_os_same hd (ck_tr_ok X9 h1 h2 (fun z => hname.trans (hin z)) h3 (hpr s hkon (Or.inr trivial)) (hca s hkon) hnL hfr hlo hoi har rfl rfl
          (fun q hq pc d => by
            have := hv q hq
            unfold ck_anyL at this
            unfold ck_cq
            split
            · next hz => rw [hz] at this; rw [hnL]; exact this p e s m args below meth c mc ms _ cc ret pc X9 d
            · trivial)
          (fun q hq pc d => by
            have := hs q hq
            unfold ck_anyL at this
            unfold ck_cq
            split
            · next hz => rw [hz] at this; rw [hnL]; exact this p e s m args below meth c mc ms _ cc ret pc X9 d
            · trivial)
          (fun q hq pc d => by
            have := ht q hq
            unfold ck_anyL at this
            unfold ck_cq
            split
            · next hz => rw [hz] at this; rw [hnL]; exact this p e s m args below meth c mc ms _ cc ret pc X9 d
            · trivial)
          (fun q hq pc cn d => by
            have := hf q hq
            unfold ck_anyF at this
            unfold ck_cq
            split
            · next hz => rw [hz] at this; rw [hnL]; exact this cn p e s m args below meth c mc ms _ cc ret pc X9 d
            · trivial)
          (fun q hq Ex hE => by rw [hnL]; exact hth q hq Ex hE p e s m args below meth c mc ms _ ret X9 htab) hdc ho)
      · cases hd
    · cases hd
  · refine ⟨hV, hC, fun f hf9 => ?_, hn, by rw [hnL]; exact ck_ent_ok hS nL, trivial, ck_Lv.k r 0, ck_Lv.k r 0, hH, ck_Kp.rf, Nat.le_refl _, ⟨[], by rw [List.append_nil]⟩, ⟨[], by rw [List.append_nil]⟩⟩
    exact (hF f hf9).z5 (List.all_eq_true.mp c3 f hf9)
set_option maxHeartbeats 8000000 in
theorem ck_methH {l : Launch} {G : am_G} (hl : l.stackTraces = false) {X : ck_XT} {T : ck_TT} (hX : ck_XO X) (hX0 : ck_X0 X) (hKT : ck_KT G T) (hW : ∀ t, t < 100 → ck_wr T t = true)
    {y : MethodName} {cc : ByteArray} {nL : Nat} {ret : Option FieldType} {fr lo fuel : Nat} {E : ck_E} {tb : ck_TB} {init : Bool} {cm : Nat → ck_CM} (hy : plainName y.cls = true) (hT : E.1 = T) (hnL : E.2.2.2.1 = nL) {hh : List (Nat × Nat × Nat × Nat)} (hhd : ∀ (pc : Nat), ∀ q ∈ ck_at [] pc E.2.2.2.2.2.2.1, am_ct y.cls cc nL pc hh q.1 q.2) (hxs : E.2.2.1.2.2.2.2.2 = []) (hay : (ck_lay E.2.2.1.1.2.2.2.2).length ≤ nL)
    (hchk : ck_chk E fuel = true) (hdec : ck_dec cc tb E.2.2.2.2.1 = true) (h1 : ck_ok1 y.cls tb) (h2 : ck_puts y.cls init tb) (hin : init = false) (h3 : ck_rj tb.2.2.2.2.2.2.2.2.2.2.2.2 ret) (hfr : 1 ≤ fr) (hlo : 20 ≤ lo)
    (hoi : Cond.instanceMethod objectInit ∈ lw_gw ∧ Cond.code objectInit ⟨#[0xb1]⟩ 1 none ∈ lw_gw) (har : Cond.arrayClass .int ∈ lw_gw ∧ Cond.arrayClass .byte ∈ lw_gw ∧ Cond.arrayClass .long ∈ lw_gw)
    (hpr : ∀ s, am_kon G s → (∀ a w, w ∈ lw_gw → w.before a s = true) ∨ True → ∀ q ∈ E.2.1, 53 ≤ q.1 ∧ q.2 < 59 ∧ am_asg G s q.1 q.2) (hca : ∀ s, am_kon G s → ∀ q ∈ tb.2.2.2.2.2.2.2.1, ∃ nm, Cond.classLink y.cls q.1 nm ∈ lw_gw ∧ ∀ k ∈ q.2, k < 59 ∧ am_isa G s k nm)
    (hcl : ∀ (i : Nat) (x : ck_Cl), E.2.2.2.2.2.1[i]? = some x → ∀ c ∈ x.2.2, ck_Con (cm i) G X T c)
    (hv : ∀ q ∈ tb.2.2.2.2.2.2.2.2.1.1, ck_anyL l G y.cls nL fr lo .invokevirtual cm E.2.2.2.2.2.1 q) (hs : ∀ q ∈ tb.2.2.2.2.2.2.2.2.1.2.1, ck_anyL l G y.cls nL fr lo .invokespecial cm E.2.2.2.2.2.1 q) (ht : ∀ q ∈ tb.2.2.2.2.2.2.2.2.1.2.2.1, ck_anyL l G y.cls nL fr lo .invokestatic cm E.2.2.2.2.2.1 q) (hf : ∀ q ∈ tb.2.2.2.2.2.2.2.2.1.2.2.2, ck_anyF l G y.cls nL fr lo cm E.2.2.2.2.2.1 q)
    (hth : tb.2.2.2.2.2.2.2.2.2.1 = []) (hn5 : ∀ f ∈ ck_g5 E, ck_nopP G (cm f)) : ck_Con (am_cm l G y (.codeWith y cc nL ret hh) fr lo) G X T E.2.2.1 := by
  intro K r s0 a h hH hV hC hF hn hS mc ms hmc hms
  unfold ck_chk at hchk
  simp only [Bool.and_eq_true] at hchk
  obtain ⟨c1, c2, c3, c4⟩ := hchk
  have hlen : ∀ B : List Value, ck_stk r s0 E.2.2.1.1.2.2.2.2 B → (am_lay B).length ≤ nL := fun B hB => by rw [(ck_lay_ok hB).1]; exact hay
  refine am_M.ofH hl hy (hlen a hS) fun p e s m args below meth c X9 htab => ?_
  have hkon := X9.2.2.2.2.2.1
  let w : ck_W := (G, X, T, K, h, r, s0, E.2.2.1.2.2.1, ck_rq E.2.2.1.2.2.2.1 s0)
  have hRt : ck_Rt w E.2.2.1.2.2.2.1 := ck_Rt.of rfl rfl (by rw [hn]; exact c4)
  have hctx : ck_Ctx E w (am_S G p l e { frames := fr, cells := mc, slots := ms, locals := lo } s m args below meth c mc ms (ck_Po G X T K E.2.2.1 r s0 h)) (am_SX G p l e { frames := fr, cells := mc, slots := ms, locals := lo } s m args below meth c mc ms (ck_Po G X T K E.2.2.1 r s0 h)) mc ms cm r s0 := by
    refine ⟨hX, hX0, hT.symm, hW, rfl, rfl, hRt, ⟨hmc, hms⟩, ⟨[], by rw [List.append_nil]⟩, ⟨[], by rw [List.append_nil]⟩, hV.1.symm, hn, hcl, fun pc q hq => ?_, fun pc Ex L h' k n _ hp hk hn' => (by have h5 := hp.2.2.2; dsimp only at h5; rw [hxs] at h5; cases h5), fun pc => am_s_retag, fun pc L st h' k n k' n' hk hn' hh => am_R.widen hk hn' hh, hKT, hn5⟩
    intro L h' k n hl9 hk9
    rw [hnL] at hl9 hk9
    exact am_RX.catchS X9 htab (hhd pc q hq) hl9 hk9
  refine ck_all_ok (w := w) hctx rfl rfl (fun x hx => ?_) c1 c2 (A := ck_A0 E.2.2.1 E.2.2.2.1) (r := r) (s := s0) ?_
  · have hd := List.all_eq_true.mp hdec x hx
    split at hd
    · next ins len hdc =>
      split at hd
      · next o ho =>
        exact ck_os_same hd (ck_tr_ok X9 h1 h2 (fun z => absurd z (by rw [hin]; decide)) h3 (hpr s hkon (Or.inr trivial)) (hca s hkon) hnL hfr hlo hoi har rfl rfl
          (fun q hq pc d => by
            have := hv q hq
            unfold ck_anyL at this
            unfold ck_cq
            split
            · next hz => rw [hz] at this; rw [hnL]; exact this p e s m args below meth c mc ms _ cc ret pc X9 d
            · trivial)
          (fun q hq pc d => by
            have := hs q hq
            unfold ck_anyL at this
            unfold ck_cq
            split
            · next hz => rw [hz] at this; rw [hnL]; exact this p e s m args below meth c mc ms _ cc ret pc X9 d
            · trivial)
          (fun q hq pc d => by
            have := ht q hq
            unfold ck_anyL at this
            unfold ck_cq
            split
            · next hz => rw [hz] at this; rw [hnL]; exact this p e s m args below meth c mc ms _ cc ret pc X9 d
            · trivial)
          (fun q hq pc cn d => by
            have := hf q hq
            unfold ck_anyF at this
            unfold ck_cq
            split
            · next hz => rw [hz] at this; rw [hnL]; exact this cn p e s m args below meth c mc ms _ cc ret pc X9 d
            · trivial)
          (fun q hq Ex hE => by rw [hth] at hq; cases hq) hdc ho)
      · cases hd
    · cases hd
  · refine ⟨hV, hC, fun f hf9 => ?_, hn, by rw [hnL]; exact ck_ent_ok hS nL, trivial, ck_Lv.k r 0, ck_Lv.k r 0, hH, ck_Kp.rf, Nat.le_refl _, ⟨[], by rw [List.append_nil]⟩, ⟨[], by rw [List.append_nil]⟩⟩
    exact (hF f hf9).z5 (List.all_eq_true.mp c3 f hf9)
theorem ck_at1 {own : String} {cc : ByteArray} {nL : Nat} {hh : List (Nat × Nat × Nat × Nat)} {pc0 : Nat} {l : List (String × Nat)} (h : ∀ q ∈ l, am_ct own cc nL pc0 hh q.1 q.2) : ∀ (pc : Nat), ∀ q ∈ ck_at [] pc [(pc0, l)], am_ct own cc nL pc hh q.1 q.2 := by
  intro pc q hq
  unfold ck_at at hq
  cases hc : Nat.beq pc0 pc
  · rw [hc, cond_false] at hq
    cases hq
  · rw [hc, cond_true] at hq
    obtain rfl := ck_beq hc
    exact h q hq
