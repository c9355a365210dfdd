/-! METHODS WALKED BY HAND: every instruction's step, for whatever holds behind it -/
def ck_hs (G : am_G) (S : ck_SS) (SX : Nat → ck_SX) (P : am_O → List am_C → Prop) (mc ms : Nat) (cm : Nat → ck_CM) (E : ck_E) : Prop := ∀ (n : Nat) (x : Nat × ck_O), E.2.2.2.2.1[n]? = some x → ck_os G S SX P mc ms cm E x.1 x.2
def ck_hw (S : ck_SS) : Prop := ∀ (pc : Nat) (L : List (Option Value)) (st : List Value) (h : List am_C) (k n k' n' : Nat), k ≤ k' → n ≤ n' → S pc L st h k' n' → S pc L st h k n
set_option maxHeartbeats 8000000 in
theorem ck_hand {l : Launch} {G : am_G} (hl : l.stackTraces = false) {y : MethodName} {cc : ByteArray} {nL : Nat} {ret : Option FieldType} {fr lo : Nat} {E : ck_E} {tb : ck_TB} {init : Bool} {cm : Nat → ck_CM} (hy : plainFor y = true) (hnL : E.2.2.2.1 = nL)
    (hdec : ck_dec cc tb E.2.2.2.2.1 = true) (h1 : ck_ok1 y.cls tb) (h2 : ck_puts y.cls init tb) (hin : init = true → y.name = "<init>") (h3 : ck_rj tb.2.2.2.2.2.2.2.2.2.2.2.2 ret) (hfr : 1 ≤ fr) (hlo : 20 ≤ lo)
    (hoi : Cond.instanceMethod objectInit ∈ lw_gw ∧ Cond.code objectInit ⟨#[0xb1]⟩ 1 none ∈ lw_gw) (har : Cond.arrayClass .int ∈ lw_gw ∧ Cond.arrayClass .byte ∈ lw_gw ∧ Cond.arrayClass .long ∈ lw_gw)
    (hpr : ∀ s, am_kon G s → (∀ a w, w ∈ lw_gw → w.before a s = true) ∨ True → ∀ q ∈ E.2.1, 53 ≤ q.1 ∧ q.2 < 59 ∧ am_asg G s q.1 q.2) (hca : ∀ s, am_kon G s → ∀ q ∈ tb.2.2.2.2.2.2.2.1, ∃ nm, Cond.classLink y.cls q.1 nm ∈ lw_gw ∧ ∀ k ∈ q.2, k < 59 ∧ am_isa G s k nm)
    (hv : ∀ q ∈ tb.2.2.2.2.2.2.2.2.1.1, ck_anyL l G y.cls nL fr lo .invokevirtual cm E.2.2.2.2.2.1 q) (hs : ∀ q ∈ tb.2.2.2.2.2.2.2.2.1.2.1, ck_anyL l G y.cls nL fr lo .invokespecial cm E.2.2.2.2.2.1 q) (ht : ∀ q ∈ tb.2.2.2.2.2.2.2.2.1.2.2.1, ck_anyL l G y.cls nL fr lo .invokestatic cm E.2.2.2.2.2.1 q) (hf : ∀ q ∈ tb.2.2.2.2.2.2.2.2.1.2.2.2, ck_anyF l G y.cls nL fr lo cm E.2.2.2.2.2.1 q)
    (hth : ∀ q ∈ tb.2.2.2.2.2.2.2.2.2.1, ∀ Ex, E.2.2.1.2.2.2.2.2[q.2]? = some Ex → ck_anyZ l G y.cls cc nL fr lo q.1 Ex)
    {a : List Value} {h : List am_C} {mc ms : Nat} {Post : am_O → List am_C → Prop} (hay : (am_lay a).length ≤ nL) (H : ∀ (S : ck_SS) (SX : Nat → ck_SX), ck_hs G S SX Post mc ms cm E → (∀ pc, ck_sR G S pc) → ck_hw S → S 0 (am_ent a nL) [] h 0 0) : am_M l G y (.code y cc nL ret) fr lo mc ms a h Post := by
  refine am_M.of hl hy hay fun p e s m args below meth c X9 hname htab => ?_
  have hkon := X9.2.2.2.2.2.1
  refine H (am_S G p l e { frames := fr, cells := mc, slots := ms, locals := lo } s m args below meth c mc ms Post) (am_SX G p l e { frames := fr, cells := mc, slots := ms, locals := lo } s m args below meth c mc ms Post) (fun n x hx => ?_) (fun pc => am_s_retag) (fun pc L st h' k n k' n' hk hn' hh => am_R.widen hk hn' hh)
  have hd := List.all_eq_true.mp hdec x (List.mem_of_getElem? hx)
  split at hd
  · next ins len hdc =>
    split at hd
    · next o ho =>
      exact ck_os_same hd (ck_tr_ok X9 h1 h2 (fun z => hname.trans (hin z)) h3 (hpr s hkon (Or.inr trivial)) (hca s hkon) hnL hfr hlo hoi har rfl rfl
        (fun q hq pc d => by
          have := hv q hq
          unfold ck_anyL at this
          unfold ck_cq
          split
          · next hz => rw [hz] at this; rw [hnL]; exact this p e s m args below meth c mc ms _ cc ret pc X9 d
          · trivial)
        (fun q hq pc d => by
          have := hs q hq
          unfold ck_anyL at this
          unfold ck_cq
          split
          · next hz => rw [hz] at this; rw [hnL]; exact this p e s m args below meth c mc ms _ cc ret pc X9 d
          · trivial)
        (fun q hq pc d => by
          have := ht q hq
          unfold ck_anyL at this
          unfold ck_cq
          split
          · next hz => rw [hz] at this; rw [hnL]; exact this p e s m args below meth c mc ms _ cc ret pc X9 d
          · trivial)
        (fun q hq pc cn d => by
          have := hf q hq
          unfold ck_anyF at this
          unfold ck_cq
          split
          · next hz => rw [hz] at this; rw [hnL]; exact this cn p e s m args below meth c mc ms _ cc ret pc X9 d
          · trivial)
        (fun q hq Ex hE => by rw [hnL]; exact hth q hq Ex hE p e s m args below meth c mc ms _ ret X9 htab) hdc ho)
    · cases hd
  · cases hd
