/-! A LONG ON THE STACK IS DROPPED -/
section AMP2
variable {G : am_G} {p : Program} {l : Launch} {e : Env} {R : Room} {s : State} {m : MethodId} {args : Array Value} {below : List Frame} {meth : Method} {c : Code} {mc ms : Nat} {Post : am_O → List am_C → Prop}
variable {own : String} {cc : ByteArray} {nL pc : Nat} {ret : Option FieldType}
theorem am_s_pop2 (X : am_Cx l G p s m args meth c own cc nL ret) (d : decode cc pc = .ok (.pop2, 1)) : ck_sP (am_S G p l e R s m args below meth c mc ms Post) pc (pc + 1) 11 0 0 := by
  intro L st L' st' h k n e1 kk
  match st, e1 with
  | .long x :: st, e1 =>
    simp only [ck_cf] at e1
    cases e1
    exact fun ls H locs hL hH hS => lv_pop2_2 (va := .long x) X.1 X.2.1 d rfl (kk ls H locs hL hH hS)
end AMP2
def ck_dp (cc : ByteArray) (x : Nat × ck_O) : Bool := match decode cc x.1 with
  | .ok (.pop2, len) => Nat.beq len 1 && ck_same (0, 11, 0, 0, x.1 + 1, 0, []) x.2
  | _ => false
def ck_dec2 (cc : ByteArray) (tb : ck_TB) (l : List (Nat × ck_O)) : Bool := l.all fun x => ck_dec cc tb [x] || ck_dp cc x
theorem ck_dec2_of {cc : ByteArray} {tb : ck_TB} {a : List (Nat × ck_O)} (h : ck_dec cc tb a = true) : ck_dec2 cc tb a = true := by
  unfold ck_dec2
  rw [List.all_eq_true]
  intro x hx
  rw [Bool.or_eq_true]
  refine Or.inl ?_
  unfold ck_dec at h ⊢
  rw [List.all_cons, List.all_eq_true.mp h x hx]
  rfl
theorem ck_dec2_app {cc : ByteArray} {tb : ck_TB} {a b : List (Nat × ck_O)} (h1 : ck_dec2 cc tb a = true) (h2 : ck_dec2 cc tb b = true) : ck_dec2 cc tb (a ++ b) = true := by
  unfold ck_dec2 at h1 h2 ⊢
  rw [List.all_append, h1, h2]
  rfl
/-! A BODY WITHOUT ITS CALL: the law's own -/
set_option maxHeartbeats 8000000 in
theorem ck_body {l : Launch} {G : am_G} (hl : l.stackTraces = false) {X : ck_XT} {T : ck_TT} (hX : ck_XO X) (hX0 : ck_X0 X) (hKT : ck_KT G T) (hW : ∀ t, t < 100 → ck_wr T t = true)
    {own : String} {cc : ByteArray} {nL : Nat} {ret : Option FieldType} {fr lo fuel : Nat} {E : ck_E} {tb : ck_TB} {cm : Nat → ck_CM} (hT : E.1 = T) (hnL : E.2.2.2.1 = nL) (hhd : E.2.2.2.2.2.2.1 = [])
    (hchk : ck_chk E fuel = true) (hdec : ck_dec2 cc tb E.2.2.2.2.1 = true) (h1 : ck_ok1 own tb) (h2 : ck_puts own false tb) (h3 : ck_rj tb.2.2.2.2.2.2.2.2.2.2.2.2 ret) (hfr : 1 ≤ fr) (hlo : 20 ≤ lo)
    (hoi : Cond.instanceMethod objectInit ∈ lw_gw ∧ Cond.code objectInit ⟨#[0xb1]⟩ 1 none ∈ lw_gw) (har : Cond.arrayClass .int ∈ lw_gw ∧ Cond.arrayClass .byte ∈ lw_gw ∧ Cond.arrayClass .long ∈ lw_gw)
    (hpr : ∀ s, am_kon G s → (∀ a w, w ∈ lw_gw → w.before a s = true) ∨ True → ∀ q ∈ E.2.1, 53 ≤ q.1 ∧ q.2 < 59 ∧ am_asg G s q.1 q.2) (hca : ∀ s, am_kon G s → ∀ q ∈ tb.2.2.2.2.2.2.2.1, ∃ nm, Cond.classLink own q.1 nm ∈ lw_gw ∧ ∀ k ∈ q.2, k < 59 ∧ am_isa G s k nm)
    (hcl : ∀ (i : Nat) (x : ck_Cl), E.2.2.2.2.2.1[i]? = some x → ∀ c ∈ x.2.2, ck_Con (cm i) G X T c)
    (hv : ∀ q ∈ tb.2.2.2.2.2.2.2.2.1.1, ck_anyL l G own nL fr lo .invokevirtual cm E.2.2.2.2.2.1 q) (hs : ∀ q ∈ tb.2.2.2.2.2.2.2.2.1.2.1, ck_anyL l G own nL fr lo .invokespecial cm E.2.2.2.2.2.1 q) (ht : ∀ q ∈ tb.2.2.2.2.2.2.2.2.1.2.2.1, ck_anyL l G own nL fr lo .invokestatic cm E.2.2.2.2.2.1 q) (hf : ∀ q ∈ tb.2.2.2.2.2.2.2.2.1.2.2.2, ck_anyF l G own nL fr lo cm E.2.2.2.2.2.1 q)
    (hxs : E.2.2.1.2.2.2.2.2 = []) (hth : tb.2.2.2.2.2.2.2.2.2.1 = []) (hn5 : ∀ f ∈ ck_g5 E, ck_nopP G (cm f))
    {p : Program} {e : Env} {s : State} {m : MethodId} {args : Array Value} {below : List Frame} {meth : Method} {c : Code} (X9 : am_Cx l G p s m args meth c own cc nL ret)
    {K : Int32} {r : List Int} {s0 : List Nat} {a : List Value} {h : List am_C} (hH : ck_HT X T K (am_g G h)) (hV : ck_In E.2.2.1.1.1 r) (hC : ck_Co E.2.2.1.1.2.1 r) (hF : ∀ f ∈ E.2.2.1.1.2.2.1, ck_fa (am_g G h) 0 r s0 f) (hn : s0.length = E.2.2.1.1.2.2.2.1) (hS : ck_stk r s0 E.2.2.1.1.2.2.2.2 a)
    {mc ms : Nat} (hmc : ck_Lv r E.2.2.1.2.1.1 (mc : Int)) (hms : ck_Lv r E.2.2.1.2.1.2 (ms : Int)) :
    am_R G p l e { frames := fr, cells := mc, slots := ms, locals := lo } s m args below meth c mc ms (ck_Po G X T K E.2.2.1 r s0 h) 0 (am_ent a nL) [] h 0 0 := by
  unfold ck_chk at hchk
  simp only [Bool.and_eq_true] at hchk
  obtain ⟨c1, c2, c3, c4⟩ := hchk
  have hkon := X9.2.2.2.2.2.1
  let w : ck_W := (G, X, T, K, h, r, s0, E.2.2.1.2.2.1, ck_rq E.2.2.1.2.2.2.1 s0)
  have hRt : ck_Rt w E.2.2.1.2.2.2.1 := ck_Rt.of rfl rfl (by rw [hn]; exact c4)
  have hctx : ck_Ctx E w (am_S G p l e { frames := fr, cells := mc, slots := ms, locals := lo } s m args below meth c mc ms (ck_Po G X T K E.2.2.1 r s0 h)) (am_SX G p l e { frames := fr, cells := mc, slots := ms, locals := lo } s m args below meth c mc ms (ck_Po G X T K E.2.2.1 r s0 h)) mc ms cm r s0 := by
    refine ⟨hX, hX0, hT.symm, hW, rfl, rfl, hRt, ⟨hmc, hms⟩, ⟨[], by rw [List.append_nil]⟩, ⟨[], by rw [List.append_nil]⟩, hV.1.symm, hn, hcl, fun pc q hq => ?_, fun pc Ex L h' k n _ hp hk hn' => (by have h5 := hp.2.2.2; dsimp only at h5; rw [hxs] at h5; cases h5), fun pc => am_s_retag, fun pc L st h' k n k' n' hk hn' hh => am_R.widen hk hn' hh, hKT, hn5⟩
    rw [hhd] at hq
    cases hq
  refine ck_all_ok (w := w) hctx rfl rfl (fun x hx => ?_) c1 c2 (A := ck_A0 E.2.2.1 E.2.2.2.1) (r := r) (s := s0) ?_
  · rcases Bool.or_eq_true_iff.mp (List.all_eq_true.mp hdec x hx) with hd0 | hd0
    case inr =>
      unfold ck_dp at hd0
      split at hd0
      · next len hdc =>
        obtain ⟨d1, d2⟩ := Bool.and_eq_true_iff.mp hd0
        cases ck_beq d1
        exact ck_os_same d2 (am_s_pop2 X9 hdc)
      · cases hd0
    have hd := List.all_eq_true.mp hd0 x (List.mem_singleton.mpr rfl)
    split at hd
    · next ins len hdc =>
      split at hd
      · next o ho =>
        exact ck_os_same hd (ck_tr_ok X9 h1 h2 (fun z => nomatch z) h3 (hpr s hkon (Or.inr trivial)) (hca s hkon) hnL hfr hlo hoi har rfl rfl
          (fun q hq pc d => by
            have := hv q hq
            unfold ck_anyL at this
            unfold ck_cq
            split
            · next hz => rw [hz] at this; rw [hnL]; exact this p e s m args below meth c mc ms _ cc ret pc X9 d
            · trivial)
          (fun q hq pc d => by
            have := hs q hq
            unfold ck_anyL at this
            unfold ck_cq
            split
            · next hz => rw [hz] at this; rw [hnL]; exact this p e s m args below meth c mc ms _ cc ret pc X9 d
            · trivial)
          (fun q hq pc d => by
            have := ht q hq
            unfold ck_anyL at this
            unfold ck_cq
            split
            · next hz => rw [hz] at this; rw [hnL]; exact this p e s m args below meth c mc ms _ cc ret pc X9 d
            · trivial)
          (fun q hq pc cn d => by
            have := hf q hq
            unfold ck_anyF at this
            unfold ck_cq
            split
            · next hz => rw [hz] at this; rw [hnL]; exact this cn p e s m args below meth c mc ms _ cc ret pc X9 d
            · trivial)
          (fun q hq Ex hE => by rw [hth] at hq; cases hq) hdc ho)
      · cases hd
    · cases hd
  · refine ⟨hV, hC, fun f hf9 => ?_, hn, by rw [hnL]; exact ck_ent_ok hS nL, trivial, ck_Lv.k r 0, ck_Lv.k r 0, hH, ck_Kp.rf, Nat.le_refl _, ⟨[], by rw [List.append_nil]⟩, ⟨[], by rw [List.append_nil]⟩⟩
    exact (hF f hf9).z5 (List.all_eq_true.mp c3 f hf9)
