/-! THE LAW'S BODY, WITH WHAT IT KNOWS -/
def cl_ok (cc : ByteArray) (tb : ck_TB) (x : Nat × ck_O) : Bool := bif Nat.beq x.1 1105 then (Nat.beq x.2.1 2 && (Nat.beq x.2.2.1 0 && (Nat.beq x.2.2.2.2.2.1 2072 && Nat.beq x.2.2.2.2.2.2.1 2072))) else (ck_dec cc tb [x] || ck_dp cc x)
theorem cs_eq9 {G : am_G} {S : ck_SS} {SX : Nat → ck_SX} {P : am_O → List am_C → Prop} {Rc Rs : Nat} {cm cm' : Nat → ck_CM} {E : ck_E} {pc nx tg f2 : Nat} {v : Int} {ex : List (Int × Nat)} {t2 : Nat → Option cs_T} (h : ck_os G S SX P Rc Rs cm E pc (2, 0, 0, 0, nx, tg, [])) (h1 : t2 pc = some ((6, 0), cs_F, [(9, 0), (9, 0)])) (h2 : t2 tg = some ((6, 0), cs_F, [])) : ck_os G (cn_S (cs_I G t2) S) SX P Rc Rs cm' E pc (2, 0, f2, v, tg, tg, ex) := by
  obtain ⟨T, pr, own, nL, code, cl, hds, gh, cuts⟩ := E
  have h_ : ck_sC S pc nx 0 tg := h
  show ck_sC (cn_S (cs_I G t2) S) pc tg 0 tg
  refine cn_lift2 (G := G) h_ fun L x y st hh hI => ?_
  obtain ⟨e_, t_, u_, p_, lo_, st_⟩ := hI
  rw [h1] at t_
  cases t_
  have y_ : Value.int y = .int (Int32.ofInt u_.2.2.2.2.1.1.1) := st_.hd (by decide)
  have x_ : Value.int x = .int (Int32.ofInt u_.2.2.2.2.1.1.1) := st_.tl.hd (by decide)
  exact ⟨Value.int.inj (x_.trans y_.symm), _, h2, u_, p_, lo_, st_.tl.tl⟩
set_option maxHeartbeats 8000000 in
theorem cn_body {l : Launch} {G : am_G} (hl : l.stackTraces = false) {X : ck_XT} {T : ck_TT} (hX : ck_XO X) (hX0 : ck_X0 X) (hKT : ck_KT G T) (hW : ∀ t, t < 100 → ck_wr T t = true)
    {own : String} {cc : ByteArray} {nL : Nat} {ret : Option FieldType} {fr lo fuel : Nat} {E : ck_E} {tb : ck_TB} {cm cm' : Nat → ck_CM} {t2 : Nat → Option cs_T} {cz : List (Nat × Nat × Nat)} (hT : E.1 = T) (hnL : E.2.2.2.1 = nL) (hhd : E.2.2.2.2.2.2.1 = [])
    (hchk : ck_chk E fuel = true) (hdec : (E.2.2.2.2.1.all (cl_ok cc tb)) = true) (hd5 : ck_dec cc tb [(1105, (2, 0, 0, 0, 1108, 2072, []))] = true) (hck : (E.2.2.2.2.1.all fun x => Nat.beq x.1 1105 || cs_ck t2 cz E.2.2.2.2.2.1 x) = true) (hcm : ∀ (f : Nat) (z : Nat × Nat × Nat), cz[f]? = some z → cm' f = cs_cm G z (cm f)) (h11 : t2 1105 = some ((6, 0), cs_F, [(9, 0), (9, 0)])) (h20 : t2 2072 = some ((6, 0), cs_F, [])) (hr9 : ∀ (j : Int32) (v : Value), cs_sc G j = some v → ∃ x : Int32, v = .int x) (h1 : ck_ok1 own tb) (h2 : ck_puts own false tb) (h3 : ck_rj tb.2.2.2.2.2.2.2.2.2.2.2.2 ret) (hfr : 1 ≤ fr) (hlo : 20 ≤ lo)
    (hoi : Cond.instanceMethod objectInit ∈ lw_gw ∧ Cond.code objectInit ⟨#[0xb1]⟩ 1 none ∈ lw_gw) (har : Cond.arrayClass .int ∈ lw_gw ∧ Cond.arrayClass .byte ∈ lw_gw ∧ Cond.arrayClass .long ∈ lw_gw)
    (hpr : ∀ s, am_kon G s → (∀ a w, w ∈ lw_gw → w.before a s = true) ∨ True → ∀ q ∈ E.2.1, 53 ≤ q.1 ∧ q.2 < 59 ∧ am_asg G s q.1 q.2) (hca : ∀ s, am_kon G s → ∀ q ∈ tb.2.2.2.2.2.2.2.1, ∃ nm, Cond.classLink own q.1 nm ∈ lw_gw ∧ ∀ k ∈ q.2, k < 59 ∧ am_isa G s k nm)
    (hcl : ∀ (i : Nat) (x : ck_Cl), E.2.2.2.2.2.1[i]? = some x → ∀ c ∈ x.2.2, ck_Con (cm' i) G X T c)
    (hv : ∀ q ∈ tb.2.2.2.2.2.2.2.2.1.1, ck_anyL l G own nL fr lo .invokevirtual cm E.2.2.2.2.2.1 q) (hs : ∀ q ∈ tb.2.2.2.2.2.2.2.2.1.2.1, ck_anyL l G own nL fr lo .invokespecial cm E.2.2.2.2.2.1 q) (ht : ∀ q ∈ tb.2.2.2.2.2.2.2.2.1.2.2.1, ck_anyL l G own nL fr lo .invokestatic cm E.2.2.2.2.2.1 q) (hf : ∀ q ∈ tb.2.2.2.2.2.2.2.2.1.2.2.2, ck_anyF l G own nL fr lo cm E.2.2.2.2.2.1 q)
    (hxs : E.2.2.1.2.2.2.2.2 = []) (hth : tb.2.2.2.2.2.2.2.2.2.1 = []) (hn5 : ck_g5 E = [])
    {p : Program} {e : Env} {s : State} {m : MethodId} {args : Array Value} {below : List Frame} {meth : Method} {c : Code} (X9 : am_Cx l G p s m args meth c own cc nL ret)
    {K : Int32} {r : List Int} {s0 : List Nat} {a : List Value} {h : List am_C} (hH : ck_HT X T K (am_g G h)) (hV : ck_In E.2.2.1.1.1 r) (hC : ck_Co E.2.2.1.1.2.1 r) (hF : ∀ f ∈ E.2.2.1.1.2.2.1, ck_fa (am_g G h) 0 r s0 f) (hn : s0.length = E.2.2.1.1.2.2.2.1) (hS : ck_stk r s0 E.2.2.1.1.2.2.2.2 a)
    {mc ms : Nat} (hmc : ck_Lv r E.2.2.1.2.1.1 (mc : Int)) (hms : ck_Lv r E.2.2.1.2.1.2 (ms : Int)) (hI0 : cs_I G t2 0 (am_ent a nL) [] h) :
    am_R G p l e { frames := fr, cells := mc, slots := ms, locals := lo } s m args below meth c mc ms (ck_Po G X T K E.2.2.1 r s0 h) 0 (am_ent a nL) [] h 0 0 := by
  unfold ck_chk at hchk
  simp only [Bool.and_eq_true] at hchk
  obtain ⟨c1, c2, c3, c4⟩ := hchk
  have hkon := X9.2.2.2.2.2.1
  let w : ck_W := (G, X, T, K, h, r, s0, E.2.2.1.2.2.1, ck_rq E.2.2.1.2.2.2.1 s0)
  have hRt : ck_Rt w E.2.2.1.2.2.2.1 := ck_Rt.of rfl rfl (by rw [hn]; exact c4)
  have hctx : cn_Ctx E w (cn_S (cs_I G t2) (am_S G p l e { frames := fr, cells := mc, slots := ms, locals := lo } s m args below meth c mc ms (ck_Po G X T K E.2.2.1 r s0 h))) (am_SX G p l e { frames := fr, cells := mc, slots := ms, locals := lo } s m args below meth c mc ms (ck_Po G X T K E.2.2.1 r s0 h)) mc ms cm' r s0 := by
    refine ⟨hX, hX0, hT.symm, hW, rfl, rfl, hRt, ⟨hmc, hms⟩, ⟨[], by rw [List.append_nil]⟩, ⟨[], by rw [List.append_nil]⟩, hV.1.symm, hn, hcl, fun pc q hq => ?_, fun pc Ex L h' k n _ hp hk hn' => (by have h5 := hp.2.2.2; dsimp only at h5; rw [hxs] at h5; cases h5), fun pc L st h k n q t t' vs hg hq h1 ht hS hI => am_s_retag L st h k n q t t' vs hg hq ht (hS (hI.rt hg hq h1 ht)), fun pc L st h k n k' n' hk hn' hh hI => am_R.widen hk hn' (hh hI), hKT, hn5⟩
    rw [hhd] at hq
    cases hq
  have base_ : ∀ x : Nat × ck_O, (ck_dec cc tb [x] || ck_dp cc x) = true → ck_os G (am_S G p l e { frames := fr, cells := mc, slots := ms, locals := lo } s m args below meth c mc ms (ck_Po G X T K E.2.2.1 r s0 h)) (am_SX G p l e { frames := fr, cells := mc, slots := ms, locals := lo } s m args below meth c mc ms (ck_Po G X T K E.2.2.1 r s0 h)) (ck_Po G X T K E.2.2.1 r s0 h) mc ms cm E x.1 x.2 := fun x hx => by
    rcases Bool.or_eq_true_iff.mp hx with hd0 | hd0
    case inr =>
      unfold ck_dp at hd0
      split at hd0
      · next len hdc =>
        obtain ⟨d1, d2⟩ := Bool.and_eq_true_iff.mp hd0
        cases ck_beq d1
        exact ck_os_same d2 (am_s_pop2 X9 hdc)
      · cases hd0
    have hd := List.all_eq_true.mp hd0 x (List.mem_singleton.mpr rfl)
    split at hd
    · next ins len hdc =>
      split at hd
      · next o ho =>
        exact ck_os_same hd (ck_tr_ok X9 h1 h2 (fun z => nomatch z) h3 (hpr s hkon (Or.inr trivial)) (hca s hkon) hnL hfr hlo hoi har rfl rfl
          (fun q hq pc d => by
            have := hv q hq
            unfold ck_anyL at this
            unfold ck_cq
            split
            · next hz => rw [hz] at this; rw [hnL]; exact this p e s m args below meth c mc ms _ cc ret pc X9 d
            · trivial)
          (fun q hq pc d => by
            have := hs q hq
            unfold ck_anyL at this
            unfold ck_cq
            split
            · next hz => rw [hz] at this; rw [hnL]; exact this p e s m args below meth c mc ms _ cc ret pc X9 d
            · trivial)
          (fun q hq pc d => by
            have := ht q hq
            unfold ck_anyL at this
            unfold ck_cq
            split
            · next hz => rw [hz] at this; rw [hnL]; exact this p e s m args below meth c mc ms _ cc ret pc X9 d
            · trivial)
          (fun q hq pc cn d => by
            have := hf q hq
            unfold ck_anyF at this
            unfold ck_cq
            split
            · next hz => rw [hz] at this; rw [hnL]; exact this cn p e s m args below meth c mc ms _ cc ret pc X9 d
            · trivial)
          (fun q hq Ex hE => by rw [hth] at hq; cases hq) hdc ho)
      · cases hd
    · cases hd
  refine cn_all_ok (w := w) hctx rfl rfl (fun x hx => ?_) c1 c2 (A := ck_A0 E.2.2.1 E.2.2.2.1) (r := r) (s := s0) ?_ hI0
  · have o_ := List.all_eq_true.mp hdec x hx
    have q_ := List.all_eq_true.mp hck x hx
    obtain ⟨pc_, z_⟩ := x
    unfold cl_ok at o_
    dsimp only at o_ q_
    cases hb_ : Nat.beq pc_ 1105
    · rw [hb_, cond_false] at o_
      rw [hb_, Bool.false_or] at q_
      exact cs_ck_ok hr9 hcm (base_ (pc_, z_) o_) q_
    · rw [hb_, cond_true] at o_
      obtain ⟨c_, f_, f2_, v_, nx_, tg_, ex_⟩ := z_
      obtain ⟨a1_, a2_⟩ := Bool.and_eq_true_iff.mp o_
      obtain ⟨a3_, a4_⟩ := Bool.and_eq_true_iff.mp a2_
      obtain ⟨a5_, a6_⟩ := Bool.and_eq_true_iff.mp a4_
      have e0_ := ck_beq hb_
      have e1_ : c_ = 2 := ck_beq a1_
      have e2_ : f_ = 0 := ck_beq a3_
      have e3_ : nx_ = 2072 := ck_beq a5_
      have e4_ : tg_ = 2072 := ck_beq a6_
      subst e0_
      subst e1_
      subst e2_
      subst e3_
      subst e4_
      have d5_ : (ck_dec cc tb [(1105, (2, 0, 0, 0, 1108, 2072, []))] || ck_dp cc (1105, (2, 0, 0, 0, 1108, 2072, []))) = true := by rw [hd5, Bool.true_or]
      exact cs_eq9 (base_ (1105, (2, 0, 0, 0, 1108, 2072, [])) d5_) h11 h20
  · refine ⟨hV, hC, fun f hf9 => ?_, hn, by rw [hnL]; exact ck_ent_ok hS nL, trivial, ck_Lv.k r 0, ck_Lv.k r 0, hH, ck_Kp.rf, Nat.le_refl _, ⟨[], by rw [List.append_nil]⟩, ⟨[], by rw [List.append_nil]⟩⟩
    exact (hF f hf9).z5 (List.all_eq_true.mp c3 f hf9)
