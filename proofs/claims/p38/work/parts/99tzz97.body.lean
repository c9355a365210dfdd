/-! THE LAW'S BODY, WITH WHAT IT KNOWS; ROWS THAT ARE DECIDED BY IT -/
/-- rows whose answer is known: 2 two numbers that are one, 1 a nought -/
def cl_row (cc : ByteArray) (tb : ck_TB) (k nx : Nat) (x : Nat × ck_O) : Bool := match k, x with
  | 2, (pc, (2, 0, _, _, t, t2, _)) => Nat.beq t t2 && ck_dec cc tb [(pc, (2, 0, 0, 0, nx, t, []))]
  | 1, (pc, (0, 10, _, _, t, _, _)) => ck_dec cc tb [(pc, (1, 0, 0, 0, nx, t, []))]
  | _, _ => false
def cl_ok2 (cc : ByteArray) (tb : ck_TB) (sp : List (Nat × Nat × Nat)) (x : Nat × ck_O) : Bool := match ck_lu x.1 sp with
  | some q => cl_row cc tb q.1 q.2 x
  | none => ck_dec cc tb [x] || ck_dp cc x
def cs_sg (s : cs_S) : Bool := !(Nat.beq s.1 0) && !(Nat.beq s.1 10)
def cs_ck2 (t2 : Nat → Option cs_T) (cz : List (Nat × Nat × Nat)) (gi : List ck_Cl) (sp : List (Nat × Nat × Nat)) (x : Nat × ck_O) : Bool := match ck_lu x.1 sp with
  | some q => (match t2 x.1 with
    | some e => (match q.1, e.2.2 with
      | 2, s :: s2 :: U => cs_e1 s s2 && (cs_sg s && cs_at t2 x.2.2.2.2.2.1 (e.1, e.2.1, U))
      | 1, s :: U => cs_e1 s (6, 0) && cs_at t2 x.2.2.2.2.2.1 (e.1, e.2.1, U)
      | _, _ => false)
    | none => false)
  | none => cs_ck t2 cz gi x
theorem cs_v.fn {G : am_G} {u : cs_E} {s : cs_S} {v w : Value} (hs : cs_sg s = true) (h1 : cs_v G u s v) (h2 : cs_v G u s w) : v = w := by
  obtain ⟨a_, b_⟩ := Bool.and_eq_true_iff.mp hs
  unfold cs_v at h1 h2
  split at h1
  · next e_ =>
    rw [e_] at a_
    cases a_
  all_goals first | (next e_ => (rw [e_] at h2; exact h1.trans h2.symm)) | exact h1.elim
section CLS
variable {G : am_G} {S : ck_SS} {SX : Nat → ck_SX} {P : am_O → List am_C → Prop} {Rc Rs : Nat} {cm cm' : Nat → ck_CM} {E : ck_E} {pc nx tg f2 g2 : Nat} {v : Int} {ex : List (Int × Nat)} {t2 : Nat → Option cs_T} {e : cs_T} {s s2 : cs_S} {U : List cs_S}
theorem cs_two (h : ck_os G S SX P Rc Rs cm E pc (2, 0, 0, 0, nx, tg, [])) (he : t2 pc = some e) (hU : e.2.2 = s :: s2 :: U) (h1 : cs_e1 s s2 = true) (h2 : cs_sg s = true) (h3 : cs_at t2 tg (e.1, e.2.1, U) = true) : ck_os G (cn_S (cs_I G t2) S) SX P Rc Rs cm' E pc (2, 0, f2, v, tg, tg, ex) := by
  obtain ⟨T, pr, own, nL, code, cl, hds, gh, cuts⟩ := E
  have h_ : ck_sC S pc nx 0 tg := h
  show ck_sC (cn_S (cs_I G t2) S) pc tg 0 tg
  refine cn_lift2 (G := G) h_ fun L x y st hh hI => ?_
  obtain ⟨e_, t_, u_, p_, lo_, st_⟩ := hI
  rw [he] at t_
  cases t_
  rw [hU] at st_
  have s_ := cs_e1_ok h1
  subst s_
  have n_ : s.1 ≠ 10 := fun y_ => by
    obtain ⟨-, b_⟩ := Bool.and_eq_true_iff.mp h2
    rw [y_] at b_
    cases b_
  have y_ := cs_v.fn h2 (st_.tl.hd n_) (st_.hd n_)
  exact ⟨Value.int.inj y_, cs_wk h3 ⟨u_, p_, lo_, st_.tl.tl⟩⟩
theorem cs_nought (h : ck_os G S SX P Rc Rs cm E pc (1, 0, 0, 0, nx, tg, [])) (he : t2 pc = some e) (hU : e.2.2 = s :: U) (h1 : cs_e1 s (6, 0) = true) (h3 : cs_at t2 tg (e.1, e.2.1, U) = true) : ck_os G (cn_S (cs_I G t2) S) SX P Rc Rs cm' E pc (0, 10, f2, v, tg, g2, ex) := by
  obtain ⟨T, pr, own, nL, code, cl, hds, gh, cuts⟩ := E
  have h_ : ck_sI S pc nx 0 tg := h
  show ck_sP (cn_S (cs_I G t2) S) pc tg 10 f2 v
  intro L w L' w' hh k n hc hK hI
  obtain ⟨x_, b1_, b2_⟩ := cs_cf10 hc
  obtain ⟨e_, t_, u_, p_, lo_, st_⟩ := hI
  rw [he] at t_
  cases t_
  rw [hU] at st_
  have s_ := cs_e1_ok h1
  subst s_
  rw [b1_] at st_ ⊢
  rw [b2_] at hK
  have y_ : x_ = .int (Int32.ofInt 0) := st_.hd (by decide)
  rw [y_]
  exact h_ L _ w' hh k n (fun _ => hK (cs_wk h3 ⟨u_, p_, lo_, st_.tl⟩)) fun z_ => absurd (show ck_cv 0 (Int32.ofInt 0).toInt from rfl) z_
end CLS
set_option maxHeartbeats 8000000 in
theorem cn_body2 {l : Launch} {G : am_G} (hl : l.stackTraces = false) {X : ck_XT} {T : ck_TT} (hX : ck_XO X) (hX0 : ck_X0 X) (hKT : ck_KT G T) (hW : ∀ t, t < 100 → ck_wr T t = true)
    {own : String} {cc : ByteArray} {nL : Nat} {ret : Option FieldType} {fr lo fuel : Nat} {E : ck_E} {tb : ck_TB} {cm cm' : Nat → ck_CM} {t2 : Nat → Option cs_T} {cz sp : List (Nat × Nat × Nat)} (hT : E.1 = T) (hnL : E.2.2.2.1 = nL) (hhd : E.2.2.2.2.2.2.1 = [])
    (hchk : ck_chk E fuel = true) (hdec : (E.2.2.2.2.1.all (cl_ok2 cc tb sp)) = true) (hck : (E.2.2.2.2.1.all (cs_ck2 t2 cz E.2.2.2.2.2.1 sp)) = true) (hcm : ∀ (f : Nat) (z : Nat × Nat × Nat), cz[f]? = some z → cm' f = cs_cm G z (cm f)) (hr9 : ∀ (j : Int32) (v : Value), cs_sc G j = some v → ∃ x : Int32, v = .int x) (h1 : ck_ok1 own tb) (h2 : ck_puts own false tb) (h3 : ck_rj tb.2.2.2.2.2.2.2.2.2.2.2.2 ret) (hfr : 1 ≤ fr) (hlo : 20 ≤ lo)
    (hoi : Cond.instanceMethod objectInit ∈ lw_gw ∧ Cond.code objectInit ⟨#[0xb1]⟩ 1 none ∈ lw_gw) (har : Cond.arrayClass .int ∈ lw_gw ∧ Cond.arrayClass .byte ∈ lw_gw ∧ Cond.arrayClass .long ∈ lw_gw)
    (hpr : ∀ s, am_kon G s → (∀ a w, w ∈ lw_gw → w.before a s = true) ∨ True → ∀ q ∈ E.2.1, 53 ≤ q.1 ∧ q.2 < 59 ∧ am_asg G s q.1 q.2) (hca : ∀ s, am_kon G s → ∀ q ∈ tb.2.2.2.2.2.2.2.1, ∃ nm, Cond.classLink own q.1 nm ∈ lw_gw ∧ ∀ k ∈ q.2, k < 59 ∧ am_isa G s k nm)
    (hcl : ∀ (i : Nat) (x : ck_Cl), E.2.2.2.2.2.1[i]? = some x → ∀ c ∈ x.2.2, ck_Con (cm' i) G X T c)
    (hv : ∀ q ∈ tb.2.2.2.2.2.2.2.2.1.1, ck_anyL l G own nL fr lo .invokevirtual cm E.2.2.2.2.2.1 q) (hs : ∀ q ∈ tb.2.2.2.2.2.2.2.2.1.2.1, ck_anyL l G own nL fr lo .invokespecial cm E.2.2.2.2.2.1 q) (ht : ∀ q ∈ tb.2.2.2.2.2.2.2.2.1.2.2.1, ck_anyL l G own nL fr lo .invokestatic cm E.2.2.2.2.2.1 q) (hf : ∀ q ∈ tb.2.2.2.2.2.2.2.2.1.2.2.2, ck_anyF l G own nL fr lo cm E.2.2.2.2.2.1 q)
    (hxs : E.2.2.1.2.2.2.2.2 = []) (hth : tb.2.2.2.2.2.2.2.2.2.1 = []) (hn5 : ck_g5 E = [])
    {p : Program} {e : Env} {s : State} {m : MethodId} {args : Array Value} {below : List Frame} {meth : Method} {c : Code} (X9 : am_Cx l G p s m args meth c own cc nL ret)
    {K : Int32} {r : List Int} {s0 : List Nat} {a : List Value} {h : List am_C} (hH : ck_HT X T K (am_g G h)) (hV : ck_In E.2.2.1.1.1 r) (hC : ck_Co E.2.2.1.1.2.1 r) (hF : ∀ f ∈ E.2.2.1.1.2.2.1, ck_fa (am_g G h) 0 r s0 f) (hn : s0.length = E.2.2.1.1.2.2.2.1) (hS : ck_stk r s0 E.2.2.1.1.2.2.2.2 a)
    {mc ms : Nat} (hmc : ck_Lv r E.2.2.1.2.1.1 (mc : Int)) (hms : ck_Lv r E.2.2.1.2.1.2 (ms : Int)) (hI0 : cs_I G t2 0 (am_ent a nL) [] h) :
    am_R G p l e { frames := fr, cells := mc, slots := ms, locals := lo } s m args below meth c mc ms (ck_Po G X T K E.2.2.1 r s0 h) 0 (am_ent a nL) [] h 0 0 := by
  unfold ck_chk at hchk
  simp only [Bool.and_eq_true] at hchk
  obtain ⟨c1, c2, c3, c4⟩ := hchk
  have hkon := X9.2.2.2.2.2.1
  let w : ck_W := (G, X, T, K, h, r, s0, E.2.2.1.2.2.1, ck_rq E.2.2.1.2.2.2.1 s0)
  have hRt : ck_Rt w E.2.2.1.2.2.2.1 := ck_Rt.of rfl rfl (by rw [hn]; exact c4)
  have hctx : cn_Ctx E w (cn_S (cs_I G t2) (am_S G p l e { frames := fr, cells := mc, slots := ms, locals := lo } s m args below meth c mc ms (ck_Po G X T K E.2.2.1 r s0 h))) (am_SX G p l e { frames := fr, cells := mc, slots := ms, locals := lo } s m args below meth c mc ms (ck_Po G X T K E.2.2.1 r s0 h)) mc ms cm' r s0 := by
    refine ⟨hX, hX0, hT.symm, hW, rfl, rfl, hRt, ⟨hmc, hms⟩, ⟨[], by rw [List.append_nil]⟩, ⟨[], by rw [List.append_nil]⟩, hV.1.symm, hn, hcl, fun pc q hq => ?_, fun pc Ex L h' k n _ hp hk hn' => (by have h5 := hp.2.2.2; dsimp only at h5; rw [hxs] at h5; cases h5), fun pc L st h k n q t t' vs hg hq h1 ht hS hI => am_s_retag L st h k n q t t' vs hg hq ht (hS (hI.rt hg hq h1 ht)), fun pc L st h k n k' n' hk hn' hh hI => am_R.widen hk hn' (hh hI), hKT, hn5⟩
    rw [hhd] at hq
    cases hq
  have base_ : ∀ x : Nat × ck_O, (ck_dec cc tb [x] || ck_dp cc x) = true → ck_os G (am_S G p l e { frames := fr, cells := mc, slots := ms, locals := lo } s m args below meth c mc ms (ck_Po G X T K E.2.2.1 r s0 h)) (am_SX G p l e { frames := fr, cells := mc, slots := ms, locals := lo } s m args below meth c mc ms (ck_Po G X T K E.2.2.1 r s0 h)) (ck_Po G X T K E.2.2.1 r s0 h) mc ms cm E x.1 x.2 := fun x hx => by
    rcases Bool.or_eq_true_iff.mp hx with hd0 | hd0
    case inr =>
      unfold ck_dp at hd0
      split at hd0
      · next len hdc =>
        obtain ⟨d1, d2⟩ := Bool.and_eq_true_iff.mp hd0
        cases ck_beq d1
        exact ck_os_same d2 (am_s_pop2 X9 hdc)
      · cases hd0
    have hd := List.all_eq_true.mp hd0 x (List.mem_singleton.mpr rfl)
    split at hd
    · next ins len hdc =>
      split at hd
      · next o ho =>
        exact ck_os_same hd (ck_tr_ok X9 h1 h2 (fun z => nomatch z) h3 (hpr s hkon (Or.inr trivial)) (hca s hkon) hnL hfr hlo hoi har rfl rfl
          (fun q hq pc d => by
            have := hv q hq
            unfold ck_anyL at this
            unfold ck_cq
            split
            · next hz => rw [hz] at this; rw [hnL]; exact this p e s m args below meth c mc ms _ cc ret pc X9 d
            · trivial)
          (fun q hq pc d => by
            have := hs q hq
            unfold ck_anyL at this
            unfold ck_cq
            split
            · next hz => rw [hz] at this; rw [hnL]; exact this p e s m args below meth c mc ms _ cc ret pc X9 d
            · trivial)
          (fun q hq pc d => by
            have := ht q hq
            unfold ck_anyL at this
            unfold ck_cq
            split
            · next hz => rw [hz] at this; rw [hnL]; exact this p e s m args below meth c mc ms _ cc ret pc X9 d
            · trivial)
          (fun q hq pc cn d => by
            have := hf q hq
            unfold ck_anyF at this
            unfold ck_cq
            split
            · next hz => rw [hz] at this; rw [hnL]; exact this cn p e s m args below meth c mc ms _ cc ret pc X9 d
            · trivial)
          (fun q hq Ex hE => by rw [hth] at hq; cases hq) hdc ho)
      · cases hd
    · cases hd
  refine cn_all_ok (w := w) hctx rfl rfl (fun x hx => ?_) c1 c2 (A := ck_A0 E.2.2.1 E.2.2.2.1) (r := r) (s := s0) ?_ hI0
  · have o_ := List.all_eq_true.mp hdec x hx
    have q_ := List.all_eq_true.mp hck x hx
    obtain ⟨pc_, z_⟩ := x
    unfold cl_ok2 at o_
    unfold cs_ck2 at q_
    dsimp only at o_ q_
    cases hb_ : ck_lu pc_ sp with
    | none =>
      rw [hb_] at o_ q_
      exact cs_ck_ok hr9 hcm (base_ (pc_, z_) o_) q_
    | some k_ =>
      obtain ⟨k1_, k2_⟩ := k_
      rw [hb_] at o_ q_
      dsimp only at o_ q_
      split at q_
      · next e_ he_ =>
        split at q_
        · next s_ s2_ U_ hU_ =>
          obtain ⟨a1_, a2_⟩ := Bool.and_eq_true_iff.mp q_
          obtain ⟨a3_, a4_⟩ := Bool.and_eq_true_iff.mp a2_
          unfold cl_row at o_
          split at o_
          · obtain ⟨b1_, b2_⟩ := Bool.and_eq_true_iff.mp o_
            next pc2_ f2_ v_ t_ t2_ ex_ hk_ hp_ =>
            cases hp_
            have t9_ := ck_beq b1_
            subst t9_
            exact cs_two (base_ (pc_, (2, 0, 0, 0, k2_, t_, [])) (by rw [b2_, Bool.true_or])) he_ hU_ a1_ a3_ a4_
          · next hk_ _ => cases hk_
          · cases o_
        · next s_ U_ hU_ =>
          obtain ⟨a1_, a4_⟩ := Bool.and_eq_true_iff.mp q_
          unfold cl_row at o_
          split at o_
          · next hk_ _ => cases hk_
          · next pc2_ f2_ v_ t_ g2_ ex_ hk_ hp_ =>
            cases hp_
            exact cs_nought (base_ (pc_, (1, 0, 0, 0, k2_, t_, [])) (by rw [o_, Bool.true_or])) he_ hU_ a1_ a4_
          · cases o_
        · cases q_
      · cases q_
  · refine ⟨hV, hC, fun f hf9 => ?_, hn, by rw [hnL]; exact ck_ent_ok hS nL, trivial, ck_Lv.k r 0, ck_Lv.k r 0, hH, ck_Kp.rf, Nat.le_refl _, ⟨[], by rw [List.append_nil]⟩, ⟨[], by rw [List.append_nil]⟩⟩
    exact (hF f hf9).z5 (List.all_eq_true.mp c3 f hf9)
