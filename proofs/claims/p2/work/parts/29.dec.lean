section
/-! A METHOD'S CODE AS STEPS, AND ITS CONTRACT -/
/-- the words that a class's links rest on -/
def ck_ok1 (own : String) (tb : ck_TB) : Prop := match tb with
  | (ints, longs, refs, gets, puts, news, anews, casts, _, _, oi, sts, _) =>
    (∀ q ∈ ints, Cond.constant own q.1 (Int32.ofInt q.2) ∈ lw_gw) ∧ (∀ q ∈ longs, Cond.constantLong own q.1 (Int64.ofInt q.2) ∈ lw_gw) ∧ (∀ q ∈ refs, (∃ tx, (own, q.1, tx, q.2) ∈ am_T) ∨ (q.2 = 5 ∧ Cond.classLink own q.1 "[Ljava/lang/Object;" ∈ lw_gw)) ∧
    (∀ q ∈ gets, am_fl own q.1 q.2.1 q.2.2 ∧ q.2.1 < 50 ∧ ∃ fin ty, am_fd q.2.1 q.2.2 fin ty) ∧
    (∀ q ∈ news, ∃ C T N, am_nw q.2.1 N (q.2.2.map ck_d0) ∧ am_cl[q.2.1]? = some (C, T, N) ∧ Cond.classLink own q.1 C ∈ lw_gw ∧ q.2.1 < 50) ∧
    (∀ q ∈ anews, (∃ C, am_aty q.2 = .object C ∧ 53 ≤ q.2 ∧ q.2 < 57 ∧ Cond.classLink own q.1 C ∈ lw_gw ∧ Cond.arrayOver (.object C) ∈ lw_ng) ∨ (q.2 = 57 ∧ Cond.classLink own q.1 (FieldType.array .int).toString ∈ lw_gw ∧ Cond.arrayOver (.array .int) ∈ lw_ng)) ∧
    (∀ q ∈ oi, Cond.methodLink own q objectInit ∈ lw_gw) ∧
    (∀ q ∈ sts, ∃ z ∈ am_Z, Cond.fieldLink own q.1 z.1 z.2.1 z.2.2.1 ∈ lw_gw ∧ ((q.2.1 = 0 ∧ z.2.2.2 = .int (Int32.ofInt q.2.2)) ∨ (q.2.1 = 1 ∧ ∃ v : Nat, q.2.2 = (v : Int) ∧ z.2.2.2 = .ref v)))
def ck_puts (own : String) (init : Bool) (tb : ck_TB) : Prop := ∀ q ∈ tb.2.2.2.2.1, am_fl own q.1 q.2.1 q.2.2.1 ∧ q.2.1 < 50 ∧ ∃ ty, ck_jt q.2.2.2 ty ∧ (am_fd q.2.1 q.2.2.1 false ty ∨ (am_fd q.2.1 q.2.2.1 true ty ∧ init = true ∧ ∀ r, am_cl[q.2.1]? = some r → (r.2.1 q.2.2.1).1 = own))
section AMD
variable {G : am_G} {p : Program} {l : Launch} {e : Env} {R : Room} {s : State} {m : MethodId} {args : Array Value} {below : List Frame} {meth : Method} {c : Code} {mc ms : Nat} {Post : am_O → List am_C → Prop}
variable {own : String} {cc : ByteArray} {nL pc : Nat} {ret : Option FieldType}
/-- the step of a call -/
def ck_cq (G : am_G) (S : ck_SS) (SX : Nat → ck_SX) (Rc Rs nL : Nat) (cm : Nat → ck_CM) (cl : List ck_Cl) (pc nx f : Nat) : Prop := match cl[f]? with
  | some (rc, na, _) => ck_sQ G S (SX pc) Rc Rs nL pc nx rc (cm f) na
  | none => True
theorem ck_os_same {G : am_G} {S : ck_SS} {SX : Nat → ck_SX} {P : am_O → List am_C → Prop} {Rc Rs : Nat} {cm : Nat → ck_CM} {E : ck_E} {pc : Nat} {a b : ck_O} (h : ck_same a b = true) (ha : ck_os G S SX P Rc Rs cm E pc a) : ck_os G S SX P Rc Rs cm E pc b := by
  obtain ⟨c3, c4, rfl, h1, h2⟩ := ck_same_ok h
  obtain ⟨a1, a2, a3, a4, a5, a6, a7⟩ := a
  obtain ⟨T, pr, ownk, nL, code, cl, hds, gh, cuts⟩ := E
  have h5 : c3 = a3 ∨ a1 = 9 ∨ a1 = 10 := h1
  have h6 : c4 = a4 ∨ (a1 = 0 ∧ (a2 = 15 ∨ a2 = 16)) := h2
  show ck_os G S SX P Rc Rs cm (T, pr, ownk, nL, code, cl, hds, gh, cuts) pc (a1, a2, c3, c4, a5, a6, a7)
  clear h h1 h2
  rcases h6 with rfl | ⟨rfl, h6⟩
  · rcases h5 with rfl | rfl | rfl
    · exact ha
    · exact ha
    · exact ha
  · have h7 : c3 = a3 := h5.resolve_right (fun z => by rcases z with z | z <;> cases z)
    subst h7
    have ha : ck_sP S pc a5 a2 c3 a4 := ha
    show ck_sP S pc a5 a2 c3 c4
    intro L st L' st' hh k n e1
    rcases h6 with rfl | rfl
    · match st, e1 with
      | .int y :: .int x :: st, e1 => exact ha L _ L' st' hh k n (by simp only [ck_cf] at e1 ⊢; exact e1)
    · match st, e1 with
      | .long y :: .long x :: st, e1 => exact ha L _ L' st' hh k n (by simp only [ck_cf] at e1 ⊢; exact e1)
set_option maxHeartbeats 8000000 in
set_option maxRecDepth 100000 in
theorem ck_tr_ok (X : am_Cx l G p s m args meth c own cc nL ret) {tb : ck_TB} (h1 : ck_ok1 own tb) {init : Bool} (h2 : ck_puts own init tb) (hin : init = true → meth.name = "<init>") (h3 : ck_rj tb.2.2.2.2.2.2.2.2.2.2.2.2 ret)
    {E : ck_E} (hpr : ∀ q ∈ E.2.1, 53 ≤ q.1 ∧ q.2 < 59 ∧ am_asg G s q.1 q.2) (hca : ∀ q ∈ tb.2.2.2.2.2.2.2.1, ∃ nm, Cond.classLink own q.1 nm ∈ lw_gw ∧ ∀ k ∈ q.2, k < 59 ∧ am_isa G s k nm) (hnL : E.2.2.2.1 = nL) (hfr : 1 ≤ R.frames) (hlo : 20 ≤ R.locals) (hoi : Cond.instanceMethod objectInit ∈ lw_gw ∧ Cond.code objectInit ⟨#[0xb1]⟩ 1 none ∈ lw_gw) (har : Cond.arrayClass .int ∈ lw_gw ∧ Cond.arrayClass .byte ∈ lw_gw ∧ Cond.arrayClass .long ∈ lw_gw)
    (hmc : R.cells = mc) (hms : R.slots = ms) {cm : Nat → ck_CM}
    (hv : ∀ q ∈ tb.2.2.2.2.2.2.2.2.1.1, ∀ pc, decode cc pc = .ok (.invokevirtual q.1, 3) → ck_cq G (am_S G p l e R s m args below meth c mc ms Post) (am_SX G p l e R s m args below meth c mc ms Post) mc ms E.2.2.2.1 cm E.2.2.2.2.2.1 pc (pc + 3) q.2)
    (hs : ∀ q ∈ tb.2.2.2.2.2.2.2.2.1.2.1, ∀ pc, decode cc pc = .ok (.invokespecial q.1, 3) → ck_cq G (am_S G p l e R s m args below meth c mc ms Post) (am_SX G p l e R s m args below meth c mc ms Post) mc ms E.2.2.2.1 cm E.2.2.2.2.2.1 pc (pc + 3) q.2)
    (ht : ∀ q ∈ tb.2.2.2.2.2.2.2.2.1.2.2.1, ∀ pc, decode cc pc = .ok (.invokestatic q.1, 3) → ck_cq G (am_S G p l e R s m args below meth c mc ms Post) (am_SX G p l e R s m args below meth c mc ms Post) mc ms E.2.2.2.1 cm E.2.2.2.2.2.1 pc (pc + 3) q.2)
    (hf : ∀ q ∈ tb.2.2.2.2.2.2.2.2.1.2.2.2, ∀ pc cn, decode cc pc = .ok (.invokeinterface q.1 cn, 5) → ck_cq G (am_S G p l e R s m args below meth c mc ms Post) (am_SX G p l e R s m args below meth c mc ms Post) mc ms E.2.2.2.1 cm E.2.2.2.2.2.1 pc (pc + 5) q.2)
    (hth : ∀ q ∈ tb.2.2.2.2.2.2.2.2.2.1, ∀ Ex, E.2.2.1.2.2.2.2.2[q.2]? = some Ex → ck_sZ (am_S G p l e R s m args below meth c mc ms Post) Post mc ms E.2.2.2.1 q.1 Ex)
    {ins : Instr} {len : Nat} {o : ck_O} (d : decode cc pc = .ok (ins, len)) (h : ck_tr tb pc ins len = some o) : ck_os G (am_S G p l e R s m args below meth c mc ms Post) (am_SX G p l e R s m args below meth c mc ms Post) Post mc ms cm E pc o := by
  obtain ⟨ints, longs, refs, gets, puts, news, anews, casts, ⟨cv, ci, cs, cf⟩, thr, oi, sts, jt⟩ := tb
  obtain ⟨T, pr, ownk, nL', code, cl, hds, gh, cuts⟩ := E
  have hnL : nL' = nL := hnL
  subst hnL
  obtain ⟨k1, k2, k3, k4, k5, k6, k7, k8⟩ := h1
  dsimp only at hca hv hs ht hf hth h3 hpr
  unfold ck_tr at h
  dsimp only at h
  split at h
  · next f hf9 =>
    cases h
    show (match ownk.2.2.2.2.2[f]? with
      | some Ex => ck_sZ (am_S G p l e R s m args below meth c mc ms Post) Post mc ms nL' pc Ex
      | none => True)
    cases hx : ownk.2.2.2.2.2[f]? with
    | none => trivial
    | some Ex => exact hth _ (ck_lu_mem hf9) Ex hx
  · split at h
    · obtain ⟨hc, h⟩ := ck_bt rfl h
      cases h
      cases ck_beq hc
      exact am_s_iconst X d
    · obtain ⟨hc, h⟩ := ck_bt rfl h
      cases h
      obtain ⟨hc, hd⟩ := Bool.and_eq_true_iff.mp hc
      cases ck_beq hc
      exact am_s_bipush X d (of_decide_eq_true hd)
    · obtain ⟨hc, h⟩ := ck_bt rfl h
      cases h
      obtain ⟨hc, hd⟩ := Bool.and_eq_true_iff.mp hc
      cases ck_beq hc
      exact am_s_sipush X d (of_decide_eq_true hd)
    · obtain ⟨hc, h⟩ := ck_bt rfl h
      cases h
      cases ck_beq hc
      exact am_s_lconst X d
    · next i =>
      cases hc : Nat.beq len 2
      · rw [hc] at h; cases h
      · rw [hc, cond_true] at h
        cases ck_beq hc
        split at h
        · next v hv9 =>
          cases h
          exact am_s_ldc X (k1 _ (ck_lu_mem hv9)) d
        · split at h
          · next q hq9 =>
            cases h
            rcases k3 _ (ck_lu_mem hq9) with ⟨tx, hz⟩ | ⟨z1, z2⟩
            · exact am_s_ldcs X hz d
            · have z1 : q = 5 := z1
              subst z1
              exact am_s_ldcM X z2 d
          · cases h
    · next i =>
      cases hc : Nat.beq len 3
      · rw [hc] at h; cases h
      · rw [hc, cond_true] at h
        cases ck_beq hc
        split at h
        · next v hv9 =>
          cases h
          exact am_s_ldc_w X (k1 _ (ck_lu_mem hv9)) d
        · split at h
          · next q hq9 =>
            cases hq5 : Nat.beq q 5
            · rw [hq5, cond_false] at h
              cases h
              rcases k3 _ (ck_lu_mem hq9) with ⟨tx, hz⟩ | ⟨z1, z2⟩
              · exact am_s_ldcsw X hz d
              · exfalso
                have z1 : q = 5 := z1
                rw [z1] at hq5
                cases hq5
            · rw [hq5] at h
              cases h
          · cases h
    · next i =>
      cases hc : Nat.beq len 3
      · rw [hc] at h; cases h
      · rw [hc, cond_true] at h
        cases ck_beq hc
        split at h
        · next v hv9 =>
          cases h
          exact am_s_ldc2 X (k2 _ (ck_lu_mem hv9)) d
        · cases h
    · obtain ⟨hc, h⟩ := ck_bt rfl h
      cases h
      cases ck_beq hc
      exact am_s_null X d
    · obtain ⟨hc, h⟩ := ck_bt rfl h
      cases h
      cases ck_beq hc
      exact am_s_iload_n X d
    · obtain ⟨hc, h⟩ := ck_bt rfl h
      cases h
      cases ck_beq hc
      exact am_s_iload X d
    · obtain ⟨hc, h⟩ := ck_bt rfl h
      cases h
      cases ck_beq hc
      exact am_s_lload_n X d
    · obtain ⟨hc, h⟩ := ck_bt rfl h
      cases h
      cases ck_beq hc
      exact am_s_lload X d
    · obtain ⟨hc, h⟩ := ck_bt rfl h
      cases h
      cases ck_beq hc
      exact am_s_aload_n X d
    · obtain ⟨hc, h⟩ := ck_bt rfl h
      cases h
      cases ck_beq hc
      exact am_s_aload X d
    · obtain ⟨hc, h⟩ := ck_bt rfl h
      cases h
      cases ck_beq hc
      exact am_s_istore_n X d
    · obtain ⟨hc, h⟩ := ck_bt rfl h
      cases h
      cases ck_beq hc
      exact am_s_istore X d
    · obtain ⟨hc, h⟩ := ck_bt rfl h
      cases h
      cases ck_beq hc
      exact am_s_lstore_n X d
    · obtain ⟨hc, h⟩ := ck_bt rfl h
      cases h
      cases ck_beq hc
      exact am_s_lstore X d
    · obtain ⟨hc, h⟩ := ck_bt rfl h
      cases h
      cases ck_beq hc
      exact am_s_astore_n X d
    · obtain ⟨hc, h⟩ := ck_bt rfl h
      cases h
      cases ck_beq hc
      exact am_s_astore X d
    · obtain ⟨hc, h⟩ := ck_bt rfl h
      cases h
      cases ck_beq hc
      exact am_s_iinc X d
    · obtain ⟨hc, h⟩ := ck_bt rfl h
      cases h
      cases ck_beq hc
      exact am_s_pop X d
    · obtain ⟨hc, h⟩ := ck_bt rfl h
      cases h
      cases ck_beq hc
      exact am_s_dup X d
    · obtain ⟨hc, h⟩ := ck_bt rfl h
      cases h
      cases ck_beq hc
      exact am_s_dup_x1 X d
    · obtain ⟨hc, h⟩ := ck_bt rfl h
      cases h
      cases ck_beq hc
      exact am_s_dup2 X d
    · obtain ⟨hc, h⟩ := ck_bt rfl h
      cases h
      cases ck_beq hc
      exact am_s_iadd X d
    · obtain ⟨hc, h⟩ := ck_bt rfl h
      cases h
      cases ck_beq hc
      exact am_s_isub X d
    · obtain ⟨hc, h⟩ := ck_bt rfl h
      cases h
      cases ck_beq hc
      exact am_s_imul X d
    · obtain ⟨hc, h⟩ := ck_bt rfl h
      cases h
      cases ck_beq hc
      exact am_s_idiv X d
    · obtain ⟨hc, h⟩ := ck_bt rfl h
      cases h
      cases ck_beq hc
      exact am_s_irem X d
    · obtain ⟨hc, h⟩ := ck_bt rfl h
      cases h
      cases ck_beq hc
      exact am_s_iand X d
    · obtain ⟨hc, h⟩ := ck_bt rfl h
      cases h
      cases ck_beq hc
      exact am_s_ior X d
    · obtain ⟨hc, h⟩ := ck_bt rfl h
      cases h
      cases ck_beq hc
      exact am_s_ixor X d
    · obtain ⟨hc, h⟩ := ck_bt rfl h
      cases h
      cases ck_beq hc
      exact am_s_ishl X d
    · obtain ⟨hc, h⟩ := ck_bt rfl h
      cases h
      cases ck_beq hc
      exact am_s_ishr X d
    · obtain ⟨hc, h⟩ := ck_bt rfl h
      cases h
      cases ck_beq hc
      exact am_s_iushr X d
    · obtain ⟨hc, h⟩ := ck_bt rfl h
      cases h
      cases ck_beq hc
      exact am_s_ladd X d
    · obtain ⟨hc, h⟩ := ck_bt rfl h
      cases h
      cases ck_beq hc
      exact am_s_lsub X d
    · obtain ⟨hc, h⟩ := ck_bt rfl h
      cases h
      cases ck_beq hc
      exact am_s_lmul X d
    · obtain ⟨hc, h⟩ := ck_bt rfl h
      cases h
      cases ck_beq hc
      exact am_s_ldiv X d
    · obtain ⟨hc, h⟩ := ck_bt rfl h
      cases h
      cases ck_beq hc
      exact am_s_lrem X d
    · obtain ⟨hc, h⟩ := ck_bt rfl h
      cases h
      cases ck_beq hc
      exact am_s_lxor X d
    · obtain ⟨hc, h⟩ := ck_bt rfl h
      cases h
      cases ck_beq hc
      exact am_s_ineg X d
    · obtain ⟨hc, h⟩ := ck_bt rfl h
      cases h
      cases ck_beq hc
      exact am_s_i2b X d
    · obtain ⟨hc, h⟩ := ck_bt rfl h
      cases h
      cases ck_beq hc
      exact am_s_i2c X d
    · obtain ⟨hc, h⟩ := ck_bt rfl h
      cases h
      cases ck_beq hc
      exact am_s_lneg X d
    · obtain ⟨hc, h⟩ := ck_bt rfl h
      cases h
      cases ck_beq hc
      exact am_s_i2l X d
    · obtain ⟨hc, h⟩ := ck_bt rfl h
      cases h
      cases ck_beq hc
      exact am_s_l2i X d
    · obtain ⟨hc, h⟩ := ck_bt rfl h
      cases h
      cases ck_beq hc
      exact am_s_lcmp X d
    · cases hc : Nat.beq len 3
      · rw [hc] at h; cases h
      · rw [hc, cond_true] at h
        cases ck_beq hc
        obtain ⟨t, ht9, h⟩ := Option.bind_eq_some_iff.mp h
        cases h
        exact am_s_if X d (ck_to_ok ht9)
    · cases hc : Nat.beq len 3
      · rw [hc] at h; cases h
      · rw [hc, cond_true] at h
        cases ck_beq hc
        obtain ⟨t, ht9, h⟩ := Option.bind_eq_some_iff.mp h
        cases h
        exact am_s_icmp X d (ck_to_ok ht9)
    · cases hc : Nat.beq len 3
      · rw [hc] at h; cases h
      · rw [hc, cond_true] at h
        cases ck_beq hc
        obtain ⟨t, ht9, h⟩ := Option.bind_eq_some_iff.mp h
        cases h
        exact am_s_goto X d (ck_to_ok ht9)
    · cases hc : Nat.beq len 3
      · rw [hc] at h; cases h
      · rw [hc, cond_true] at h
        cases ck_beq hc
        obtain ⟨t, ht9, h⟩ := Option.bind_eq_some_iff.mp h
        cases h
        exact am_s_ifnull X d (ck_to_ok ht9)
    · cases hc : Nat.beq len 3
      · rw [hc] at h; cases h
      · rw [hc, cond_true] at h
        cases ck_beq hc
        obtain ⟨t, ht9, h⟩ := Option.bind_eq_some_iff.mp h
        cases h
        exact am_s_acmp (eq := true) X d (ck_to_ok ht9)
    · cases hc : Nat.beq len 3
      · rw [hc] at h; cases h
      · rw [hc, cond_true] at h
        cases ck_beq hc
        obtain ⟨t, ht9, h⟩ := Option.bind_eq_some_iff.mp h
        cases h
        exact am_s_acmp (eq := false) X d (ck_to_ok ht9)
    · cases hc : Nat.beq len 3
      · rw [hc] at h; cases h
      · rw [hc, cond_true] at h
        cases ck_beq hc
        obtain ⟨t, ht9, h⟩ := Option.bind_eq_some_iff.mp h
        cases h
        exact am_s_ifnonnull X d (ck_to_ok ht9)
    · next dd lo hi offs =>
      cases hc : decide (hi - lo + 1 = (offs.toList.length : Int))
      · rw [hc] at h; cases h
      · rw [hc, cond_true] at h
        obtain ⟨t, ht9, h⟩ := Option.bind_eq_some_iff.mp h
        obtain ⟨mm, hm9, h⟩ := Option.bind_eq_some_iff.mp h
        cases h
        exact am_s_table X d (ck_to_ok ht9) hm9 (of_decide_eq_true hc)
    · next i =>
      cases hc : Nat.beq len 3
      · rw [hc] at h; cases h
      · rw [hc, cond_true] at h
        cases ck_beq hc
        obtain ⟨q, hq9, h⟩ := Option.bind_eq_some_iff.mp h
        cases h
        have hq9 := ck_lu_mem hq9
        obtain ⟨a1, a2, fin, ty, a3⟩ := k4 _ hq9
        exact am_s_getf X a3 a1 a2 d
    · next i =>
      cases hc : Nat.beq len 3
      · rw [hc] at h; cases h
      · rw [hc, cond_true] at h
        cases ck_beq hc
        obtain ⟨q, hq9, h⟩ := Option.bind_eq_some_iff.mp h
        cases h
        have hq9 := ck_lu_mem hq9
        obtain ⟨a1, a2, ty, a3, a4⟩ := h2 _ hq9
        exact am_s_putf X (a4.imp id fun ⟨b1, b2, b3⟩ => ⟨b1, hin b2, b3⟩) a3 a1 a2 d
    · next i =>
      cases hc : Nat.beq len 3
      · rw [hc] at h; cases h
      · rw [hc, cond_true] at h
        cases ck_beq hc
        obtain ⟨q, hq9, h⟩ := Option.bind_eq_some_iff.mp h
        cases h
        have hq9 := ck_lu_mem hq9
        obtain ⟨C, T9, N, a1, a2, a3, a4⟩ := k5 _ hq9
        have := am_s_new (e := e) (R := R) (below := below) (mc := mc) (ms := ms) (Post := Post) X a1 a2 a3 a4 d
        rw [hmc, hms] at this
        show ck_sW _ mc ms pc (pc + 3) q.1 ((q.2.map fun d => ((0 : Int), d)).map fun q => q.2)
        rw [List.map_map, show ((fun q : Int × Nat => q.2) ∘ fun d : Nat => ((0 : Int), d)) = id from rfl, List.map_id]
        exact this
    · obtain ⟨hc, h⟩ := ck_bt rfl h
      cases h
      cases ck_beq hc
      have := am_s_newI (e := e) (R := R) (below := below) (mc := mc) (ms := ms) (Post := Post) X har.1 d
      rw [hmc, hms] at this
      exact this
    · obtain ⟨hc, h⟩ := ck_bt rfl h
      cases h
      cases ck_beq hc
      have := am_s_newB (e := e) (R := R) (below := below) (mc := mc) (ms := ms) (Post := Post) X har.2.1 d
      rw [hmc, hms] at this
      exact this
    · obtain ⟨hc, h⟩ := ck_bt rfl h
      cases h
      cases ck_beq hc
      have := am_s_newJ (e := e) (R := R) (below := below) (mc := mc) (ms := ms) (Post := Post) X har.2.2 d
      rw [hmc, hms] at this
      exact this
    · next i =>
      cases hc : Nat.beq len 3
      · rw [hc] at h; cases h
      · rw [hc, cond_true] at h
        cases ck_beq hc
        obtain ⟨q, hq9, h⟩ := Option.bind_eq_some_iff.mp h
        cases h
        have hq9 := ck_lu_mem hq9
        rcases k6 _ hq9 with ⟨C, a1, a2, a3, a4, a5⟩ | ⟨a1, a2, a3⟩
        · have := am_s_newQ (e := e) (R := R) (below := below) (mc := mc) (ms := ms) (Post := Post) X a1 a2 a3 a4 a5 d
          rw [hmc, hms] at this
          exact this
        · have a1 : q = 57 := a1
          subst a1
          have := am_s_newII (e := e) (R := R) (below := below) (mc := mc) (ms := ms) (Post := Post) X a2 a3 d
          rw [hmc, hms] at this
          exact this
    · obtain ⟨hc, h⟩ := ck_bt rfl h
      cases h
      cases ck_beq hc
      exact am_s_alen X d
    · obtain ⟨hc, h⟩ := ck_bt rfl h
      cases h
      cases ck_beq hc
      exact am_s_iald X d
    · obtain ⟨hc, h⟩ := ck_bt rfl h
      cases h
      cases ck_beq hc
      exact am_s_bald X d
    · obtain ⟨hc, h⟩ := ck_bt rfl h
      cases h
      cases ck_beq hc
      exact am_s_lald X d
    · obtain ⟨hc, h⟩ := ck_bt rfl h
      cases h
      cases ck_beq hc
      exact am_s_aald X d
    · obtain ⟨hc, h⟩ := ck_bt rfl h
      cases h
      cases ck_beq hc
      exact am_s_iast X (fun q hq => (hpr q hq).1) d
    · obtain ⟨hc, h⟩ := ck_bt rfl h
      cases h
      cases ck_beq hc
      exact am_s_bast X (fun q hq => (hpr q hq).1) d
    · obtain ⟨hc, h⟩ := ck_bt rfl h
      cases h
      cases ck_beq hc
      exact am_s_last X (fun q hq => (hpr q hq).1) d
    · obtain ⟨hc, h⟩ := ck_bt rfl h
      cases h
      cases ck_beq hc
      exact am_s_aast X (fun q hq => (hpr q hq).2) d
    · obtain ⟨hc, h⟩ := ck_bt rfl h
      cases h
      obtain ⟨hc, hd⟩ := Bool.and_eq_true_iff.mp hc
      cases ck_beq hc
      exact am_s_iret X (Nat.le_of_ble_eq_true hd) h3 d
    · obtain ⟨hc, h⟩ := ck_bt rfl h
      cases h
      obtain ⟨hc, hd⟩ := Bool.and_eq_true_iff.mp hc
      cases ck_beq hc
      exact am_s_lret X (by rw [← ck_beq hd]; exact h3) d
    · obtain ⟨hc, h⟩ := ck_bt rfl h
      cases h
      obtain ⟨hc, hd⟩ := Bool.and_eq_true_iff.mp hc
      cases ck_beq hc
      exact am_s_aret X (by rw [← ck_beq hd]; exact h3) d
    · obtain ⟨hc, h⟩ := ck_bt rfl h
      cases h
      obtain ⟨hc, hd⟩ := Bool.and_eq_true_iff.mp hc
      cases ck_beq hc
      exact am_s_vret X (by rw [← ck_beq hd]; exact h3) d
    · next i =>
      cases hc : Nat.beq len 3
      · rw [hc] at h; cases h
      · rw [hc, cond_true] at h
        cases ck_beq hc
        obtain ⟨q, hq9, h⟩ := Option.bind_eq_some_iff.mp h
        cases h
        have hq9 := ck_lu_mem hq9
        exact hv _ hq9 pc d
    · next i =>
      cases hc : Nat.beq len 3
      · rw [hc] at h; cases h
      · rw [hc, cond_true] at h
        cases ck_beq hc
        cases hb : oi.any (Nat.beq i)
        · rw [hb, cond_false] at h
          obtain ⟨q, hq9, h⟩ := Option.bind_eq_some_iff.mp h
          cases h
          exact hs _ (ck_lu_mem hq9) pc d
        · rw [hb, cond_true] at h
          cases h
          obtain ⟨x, x1, x2⟩ := List.any_eq_true.mp hb
          rw [← ck_beq x2] at x1
          exact am_s_objInit X (k7 _ x1) hoi.1 hoi.2 hfr hlo d
    · next i =>
      cases hc : Nat.beq len 3
      · rw [hc] at h; cases h
      · rw [hc, cond_true] at h
        cases ck_beq hc
        obtain ⟨q, hq9, h⟩ := Option.bind_eq_some_iff.mp h
        cases h
        have hq9 := ck_lu_mem hq9
        exact ht _ hq9 pc d
    · next i cn =>
      cases hc : Nat.beq len 5
      · rw [hc] at h; cases h
      · rw [hc, cond_true] at h
        cases ck_beq hc
        obtain ⟨q, hq9, h⟩ := Option.bind_eq_some_iff.mp h
        cases h
        exact hf _ (ck_lu_mem hq9) pc cn d
    · next i =>
      cases hc : Nat.beq len 3
      · rw [hc] at h; cases h
      · rw [hc, cond_true] at h
        cases ck_beq hc
        obtain ⟨q, hq9, h⟩ := Option.bind_eq_some_iff.mp h
        cases h
        have hq9 := ck_lu_mem hq9
        obtain ⟨nm, a1, a2⟩ := hca _ hq9
        show ck_sT G _ pc (pc + 3) ((q.map fun d => ((0 : Int), d)).map fun q => q.2)
        rw [List.map_map, show ((fun q : Int × Nat => q.2) ∘ fun d : Nat => ((0 : Int), d)) = id from rfl, List.map_id]
        exact am_s_cast X a1 a2 d
    · next i =>
      cases hc : Nat.beq len 3
      · rw [hc] at h; cases h
      · rw [hc, cond_true] at h
        cases ck_beq hc
        obtain ⟨q, hq9, h⟩ := Option.bind_eq_some_iff.mp h
        obtain ⟨z, z1, z2, z3⟩ := k8 _ (ck_lu_mem hq9)
        split at h
        · next v =>
          cases h
          rcases z3 with ⟨-, z3⟩ | ⟨z3, -⟩
          · exact am_s_getsI X z1 z2 z3 d
          · cases z3
        · next v =>
          cases h
          rcases z3 with ⟨z3, -⟩ | ⟨-, v', z3, z4⟩
          · cases z3
          · have z3 : Int.ofNat v = (v' : Int) := z3
            have : v = v' := Int.ofNat.inj z3
            subst this
            exact am_s_getsR X z1 z2 z4 d
        · cases h
    · cases h
end AMD
end
section
/-! A METHOD'S CONTRACT OUT OF ITS WALK -/
def am_cm (l : Launch) (G : am_G) (y : MethodName) (cw : Jvm.Cond) (fr lo : Nat) : ck_CM := fun a h mc ms P => am_M l G y cw fr lo mc ms a h P
/-- the same of a method that throws nothing -/
def am_cn (l : Launch) (G : am_G) (y : MethodName) (cw : Jvm.Cond) (fr lo : Nat) : ck_CM := fun a h mc ms P => am_M l G y cw fr lo mc ms a h P ∧ ∀ E h', ¬ P (.inr E) h'
theorem am_cn_ok {l : Launch} {G : am_G} {y : MethodName} {cw : Jvm.Cond} {fr lo : Nat} {X : ck_XT} {T : ck_TT} {c : ck_KK} (h : ck_Con (am_cm l G y cw fr lo) G X T c) (hx : c.2.2.2.2.2 = []) : ck_Con (am_cn l G y cw fr lo) G X T c :=
  fun K r s a h' h1 h2 h3 h4 h5 h6 mc ms h7 h8 => ⟨h K r s a h' h1 h2 h3 h4 h5 h6 mc ms h7 h8, fun E h'' hp => by
    have := hp.2.2.2
    dsimp only at this
    rw [hx] at this
    cases this⟩
/-- a call's step, wherever the caller stands -/
def ck_any (l : Launch) (G : am_G) (own : String) (nL fr lo : Nat) (ins : Instr) (len : Nat) (rc : Option Nat) (na : Nat) (CM : ck_CM) : Prop :=
  ∀ (p : Program) (e : Env) (s : State) (m : MethodId) (args : Array Value) (below : List Frame) (meth : Method) (c : Code) (mc ms : Nat) (Post : am_O → List am_C → Prop) (cc : ByteArray) (ret : Option FieldType) (pc : Nat), am_Cx l G p s m args meth c own cc nL ret → decode cc pc = .ok (ins, len) →
    ck_sQ G (am_S G p l e { frames := fr, cells := mc, slots := ms, locals := lo } s m args below meth c mc ms Post) (am_SX G p l e { frames := fr, cells := mc, slots := ms, locals := lo } s m args below meth c mc ms Post pc) mc ms nL pc (pc + len) rc CM na
def ck_anyL (l : Launch) (G : am_G) (own : String) (nL fr lo : Nat) (f : Nat → Instr) (cm : Nat → ck_CM) (cl : List ck_Cl) (q : Nat × Nat) : Prop := match cl[q.2]? with
  | some (rc, na, _) => ck_any l G own nL fr lo (f q.1) 3 rc na (cm q.2)
  | none => True
def ck_anyF (l : Launch) (G : am_G) (own : String) (nL fr lo : Nat) (cm : Nat → ck_CM) (cl : List ck_Cl) (q : Nat × Nat) : Prop := match cl[q.2]? with
  | some (rc, na, _) => ∀ cn, ck_any l G own nL fr lo (.invokeinterface q.1 cn) 5 rc na (cm q.2)
  | none => True
/-- a throw's step -/
def ck_anyZ (l : Launch) (G : am_G) (own : String) (cc : ByteArray) (nL fr lo pc : Nat) (Ex : String) : Prop :=
  ∀ (p : Program) (e : Env) (s : State) (m : MethodId) (args : Array Value) (below : List Frame) (meth : Method) (c : Code) (mc ms : Nat) (Post : am_O → List am_C → Prop) (ret : Option FieldType), am_Cx l G p s m args meth c own cc nL ret → (∀ x ∈ c.exceptionTable.toList, False) →
    ck_sZ (am_S G p l e { frames := fr, cells := mc, slots := ms, locals := lo } s m args below meth c mc ms Post) Post mc ms nL pc Ex
theorem ck_Rt.of {rt : List Nat} {s : List Nat} {w : ck_W} (hw : w.2.2.2.2.2.2.2.2 = ck_rq rt s) (hs : w.2.2.2.2.2.2.1 = s) (h : ck_rtk rt s.length = true) : ck_Rt w rt := by
  intro t ht
  unfold ck_rtk at h
  split at h
  · cases ht
  · next t0 =>
    rw [List.mem_singleton] at ht
    subst ht
    cases s with
    | nil => cases h
    | cons q u => exact ⟨q, by rw [hs]; rfl, by rw [hw]; exact List.mem_cons_self⟩
  · cases h
set_option maxHeartbeats 8000000 in
theorem ck_meth {l : Launch} {G : am_G} (hl : l.stackTraces = false) {X : ck_XT} {T : ck_TT} (hX : ck_XO X) (hX0 : ck_X0 X) (hKT : ck_KT G T) (hW : ∀ t, t < 100 → ck_wr T t = true)
    {y : MethodName} {cc : ByteArray} {nL : Nat} {ret : Option FieldType} {fr lo fuel : Nat} {E : ck_E} {tb : ck_TB} {init : Bool} {cm : Nat → ck_CM} (hy : plainFor y = true) (hT : E.1 = T) (hnL : E.2.2.2.1 = nL) (hhd : E.2.2.2.2.2.2.1 = []) (hay : (ck_lay E.2.2.1.1.2.2.2.2).length ≤ nL)
    (hchk : ck_chk E fuel = true) (hdec : ck_dec cc tb E.2.2.2.2.1 = true) (h1 : ck_ok1 y.cls tb) (h2 : ck_puts y.cls init tb) (hin : init = true → y.name = "<init>") (h3 : ck_rj tb.2.2.2.2.2.2.2.2.2.2.2.2 ret) (hfr : 1 ≤ fr) (hlo : 20 ≤ lo)
    (hoi : Cond.instanceMethod objectInit ∈ lw_gw ∧ Cond.code objectInit ⟨#[0xb1]⟩ 1 none ∈ lw_gw) (har : Cond.arrayClass .int ∈ lw_gw ∧ Cond.arrayClass .byte ∈ lw_gw ∧ Cond.arrayClass .long ∈ lw_gw)
    (hpr : ∀ s, am_kon G s → (∀ a w, w ∈ lw_gw → w.before a s = true) ∨ True → ∀ q ∈ E.2.1, 53 ≤ q.1 ∧ q.2 < 59 ∧ am_asg G s q.1 q.2) (hca : ∀ s, am_kon G s → ∀ q ∈ tb.2.2.2.2.2.2.2.1, ∃ nm, Cond.classLink y.cls q.1 nm ∈ lw_gw ∧ ∀ k ∈ q.2, k < 59 ∧ am_isa G s k nm)
    (hcl : ∀ (i : Nat) (x : ck_Cl), E.2.2.2.2.2.1[i]? = some x → ∀ c ∈ x.2.2, ck_Con (cm i) G X T c)
    (hv : ∀ q ∈ tb.2.2.2.2.2.2.2.2.1.1, ck_anyL l G y.cls nL fr lo .invokevirtual cm E.2.2.2.2.2.1 q) (hs : ∀ q ∈ tb.2.2.2.2.2.2.2.2.1.2.1, ck_anyL l G y.cls nL fr lo .invokespecial cm E.2.2.2.2.2.1 q) (ht : ∀ q ∈ tb.2.2.2.2.2.2.2.2.1.2.2.1, ck_anyL l G y.cls nL fr lo .invokestatic cm E.2.2.2.2.2.1 q) (hf : ∀ q ∈ tb.2.2.2.2.2.2.2.2.1.2.2.2, ck_anyF l G y.cls nL fr lo cm E.2.2.2.2.2.1 q)
    (hth : ∀ q ∈ tb.2.2.2.2.2.2.2.2.2.1, ∀ Ex, E.2.2.1.2.2.2.2.2[q.2]? = some Ex → ck_anyZ l G y.cls cc nL fr lo q.1 Ex) (hn5 : ∀ f ∈ ck_g5 E, ck_nopP G (cm f)) : ck_Con (am_cm l G y (.code y cc nL ret) fr lo) G X T E.2.2.1 := by
  intro K r s0 a h hH hV hC hF hn hS mc ms hmc hms
  unfold ck_chk at hchk
  simp only [Bool.and_eq_true] at hchk
  obtain ⟨c1, c2, c3, c4⟩ := hchk
  have hlen : ∀ B : List Value, ck_stk r s0 E.2.2.1.1.2.2.2.2 B → (am_lay B).length ≤ nL := fun B hB => by rw [(ck_lay_ok hB).1]; exact hay
  refine am_M.of hl hy (hlen a hS) fun p e s m args below meth c X9 hname htab => ?_
  have hkon := X9.2.2.2.2.2.1
  let w : ck_W := (G, X, T, K, h, r, s0, E.2.2.1.2.2.1, ck_rq E.2.2.1.2.2.2.1 s0)
  have hRt : ck_Rt w E.2.2.1.2.2.2.1 := ck_Rt.of rfl rfl (by rw [hn]; exact c4)
  have hctx : ck_Ctx E w (am_S G p l e { frames := fr, cells := mc, slots := ms, locals := lo } s m args below meth c mc ms (ck_Po G X T K E.2.2.1 r s0 h)) (am_SX G p l e { frames := fr, cells := mc, slots := ms, locals := lo } s m args below meth c mc ms (ck_Po G X T K E.2.2.1 r s0 h)) mc ms cm r s0 := by
    refine ⟨hX, hX0, hT.symm, hW, rfl, rfl, hRt, ⟨hmc, hms⟩, ⟨[], by rw [List.append_nil]⟩, ⟨[], by rw [List.append_nil]⟩, hV.1.symm, hn, hcl, fun pc q hq => ?_, fun pc Ex L h' k n _ hp hk hn' => am_RX.out X9 (fun x hx => (htab x hx).elim) hk hn' hp, fun pc => am_s_retag, fun pc L st h' k n k' n' hk hn' hh => am_R.widen hk hn' hh, hKT, hn5⟩
    rw [hhd] at hq
    cases hq
  refine ck_all_ok (w := w) hctx rfl rfl (fun x hx => ?_) c1 c2 (A := ck_A0 E.2.2.1 E.2.2.2.1) (r := r) (s := s0) ?_
  · have hd := List.all_eq_true.mp hdec x hx
    split at hd
    · next ins len hdc =>
      split at hd
      · next o ho =>
        exact ck_os_same hd (ck_tr_ok X9 h1 h2 (fun z => hname.trans (hin z)) h3 (hpr s hkon (Or.inr trivial)) (hca s hkon) hnL hfr hlo hoi har rfl rfl
          (fun q hq pc d => by
            have := hv q hq
            unfold ck_anyL at this
            unfold ck_cq
            split
            · next hz => rw [hz] at this; rw [hnL]; exact this p e s m args below meth c mc ms _ cc ret pc X9 d
            · trivial)
          (fun q hq pc d => by
            have := hs q hq
            unfold ck_anyL at this
            unfold ck_cq
            split
            · next hz => rw [hz] at this; rw [hnL]; exact this p e s m args below meth c mc ms _ cc ret pc X9 d
            · trivial)
          (fun q hq pc d => by
            have := ht q hq
            unfold ck_anyL at this
            unfold ck_cq
            split
            · next hz => rw [hz] at this; rw [hnL]; exact this p e s m args below meth c mc ms _ cc ret pc X9 d
            · trivial)
          (fun q hq pc cn d => by
            have := hf q hq
            unfold ck_anyF at this
            unfold ck_cq
            split
            · next hz => rw [hz] at this; rw [hnL]; exact this cn p e s m args below meth c mc ms _ cc ret pc X9 d
            · trivial)
          (fun q hq Ex hE => by rw [hnL]; exact hth q hq Ex hE p e s m args below meth c mc ms _ ret X9 htab) hdc ho)
      · cases hd
    · cases hd
  · refine ⟨hV, hC, fun f hf9 => ?_, hn, by rw [hnL]; exact ck_ent_ok hS nL, trivial, ck_Lv.k r 0, ck_Lv.k r 0, hH, ck_Kp.rf, Nat.le_refl _, ⟨[], by rw [List.append_nil]⟩, ⟨[], by rw [List.append_nil]⟩⟩
    exact (hF f hf9).z5 (List.all_eq_true.mp c3 f hf9)
set_option maxHeartbeats 8000000 in
theorem ck_methH {l : Launch} {G : am_G} (hl : l.stackTraces = false) {X : ck_XT} {T : ck_TT} (hX : ck_XO X) (hX0 : ck_X0 X) (hKT : ck_KT G T) (hW : ∀ t, t < 100 → ck_wr T t = true)
    {y : MethodName} {cc : ByteArray} {nL : Nat} {ret : Option FieldType} {fr lo fuel : Nat} {E : ck_E} {tb : ck_TB} {init : Bool} {cm : Nat → ck_CM} (hy : plainName y.cls = true) (hT : E.1 = T) (hnL : E.2.2.2.1 = nL) {hh : List (Nat × Nat × Nat × Nat)} (hhd : ∀ (pc : Nat), ∀ q ∈ ck_at [] pc E.2.2.2.2.2.2.1, am_ct y.cls cc nL pc hh q.1 q.2) (hxs : E.2.2.1.2.2.2.2.2 = []) (hay : (ck_lay E.2.2.1.1.2.2.2.2).length ≤ nL)
    (hchk : ck_chk E fuel = true) (hdec : ck_dec cc tb E.2.2.2.2.1 = true) (h1 : ck_ok1 y.cls tb) (h2 : ck_puts y.cls init tb) (hin : init = false) (h3 : ck_rj tb.2.2.2.2.2.2.2.2.2.2.2.2 ret) (hfr : 1 ≤ fr) (hlo : 20 ≤ lo)
    (hoi : Cond.instanceMethod objectInit ∈ lw_gw ∧ Cond.code objectInit ⟨#[0xb1]⟩ 1 none ∈ lw_gw) (har : Cond.arrayClass .int ∈ lw_gw ∧ Cond.arrayClass .byte ∈ lw_gw ∧ Cond.arrayClass .long ∈ lw_gw)
    (hpr : ∀ s, am_kon G s → (∀ a w, w ∈ lw_gw → w.before a s = true) ∨ True → ∀ q ∈ E.2.1, 53 ≤ q.1 ∧ q.2 < 59 ∧ am_asg G s q.1 q.2) (hca : ∀ s, am_kon G s → ∀ q ∈ tb.2.2.2.2.2.2.2.1, ∃ nm, Cond.classLink y.cls q.1 nm ∈ lw_gw ∧ ∀ k ∈ q.2, k < 59 ∧ am_isa G s k nm)
    (hcl : ∀ (i : Nat) (x : ck_Cl), E.2.2.2.2.2.1[i]? = some x → ∀ c ∈ x.2.2, ck_Con (cm i) G X T c)
    (hv : ∀ q ∈ tb.2.2.2.2.2.2.2.2.1.1, ck_anyL l G y.cls nL fr lo .invokevirtual cm E.2.2.2.2.2.1 q) (hs : ∀ q ∈ tb.2.2.2.2.2.2.2.2.1.2.1, ck_anyL l G y.cls nL fr lo .invokespecial cm E.2.2.2.2.2.1 q) (ht : ∀ q ∈ tb.2.2.2.2.2.2.2.2.1.2.2.1, ck_anyL l G y.cls nL fr lo .invokestatic cm E.2.2.2.2.2.1 q) (hf : ∀ q ∈ tb.2.2.2.2.2.2.2.2.1.2.2.2, ck_anyF l G y.cls nL fr lo cm E.2.2.2.2.2.1 q)
    (hth : tb.2.2.2.2.2.2.2.2.2.1 = []) (hn5 : ∀ f ∈ ck_g5 E, ck_nopP G (cm f)) : ck_Con (am_cm l G y (.codeWith y cc nL ret hh) fr lo) G X T E.2.2.1 := by
  intro K r s0 a h hH hV hC hF hn hS mc ms hmc hms
  unfold ck_chk at hchk
  simp only [Bool.and_eq_true] at hchk
  obtain ⟨c1, c2, c3, c4⟩ := hchk
  have hlen : ∀ B : List Value, ck_stk r s0 E.2.2.1.1.2.2.2.2 B → (am_lay B).length ≤ nL := fun B hB => by rw [(ck_lay_ok hB).1]; exact hay
  refine am_M.ofH hl hy (hlen a hS) fun p e s m args below meth c X9 htab => ?_
  have hkon := X9.2.2.2.2.2.1
  let w : ck_W := (G, X, T, K, h, r, s0, E.2.2.1.2.2.1, ck_rq E.2.2.1.2.2.2.1 s0)
  have hRt : ck_Rt w E.2.2.1.2.2.2.1 := ck_Rt.of rfl rfl (by rw [hn]; exact c4)
  have hctx : ck_Ctx E w (am_S G p l e { frames := fr, cells := mc, slots := ms, locals := lo } s m args below meth c mc ms (ck_Po G X T K E.2.2.1 r s0 h)) (am_SX G p l e { frames := fr, cells := mc, slots := ms, locals := lo } s m args below meth c mc ms (ck_Po G X T K E.2.2.1 r s0 h)) mc ms cm r s0 := by
    refine ⟨hX, hX0, hT.symm, hW, rfl, rfl, hRt, ⟨hmc, hms⟩, ⟨[], by rw [List.append_nil]⟩, ⟨[], by rw [List.append_nil]⟩, hV.1.symm, hn, hcl, fun pc q hq => ?_, fun pc Ex L h' k n _ hp hk hn' => (by have h5 := hp.2.2.2; dsimp only at h5; rw [hxs] at h5; cases h5), fun pc => am_s_retag, fun pc L st h' k n k' n' hk hn' hh => am_R.widen hk hn' hh, hKT, hn5⟩
    intro L h' k n hl9 hk9
    rw [hnL] at hl9 hk9
    exact am_RX.catchS X9 htab (hhd pc q hq) hl9 hk9
  refine ck_all_ok (w := w) hctx rfl rfl (fun x hx => ?_) c1 c2 (A := ck_A0 E.2.2.1 E.2.2.2.1) (r := r) (s := s0) ?_
  · have hd := List.all_eq_true.mp hdec x hx
    split at hd
    · next ins len hdc =>
      split at hd
      · next o ho =>
        exact ck_os_same hd (ck_tr_ok X9 h1 h2 (fun z => absurd z (by rw [hin]; decide)) h3 (hpr s hkon (Or.inr trivial)) (hca s hkon) hnL hfr hlo hoi har rfl rfl
          (fun q hq pc d => by
            have := hv q hq
            unfold ck_anyL at this
            unfold ck_cq
            split
            · next hz => rw [hz] at this; rw [hnL]; exact this p e s m args below meth c mc ms _ cc ret pc X9 d
            · trivial)
          (fun q hq pc d => by
            have := hs q hq
            unfold ck_anyL at this
            unfold ck_cq
            split
            · next hz => rw [hz] at this; rw [hnL]; exact this p e s m args below meth c mc ms _ cc ret pc X9 d
            · trivial)
          (fun q hq pc d => by
            have := ht q hq
            unfold ck_anyL at this
            unfold ck_cq
            split
            · next hz => rw [hz] at this; rw [hnL]; exact this p e s m args below meth c mc ms _ cc ret pc X9 d
            · trivial)
          (fun q hq pc cn d => by
            have := hf q hq
            unfold ck_anyF at this
            unfold ck_cq
            split
            · next hz => rw [hz] at this; rw [hnL]; exact this cn p e s m args below meth c mc ms _ cc ret pc X9 d
            · trivial)
          (fun q hq Ex hE => by rw [hth] at hq; cases hq) hdc ho)
      · cases hd
    · cases hd
  · refine ⟨hV, hC, fun f hf9 => ?_, hn, by rw [hnL]; exact ck_ent_ok hS nL, trivial, ck_Lv.k r 0, ck_Lv.k r 0, hH, ck_Kp.rf, Nat.le_refl _, ⟨[], by rw [List.append_nil]⟩, ⟨[], by rw [List.append_nil]⟩⟩
    exact (hF f hf9).z5 (List.all_eq_true.mp c3 f hf9)
theorem ck_at1 {own : String} {cc : ByteArray} {nL : Nat} {hh : List (Nat × Nat × Nat × Nat)} {pc0 : Nat} {l : List (String × Nat)} (h : ∀ q ∈ l, am_ct own cc nL pc0 hh q.1 q.2) : ∀ (pc : Nat), ∀ q ∈ ck_at [] pc [(pc0, l)], am_ct own cc nL pc hh q.1 q.2 := by
  intro pc q hq
  unfold ck_at at hq
  cases hc : Nat.beq pc0 pc
  · rw [hc, cond_false] at hq
    cases hq
  · rw [hc, cond_true] at hq
    obtain rfl := ck_beq hc
    exact h q hq
end
section
/-! CONTRACTS THAT TELL HOW FAR THE HEAP GROWS: a cell for each that is counted, no more -/
def am_grow (CM : ck_CM) : ck_CM := fun a h mc ms P => CM a h mc ms (fun o h' => P o h' ∧ h'.length ≤ h.length + mc)
def am_gS (N : Nat) (S : ck_SS) : ck_SS := fun pc L st h k n => h.length ≤ N + k → S pc L st h k n
def am_gX (N : Nat) (SX : Nat → ck_SX) : Nat → ck_SX := fun pc E L h k n => h.length ≤ N + k → SX pc E L h k n
def am_gP (N mc : Nat) (P : am_O → List am_C → Prop) : am_O → List am_C → Prop := fun o h => P o h ∧ h.length ≤ N + mc
section AMG
variable {G : am_G} {S : ck_SS} {SX : Nat → ck_SX} {P : am_O → List am_C → Prop} {N Rc Rs : Nat} {pc : Nat}
theorem am_gR (hs : ck_sR G S pc) : ck_sR G (am_gS N S) pc := fun L st h k n q t t' vs e1 e2 e3 hk hl => hs L st h k n q t t' vs e1 e2 e3 (hk (by rw [am_s_len]; exact hl))
set_option maxHeartbeats 1000000 in
theorem am_gos {cm : Nat → ck_CM} {E : ck_E} {o : ck_O} (h : ck_os G S SX (am_gP N Rc P) Rc Rs cm E pc o) : ck_os G (am_gS N S) (am_gX N SX) P Rc Rs (fun i => am_grow (cm i)) E pc o := by
  obtain ⟨c, f, f2, v, nx, tg, ex⟩ := o
  obtain ⟨T, pr, own, nL, code, cl, hds, gh, cuts⟩ := E
  unfold ck_os at h ⊢
  dsimp only at h ⊢
  split at h
  · exact fun L st L' st' h' k n e hk hl => h L st L' st' h' k n e (hk hl)
  · exact fun L x st h' k n a b hl => h L x st h' k n (fun z => a z hl) (fun z => b z hl)
  · exact fun L x y st h' k n a b hl => h L x y st h' k n (fun z => a z hl) (fun z => b z hl)
  · exact fun L st h' k n a hl => h L st h' k n (a hl)
  · exact fun L st h' k n => ⟨fun a hl => (h L st h' k n).1 (a hl), fun q a hl => (h L st h' k n).2 q (a hl)⟩
  · exact fun L st h' k n => ⟨fun a hl => (h L st h' k n).1 (a hl), fun q a hl => (h L st h' k n).2 q (a hl)⟩
  · exact fun L x st h' k n a b hl => h L x st h' k n (fun e he z => a e he z hl) (fun z => b z hl)
  · exact fun L st h' k n q t vs v e1 e2 e3 a hl => h L st h' k n q t vs v e1 e2 e3 (a hl)
  · exact fun L st h' k n q t vs v e1 e2 e3 e4 a hl => h L st h' k n q t vs v e1 e2 e3 e4 (a (by rw [am_s_len]; exact hl))
  · exact fun t L st h' k n e1 e2 e3 a hl => h t L st h' k n e1 e2 e3 (a (by rw [List.length_append, List.length_singleton]; omega))
  · exact fun t L st h' x N' k n e1 e2 e3 e4 e5 a hl => h t L st h' x N' k n e1 e2 e3 e4 e5 (a (by rw [List.length_append, List.length_singleton]; omega))
  · exact fun L st h' k n q t vs e1 e2 e3 a hl => h L st h' k n q t vs e1 e2 e3 (a hl)
  · exact fun L st h' k n q t x vs v e1 e2 e3 e4 a hl => h L st h' k n q t x vs v e1 e2 e3 e4 (a hl)
  · exact fun L st h' k n q t x vs v e1 e2 e3 e4 e5 e6 e7 a hl => h L st h' k n q t x vs v e1 e2 e3 e4 e5 e6 e7 (a (by rw [am_s_len]; exact hl))
  · exact fun L v h' k n e1 e2 e3 e4 hl => h L v h' k n e1 e2 e3 ⟨e4, by omega⟩
  · exact fun L h' k n e2 e3 e4 hl => h L h' k n e2 e3 ⟨e4, by omega⟩
  · split
    · next rc na cs hcl =>
      rw [hcl] at h
      exact fun a L st h' k n mc ms P' hCM e1 e2 e3 e4 e5 e6 kr kx hl => h a L st h' k n mc ms _ hCM e1 e2 e3 e4 e5 e6 (fun v h2 hp => kr v h2 hp.1 (by have := hp.2; omega)) (fun Ex h2 hp => kx Ex h2 hp.1 (by have := hp.2; omega))
    · trivial
  · split
    · next Ex hEx =>
      rw [hEx] at h
      exact fun L st h' k n e1 e2 e3 e4 e5 hl => h L st h' k n e1 e2 e3 e4 ⟨e5, by rw [List.length_append, List.length_singleton]; omega⟩
    · trivial
  · exact fun L q st h' k n e1 e2 a hl => h L q st h' k n e1 e2 (a hl)
  · exact fun L v st h' k n e1 a hl => h L v st h' k n e1 (a hl)
  · exact ⟨fun L v u st h' k n e1 e2 a b hl => h.1 L v u st h' k n e1 e2 (a hl) (b hl), fun L q st h' k n a hl => h.2 L q st h' k n (a hl)⟩
  · trivial
end AMG
set_option maxHeartbeats 8000000 in
theorem ck_methG {l : Launch} {G : am_G} (hl : l.stackTraces = false) {X : ck_XT} {T : ck_TT} (hX : ck_XO X) (hX0 : ck_X0 X) (hKT : ck_KT G T) (hW : ∀ t, t < 100 → ck_wr T t = true)
    {y : MethodName} {cc : ByteArray} {nL : Nat} {ret : Option FieldType} {fr lo fuel : Nat} {E : ck_E} {tb : ck_TB} {init : Bool} {cm : Nat → ck_CM} (hy : plainFor y = true) (hT : E.1 = T) (hnL : E.2.2.2.1 = nL) (hhd : E.2.2.2.2.2.2.1 = []) (hay : (ck_lay E.2.2.1.1.2.2.2.2).length ≤ nL)
    (hchk : ck_chk E fuel = true) (hdec : ck_dec cc tb E.2.2.2.2.1 = true) (h1 : ck_ok1 y.cls tb) (h2 : ck_puts y.cls init tb) (hin : init = true → y.name = "<init>") (h3 : ck_rj tb.2.2.2.2.2.2.2.2.2.2.2.2 ret) (hfr : 1 ≤ fr) (hlo : 20 ≤ lo)
    (hoi : Cond.instanceMethod objectInit ∈ lw_gw ∧ Cond.code objectInit ⟨#[0xb1]⟩ 1 none ∈ lw_gw) (har : Cond.arrayClass .int ∈ lw_gw ∧ Cond.arrayClass .byte ∈ lw_gw ∧ Cond.arrayClass .long ∈ lw_gw)
    (hpr : ∀ s, am_kon G s → (∀ a w, w ∈ lw_gw → w.before a s = true) ∨ True → ∀ q ∈ E.2.1, 53 ≤ q.1 ∧ q.2 < 59 ∧ am_asg G s q.1 q.2) (hca : ∀ s, am_kon G s → ∀ q ∈ tb.2.2.2.2.2.2.2.1, ∃ nm, Cond.classLink y.cls q.1 nm ∈ lw_gw ∧ ∀ k ∈ q.2, k < 59 ∧ am_isa G s k nm)
    (hcl : ∀ (i : Nat) (x : ck_Cl), E.2.2.2.2.2.1[i]? = some x → ∀ c ∈ x.2.2, ck_Con (am_grow (cm i)) G X T c)
    (hv : ∀ q ∈ tb.2.2.2.2.2.2.2.2.1.1, ck_anyL l G y.cls nL fr lo .invokevirtual cm E.2.2.2.2.2.1 q) (hs : ∀ q ∈ tb.2.2.2.2.2.2.2.2.1.2.1, ck_anyL l G y.cls nL fr lo .invokespecial cm E.2.2.2.2.2.1 q) (ht : ∀ q ∈ tb.2.2.2.2.2.2.2.2.1.2.2.1, ck_anyL l G y.cls nL fr lo .invokestatic cm E.2.2.2.2.2.1 q) (hf : ∀ q ∈ tb.2.2.2.2.2.2.2.2.1.2.2.2, ck_anyF l G y.cls nL fr lo cm E.2.2.2.2.2.1 q)
    (hth : ∀ q ∈ tb.2.2.2.2.2.2.2.2.2.1, ∀ Ex, E.2.2.1.2.2.2.2.2[q.2]? = some Ex → ck_anyZ l G y.cls cc nL fr lo q.1 Ex) (hn5 : ∀ f ∈ ck_g5 E, ck_nopP G (cm f)) : ck_Con (am_grow (am_cm l G y (.code y cc nL ret) fr lo)) G X T E.2.2.1 := by
  intro K r s0 a h hH hV hC hF hn hS mc ms hmc hms
  unfold ck_chk at hchk
  simp only [Bool.and_eq_true] at hchk
  obtain ⟨c1, c2, c3, c4⟩ := hchk
  have hlen : ∀ B : List Value, ck_stk r s0 E.2.2.1.1.2.2.2.2 B → (am_lay B).length ≤ nL := fun B hB => by rw [(ck_lay_ok hB).1]; exact hay
  refine am_M.of hl hy (hlen a hS) fun p e s m args below meth c X9 hname htab => ?_
  have hkon := X9.2.2.2.2.2.1
  let w : ck_W := (G, X, T, K, h, r, s0, E.2.2.1.2.2.1, ck_rq E.2.2.1.2.2.2.1 s0)
  have hRt : ck_Rt w E.2.2.1.2.2.2.1 := ck_Rt.of rfl rfl (by rw [hn]; exact c4)
  have hctx : ck_Ctx E w (am_gS h.length (am_S G p l e { frames := fr, cells := mc, slots := ms, locals := lo } s m args below meth c mc ms (am_gP h.length mc (ck_Po G X T K E.2.2.1 r s0 h)))) (am_gX h.length (am_SX G p l e { frames := fr, cells := mc, slots := ms, locals := lo } s m args below meth c mc ms (am_gP h.length mc (ck_Po G X T K E.2.2.1 r s0 h)))) mc ms (fun i => am_grow (cm i)) r s0 := by
    refine ⟨hX, hX0, hT.symm, hW, rfl, rfl, hRt, ⟨hmc, hms⟩, ⟨[], by rw [List.append_nil]⟩, ⟨[], by rw [List.append_nil]⟩, hV.1.symm, hn, hcl, fun pc q hq => ?_, fun pc Ex L h' k n _ hp hk hn' hl9 => am_RX.out X9 (fun x hx => (htab x hx).elim) hk hn' ⟨hp, by omega⟩, fun pc => am_gR am_s_retag, fun pc L st h' k n k' n' hk hn' hh hl9 => am_R.widen hk hn' (hh (by omega)), hKT, fun f hf a h mc ms P hP => (by obtain ⟨h1, h2, h3⟩ := hn5 f hf a h mc ms _ hP; exact ⟨h1, h2, h3.1⟩)⟩
    rw [hhd] at hq
    cases hq
  refine ck_all_ok (w := w) hctx rfl rfl (fun x hx => ?_) c1 c2 (A := ck_A0 E.2.2.1 E.2.2.2.1) (r := r) (s := s0) ?_ (Nat.le_add_right _ _)
  · have hd := List.all_eq_true.mp hdec x hx
    split at hd
    · next ins len hdc =>
      split at hd
      · next o ho =>
        exact am_gos (ck_os_same hd (ck_tr_ok X9 h1 h2 (fun z => hname.trans (hin z)) h3 (hpr s hkon (Or.inr trivial)) (hca s hkon) hnL hfr hlo hoi har rfl rfl
          (fun q hq pc d => by
            have := hv q hq
            unfold ck_anyL at this
            unfold ck_cq
            split
            · next hz => rw [hz] at this; rw [hnL]; exact this p e s m args below meth c mc ms _ cc ret pc X9 d
            · trivial)
          (fun q hq pc d => by
            have := hs q hq
            unfold ck_anyL at this
            unfold ck_cq
            split
            · next hz => rw [hz] at this; rw [hnL]; exact this p e s m args below meth c mc ms _ cc ret pc X9 d
            · trivial)
          (fun q hq pc d => by
            have := ht q hq
            unfold ck_anyL at this
            unfold ck_cq
            split
            · next hz => rw [hz] at this; rw [hnL]; exact this p e s m args below meth c mc ms _ cc ret pc X9 d
            · trivial)
          (fun q hq pc cn d => by
            have := hf q hq
            unfold ck_anyF at this
            unfold ck_cq
            split
            · next hz => rw [hz] at this; rw [hnL]; exact this cn p e s m args below meth c mc ms _ cc ret pc X9 d
            · trivial)
          (fun q hq Ex hE => by rw [hnL]; exact hth q hq Ex hE p e s m args below meth c mc ms _ ret X9 htab) hdc ho))
      · cases hd
    · cases hd
  · refine ⟨hV, hC, fun f hf9 => ?_, hn, by rw [hnL]; exact ck_ent_ok hS nL, trivial, ck_Lv.k r 0, ck_Lv.k r 0, hH, ck_Kp.rf, Nat.le_refl _, ⟨[], by rw [List.append_nil]⟩, ⟨[], by rw [List.append_nil]⟩⟩
    exact (hF f hf9).z5 (List.all_eq_true.mp c3 f hf9)
end
section
/-! KINDS OF CALLS -/
section AMK
variable {l : Launch} {G : am_G} {own : String} {nL fr lo i : Nat} {y : MethodName} {bytes : ByteArray} {maxL fr' lo' n : Nat} {rt : Option FieldType}
/-- what all calls of y rest on -/
def ck_y (y : MethodName) (bytes : ByteArray) (maxL n : Nat) (rt : Option FieldType) : Prop := Cond.code y bytes maxL rt ∈ lw_gw ∧ Cond.initialized y.cls ∈ lw_gw ∧ (y.cls ≠ "java/lang/invoke/MethodHandle" ∧ y.cls ≠ "java/lang/invoke/VarHandle" ∧ (parseMethodDescriptor y.desc).map (fun d => d.parameters.length) = some n)
theorem ck_head {a : List Value} {b n : Nat} (h : a.head? = some (.ref b)) (hl : a.length = n + 1) : ∃ a1, a = .ref b :: a1 ∧ a1.length = n := by
  cases a with
  | nil => cases h
  | cons v u => cases h; exact ⟨u, rfl, by simpa using hl⟩
theorem ck_revst (a1 : List Value) (v : Value) (st : List Value) : (v :: a1).reverse ++ st = a1.reverse ++ v :: st := by simp
theorem ck_kV {ci : Nat} {T : u_T} {N : Nat} (hy : ck_y y bytes maxL n rt) (hl : Cond.methodLink own i y ∈ lw_gw) (hin : Cond.instanceMethod y ∈ lw_gw) (hse : Cond.selects y.cls y y ∈ lw_gw) (hcl : am_cl[ci]? = some (y.cls, T, N)) (hci : ci < 50) (hf : fr' + 1 ≤ fr) (ho : 8 + (maxL + 11) + lo' ≤ lo) : ck_any l G own nL fr lo (.invokevirtual i) 3 (some ci) (n + 1) (am_cm l G y (.code y bytes maxL rt) fr' lo') := by
  intro p e s m args below meth c mc ms Post cc ret pc X d a L st h k n9 mc' ms' P hM hna hL hst hrc hk hn kr kx
  obtain ⟨b, tb, vb, h1, h2, h3⟩ := hrc
  obtain ⟨a1, rfl, h5⟩ := ck_head h1 hna
  rw [ck_revst]
  exact am_R.callV X a1 hM hy.1 hl hin hse hy.2.1 ⟨hy.2.2.1, hy.2.2.2.1, by rw [h5]; exact hy.2.2.2.2⟩ ⟨hf, ho⟩ hL hst h2 (by omega) (by rw [h3]; exact hcl) ⟨hk, hn⟩ d kr kx
theorem ck_kU {ci : Nat} {C : String} {T : u_T} {N : Nat} (hy : ck_y y bytes maxL n rt) (hl : Cond.methodLink own i y ∈ lw_gw) (hsm : Cond.sameMethod y.cls y.cls y.name y.desc ∈ lw_gw) (hin : Cond.instanceMethod y ∈ lw_gw) (hse : Cond.selects C y y ∈ lw_gw) (hcl : am_cl[ci]? = some (C, T, N)) (hci : ci < 50) (hf : fr' + 1 ≤ fr) (ho : 8 + (maxL + 11) + lo' ≤ lo) : ck_any l G own nL fr lo (.invokevirtual i) 3 (some ci) (n + 1) (am_cn l G y (.code y bytes maxL rt) fr' lo') := by
  intro p e s m args below meth c mc ms Post cc ret pc X d a L st h k n9 mc' ms' P hM hna hL hst hrc hk hn kr kx
  obtain ⟨b, tb, vb, h1, h2, h3⟩ := hrc
  obtain ⟨a1, rfl, h5⟩ := ck_head h1 hna
  rw [ck_revst]
  exact am_R.callU X a1 hM.1 hM.2 hy.1 hl hsm hin hse hy.2.1 ⟨hy.2.2.1, hy.2.2.2.1, by rw [h5]; exact hy.2.2.2.2⟩ ⟨hf, ho⟩ hL hst h2 (by omega) (by rw [h3]; exact hcl) ⟨hk, hn⟩ d kr
theorem ck_kU2 {ci : Nat} {C : String} {T : u_T} {N : Nat} {x : MethodName} {bx : ByteArray} {mx : Nat} {rx : Option FieldType} (hy : ck_y y bytes maxL n rt) (hcx : Cond.code x bx mx rx ∈ lw_gw) (hl : Cond.methodLink own i x ∈ lw_gw) (hsm : Cond.sameMethod x.cls x.cls x.name x.desc ∈ lw_gw) (hinx : Cond.instanceMethod x ∈ lw_gw) (hin : Cond.instanceMethod y ∈ lw_gw) (hse : Cond.selects C x y ∈ lw_gw)
    (hx : x.cls ≠ "java/lang/invoke/MethodHandle" ∧ x.cls ≠ "java/lang/invoke/VarHandle" ∧ x.desc = y.desc) (hcl : am_cl[ci]? = some (C, T, N)) (hci : ci < 50) (hf : fr' + 1 ≤ fr) (ho : 8 + (maxL + 11) + lo' ≤ lo) : ck_any l G own nL fr lo (.invokevirtual i) 3 (some ci) (n + 1) (am_cn l G y (.code y bytes maxL rt) fr' lo') := by
  intro p e s m args below meth c mc ms Post cc ret pc X d a L st h k n9 mc' ms' P hM hna hL hst hrc hk hn kr kx
  obtain ⟨b, tb, vb, h1, h2, h3⟩ := hrc
  obtain ⟨a1, rfl, h5⟩ := ck_head h1 hna
  rw [ck_revst]
  exact am_R.callU2 X a1 hM.1 hM.2 hy.1 hcx hl hsm hinx hin hse hy.2.1 ⟨hx.1, hx.2.1, by rw [h5, hx.2.2]; exact hy.2.2.2.2⟩ ⟨hf, ho⟩ hL hst h2 (by omega) (by rw [h3]; exact hcl) ⟨hk, hn⟩ d kr
theorem ck_kSU {ci : Nat} {C : String} {T : u_T} {N : Nat} (hy : ck_y y bytes maxL n rt) (hl : Cond.methodLink own i y ∈ lw_gw) (hsm : Cond.sameMethod y.cls y.cls y.name y.desc ∈ lw_gw) (hsu : Cond.superclass own y.cls ∈ lw_gw) (hin : Cond.instanceMethod y ∈ lw_gw) (hnm : y.name ≠ "<init>") (hcl : am_cl[ci]? = some (C, T, N)) (hci : ci < 50) (hf : fr' + 1 ≤ fr) (ho : 8 + (maxL + 11) + lo' ≤ lo) : ck_any l G own nL fr lo (.invokespecial i) 3 (some ci) (n + 1) (am_cn l G y (.code y bytes maxL rt) fr' lo') := by
  intro p e s m args below meth c mc ms Post cc ret pc X d a L st h k n9 mc' ms' P hM hna hL hst hrc hk hn kr kx
  obtain ⟨b, tb, vb, h1, h2, h3⟩ := hrc
  obtain ⟨a1, rfl, h5⟩ := ck_head h1 hna
  rw [ck_revst]
  exact am_R.callSU X a1 hM.1 hM.2 hy.1 hl hsm hsu hin hy.2.1 ⟨hnm, by rw [h5]; exact hy.2.2.2.2⟩ ⟨hf, ho⟩ hL hst h2 (by omega) (by rw [h3]; exact hcl) ⟨hk, hn⟩ d kr
theorem ck_kS (hy : ck_y y bytes maxL n rt) (hl : Cond.methodLink own i y ∈ lw_gw) (hsta : Cond.static y ∈ lw_gw) (hf : fr' + 1 ≤ fr) (ho : 8 + (maxL + 11) + lo' ≤ lo) : ck_any l G own nL fr lo (.invokestatic i) 3 none n (am_cm l G y (.code y bytes maxL rt) fr' lo') := by
  intro p e s m args below meth c mc ms Post cc ret pc X d a L st h k n9 mc' ms' P hM hna hL hst hrc hk hn kr kx
  exact am_R.callS X a hM hy.1 hl hsta hy.2.1 ⟨hy.2.2.1, hy.2.2.2.1, by rw [hna]; exact hy.2.2.2.2⟩ ⟨hf, ho⟩ hL hst ⟨hk, hn⟩ d kr kx
theorem ck_kSN {host : String} (hy : ck_y y bytes maxL n rt) (hl : Cond.methodLinkNest own i y host ∈ lw_ng) (hsta : Cond.static y ∈ lw_gw) (hf : fr' + 1 ≤ fr) (ho : 8 + (maxL + 11) + lo' ≤ lo) : ck_any l G own nL fr lo (.invokestatic i) 3 none n (am_cn l G y (.code y bytes maxL rt) fr' lo') := by
  intro p e s m args below meth c mc ms Post cc ret pc X d a L st h k n9 mc' ms' P hM hna hL hst hrc hk hn kr kx
  exact am_R.callSN X a hM.1 hM.2 hy.1 hl hsta hy.2.1 ⟨hy.2.2.1, hy.2.2.2.1, by rw [hna]; exact hy.2.2.2.2⟩ ⟨hf, ho⟩ hL hst ⟨hk, hn⟩ d kr
def ck_yW (y : MethodName) (bytes : ByteArray) (maxL n : Nat) (rt : Option FieldType) (hh : List (Nat × Nat × Nat × Nat)) : Prop := Cond.codeWith y bytes maxL rt hh ∈ lw_gw ∧ Cond.initialized y.cls ∈ lw_gw ∧ (y.cls ≠ "java/lang/invoke/MethodHandle" ∧ y.cls ≠ "java/lang/invoke/VarHandle" ∧ (parseMethodDescriptor y.desc).map (fun d => d.parameters.length) = some n)
theorem ck_kSW {hh : List (Nat × Nat × Nat × Nat)} (hy : ck_yW y bytes maxL n rt hh) (hl : Cond.methodLink own i y ∈ lw_gw) (hsta : Cond.static y ∈ lw_gw) (hf : fr' + 1 ≤ fr) (ho : 8 + (maxL + 11) + lo' ≤ lo) : ck_any l G own nL fr lo (.invokestatic i) 3 none n (am_cn l G y (.codeWith y bytes maxL rt hh) fr' lo') := by
  intro p e s m args below meth c mc ms Post cc ret pc X d a L st h k n9 mc' ms' P hM hna hL hst hrc hk hn kr kx
  exact am_R.callSW X a hM.1 hM.2 hy.1 hl hsta hy.2.1 ⟨hy.2.2.1, hy.2.2.2.1, by rw [hna]; exact hy.2.2.2.2⟩ ⟨hf, ho⟩ hL hst ⟨hk, hn⟩ d kr
/-- constructors: the first argument is a reference to a cell of the kind ci -/
theorem ck_kI {ci : Nat} (hy : ck_y y bytes maxL n none) (hl : Cond.methodLink own i y ∈ lw_gw) (hin : Cond.instanceMethod y ∈ lw_gw) (hnm : y.name = "<init>") (hf : fr' + 1 ≤ fr) (ho : 8 + (maxL + 11) + lo' ≤ lo) : ck_any l G own nL fr lo (.invokespecial i) 3 (some ci) (n + 1) (am_cn l G y (.code y bytes maxL none) fr' lo') := by
  intro p e s m args below meth c mc ms Post cc ret pc X d a L st h k n9 mc' ms' P hM hna hL hst hrc hk hn kr kx
  obtain ⟨b, tb, vb, h1, h2, h3⟩ := hrc
  obtain ⟨a1, rfl, h5⟩ := ck_head h1 hna
  rw [ck_revst]
  exact am_R.callI X a1 hM.1 hM.2 hy.1 hl hin hy.2.1 hnm ⟨hy.2.2.1, hy.2.2.2.1, by rw [h5]; exact hy.2.2.2.2⟩ ⟨hf, ho⟩ hL hst ⟨hk, hn⟩ d kr
theorem ck_kIN {ci : Nat} {host : String} (hy : ck_y y bytes maxL n none) (hl : Cond.methodLinkNest own i y host ∈ lw_ng) (hin : Cond.instanceMethod y ∈ lw_gw) (hnm : y.name = "<init>") (hf : fr' + 1 ≤ fr) (ho : 8 + (maxL + 11) + lo' ≤ lo) : ck_any l G own nL fr lo (.invokespecial i) 3 (some ci) (n + 1) (am_cn l G y (.code y bytes maxL none) fr' lo') := by
  intro p e s m args below meth c mc ms Post cc ret pc X d a L st h k n9 mc' ms' P hM hna hL hst hrc hk hn kr kx
  obtain ⟨b, tb, vb, h1, h2, h3⟩ := hrc
  obtain ⟨a1, rfl, h5⟩ := ck_head h1 hna
  rw [ck_revst]
  exact am_R.callIN X a1 hM.1 hM.2 hy.1 hl hin hy.2.1 hnm ⟨hy.2.2.1, hy.2.2.2.1, by rw [h5]; exact hy.2.2.2.2⟩ ⟨hf, ho⟩ hL hst ⟨hk, hn⟩ d kr
end AMK
end
section
/-! KINDS; WORDS -/
def gT : ck_TT := [(151, 1, 0, 3400, [(1, 0, (-128), 127)]), (250, 1, 0, 80, [(1, 0, (-2147483648), 2147483647)]), (450, 1, 0, 90, [(1, 0, 0, 9)]), (556, 1, 0, 80, [(5, 2550, 0, 0)]), (656, 1, 0, 80, [(5, 41002, 0, 0)]), (750, 1, 0, 90, [(1, 0, 0, 9)]), (752, 1, 2, 2, [(2, 0, (-9223372036854775808), 9223372036854775807)]), (756, 1, 0, 80, [(5, 1018, 0, 0)]), (850, 1, 0, 90, [(1, 0, 0, 9)]), (852, 1, 2, 2, [(2, 0, 0, 994014980014994001)]), (950, 1, 0, 90, [(1, 0, 0, 9)]), (1001, 0, 4, 4, [(3, 1051, 0, 0), (1, 0, 0, 0), (1, 0, 0, 1), (1, 0, 0, 3400)]), (1007, 0, 3, 3, [(3, 1050, 0, 0), (1, 0, 0, 10), (1, 0, (-2147483648), 2147483647)]), (1008, 0, 7, 7, [(3, 1007, 0, 0), (3, 1009, 0, 0), (3, 1007, 0, 0), (3, 1007, 0, 0), (3, 1007, 0, 0), (3, 1007, 0, 0), (3, 1107, 0, 0)]), (1009, 0, 3, 3, [(3, 1207, 0, 0), (3, 1007, 0, 0), (3, 1007, 0, 0)]), (1010, 0, 4, 4, [(3, 1750, 0, 0), (1, 0, 0, 4), (1, 0, (-9), 400), (1, 0, (-2147483648), 2147483647)]), (1011, 0, 3, 3, [(1, 0, 0, 1), (2, 0, (-9223372036854775808), 9223372036854775807), (2, 0, (-9223372036854775808), 9223372036854775807)]), (1012, 0, 3, 3, [(3, 1054, 0, 0), (1, 0, 0, 11), (1, 0, 0, 12)]), (1013, 0, 4, 4, [(3, 1850, 0, 0), (3, 1950, 0, 0), (1, 0, 0, 400), (1, 0, (-2147483648), 2147483647)]), (1014, 0, 7, 7, [(1, 0, (-9), 400), (3, 1053, 0, 0), (1, 0, 0, 6), (3, 1150, 0, 0), (3, 1250, 0, 0), (1, 0, 0, 5), (3, 1350, 0, 0)]), (1015, 0, 13, 13, [(3, 1014, 0, 0), (3, 1012, 0, 0), (1, 0, (-2147483648), 2147483647), (1, 0, (-2147483648), 2147483647), (1, 0, (-2147483648), 2147483647), (3, 1007, 0, 0), (3, 1007, 0, 0), (3, 1007, 0, 0), (3, 1008, 0, 0), (3, 1013, 0, 0), (3, 1010, 0, 0), (3, 1011, 0, 0), (3, 1001, 0, 0)]), (1016, 0, 2, 2, [(2, 0, (-9223372036854775808), 9223372036854775807), (5, 3000, 0, 0)]), (1017, 0, 2, 2, [(1, 0, 0, 1), (3, 42150, 0, 0)]), (1018, 0, 4, 4, [(1, 0, (-9), 400), (3, 1055, 0, 0), (3, 41006, 0, 0), (3, 41106, 0, 0)]), (1019, 0, 6, 6, [(1, 0, 0, 3), (3, 1018, 0, 0), (3, 41206, 0, 0), (1, 0, (-2147483648), 2147483647), (1, 0, (-2147483648), 2147483647), (1, 0, (-2147483648), 2147483647)]), (1050, 1, 10, 10, [(1, 0, 0, 999999999)]), (1051, 1, 16, 3400, [(1, 0, (-128), 127)]), (1053, 1, 6, 6, [(3, 1407, 0, 0)]), (1054, 1, 12, 12, [(3, 1014, 0, 0)]), (1055, 1, 6, 6, [(3, 1017, 0, 0)]), (1101, 0, 4, 4, [(3, 1251, 0, 0), (1, 0, 0, 0), (1, 0, 0, 1), (1, 0, 0, 1600)]), (1107, 0, 3, 3, [(3, 1650, 0, 0), (1, 0, 0, 10), (1, 0, (-2147483648), 2147483647)]), (1117, 0, 2, 2, [(1, 0, 0, 1), (3, 42350, 0, 0)]), (1150, 1, 6, 6, [(1, 0, (-2147483648), 2147483647)]), (1201, 0, 4, 4, [(3, 1051, 0, 0), (1, 0, 0, 0), (1, 0, 0, 1), (1, 0, 0, 3400)]), (1207, 0, 3, 3, [(3, 2050, 0, 0), (1, 0, 0, 10), (1, 0, (-2147483648), 2147483647)]), (1250, 1, 6, 6, [(1, 0, 0, 999)]), (1251, 1, 4, 1600, [(1, 0, (-128), 127)]), (1350, 1, 5, 5, [(1, 0, 0, 999)]), (1407, 0, 3, 3, [(3, 1450, 0, 0), (1, 0, 0, 10), (1, 0, (-2147483648), 2147483647)]), (1450, 1, 10, 10, [(1, 0, 0, 999999999)]), (1650, 1, 10, 10, [(1, 0, (-2147483648), 2147483647)]), (1750, 1, 4, 4, [(1, 0, (-2147483648), 2147483647)]), (1850, 1, 400, 400, [(1, 0, (-2147483648), 2147483647)]), (1950, 1, 400, 400, [(1, 0, (-2147483648), 2147483647)]), (2050, 1, 10, 10, [(1, 0, (-2147483648), 2147483647)]), (2550, 2, 2, 2, [(1, 0, 0, 998), (1, 0, 1, 999)]), (3000, 2, 4, 4, [(3, 3051, 0, 0), (1, 0, 0, 0), (1, 0, (-2147483648), 2147483647), (1, 0, 0, 1)]), (3051, 3, 0, 3400, [(1, 0, (-128), 127)]), (3059, 3, 0, 256, [(1, 0, (-2147483648), 2147483647)]), (3100, 2, 4, 4, [(3, 3251, 0, 0), (1, 0, 0, 0), (1, 0, (-2147483648), 2147483647), (1, 0, 0, 1)]), (3160, 3, 100, 100, [(1, 0, (-128), 127)]), (3161, 3, 100, 100, [(1, 0, (-128), 127)]), (3200, 2, 4, 4, [(3, 3351, 0, 0), (1, 0, 0, 0), (1, 0, (-2147483648), 2147483647), (1, 0, 0, 1)]), (3251, 3, 0, 0, [(1, 0, (-128), 127)]), (3351, 3, 1, 1, [(1, 0, (-128), 127)]), (40056, 1, 10, 24, [(5, 2550, 0, 0)]), (40156, 1, 10, 24, [(5, 41002, 0, 0)]), (40256, 1, 10, 24, [(5, 1018, 0, 0)]), (41002, 2, 1, 1, [(1, 0, (-128), 999)]), (41006, 0, 3, 3, [(1, 0, (-2147483648), 2147483647), (8, 0, 0, 0), (1, 0, 0, 6)]), (41106, 0, 3, 3, [(1, 0, (-2147483648), 2147483647), (8, 0, 0, 0), (1, 0, 0, 5)]), (41206, 0, 3, 3, [(1, 0, (-2147483648), 2147483647), (8, 0, 0, 0), (1, 0, 0, 13)]), (42150, 1, 0, 36, [(1, 0, 0, 9)]), (42350, 1, 0, 80, [(1, 0, 0, 9)]), (43056, 3, 0, 0, [(5, 2550, 0, 0)]), (43058, 3, 256, 256, [(3, 41002, 0, 0)]), (43099, 2, 0, 0, []), (100001, 43058, 256, 256, []), (100002, 3160, 100, 100, []), (100003, 3161, 100, 100, []), (100004, 43056, 0, 0, []), (100005, 43099, 0, 0, []), (100010, 3000, 4, 4, []), (100011, 3000, 4, 4, []), (100012, 3000, 4, 4, []), (100013, 3000, 4, 4, []), (100014, 3000, 4, 4, []), (100015, 3000, 4, 4, []), (100016, 3000, 4, 4, []), (100017, 3000, 4, 4, []), (100018, 3000, 4, 4, []), (100019, 3000, 4, 4, []), (100020, 3000, 4, 4, []), (100021, 3000, 4, 4, []), (100022, 3000, 4, 4, []), (100023, 3000, 4, 4, []), (100024, 3000, 4, 4, []), (100025, 3000, 4, 4, []), (100026, 3000, 4, 4, []), (100027, 3000, 4, 4, []), (100028, 3100, 4, 4, []), (100029, 3000, 4, 4, []), (100030, 3000, 4, 4, []), (100031, 3000, 4, 4, []), (100032, 3200, 4, 4, [])]
theorem gT_w : ∀ t, t < 100 → ck_wr gT t = true := by decide +kernel
def gE (l : Launch) (G : am_G) (X : ck_XT) : Prop := l.stackTraces = false ∧ ck_XO X ∧ ck_X0 X ∧ ck_KT G gT
def ck_cms : List ck_CM → Nat → ck_CM
  | [], _ => fun _ _ _ _ _ => False
  | c :: _, 0 => c
  | _ :: u, i + 1 => ck_cms u i
def ck_cmsP (G : am_G) (X : ck_XT) (T : ck_TT) : List ck_CM → List ck_Cl → Prop
  | _, [] => True
  | [], _ :: _ => False
  | c :: u, x :: w => (∀ k ∈ x.2.2, ck_Con c G X T k) ∧ ck_cmsP G X T u w
theorem ck_cms_ok {G : am_G} {X : ck_XT} {T : ck_TT} : ∀ {cl : List ck_Cl} {l : List ck_CM}, ck_cmsP G X T l cl → ∀ (i : Nat) (x : ck_Cl), cl[i]? = some x → ∀ c ∈ x.2.2, ck_Con (ck_cms l i) G X T c := by
  intro cl
  induction cl with
  | nil => intro l _ i x hx; cases hx
  | cons y w ih =>
    intro l h i x hx c hc
    cases l with
    | nil => exact h.elim
    | cons m u =>
      cases i with
      | zero => cases hx; exact h.1 c hc
      | succ i => exact ih h.2 i x hx c hc
theorem ck_cst {own : String} {i : Nat} {v : Int} {x : Int32} (h : x = Int32.ofInt v) (hw : Cond.constant own i x ∈ lw_gw) : Cond.constant own i (Int32.ofInt v) ∈ lw_gw := h ▸ hw
theorem ck_csl {own : String} {i : Nat} {v : Int} {x : Int64} (h : x = Int64.ofInt v) (hw : Cond.constantLong own i x ∈ lw_gw) : Cond.constantLong own i (Int64.ofInt v) ∈ lw_gw := h ▸ hw
end
