/-! A METHOD'S CODE AS STEPS, AND ITS CONTRACT -/
/-- the words that a class's links rest on -/
def ck_ok1 (own : String) (tb : ck_TB) : Prop := match tb with
  | (ints, longs, refs, gets, puts, news, anews, casts, _, _, oi, sts, _) =>
    (∀ q ∈ ints, Cond.constant own q.1 (Int32.ofInt q.2) ∈ lw_gw) ∧ (∀ q ∈ longs, Cond.constantLong own q.1 (Int64.ofInt q.2) ∈ lw_gw) ∧ (∀ q ∈ refs, (∃ tx, (own, q.1, tx, q.2) ∈ am_T) ∨ (q.2 = 5 ∧ Cond.classLink own q.1 "[Ljava/lang/Object;" ∈ lw_gw)) ∧
    (∀ q ∈ gets, am_fl own q.1 q.2.1 q.2.2 ∧ q.2.1 < 50 ∧ ∃ fin ty, am_fd q.2.1 q.2.2 fin ty) ∧
    (∀ q ∈ news, ∃ C T N, am_nw q.2.1 N (q.2.2.map ck_d0) ∧ am_cl[q.2.1]? = some (C, T, N) ∧ Cond.classLink own q.1 C ∈ lw_gw ∧ q.2.1 < 50) ∧
    (∀ q ∈ anews, (∃ C, am_aty q.2 = .object C ∧ 53 ≤ q.2 ∧ q.2 < 57 ∧ Cond.classLink own q.1 C ∈ lw_gw ∧ Cond.arrayOver (.object C) ∈ lw_ng) ∨ (q.2 = 57 ∧ Cond.classLink own q.1 (FieldType.array .int).toString ∈ lw_gw ∧ Cond.arrayOver (.array .int) ∈ lw_ng)) ∧
    (∀ q ∈ oi, Cond.methodLink own q objectInit ∈ lw_gw) ∧
    (∀ q ∈ sts, ∃ z ∈ am_Z, Cond.fieldLink own q.1 z.1 z.2.1 z.2.2.1 ∈ lw_gw ∧ ((q.2.1 = 0 ∧ z.2.2.2 = .int (Int32.ofInt q.2.2)) ∨ (q.2.1 = 1 ∧ ∃ v : Nat, q.2.2 = (v : Int) ∧ z.2.2.2 = .ref v)))
def ck_puts (own : String) (init : Bool) (tb : ck_TB) : Prop := ∀ q ∈ tb.2.2.2.2.1, am_fl own q.1 q.2.1 q.2.2.1 ∧ q.2.1 < 50 ∧ ∃ ty, ck_jt q.2.2.2 ty ∧ (am_fd q.2.1 q.2.2.1 false ty ∨ (am_fd q.2.1 q.2.2.1 true ty ∧ init = true ∧ ∀ r, am_cl[q.2.1]? = some r → (r.2.1 q.2.2.1).1 = own))
section AMD
variable {G : am_G} {p : Program} {l : Launch} {e : Env} {R : Room} {s : State} {m : MethodId} {args : Array Value} {below : List Frame} {meth : Method} {c : Code} {mc ms : Nat} {Post : am_O → List am_C → Prop}
variable {own : String} {cc : ByteArray} {nL pc : Nat} {ret : Option FieldType}
/-- the step of a call -/
def ck_cq (G : am_G) (S : ck_SS) (SX : Nat → ck_SX) (Rc Rs nL : Nat) (cm : Nat → ck_CM) (cl : List ck_Cl) (pc nx f : Nat) : Prop := match cl[f]? with
  | some (rc, na, _) => ck_sQ G S (SX pc) Rc Rs nL pc nx rc (cm f) na
  | none => True
theorem ck_os_same {G : am_G} {S : ck_SS} {SX : Nat → ck_SX} {P : am_O → List am_C → Prop} {Rc Rs : Nat} {cm : Nat → ck_CM} {E : ck_E} {pc : Nat} {a b : ck_O} (h : ck_same a b = true) (ha : ck_os G S SX P Rc Rs cm E pc a) : ck_os G S SX P Rc Rs cm E pc b := by
  obtain ⟨c3, c4, rfl, h1, h2⟩ := ck_same_ok h
  obtain ⟨a1, a2, a3, a4, a5, a6, a7⟩ := a
  obtain ⟨T, pr, ownk, nL, code, cl, hds, gh, cuts⟩ := E
  have h5 : c3 = a3 ∨ a1 = 9 ∨ a1 = 10 := h1
  have h6 : c4 = a4 ∨ (a1 = 0 ∧ (a2 = 15 ∨ a2 = 16)) := h2
  show ck_os G S SX P Rc Rs cm (T, pr, ownk, nL, code, cl, hds, gh, cuts) pc (a1, a2, c3, c4, a5, a6, a7)
  clear h h1 h2
  rcases h6 with rfl | ⟨rfl, h6⟩
  · rcases h5 with rfl | rfl | rfl
    · exact ha
    · exact ha
    · exact ha
  · have h7 : c3 = a3 := h5.resolve_right (fun z => by rcases z with z | z <;> cases z)
    subst h7
    have ha : ck_sP S pc a5 a2 c3 a4 := ha
    show ck_sP S pc a5 a2 c3 c4
    intro L st L' st' hh k n e1
    rcases h6 with rfl | rfl
    · match st, e1 with
      | .int y :: .int x :: st, e1 => exact ha L _ L' st' hh k n (by simp only [ck_cf] at e1 ⊢; exact e1)
    · match st, e1 with
      | .long y :: .long x :: st, e1 => exact ha L _ L' st' hh k n (by simp only [ck_cf] at e1 ⊢; exact e1)
set_option maxHeartbeats 8000000 in
set_option maxRecDepth 100000 in
theorem ck_tr_ok (X : am_Cx l G p s m args meth c own cc nL ret) {tb : ck_TB} (h1 : ck_ok1 own tb) {init : Bool} (h2 : ck_puts own init tb) (hin : init = true → meth.name = "<init>") (h3 : ck_rj tb.2.2.2.2.2.2.2.2.2.2.2.2 ret)
    {E : ck_E} (hpr : ∀ q ∈ E.2.1, 53 ≤ q.1 ∧ q.2 < 59 ∧ am_asg G s q.1 q.2) (hca : ∀ q ∈ tb.2.2.2.2.2.2.2.1, ∃ nm, Cond.classLink own q.1 nm ∈ lw_gw ∧ ∀ k ∈ q.2, k < 59 ∧ am_isa G s k nm) (hnL : E.2.2.2.1 = nL) (hfr : 1 ≤ R.frames) (hlo : 20 ≤ R.locals) (hoi : Cond.instanceMethod objectInit ∈ lw_gw ∧ Cond.code objectInit ⟨#[0xb1]⟩ 1 none ∈ lw_gw) (har : Cond.arrayClass .int ∈ lw_gw ∧ Cond.arrayClass .byte ∈ lw_gw ∧ Cond.arrayClass .long ∈ lw_gw)
    (hmc : R.cells = mc) (hms : R.slots = ms) {cm : Nat → ck_CM}
    (hv : ∀ q ∈ tb.2.2.2.2.2.2.2.2.1.1, ∀ pc, decode cc pc = .ok (.invokevirtual q.1, 3) → ck_cq G (am_S G p l e R s m args below meth c mc ms Post) (am_SX G p l e R s m args below meth c mc ms Post) mc ms E.2.2.2.1 cm E.2.2.2.2.2.1 pc (pc + 3) q.2)
    (hs : ∀ q ∈ tb.2.2.2.2.2.2.2.2.1.2.1, ∀ pc, decode cc pc = .ok (.invokespecial q.1, 3) → ck_cq G (am_S G p l e R s m args below meth c mc ms Post) (am_SX G p l e R s m args below meth c mc ms Post) mc ms E.2.2.2.1 cm E.2.2.2.2.2.1 pc (pc + 3) q.2)
    (ht : ∀ q ∈ tb.2.2.2.2.2.2.2.2.1.2.2.1, ∀ pc, decode cc pc = .ok (.invokestatic q.1, 3) → ck_cq G (am_S G p l e R s m args below meth c mc ms Post) (am_SX G p l e R s m args below meth c mc ms Post) mc ms E.2.2.2.1 cm E.2.2.2.2.2.1 pc (pc + 3) q.2)
    (hf : ∀ q ∈ tb.2.2.2.2.2.2.2.2.1.2.2.2, ∀ pc cn, decode cc pc = .ok (.invokeinterface q.1 cn, 5) → ck_cq G (am_S G p l e R s m args below meth c mc ms Post) (am_SX G p l e R s m args below meth c mc ms Post) mc ms E.2.2.2.1 cm E.2.2.2.2.2.1 pc (pc + 5) q.2)
    (hth : ∀ q ∈ tb.2.2.2.2.2.2.2.2.2.1, ∀ Ex, E.2.2.1.2.2.2.2.2[q.2]? = some Ex → ck_sZ (am_S G p l e R s m args below meth c mc ms Post) Post mc ms E.2.2.2.1 q.1 Ex)
    {ins : Instr} {len : Nat} {o : ck_O} (d : decode cc pc = .ok (ins, len)) (h : ck_tr tb pc ins len = some o) : ck_os G (am_S G p l e R s m args below meth c mc ms Post) (am_SX G p l e R s m args below meth c mc ms Post) Post mc ms cm E pc o := by
  obtain ⟨ints, longs, refs, gets, puts, news, anews, casts, ⟨cv, ci, cs, cf⟩, thr, oi, sts, jt⟩ := tb
  obtain ⟨T, pr, ownk, nL', code, cl, hds, gh, cuts⟩ := E
  have hnL : nL' = nL := hnL
  subst hnL
  obtain ⟨k1, k2, k3, k4, k5, k6, k7, k8⟩ := h1
  dsimp only at hca hv hs ht hf hth h3 hpr
  unfold ck_tr at h
  dsimp only at h
  split at h
  · next f hf9 =>
    cases h
    show (match ownk.2.2.2.2.2[f]? with
      | some Ex => ck_sZ (am_S G p l e R s m args below meth c mc ms Post) Post mc ms nL' pc Ex
      | none => True)
    cases hx : ownk.2.2.2.2.2[f]? with
    | none => trivial
    | some Ex => exact hth _ (ck_lu_mem hf9) Ex hx
  · split at h
    · obtain ⟨hc, h⟩ := ck_bt rfl h
      cases h
      cases ck_beq hc
      exact am_s_iconst X d
    · obtain ⟨hc, h⟩ := ck_bt rfl h
      cases h
      obtain ⟨hc, hd⟩ := Bool.and_eq_true_iff.mp hc
      cases ck_beq hc
      exact am_s_bipush X d (of_decide_eq_true hd)
    · obtain ⟨hc, h⟩ := ck_bt rfl h
      cases h
      obtain ⟨hc, hd⟩ := Bool.and_eq_true_iff.mp hc
      cases ck_beq hc
      exact am_s_sipush X d (of_decide_eq_true hd)
    · obtain ⟨hc, h⟩ := ck_bt rfl h
      cases h
      cases ck_beq hc
      exact am_s_lconst X d
    · next i =>
      cases hc : Nat.beq len 2
      · rw [hc] at h; cases h
      · rw [hc, cond_true] at h
        cases ck_beq hc
        split at h
        · next v hv9 =>
          cases h
          exact am_s_ldc X (k1 _ (ck_lu_mem hv9)) d
        · split at h
          · next q hq9 =>
            cases h
            rcases k3 _ (ck_lu_mem hq9) with ⟨tx, hz⟩ | ⟨z1, z2⟩
            · exact am_s_ldcs X hz d
            · have z1 : q = 5 := z1
              subst z1
              exact am_s_ldcM X z2 d
          · cases h
    · next i =>
      cases hc : Nat.beq len 3
      · rw [hc] at h; cases h
      · rw [hc, cond_true] at h
        cases ck_beq hc
        split at h
        · next v hv9 =>
          cases h
          exact am_s_ldc_w X (k1 _ (ck_lu_mem hv9)) d
        · split at h
          · next q hq9 =>
            cases hq5 : Nat.beq q 5
            · rw [hq5, cond_false] at h
              cases h
              rcases k3 _ (ck_lu_mem hq9) with ⟨tx, hz⟩ | ⟨z1, z2⟩
              · exact am_s_ldcsw X hz d
              · exfalso
                have z1 : q = 5 := z1
                rw [z1] at hq5
                cases hq5
            · rw [hq5] at h
              cases h
          · cases h
    · next i =>
      cases hc : Nat.beq len 3
      · rw [hc] at h; cases h
      · rw [hc, cond_true] at h
        cases ck_beq hc
        split at h
        · next v hv9 =>
          cases h
          exact am_s_ldc2 X (k2 _ (ck_lu_mem hv9)) d
        · cases h
    · obtain ⟨hc, h⟩ := ck_bt rfl h
      cases h
      cases ck_beq hc
      exact am_s_null X d
    · obtain ⟨hc, h⟩ := ck_bt rfl h
      cases h
      cases ck_beq hc
      exact am_s_iload_n X d
    · obtain ⟨hc, h⟩ := ck_bt rfl h
      cases h
      cases ck_beq hc
      exact am_s_iload X d
    · obtain ⟨hc, h⟩ := ck_bt rfl h
      cases h
      cases ck_beq hc
      exact am_s_lload_n X d
    · obtain ⟨hc, h⟩ := ck_bt rfl h
      cases h
      cases ck_beq hc
      exact am_s_lload X d
    · obtain ⟨hc, h⟩ := ck_bt rfl h
      cases h
      cases ck_beq hc
      exact am_s_aload_n X d
    · obtain ⟨hc, h⟩ := ck_bt rfl h
      cases h
      cases ck_beq hc
      exact am_s_aload X d
    · obtain ⟨hc, h⟩ := ck_bt rfl h
      cases h
      cases ck_beq hc
      exact am_s_istore_n X d
    · obtain ⟨hc, h⟩ := ck_bt rfl h
      cases h
      cases ck_beq hc
      exact am_s_istore X d
    · obtain ⟨hc, h⟩ := ck_bt rfl h
      cases h
      cases ck_beq hc
      exact am_s_lstore_n X d
    · obtain ⟨hc, h⟩ := ck_bt rfl h
      cases h
      cases ck_beq hc
      exact am_s_lstore X d
    · obtain ⟨hc, h⟩ := ck_bt rfl h
      cases h
      cases ck_beq hc
      exact am_s_astore_n X d
    · obtain ⟨hc, h⟩ := ck_bt rfl h
      cases h
      cases ck_beq hc
      exact am_s_astore X d
    · obtain ⟨hc, h⟩ := ck_bt rfl h
      cases h
      cases ck_beq hc
      exact am_s_iinc X d
    · obtain ⟨hc, h⟩ := ck_bt rfl h
      cases h
      cases ck_beq hc
      exact am_s_pop X d
    · obtain ⟨hc, h⟩ := ck_bt rfl h
      cases h
      cases ck_beq hc
      exact am_s_dup X d
    · obtain ⟨hc, h⟩ := ck_bt rfl h
      cases h
      cases ck_beq hc
      exact am_s_dup_x1 X d
    · obtain ⟨hc, h⟩ := ck_bt rfl h
      cases h
      cases ck_beq hc
      exact am_s_dup2 X d
    · obtain ⟨hc, h⟩ := ck_bt rfl h
      cases h
      cases ck_beq hc
      exact am_s_iadd X d
    · obtain ⟨hc, h⟩ := ck_bt rfl h
      cases h
      cases ck_beq hc
      exact am_s_isub X d
    · obtain ⟨hc, h⟩ := ck_bt rfl h
      cases h
      cases ck_beq hc
      exact am_s_imul X d
    · obtain ⟨hc, h⟩ := ck_bt rfl h
      cases h
      cases ck_beq hc
      exact am_s_idiv X d
    · obtain ⟨hc, h⟩ := ck_bt rfl h
      cases h
      cases ck_beq hc
      exact am_s_irem X d
    · obtain ⟨hc, h⟩ := ck_bt rfl h
      cases h
      cases ck_beq hc
      exact am_s_iand X d
    · obtain ⟨hc, h⟩ := ck_bt rfl h
      cases h
      cases ck_beq hc
      exact am_s_ior X d
    · obtain ⟨hc, h⟩ := ck_bt rfl h
      cases h
      cases ck_beq hc
      exact am_s_ixor X d
    · obtain ⟨hc, h⟩ := ck_bt rfl h
      cases h
      cases ck_beq hc
      exact am_s_ishl X d
    · obtain ⟨hc, h⟩ := ck_bt rfl h
      cases h
      cases ck_beq hc
      exact am_s_ishr X d
    · obtain ⟨hc, h⟩ := ck_bt rfl h
      cases h
      cases ck_beq hc
      exact am_s_iushr X d
    · obtain ⟨hc, h⟩ := ck_bt rfl h
      cases h
      cases ck_beq hc
      exact am_s_ladd X d
    · obtain ⟨hc, h⟩ := ck_bt rfl h
      cases h
      cases ck_beq hc
      exact am_s_lsub X d
    · obtain ⟨hc, h⟩ := ck_bt rfl h
      cases h
      cases ck_beq hc
      exact am_s_lmul X d
    · obtain ⟨hc, h⟩ := ck_bt rfl h
      cases h
      cases ck_beq hc
      exact am_s_ldiv X d
    · obtain ⟨hc, h⟩ := ck_bt rfl h
      cases h
      cases ck_beq hc
      exact am_s_lrem X d
    · obtain ⟨hc, h⟩ := ck_bt rfl h
      cases h
      cases ck_beq hc
      exact am_s_lxor X d
    · obtain ⟨hc, h⟩ := ck_bt rfl h
      cases h
      cases ck_beq hc
      exact am_s_ineg X d
    · obtain ⟨hc, h⟩ := ck_bt rfl h
      cases h
      cases ck_beq hc
      exact am_s_i2b X d
    · obtain ⟨hc, h⟩ := ck_bt rfl h
      cases h
      cases ck_beq hc
      exact am_s_i2c X d
    · obtain ⟨hc, h⟩ := ck_bt rfl h
      cases h
      cases ck_beq hc
      exact am_s_lneg X d
    · obtain ⟨hc, h⟩ := ck_bt rfl h
      cases h
      cases ck_beq hc
      exact am_s_i2l X d
    · obtain ⟨hc, h⟩ := ck_bt rfl h
      cases h
      cases ck_beq hc
      exact am_s_l2i X d
    · obtain ⟨hc, h⟩ := ck_bt rfl h
      cases h
      cases ck_beq hc
      exact am_s_lcmp X d
    · cases hc : Nat.beq len 3
      · rw [hc] at h; cases h
      · rw [hc, cond_true] at h
        cases ck_beq hc
        obtain ⟨t, ht9, h⟩ := Option.bind_eq_some_iff.mp h
        cases h
        exact am_s_if X d (ck_to_ok ht9)
    · cases hc : Nat.beq len 3
      · rw [hc] at h; cases h
      · rw [hc, cond_true] at h
        cases ck_beq hc
        obtain ⟨t, ht9, h⟩ := Option.bind_eq_some_iff.mp h
        cases h
        exact am_s_icmp X d (ck_to_ok ht9)
    · cases hc : Nat.beq len 3
      · rw [hc] at h; cases h
      · rw [hc, cond_true] at h
        cases ck_beq hc
        obtain ⟨t, ht9, h⟩ := Option.bind_eq_some_iff.mp h
        cases h
        exact am_s_goto X d (ck_to_ok ht9)
    · cases hc : Nat.beq len 3
      · rw [hc] at h; cases h
      · rw [hc, cond_true] at h
        cases ck_beq hc
        obtain ⟨t, ht9, h⟩ := Option.bind_eq_some_iff.mp h
        cases h
        exact am_s_ifnull X d (ck_to_ok ht9)
    · cases hc : Nat.beq len 3
      · rw [hc] at h; cases h
      · rw [hc, cond_true] at h
        cases ck_beq hc
        obtain ⟨t, ht9, h⟩ := Option.bind_eq_some_iff.mp h
        cases h
        exact am_s_acmp (eq := true) X d (ck_to_ok ht9)
    · cases hc : Nat.beq len 3
      · rw [hc] at h; cases h
      · rw [hc, cond_true] at h
        cases ck_beq hc
        obtain ⟨t, ht9, h⟩ := Option.bind_eq_some_iff.mp h
        cases h
        exact am_s_acmp (eq := false) X d (ck_to_ok ht9)
    · cases hc : Nat.beq len 3
      · rw [hc] at h; cases h
      · rw [hc, cond_true] at h
        cases ck_beq hc
        obtain ⟨t, ht9, h⟩ := Option.bind_eq_some_iff.mp h
        cases h
        exact am_s_ifnonnull X d (ck_to_ok ht9)
    · next dd lo hi offs =>
      cases hc : decide (hi - lo + 1 = (offs.toList.length : Int))
      · rw [hc] at h; cases h
      · rw [hc, cond_true] at h
        obtain ⟨t, ht9, h⟩ := Option.bind_eq_some_iff.mp h
        obtain ⟨mm, hm9, h⟩ := Option.bind_eq_some_iff.mp h
        cases h
        exact am_s_table X d (ck_to_ok ht9) hm9 (of_decide_eq_true hc)
    · next i =>
      cases hc : Nat.beq len 3
      · rw [hc] at h; cases h
      · rw [hc, cond_true] at h
        cases ck_beq hc
        obtain ⟨q, hq9, h⟩ := Option.bind_eq_some_iff.mp h
        cases h
        have hq9 := ck_lu_mem hq9
        obtain ⟨a1, a2, fin, ty, a3⟩ := k4 _ hq9
        exact am_s_getf X a3 a1 a2 d
    · next i =>
      cases hc : Nat.beq len 3
      · rw [hc] at h; cases h
      · rw [hc, cond_true] at h
        cases ck_beq hc
        obtain ⟨q, hq9, h⟩ := Option.bind_eq_some_iff.mp h
        cases h
        have hq9 := ck_lu_mem hq9
        obtain ⟨a1, a2, ty, a3, a4⟩ := h2 _ hq9
        exact am_s_putf X (a4.imp id fun ⟨b1, b2, b3⟩ => ⟨b1, hin b2, b3⟩) a3 a1 a2 d
    · next i =>
      cases hc : Nat.beq len 3
      · rw [hc] at h; cases h
      · rw [hc, cond_true] at h
        cases ck_beq hc
        obtain ⟨q, hq9, h⟩ := Option.bind_eq_some_iff.mp h
        cases h
        have hq9 := ck_lu_mem hq9
        obtain ⟨C, T9, N, a1, a2, a3, a4⟩ := k5 _ hq9
        have := am_s_new (e := e) (R := R) (below := below) (mc := mc) (ms := ms) (Post := Post) X a1 a2 a3 a4 d
        rw [hmc, hms] at this
        show ck_sW _ mc ms pc (pc + 3) q.1 ((q.2.map fun d => ((0 : Int), d)).map fun q => q.2)
        rw [List.map_map, show ((fun q : Int × Nat => q.2) ∘ fun d : Nat => ((0 : Int), d)) = id from rfl, List.map_id]
        exact this
    · obtain ⟨hc, h⟩ := ck_bt rfl h
      cases h
      cases ck_beq hc
      have := am_s_newI (e := e) (R := R) (below := below) (mc := mc) (ms := ms) (Post := Post) X har.1 d
      rw [hmc, hms] at this
      exact this
    · obtain ⟨hc, h⟩ := ck_bt rfl h
      cases h
      cases ck_beq hc
      have := am_s_newB (e := e) (R := R) (below := below) (mc := mc) (ms := ms) (Post := Post) X har.2.1 d
      rw [hmc, hms] at this
      exact this
    · obtain ⟨hc, h⟩ := ck_bt rfl h
      cases h
      cases ck_beq hc
      have := am_s_newJ (e := e) (R := R) (below := below) (mc := mc) (ms := ms) (Post := Post) X har.2.2 d
      rw [hmc, hms] at this
      exact this
    · next i =>
      cases hc : Nat.beq len 3
      · rw [hc] at h; cases h
      · rw [hc, cond_true] at h
        cases ck_beq hc
        obtain ⟨q, hq9, h⟩ := Option.bind_eq_some_iff.mp h
        cases h
        have hq9 := ck_lu_mem hq9
        rcases k6 _ hq9 with ⟨C, a1, a2, a3, a4, a5⟩ | ⟨a1, a2, a3⟩
        · have := am_s_newQ (e := e) (R := R) (below := below) (mc := mc) (ms := ms) (Post := Post) X a1 a2 a3 a4 a5 d
          rw [hmc, hms] at this
          exact this
        · have a1 : q = 57 := a1
          subst a1
          have := am_s_newII (e := e) (R := R) (below := below) (mc := mc) (ms := ms) (Post := Post) X a2 a3 d
          rw [hmc, hms] at this
          exact this
    · obtain ⟨hc, h⟩ := ck_bt rfl h
      cases h
      cases ck_beq hc
      exact am_s_alen X d
    · obtain ⟨hc, h⟩ := ck_bt rfl h
      cases h
      cases ck_beq hc
      exact am_s_iald X d
    · obtain ⟨hc, h⟩ := ck_bt rfl h
      cases h
      cases ck_beq hc
      exact am_s_bald X d
    · obtain ⟨hc, h⟩ := ck_bt rfl h
      cases h
      cases ck_beq hc
      exact am_s_lald X d
    · obtain ⟨hc, h⟩ := ck_bt rfl h
      cases h
      cases ck_beq hc
      exact am_s_aald X d
    · obtain ⟨hc, h⟩ := ck_bt rfl h
      cases h
      cases ck_beq hc
      exact am_s_iast X (fun q hq => (hpr q hq).1) d
    · obtain ⟨hc, h⟩ := ck_bt rfl h
      cases h
      cases ck_beq hc
      exact am_s_bast X (fun q hq => (hpr q hq).1) d
    · obtain ⟨hc, h⟩ := ck_bt rfl h
      cases h
      cases ck_beq hc
      exact am_s_last X (fun q hq => (hpr q hq).1) d
    · obtain ⟨hc, h⟩ := ck_bt rfl h
      cases h
      cases ck_beq hc
      exact am_s_aast X (fun q hq => (hpr q hq).2) d
    · obtain ⟨hc, h⟩ := ck_bt rfl h
      cases h
      obtain ⟨hc, hd⟩ := Bool.and_eq_true_iff.mp hc
      cases ck_beq hc
      exact am_s_iret X (Nat.le_of_ble_eq_true hd) h3 d
    · obtain ⟨hc, h⟩ := ck_bt rfl h
      cases h
      obtain ⟨hc, hd⟩ := Bool.and_eq_true_iff.mp hc
      cases ck_beq hc
      exact am_s_lret X (by rw [← ck_beq hd]; exact h3) d
    · obtain ⟨hc, h⟩ := ck_bt rfl h
      cases h
      obtain ⟨hc, hd⟩ := Bool.and_eq_true_iff.mp hc
      cases ck_beq hc
      exact am_s_aret X (by rw [← ck_beq hd]; exact h3) d
    · obtain ⟨hc, h⟩ := ck_bt rfl h
      cases h
      obtain ⟨hc, hd⟩ := Bool.and_eq_true_iff.mp hc
      cases ck_beq hc
      exact am_s_vret X (by rw [← ck_beq hd]; exact h3) d
    · next i =>
      cases hc : Nat.beq len 3
      · rw [hc] at h; cases h
      · rw [hc, cond_true] at h
        cases ck_beq hc
        obtain ⟨q, hq9, h⟩ := Option.bind_eq_some_iff.mp h
        cases h
        have hq9 := ck_lu_mem hq9
        exact hv _ hq9 pc d
    · next i =>
      cases hc : Nat.beq len 3
      · rw [hc] at h; cases h
      · rw [hc, cond_true] at h
        cases ck_beq hc
        cases hb : oi.any (Nat.beq i)
        · rw [hb, cond_false] at h
          obtain ⟨q, hq9, h⟩ := Option.bind_eq_some_iff.mp h
          cases h
          exact hs _ (ck_lu_mem hq9) pc d
        · rw [hb, cond_true] at h
          cases h
          obtain ⟨x, x1, x2⟩ := List.any_eq_true.mp hb
          rw [← ck_beq x2] at x1
          exact am_s_objInit X (k7 _ x1) hoi.1 hoi.2 hfr hlo d
    · next i =>
      cases hc : Nat.beq len 3
      · rw [hc] at h; cases h
      · rw [hc, cond_true] at h
        cases ck_beq hc
        obtain ⟨q, hq9, h⟩ := Option.bind_eq_some_iff.mp h
        cases h
        have hq9 := ck_lu_mem hq9
        exact ht _ hq9 pc d
    · next i cn =>
      cases hc : Nat.beq len 5
      · rw [hc] at h; cases h
      · rw [hc, cond_true] at h
        cases ck_beq hc
        obtain ⟨q, hq9, h⟩ := Option.bind_eq_some_iff.mp h
        cases h
        exact hf _ (ck_lu_mem hq9) pc cn d
    · next i =>
      cases hc : Nat.beq len 3
      · rw [hc] at h; cases h
      · rw [hc, cond_true] at h
        cases ck_beq hc
        obtain ⟨q, hq9, h⟩ := Option.bind_eq_some_iff.mp h
        cases h
        have hq9 := ck_lu_mem hq9
        obtain ⟨nm, a1, a2⟩ := hca _ hq9
        show ck_sT G _ pc (pc + 3) ((q.map fun d => ((0 : Int), d)).map fun q => q.2)
        rw [List.map_map, show ((fun q : Int × Nat => q.2) ∘ fun d : Nat => ((0 : Int), d)) = id from rfl, List.map_id]
        exact am_s_cast X a1 a2 d
    · next i =>
      cases hc : Nat.beq len 3
      · rw [hc] at h; cases h
      · rw [hc, cond_true] at h
        cases ck_beq hc
        obtain ⟨q, hq9, h⟩ := Option.bind_eq_some_iff.mp h
        obtain ⟨z, z1, z2, z3⟩ := k8 _ (ck_lu_mem hq9)
        split at h
        · next v =>
          cases h
          rcases z3 with ⟨-, z3⟩ | ⟨z3, -⟩
          · exact am_s_getsI X z1 z2 z3 d
          · cases z3
        · next v =>
          cases h
          rcases z3 with ⟨z3, -⟩ | ⟨-, v', z3, z4⟩
          · cases z3
          · have z3 : Int.ofNat v = (v' : Int) := z3
            have : v = v' := Int.ofNat.inj z3
            subst this
            exact am_s_getsR X z1 z2 z4 d
        · cases h
    · cases h
end AMD
