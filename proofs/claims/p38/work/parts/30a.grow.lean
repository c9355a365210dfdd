/-! CONTRACTS THAT TELL HOW FAR THE HEAP GROWS: a cell for each that is counted, no more -/
def am_grow (CM : ck_CM) : ck_CM := fun a h mc ms P => CM a h mc ms (fun o h' => P o h' ∧ h'.length ≤ h.length + mc)
def am_gS (N : Nat) (S : ck_SS) : ck_SS := fun pc L st h k n => h.length ≤ N + k → S pc L st h k n
def am_gX (N : Nat) (SX : Nat → ck_SX) : Nat → ck_SX := fun pc E L h k n => h.length ≤ N + k → SX pc E L h k n
def am_gP (N mc : Nat) (P : am_O → List am_C → Prop) : am_O → List am_C → Prop := fun o h => P o h ∧ h.length ≤ N + mc
section AMG
variable {G : am_G} {S : ck_SS} {SX : Nat → ck_SX} {P : am_O → List am_C → Prop} {N Rc Rs : Nat} {pc : Nat}
theorem am_gR (hs : ck_sR G S pc) : ck_sR G (am_gS N S) pc := fun L st h k n q t t' vs e1 e2 e3 hk hl => hs L st h k n q t t' vs e1 e2 e3 (hk (by rw [am_s_len]; exact hl))
set_option maxHeartbeats 1000000 in
theorem am_gos {cm : Nat → ck_CM} {E : ck_E} {o : ck_O} (h : ck_os G S SX (am_gP N Rc P) Rc Rs cm E pc o) : ck_os G (am_gS N S) (am_gX N SX) P Rc Rs (fun i => am_grow (cm i)) E pc o := by
  obtain ⟨c, f, f2, v, nx, tg, ex⟩ := o
  obtain ⟨T, pr, own, nL, code, cl, hds, gh, cuts⟩ := E
  unfold ck_os at h ⊢
  dsimp only at h ⊢
  split at h
  · exact fun L st L' st' h' k n e hk hl => h L st L' st' h' k n e (hk hl)
  · exact fun L x st h' k n a b hl => h L x st h' k n (fun z => a z hl) (fun z => b z hl)
  · exact fun L x y st h' k n a b hl => h L x y st h' k n (fun z => a z hl) (fun z => b z hl)
  · exact fun L st h' k n a hl => h L st h' k n (a hl)
  · exact fun L st h' k n => ⟨fun a hl => (h L st h' k n).1 (a hl), fun q a hl => (h L st h' k n).2 q (a hl)⟩
  · exact fun L st h' k n => ⟨fun a hl => (h L st h' k n).1 (a hl), fun q a hl => (h L st h' k n).2 q (a hl)⟩
  · exact fun L x st h' k n a b hl => h L x st h' k n (fun e he z => a e he z hl) (fun z => b z hl)
  · exact fun L st h' k n q t vs v e1 e2 e3 a hl => h L st h' k n q t vs v e1 e2 e3 (a hl)
  · exact fun L st h' k n q t vs v e1 e2 e3 e4 a hl => h L st h' k n q t vs v e1 e2 e3 e4 (a (by rw [am_s_len]; exact hl))
  · exact fun t L st h' k n e1 e2 e3 a hl => h t L st h' k n e1 e2 e3 (a (by rw [List.length_append, List.length_singleton]; omega))
  · exact fun t L st h' x N' k n e1 e2 e3 e4 e5 a hl => h t L st h' x N' k n e1 e2 e3 e4 e5 (a (by rw [List.length_append, List.length_singleton]; omega))
  · exact fun L st h' k n q t vs e1 e2 e3 a hl => h L st h' k n q t vs e1 e2 e3 (a hl)
  · exact fun L st h' k n q t x vs v e1 e2 e3 e4 a hl => h L st h' k n q t x vs v e1 e2 e3 e4 (a hl)
  · exact fun L st h' k n q t x vs v e1 e2 e3 e4 e5 e6 e7 a hl => h L st h' k n q t x vs v e1 e2 e3 e4 e5 e6 e7 (a (by rw [am_s_len]; exact hl))
  · exact fun L v h' k n e1 e2 e3 e4 hl => h L v h' k n e1 e2 e3 ⟨e4, by omega⟩
  · exact fun L h' k n e2 e3 e4 hl => h L h' k n e2 e3 ⟨e4, by omega⟩
  · split
    · next rc na cs hcl =>
      rw [hcl] at h
      exact fun a L st h' k n mc ms P' hCM e1 e2 e3 e4 e5 e6 kr kx hl => h a L st h' k n mc ms _ hCM e1 e2 e3 e4 e5 e6 (fun v h2 hp => kr v h2 hp.1 (by have := hp.2; omega)) (fun Ex h2 hp => kx Ex h2 hp.1 (by have := hp.2; omega))
    · trivial
  · split
    · next Ex hEx =>
      rw [hEx] at h
      exact fun L st h' k n e1 e2 e3 e4 e5 hl => h L st h' k n e1 e2 e3 e4 ⟨e5, by rw [List.length_append, List.length_singleton]; omega⟩
    · trivial
  · exact fun L q st h' k n e1 e2 a hl => h L q st h' k n e1 e2 (a hl)
  · exact fun L v st h' k n e1 a hl => h L v st h' k n e1 (a hl)
  · exact ⟨fun L v u st h' k n e1 e2 a b hl => h.1 L v u st h' k n e1 e2 (a hl) (b hl), fun L q st h' k n a hl => h.2 L q st h' k n (a hl)⟩
  · trivial
end AMG
set_option maxHeartbeats 8000000 in
theorem ck_methG {l : Launch} {G : am_G} (hl : l.stackTraces = false) {X : ck_XT} {T : ck_TT} (hX : ck_XO X) (hX0 : ck_X0 X) (hKT : ck_KT G T) (hW : ∀ t, t < 100 → ck_wr T t = true)
    {y : MethodName} {cc : ByteArray} {nL : Nat} {ret : Option FieldType} {fr lo fuel : Nat} {E : ck_E} {tb : ck_TB} {init : Bool} {cm : Nat → ck_CM} (hy : plainFor y = true) (hT : E.1 = T) (hnL : E.2.2.2.1 = nL) (hhd : E.2.2.2.2.2.2.1 = []) (hay : (ck_lay E.2.2.1.1.2.2.2.2).length ≤ nL)
    (hchk : ck_chk E fuel = true) (hdec : ck_dec cc tb E.2.2.2.2.1 = true) (h1 : ck_ok1 y.cls tb) (h2 : ck_puts y.cls init tb) (hin : init = true → y.name = "<init>") (h3 : ck_rj tb.2.2.2.2.2.2.2.2.2.2.2.2 ret) (hfr : 1 ≤ fr) (hlo : 20 ≤ lo)
    (hoi : Cond.instanceMethod objectInit ∈ lw_gw ∧ Cond.code objectInit ⟨#[0xb1]⟩ 1 none ∈ lw_gw) (har : Cond.arrayClass .int ∈ lw_gw ∧ Cond.arrayClass .byte ∈ lw_gw ∧ Cond.arrayClass .long ∈ lw_gw)
    (hpr : ∀ s, am_kon G s → (∀ a w, w ∈ lw_gw → w.before a s = true) ∨ True → ∀ q ∈ E.2.1, 53 ≤ q.1 ∧ q.2 < 59 ∧ am_asg G s q.1 q.2) (hca : ∀ s, am_kon G s → ∀ q ∈ tb.2.2.2.2.2.2.2.1, ∃ nm, Cond.classLink y.cls q.1 nm ∈ lw_gw ∧ ∀ k ∈ q.2, k < 59 ∧ am_isa G s k nm)
    (hcl : ∀ (i : Nat) (x : ck_Cl), E.2.2.2.2.2.1[i]? = some x → ∀ c ∈ x.2.2, ck_Con (am_grow (cm i)) G X T c)
    (hv : ∀ q ∈ tb.2.2.2.2.2.2.2.2.1.1, ck_anyL l G y.cls nL fr lo .invokevirtual cm E.2.2.2.2.2.1 q) (hs : ∀ q ∈ tb.2.2.2.2.2.2.2.2.1.2.1, ck_anyL l G y.cls nL fr lo .invokespecial cm E.2.2.2.2.2.1 q) (ht : ∀ q ∈ tb.2.2.2.2.2.2.2.2.1.2.2.1, ck_anyL l G y.cls nL fr lo .invokestatic cm E.2.2.2.2.2.1 q) (hf : ∀ q ∈ tb.2.2.2.2.2.2.2.2.1.2.2.2, ck_anyF l G y.cls nL fr lo cm E.2.2.2.2.2.1 q)
    (hth : ∀ q ∈ tb.2.2.2.2.2.2.2.2.2.1, ∀ Ex, E.2.2.1.2.2.2.2.2[q.2]? = some Ex → ck_anyZ l G y.cls cc nL fr lo q.1 Ex) (hn5 : ∀ f ∈ ck_g5 E, ck_nopP G (cm f)) : ck_Con (am_grow (am_cm l G y (.code y cc nL ret) fr lo)) G X T E.2.2.1 := by
  intro K r s0 a h hH hV hC hF hn hS mc ms hmc hms
  unfold ck_chk at hchk
  simp only [Bool.and_eq_true] at hchk
  obtain ⟨c1, c2, c3, c4⟩ := hchk
  have hlen : ∀ B : List Value, ck_stk r s0 E.2.2.1.1.2.2.2.2 B → (am_lay B).length ≤ nL := fun B hB => by rw [(ck_lay_ok hB).1]; exact hay
  refine am_M.of hl hy (hlen a hS) fun p e s m args below meth c X9 hname htab => ?_
  have hkon := X9.2.2.2.2.2.1
  let w : ck_W := (G, X, T, K, h, r, s0, E.2.2.1.2.2.1, ck_rq E.2.2.1.2.2.2.1 s0)
  have hRt : ck_Rt w E.2.2.1.2.2.2.1 := ck_Rt.of rfl rfl (by rw [hn]; exact c4)
  have hctx : ck_Ctx E w (am_gS h.length (am_S G p l e { frames := fr, cells := mc, slots := ms, locals := lo } s m args below meth c mc ms (am_gP h.length mc (ck_Po G X T K E.2.2.1 r s0 h)))) (am_gX h.length (am_SX G p l e { frames := fr, cells := mc, slots := ms, locals := lo } s m args below meth c mc ms (am_gP h.length mc (ck_Po G X T K E.2.2.1 r s0 h)))) mc ms (fun i => am_grow (cm i)) r s0 := by
    refine ⟨hX, hX0, hT.symm, hW, rfl, rfl, hRt, ⟨hmc, hms⟩, ⟨[], by rw [List.append_nil]⟩, ⟨[], by rw [List.append_nil]⟩, hV.1.symm, hn, hcl, fun pc q hq => ?_, fun pc Ex L h' k n _ hp hk hn' hl9 => am_RX.out X9 (fun x hx => (htab x hx).elim) hk hn' ⟨hp, by omega⟩, fun pc => am_gR am_s_retag, fun pc L st h' k n k' n' hk hn' hh hl9 => am_R.widen hk hn' (hh (by omega)), hKT, fun f hf a h mc ms P hP => (by obtain ⟨h1, h2, h3⟩ := hn5 f hf a h mc ms _ hP; exact ⟨h1, h2, h3.1⟩)⟩
    rw [hhd] at hq
    cases hq
  refine ck_all_ok (w := w) hctx rfl rfl (fun x hx => ?_) c1 c2 (A := ck_A0 E.2.2.1 E.2.2.2.1) (r := r) (s := s0) ?_ (Nat.le_add_right _ _)
  · have hd := List.all_eq_true.mp hdec x hx
    split at hd
    · next ins len hdc =>
      split at hd
      · next o ho =>
        exact am_gos (ck_os_same hd (ck_tr_ok X9 h1 h2 (fun z => hname.trans (hin z)) h3 (hpr s hkon (Or.inr trivial)) (hca s hkon) hnL hfr hlo hoi har rfl rfl
          (fun q hq pc d => by
            have := hv q hq
            unfold ck_anyL at this
            unfold ck_cq
            split
            · next hz => rw [hz] at this; rw [hnL]; exact this p e s m args below meth c mc ms _ cc ret pc X9 d
            · trivial)
          (fun q hq pc d => by
            have := hs q hq
            unfold ck_anyL at this
            unfold ck_cq
            split
            · next hz => rw [hz] at this; rw [hnL]; exact this p e s m args below meth c mc ms _ cc ret pc X9 d
            · trivial)
          (fun q hq pc d => by
            have := ht q hq
            unfold ck_anyL at this
            unfold ck_cq
            split
            · next hz => rw [hz] at this; rw [hnL]; exact this p e s m args below meth c mc ms _ cc ret pc X9 d
            · trivial)
          (fun q hq pc cn d => by
            have := hf q hq
            unfold ck_anyF at this
            unfold ck_cq
            split
            · next hz => rw [hz] at this; rw [hnL]; exact this cn p e s m args below meth c mc ms _ cc ret pc X9 d
            · trivial)
          (fun q hq Ex hE => by rw [hnL]; exact hth q hq Ex hE p e s m args below meth c mc ms _ ret X9 htab) hdc ho))
      · cases hd
    · cases hd
  · refine ⟨hV, hC, fun f hf9 => ?_, hn, by rw [hnL]; exact ck_ent_ok hS nL, trivial, ck_Lv.k r 0, ck_Lv.k r 0, hH, ck_Kp.rf, Nat.le_refl _, ⟨[], by rw [List.append_nil]⟩, ⟨[], by rw [List.append_nil]⟩⟩
    exact (hF f hf9).z5 (List.all_eq_true.mp c3 f hf9)
