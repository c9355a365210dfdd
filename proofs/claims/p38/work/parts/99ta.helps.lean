/-! HELPS OF WALKS BY HAND: calls as continuations, exceptions, frames -/
def zw_P (S : ck_SS) (SX : ck_SX) (nx : Nat) (L : List (Option Value)) (st : List Value) (k n : Nat) : am_O → List am_C → Prop := fun o h' => match o with
  | .inl v => S nx L (v.toList ++ st) h' k n
  | .inr E => SX E L h' k n
def zw_N (S : ck_SS) (nx : Nat) (L : List (Option Value)) (st : List Value) (k n : Nat) : am_O → List am_C → Prop := fun o h' => match o with
  | .inl v => S nx L (v.toList ++ st) h' k n
  | .inr _ => False
theorem zw_c {G : am_G} {S : ck_SS} {SX : ck_SX} {Rc Rs nL pc nx : Nat} {rc : Option Nat} {CM : ck_CM} {na : Nat} (H : ck_sQ G S SX Rc Rs nL pc nx rc CM na) {a : List Value} {L : List (Option Value)} {st : List Value} {h : List am_C} {k n : Nat} (ha : a.length = na) (hL : L.length = nL) (hst : (st.map fun v => v.category).sum ≤ 8) (hR : ck_rcv G rc a h) (hk : k ≤ Rc) (hn : n ≤ Rs) (hM : CM a h 0 0 (zw_P S SX nx L st k n)) : S pc L (a.reverse ++ st) h k n :=
  H a L st h k n 0 0 _ hM ha hL hst hR hk hn (fun _ _ hp => hp) (fun _ _ hp => hp)
theorem zw_cn {G : am_G} {S : ck_SS} {SX : ck_SX} {Rc Rs nL pc nx : Nat} {rc : Option Nat} {CM : ck_CM} {na : Nat} (H : ck_sQ G S SX Rc Rs nL pc nx rc CM na) {a : List Value} {L : List (Option Value)} {st : List Value} {h : List am_C} {k n : Nat} (ha : a.length = na) (hL : L.length = nL) (hst : (st.map fun v => v.category).sum ≤ 8) (hR : ck_rcv G rc a h) (hk : k ≤ Rc) (hn : n ≤ Rs) (hM : CM a h 0 0 (zw_N S nx L st k n)) : S pc L (a.reverse ++ st) h k n :=
  H a L st h k n 0 0 _ hM ha hL hst hR hk hn (fun _ _ hp => hp) (fun _ _ hp => hp.elim)
/-- the same of a call that makes cells -/
theorem zw_cm {G : am_G} {S : ck_SS} {SX : ck_SX} {Rc Rs nL pc nx : Nat} {rc : Option Nat} {CM : ck_CM} {na : Nat} (H : ck_sQ G S SX Rc Rs nL pc nx rc CM na) {a : List Value} {L : List (Option Value)} {st : List Value} {h : List am_C} {k n : Nat} (mc ms : Nat) (ha : a.length = na) (hL : L.length = nL) (hst : (st.map fun v => v.category).sum ≤ 8) (hR : ck_rcv G rc a h) (hk : k + mc ≤ Rc) (hn : n + ms ≤ Rs) (hM : CM a h mc ms (zw_P S SX nx L st (k + mc) (n + ms))) : S pc L (a.reverse ++ st) h k n :=
  H a L st h k n mc ms _ hM ha hL hst hR hk hn (fun _ _ hp => hp) (fun _ _ hp => hp)
theorem zw_cmn {G : am_G} {S : ck_SS} {SX : ck_SX} {Rc Rs nL pc nx : Nat} {rc : Option Nat} {CM : ck_CM} {na : Nat} (H : ck_sQ G S SX Rc Rs nL pc nx rc CM na) {a : List Value} {L : List (Option Value)} {st : List Value} {h : List am_C} {k n : Nat} (mc ms : Nat) (ha : a.length = na) (hL : L.length = nL) (hst : (st.map fun v => v.category).sum ≤ 8) (hR : ck_rcv G rc a h) (hk : k + mc ≤ Rc) (hn : n + ms ≤ Rs) (hM : CM a h mc ms (zw_N S nx L st (k + mc) (n + ms))) : S pc L (a.reverse ++ st) h k n :=
  H a L st h k n mc ms _ hM ha hL hst hR hk hn (fun _ _ hp => hp) (fun _ _ hp => hp.elim)
theorem zw_U {G : am_G} {S : ck_SS} {pc nx ci j jt q t k m : Nat} {vs : List Value} {v : Value} {h : List am_C} {L : List (Option Value)} {st : List Value} (H : ck_sU G S pc nx ci j jt) (hq : 1000 ≤ q) (hg : am_g G h q = some (t, vs)) (ht : t % 100 = ci) (hv : ck_fv jt v) (kk : ∀ h', hd_w G h h' q (t, vs.set j v) → S nx L st h' k m) : S pc L (v :: .ref q :: st) h k m :=
  H L st h k m q t _ _ hq hg ht hv (kk _ (hd_w.s hq hg))
theorem zw_B {G : am_G} {pr : List (Nat × Nat)} {S : ck_SS} {pc nx lo hi q t j k n : Nat} {e d : Int} {ds : List Int} {h : List am_C} {L : List (Option Value)} {st : List Value} (H : ck_sB G pr S pc nx lo hi) (h1 : lo ≤ 50) (h2 : 50 ≤ hi) (hq : 1000 ≤ q) (hg : am_g G h q = some (t, hd_r ds)) (ht : t % 100 = 50) (he : e = (j : Int)) (hj : j ≤ 2147483647) (hl : j < ds.length) (kk : ∀ h', hd_w G h h' q (t, hd_r (ds.set j d)) → S nx L st h' k n) : S pc L (.int (Int32.ofInt d) :: .int (Int32.ofInt e) :: .ref q :: st) h k n :=
  hd_B H h1 h2 hq hg ht he hj hl (kk _ (hd_w.s hq hg))
theorem zw_Ar {G : am_G} {S : ck_SS} {pc nx lo hi q t j k n : Nat} {e : Int} {vs : List Value} {v : Value} {h : List am_C} {L : List (Option Value)} {st : List Value} (H : ck_sA G S pc nx lo hi) (hg : am_g G h q = some (t, vs)) (hal : ck_al lo hi (t % 100) = true) (he : e = (j : Int)) (hj : j ≤ 2147483647) (hv : vs[j]? = some v) (kk : S nx L (v :: st) h k n) : S pc L (.int (Int32.ofInt e) :: .ref q :: st) h k n := by
  have hx : (Int32.ofInt e).toInt = (j : Int) := by rw [hd_oi (by omega) (by omega)]; exact he
  exact H L st h k n q t _ _ _ hg hal (by omega) (by rw [hx]; exact hv) kk
theorem zw_neg {L : List (Option Value)} {st : List Value} {v x : Int} : ck_cf 17 0 v L (.int (Int32.ofInt x) :: st) = some (L, .int (Int32.ofInt (-x)) :: st) := by rw [Int32.ofInt_neg]; rfl
theorem zw_lneg {L : List (Option Value)} {st : List Value} {a : Nat} {v x : Int} : ck_cf 18 a v L (.long (Int64.ofInt x) :: st) = some (L, .long (Int64.ofInt (-x)) :: st) := by rw [Int64.ofInt_neg]; rfl
theorem zw_lcmp {L : List (Option Value)} {st : List Value} {a : Nat} {v x y : Int} (h1 : -9223372036854775808 ≤ x) (h2 : x ≤ 9223372036854775807) (h3 : -9223372036854775808 ≤ y) (h4 : y ≤ 9223372036854775807) : ck_cf 21 a v L (.long (Int64.ofInt y) :: .long (Int64.ofInt x) :: st) = some (L, .int (Int32.ofInt (if y < x then 1 else if x < y then -1 else 0)) :: st) := by
  have e_ : lg_cmp (Int64.ofInt x) (Int64.ofInt y) = Int32.ofInt (if y < x then 1 else if x < y then -1 else 0) := by
    unfold lg_cmp
    by_cases c_ : y < x
    · have d_ : Int64.ofInt x > Int64.ofInt y := Int64.lt_iff_toInt_lt.mpr (by rw [hd_li h1 h2, hd_li h3 h4]; exact c_)
      rw [if_pos c_, if_pos d_]
      rfl
    · have d_ : ¬ Int64.ofInt x > Int64.ofInt y := fun z_ => by
        have := Int64.lt_iff_toInt_lt.mp z_
        rw [hd_li h1 h2, hd_li h3 h4] at this
        exact c_ this
      rw [if_neg c_, if_neg d_]
      by_cases c2_ : x < y
      · have d2_ : ¬ Int64.ofInt x = Int64.ofInt y := fun z_ => by
          have := congrArg Int64.toInt z_
          rw [hd_li h1 h2, hd_li h3 h4] at this
          omega
        rw [if_pos c2_, if_neg d2_]
        rfl
      · have d2_ : x = y := by omega
        rw [if_neg c2_, if_pos (by rw [d2_])]
        rfl
  rw [← e_]
  rfl
theorem zw_lcmpE {L : List (Option Value)} {st : List Value} {a : Nat} {v x y c : Int} (h1 : -9223372036854775808 ≤ x) (h2 : x ≤ 9223372036854775807) (h3 : -9223372036854775808 ≤ y) (h4 : y ≤ 9223372036854775807) (hc : (if y < x then 1 else if x < y then -1 else 0 : Int) = c) : ck_cf 21 a v L (.long (Int64.ofInt y) :: .long (Int64.ofInt x) :: st) = some (L, .int (Int32.ofInt c) :: st) := by
  rw [← hc]
  exact zw_lcmp h1 h2 h3 h4
/-- what is thrown in a method without handlers goes on -/
def zw_hx (SX : Nat → ck_SX) (P : am_O → List am_C → Prop) (mc ms : Nat) : Prop := ∀ (pc : Nat) (Ex : String) (L : List (Option Value)) (h' : List am_C) (k n : Nat), k ≤ mc → n ≤ ms → P (.inr Ex) h' → SX pc Ex L h' k n
/-- the handlers of one call -/
def zw_hh (S : ck_SS) (SX : Nat → ck_SX) (pc0 nL : Nat) (hdl : List (String × Nat)) : Prop := ∀ q ∈ hdl, ∀ (L : List (Option Value)) (h' : List am_C) (k n : Nat), L.length = nL → S q.2 ((am_cut L (nL - 1)).set (nL - 1) none) [] h' k n → SX pc0 q.1 L h' k n
set_option maxHeartbeats 8000000 in
theorem zw_handX {l : Launch} {G : am_G} (hl : l.stackTraces = false) {y : MethodName} {cc : ByteArray} {nL : Nat} {ret : Option FieldType} {fr lo : Nat} {E : ck_E} {tb : ck_TB} {init : Bool} {cm : Nat → ck_CM} (hy : plainFor y = true) (hnL : E.2.2.2.1 = nL)
    (hdec : ck_dec cc tb E.2.2.2.2.1 = true) (h1 : ck_ok1 y.cls tb) (h2 : ck_puts y.cls init tb) (hin : init = true → y.name = "<init>") (h3 : ck_rj tb.2.2.2.2.2.2.2.2.2.2.2.2 ret) (hfr : 1 ≤ fr) (hlo : 20 ≤ lo)
    (hoi : Cond.instanceMethod objectInit ∈ lw_gw ∧ Cond.code objectInit ⟨#[0xb1]⟩ 1 none ∈ lw_gw) (har : Cond.arrayClass .int ∈ lw_gw ∧ Cond.arrayClass .byte ∈ lw_gw ∧ Cond.arrayClass .long ∈ lw_gw)
    (hpr : ∀ s, am_kon G s → (∀ a w, w ∈ lw_gw → w.before a s = true) ∨ True → ∀ q ∈ E.2.1, 53 ≤ q.1 ∧ q.2 < 59 ∧ am_asg G s q.1 q.2) (hca : ∀ s, am_kon G s → ∀ q ∈ tb.2.2.2.2.2.2.2.1, ∃ nm, Cond.classLink y.cls q.1 nm ∈ lw_gw ∧ ∀ k ∈ q.2, k < 59 ∧ am_isa G s k nm)
    (hv : ∀ q ∈ tb.2.2.2.2.2.2.2.2.1.1, ck_anyL l G y.cls nL fr lo .invokevirtual cm E.2.2.2.2.2.1 q) (hs : ∀ q ∈ tb.2.2.2.2.2.2.2.2.1.2.1, ck_anyL l G y.cls nL fr lo .invokespecial cm E.2.2.2.2.2.1 q) (ht : ∀ q ∈ tb.2.2.2.2.2.2.2.2.1.2.2.1, ck_anyL l G y.cls nL fr lo .invokestatic cm E.2.2.2.2.2.1 q) (hf : ∀ q ∈ tb.2.2.2.2.2.2.2.2.1.2.2.2, ck_anyF l G y.cls nL fr lo cm E.2.2.2.2.2.1 q)
    (hth : ∀ q ∈ tb.2.2.2.2.2.2.2.2.2.1, ∀ Ex, E.2.2.1.2.2.2.2.2[q.2]? = some Ex → ck_anyZ l G y.cls cc nL fr lo q.1 Ex)
    {a : List Value} {h : List am_C} {mc ms : Nat} {Post : am_O → List am_C → Prop} (hay : (am_lay a).length ≤ nL) (H : ∀ (S : ck_SS) (SX : Nat → ck_SX), ck_hs G S SX Post mc ms cm E → (∀ pc, ck_sR G S pc) → ck_hw S → zw_hx SX Post mc ms → S 0 (am_ent a nL) [] h 0 0) : am_M l G y (.code y cc nL ret) fr lo mc ms a h Post := by
  refine am_M.of hl hy hay fun p e s m args below meth c X9 hname htab => ?_
  have hkon := X9.2.2.2.2.2.1
  refine H (am_S G p l e { frames := fr, cells := mc, slots := ms, locals := lo } s m args below meth c mc ms Post) (am_SX G p l e { frames := fr, cells := mc, slots := ms, locals := lo } s m args below meth c mc ms Post) (fun n x hx => ?_) (fun pc => am_s_retag) (fun pc L st h' k n k' n' hk hn' hh => am_R.widen hk hn' hh) (fun pc Ex L h' k n hk hn' hp => am_RX.out X9 (fun x hx => (htab x hx).elim) hk hn' hp)
  have hd := List.all_eq_true.mp hdec x (List.mem_of_getElem? hx)
  split at hd
  · next ins len hdc =>
    split at hd
    · next o ho =>
      exact ck_os_same hd (ck_tr_ok X9 h1 h2 (fun z => hname.trans (hin z)) h3 (hpr s hkon (Or.inr trivial)) (hca s hkon) hnL hfr hlo hoi har rfl rfl
        (fun q hq pc d => by
          have := hv q hq
          unfold ck_anyL at this
          unfold ck_cq
          split
          · next hz => rw [hz] at this; rw [hnL]; exact this p e s m args below meth c mc ms _ cc ret pc X9 d
          · trivial)
        (fun q hq pc d => by
          have := hs q hq
          unfold ck_anyL at this
          unfold ck_cq
          split
          · next hz => rw [hz] at this; rw [hnL]; exact this p e s m args below meth c mc ms _ cc ret pc X9 d
          · trivial)
        (fun q hq pc d => by
          have := ht q hq
          unfold ck_anyL at this
          unfold ck_cq
          split
          · next hz => rw [hz] at this; rw [hnL]; exact this p e s m args below meth c mc ms _ cc ret pc X9 d
          · trivial)
        (fun q hq pc cn d => by
          have := hf q hq
          unfold ck_anyF at this
          unfold ck_cq
          split
          · next hz => rw [hz] at this; rw [hnL]; exact this cn p e s m args below meth c mc ms _ cc ret pc X9 d
          · trivial)
        (fun q hq Ex hE => by rw [hnL]; exact hth q hq Ex hE p e s m args below meth c mc ms _ ret X9 htab) hdc ho)
    · cases hd
  · cases hd
set_option maxHeartbeats 8000000 in
theorem zw_handH {l : Launch} {G : am_G} (hl : l.stackTraces = false) {y : MethodName} {cc : ByteArray} {nL : Nat} {ret : Option FieldType} {fr lo pc0 : Nat} {E : ck_E} {tb : ck_TB} {cm : Nat → ck_CM} {hh : List (Nat × Nat × Nat × Nat)} {hdl : List (String × Nat)} (hy : plainName y.cls = true) (hnL : E.2.2.2.1 = nL) (hhd : ∀ q ∈ hdl, am_ct y.cls cc nL pc0 hh q.1 q.2)
    (hdec : ck_dec cc tb E.2.2.2.2.1 = true) (h1 : ck_ok1 y.cls tb) (h2 : ck_puts y.cls false tb) (h3 : ck_rj tb.2.2.2.2.2.2.2.2.2.2.2.2 ret) (hfr : 1 ≤ fr) (hlo : 20 ≤ lo)
    (hoi : Cond.instanceMethod objectInit ∈ lw_gw ∧ Cond.code objectInit ⟨#[0xb1]⟩ 1 none ∈ lw_gw) (har : Cond.arrayClass .int ∈ lw_gw ∧ Cond.arrayClass .byte ∈ lw_gw ∧ Cond.arrayClass .long ∈ lw_gw)
    (hpr : ∀ s, am_kon G s → (∀ a w, w ∈ lw_gw → w.before a s = true) ∨ True → ∀ q ∈ E.2.1, 53 ≤ q.1 ∧ q.2 < 59 ∧ am_asg G s q.1 q.2) (hca : ∀ s, am_kon G s → ∀ q ∈ tb.2.2.2.2.2.2.2.1, ∃ nm, Cond.classLink y.cls q.1 nm ∈ lw_gw ∧ ∀ k ∈ q.2, k < 59 ∧ am_isa G s k nm)
    (hv : ∀ q ∈ tb.2.2.2.2.2.2.2.2.1.1, ck_anyL l G y.cls nL fr lo .invokevirtual cm E.2.2.2.2.2.1 q) (hs : ∀ q ∈ tb.2.2.2.2.2.2.2.2.1.2.1, ck_anyL l G y.cls nL fr lo .invokespecial cm E.2.2.2.2.2.1 q) (ht : ∀ q ∈ tb.2.2.2.2.2.2.2.2.1.2.2.1, ck_anyL l G y.cls nL fr lo .invokestatic cm E.2.2.2.2.2.1 q) (hf : ∀ q ∈ tb.2.2.2.2.2.2.2.2.1.2.2.2, ck_anyF l G y.cls nL fr lo cm E.2.2.2.2.2.1 q)
    (hth : tb.2.2.2.2.2.2.2.2.2.1 = [])
    {a : List Value} {h : List am_C} {mc ms : Nat} {Post : am_O → List am_C → Prop} (hay : (am_lay a).length ≤ nL) (H : ∀ (S : ck_SS) (SX : Nat → ck_SX), ck_hs G S SX Post mc ms cm E → (∀ pc, ck_sR G S pc) → ck_hw S → zw_hh S SX pc0 nL hdl → S 0 (am_ent a nL) [] h 0 0) : am_M l G y (.codeWith y cc nL ret hh) fr lo mc ms a h Post := by
  refine am_M.ofH hl hy hay fun p e s m args below meth c X9 htab => ?_
  have hkon := X9.2.2.2.2.2.1
  refine H (am_S G p l e { frames := fr, cells := mc, slots := ms, locals := lo } s m args below meth c mc ms Post) (am_SX G p l e { frames := fr, cells := mc, slots := ms, locals := lo } s m args below meth c mc ms Post) (fun n x hx => ?_) (fun pc => am_s_retag) (fun pc L st h' k n k' n' hk hn' hh => am_R.widen hk hn' hh) (fun q hq L h' k n hl9 hk9 => am_RX.catchS X9 htab (hhd q hq) hl9 hk9)
  have hd := List.all_eq_true.mp hdec x (List.mem_of_getElem? hx)
  split at hd
  · next ins len hdc =>
    split at hd
    · next o ho =>
      exact ck_os_same hd (ck_tr_ok X9 h1 h2 (fun z => nomatch z) h3 (hpr s hkon (Or.inr trivial)) (hca s hkon) hnL hfr hlo hoi har rfl rfl
        (fun q hq pc d => by
          have := hv q hq
          unfold ck_anyL at this
          unfold ck_cq
          split
          · next hz => rw [hz] at this; rw [hnL]; exact this p e s m args below meth c mc ms _ cc ret pc X9 d
          · trivial)
        (fun q hq pc d => by
          have := hs q hq
          unfold ck_anyL at this
          unfold ck_cq
          split
          · next hz => rw [hz] at this; rw [hnL]; exact this p e s m args below meth c mc ms _ cc ret pc X9 d
          · trivial)
        (fun q hq pc d => by
          have := ht q hq
          unfold ck_anyL at this
          unfold ck_cq
          split
          · next hz => rw [hz] at this; rw [hnL]; exact this p e s m args below meth c mc ms _ cc ret pc X9 d
          · trivial)
        (fun q hq pc cn d => by
          have := hf q hq
          unfold ck_anyF at this
          unfold ck_cq
          split
          · next hz => rw [hz] at this; rw [hnL]; exact this cn p e s m args below meth c mc ms _ cc ret pc X9 d
          · trivial)
        (fun q hq Ex hE => by rw [hth] at hq; cases hq) hdc ho)
    · cases hd
  · cases hd
/-- outside a stretch nothing has changed -/
def zw_f (G : am_G) (h h' : List am_C) (lo n : Nat) : Prop := h'.length = h.length ∧ ∀ p, p < lo ∨ lo + n ≤ p → am_g G h' p = am_g G h p
theorem zw_f.rf {G : am_G} {h : List am_C} {lo n : Nat} : zw_f G h h lo n := ⟨rfl, fun _ _ => rfl⟩
theorem zw_f.tr {G : am_G} {h h' h2 : List am_C} {lo n : Nat} (a : zw_f G h h' lo n) (b : zw_f G h' h2 lo n) : zw_f G h h2 lo n := ⟨b.1.trans a.1, fun p hp => (b.2 p hp).trans (a.2 p hp)⟩
theorem zw_f.mono {G : am_G} {h h' : List am_C} {lo n lo2 n2 : Nat} (a : zw_f G h h' lo n) (h1 : lo2 ≤ lo) (h2 : lo + n ≤ lo2 + n2) : zw_f G h h' lo2 n2 := ⟨a.1, fun p hp => a.2 p (by omega)⟩
theorem zw_f.w {G : am_G} {h h' : List am_C} {q lo n : Nat} {c : am_C} (a : hd_w G h h' q c) (h1 : lo ≤ q) (h2 : q < lo + n) : zw_f G h h' lo n := ⟨a.1, fun p hp => a.ne (by omega)⟩
theorem zw_f.w2 {G : am_G} {h h' : List am_C} {q p lo n : Nat} {c d : am_C} (a : sb_w G h h' q c p d) (h1 : lo ≤ q) (h2 : q < lo + n) (h3 : lo ≤ p) (h4 : p < lo + n) : zw_f G h h' lo n := ⟨a.1, fun x hx => a.ne (by omega) (by omega)⟩
theorem zw_cpy {A B : List Int} {n : Nat} (hA : A.length = n) (hB : B.length = n) : am_cpy (hd_r A) (hd_r B) 0 0 n = hd_r A := by
  apply List.ext_getElem?
  intro j
  by_cases hj : j < n
  · obtain ⟨v_, hv_⟩ : ∃ v_, (am_cpy (hd_r A) (hd_r B) 0 0 n)[j]? = some v_ := ⟨_, List.getElem?_eq_getElem (by rw [am_cpy_len, hd_r_len]; omega)⟩
    rcases am_cpy_at hv_ (by rw [hd_r_len]; omega) with ⟨-, -, z_⟩ | ⟨z_, -⟩
    · rw [hv_, ← z_, Nat.zero_add, Nat.sub_zero]
    · exact absurd ⟨Nat.zero_le _, by omega⟩ z_
  · rw [List.getElem?_eq_none (by rw [am_cpy_len, hd_r_len]; omega), List.getElem?_eq_none (by rw [hd_r_len]; omega)]
/-- arraycopy of a whole row of numbers -/
theorem zw_acM {G : am_G} {src dst ts td n : Nat} {A B : List Int} {h : List am_C} (hd : 1000 ≤ dst) (h1 : am_g G h src = some (ts, hd_r A)) (h2 : am_g G h dst = some (td, hd_r B)) (t1 : ts % 100 = 50) (t2 : td % 100 = 50) (hA : A.length = n) (hB : B.length = n) (hn : n ≤ 1000) {mc ms : Nat} {P : am_O → List am_C → Prop} (hP : ∀ h', hd_w G h h' dst (td, hd_r A) → P (.inl none) h') : ck_acM G [.ref src, .int (Int32.ofInt 0), .ref dst, .int (Int32.ofInt 0), .int (Int32.ofInt (n : Int))] h mc ms P := by
  have e0_ : (Int32.ofInt (n : Int)).toInt = (n : Int) := hd_oi (by omega) (by omega)
  have e1_ : (Int32.ofInt 0).toInt = 0 := rfl
  refine ⟨src, dst, ts, td, _, _, _, _, _, rfl, hd, h1, h2, ⟨by rw [t1, t2], by omega, by omega⟩, ⟨by rw [e1_]; decide, by rw [e1_]; decide, by rw [e0_]; omega, by rw [e0_, e1_, hd_r_len]; omega, by rw [e0_, e1_, hd_r_len]; omega⟩, fun j v hv => ?_, ?_⟩
  · rw [t1]
    unfold hd_r at hv
    rw [List.getElem?_map] at hv
    cases hq_ : A[j]? with
    | none => rw [hq_] at hv; cases hv
    | some d_ => rw [hq_] at hv; cases hv; rfl
  · rw [e0_, e1_, show (0 : Int).toNat = 0 from rfl, Int.toNat_natCast, zw_cpy hA hB]
    exact hP _ (hd_w.s hd h2)
