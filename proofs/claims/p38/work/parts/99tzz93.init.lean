/-! THE THREE STARTS OF THE LAW, WITH WHAT THEY CARRY ON -/
theorem am_M.l {l : Launch} {G : am_G} {y : MethodName} {cw : Cond} {fr lo mc ms : Nat} {a : List Value} {h : List am_C} {P : am_O → List am_C → Prop} (k : zb_l G h → am_M l G y cw fr lo mc ms a h P) : am_M l G y cw fr lo mc ms a h P :=
  fun p en he hf hc s m args below hs ha hP hK => k ⟨s.heap, hP.2.1, hP.2.2.2.1⟩ p en he hf hc s m args below hs ha hP hK
def zi_T : sp_T := (sp_0, [], 0, 0, 0)
def zi_1 (G : am_G) (h : List am_C) (x : Nat) : Prop := x + 1 = 1000 + h.length ∧ 1000 ≤ x ∧ ∃ h2 : List am_C, zb_eq G h h2 ∧ am_g G h2 x = some (1015, [.null, .null, .int 0, .int 0, .int 0, .null, .null, .null, .null, .null, .null, .null, .null])
def zi_2 (G : am_G) (h : List am_C) (x : Nat) (r : Nat → Nat) : Prop := (∃ v, am_g G h x = some (1015, v)) ∧ ∃ h2 : List am_C, zb_eq G h h2 ∧ zc_Y G h2 x r zi_T
def zi_3 (G : am_G) (h : List am_C) (x m : Nat) (r : Nat → Nat) : Prop := 1000 ≤ m ∧ (∃ v, am_g G h x = some (1015, v)) ∧ ∃ h2 : List am_C, zb_eq G h h2 ∧ zc_Y G h2 x r zi_T ∧ am_g G h2 m = some (19, [.int 0, .null, .null, .int 0, .int 0, .int 0])
def zi_4 (G : am_G) (h : List am_C) (x m : Nat) (r : Nat → Nat) : Prop := ((∃ v, am_g G h x = some (1015, v)) ∧ ∃ v, am_g G h m = some (1019, v)) ∧ ∃ h2 : List am_C, zb_eq G h h2 ∧ zc_Y G h2 x r zi_T ∧ ∃ th : Int, zm_Y G h2 m th zi_T
def zi_5 (G : am_G) (h : List am_C) (x m out : Nat) (r : Nat → Nat) : Prop := 1000 ≤ out ∧ zi_4 G h x m r
theorem zb_eq.app {G : am_G} {h h2 : List am_C} {c d : am_C} (e : zb_eq G h h2) (hc : zb_c G c d) : zb_eq G (h ++ [c]) (h2 ++ [d]) := by
  refine ⟨by rw [List.length_append, List.length_append, e.1]; rfl, fun i a b h1 hd => ?_⟩
  by_cases c_ : i < h.length
  · rw [List.getElem?_append_left c_] at h1
    rw [List.getElem?_append_left (by rw [e.1]; exact c_)] at hd
    exact e.2 i a b h1 hd
  · rw [List.getElem?_append_right (by omega)] at h1
    rw [List.getElem?_append_right (by rw [e.1]; omega), e.1] at hd
    cases hi_ : i - h.length with
    | zero =>
      rw [hi_] at h1 hd
      have h1_ : some c = some a := h1
      have hd_ : some d = some b := hd
      cases h1_
      cases hd_
      exact hc
    | succ n_ =>
      rw [hi_] at h1
      simp at h1
section ZI1
variable {G : am_G} {h : List am_C} {x m out : Nat} {r : Nat → Nat} {q t t' : Nat} {vs : List Value}
theorem zi_1.new (ht : t % 100 = 15) : zi_1 G (h ++ [(t, [.null, .null, .int 0, .int 0, .int 0, .null, .null, .null, .null, .null, .null, .null, .null])]) (1000 + h.length) := by
  refine ⟨by rw [List.length_append, List.length_singleton]; omega, by omega, h ++ [(1015, [.null, .null, .int 0, .int 0, .int 0, .null, .null, .null, .null, .null, .null, .null, .null])], zb_eq.rf.app ⟨show 1015 % 100 = t % 100 by rw [ht], rfl, zb_c.rf.2.2⟩, ?_⟩
  rw [am_g_new, if_pos rfl]
theorem zi_2.new (I : zi_2 G h x r) (ht : t % 100 = 19) : zi_3 G (h ++ [(t, [.int 0, .null, .null, .int 0, .int 0, .int 0])]) x (1000 + h.length) r := by
  obtain ⟨⟨v_, k_⟩, h2_, e_, R_, old_, cnt_, xx_, xl_⟩ := I
  refine ⟨by omega, ⟨v_, hd_old k_⟩, h2_ ++ [(19, [.int 0, .null, .null, .int 0, .int 0, .int 0])], e_.app ⟨show 19 % 100 = t % 100 by rw [ht], rfl, zb_c.rf.2.2⟩, ⟨R_, old_, cnt_, xx_.app, xl_⟩, ?_⟩
  rw [am_g_new, if_pos (by rw [e_.1])]
theorem zi_4.new (I : zi_4 G h x m r) (ht : t % 100 = 16) : zi_5 G (h ++ [(t, [.long 0, .null])]) x m (1000 + h.length) r := by
  obtain ⟨⟨⟨v_, k_⟩, ⟨w_, z_⟩⟩, h2_, e_, ⟨R_, old_, cnt_, xx_, xl_⟩, th_, ow_, tx_, now_, qw_, mm_⟩ := I
  exact ⟨by omega, ⟨⟨v_, hd_old k_⟩, ⟨w_, hd_old z_⟩⟩, h2_ ++ [(t, [.long 0, .null])], e_.app zb_c.rf, ⟨R_, old_, cnt_, xx_.app, xl_⟩, th_, ow_, tx_, now_, qw_, mm_.g zg.app1 (fun _ _ => rfl)⟩
/-- kinds for raw cells -/
theorem zi_1.rt (I : zi_1 G h x) (hg : am_g G h q = some (t, vs)) (hq : 1000 ≤ q) (ht : t' % 100 = t % 100) : zi_1 G (am_s h q (t', vs)) x := by
  obtain ⟨l_, x_, h2_, e_, g_⟩ := I
  exact ⟨by rw [am_s_len]; exact l_, x_, h2_, (zb_eq.rt hg hq ht).2 _ e_, g_⟩
theorem zi_2.rt (I : zi_2 G h x r) (hg : am_g G h q = some (t, vs)) (hq : 1000 ≤ q) (h1 : t < 1000) (ht : t' % 100 = t % 100) : zi_2 G (am_s h q (t', vs)) x r := by
  obtain ⟨⟨v_, k_⟩, h2_, e_, g_⟩ := I
  exact ⟨⟨v_, zt_rt hg hq h1 k_ (by decide)⟩, h2_, (zb_eq.rt hg hq ht).2 _ e_, g_⟩
theorem zi_3.rt (I : zi_3 G h x m r) (hg : am_g G h q = some (t, vs)) (hq : 1000 ≤ q) (h1 : t < 1000) (ht : t' % 100 = t % 100) : zi_3 G (am_s h q (t', vs)) x m r := by
  obtain ⟨m_, ⟨v_, k_⟩, h2_, e_, g_⟩ := I
  exact ⟨m_, ⟨v_, zt_rt hg hq h1 k_ (by decide)⟩, h2_, (zb_eq.rt hg hq ht).2 _ e_, g_⟩
theorem zi_4.rt (I : zi_4 G h x m r) (hg : am_g G h q = some (t, vs)) (hq : 1000 ≤ q) (h1 : t < 1000) (ht : t' % 100 = t % 100) : zi_4 G (am_s h q (t', vs)) x m r := by
  obtain ⟨⟨⟨v_, k_⟩, ⟨w_, z_⟩⟩, h2_, e_, g_⟩ := I
  exact ⟨⟨⟨v_, zt_rt hg hq h1 k_ (by decide)⟩, ⟨w_, zt_rt hg hq h1 z_ (by decide)⟩⟩, h2_, (zb_eq.rt hg hq ht).2 _ e_, g_⟩
end ZI1
theorem zi_rq {t : Nat} {s : List Nat} {z : Nat × Nat} (hz : z ∈ ck_rq [t] s) : z.2 = t := by
  cases s with
  | nil => cases hz
  | cons q_ v_ =>
    have h_ : z ∈ (q_, t) :: ck_rq [] v_ := hz
    rw [cv_rq] at h_
    rw [List.mem_singleton.mp h_]
theorem zi_kp {M : List (Nat × Nat)} {k : Nat} {s : List Nat} {g g' : ck_g} (kp : ck_Kp M (ck_rq [k] s) g g') {p t : Nat} {vs : List Value} (ht : t ≠ k) (hc : g p = some (t, vs)) : ∃ vs' : List Value, g' p = some (t, vs') ∧ ∀ j : Nat, ck_inM M t j = false → vs'[j]? = vs[j]? := by
  rcases kp p t vs hc with ⟨a_, -⟩ | ⟨vs_, a1_, -, a3_⟩
  · exact absurd (zi_rq a_) ht
  · exact ⟨vs_, a1_, a3_⟩
theorem zi_f {g : ck_g} {z : Nat} {r : List Int} {s p : List Nat} {t : Nat} {v : ck_V} (hf : ck_fa g z r (s ++ p) (2, 0, 0, t, v)) {x : Nat} (h0 : s[0]? = some x) : ∃ vs : List Value, g x = some (t, vs) := by
  obtain ⟨q_, vs_, a1_, a2_, -⟩ := hf
  have b1_ : (s ++ p)[0]? = some q_ := a1_
  rw [ck_get_app h0] at b1_
  cases b1_
  exact ⟨vs_, a2_⟩
theorem zi_f0 {g : ck_g} {z : Nat} {r : List Int} {s : List Nat} {t : Nat} {v : ck_V} (hf : ck_fa g z r s (2, 0, 0, t, v)) {x : Nat} (h0 : s[0]? = some x) : ∃ vs : List Value, g x = some (t, vs) := by
  obtain ⟨q_, vs_, a1_, a2_, -⟩ := hf
  have b1_ : s[0]? = some q_ := a1_
  rw [h0] at b1_
  cases b1_
  exact ⟨vs_, a2_⟩
theorem zi_s0 {r : List Int} {s : List Nat} {x : Nat} (hS : ck_stk r s [(3, 0, (0, []))] [.ref x]) : s[0]? = some x := by
  obtain ⟨⟨q_, a1_, a2_⟩, -⟩ := hS
  cases a2_
  exact a1_
theorem zi_on {G : am_G} {o : am_O} (h : zb_o G o (.inl none)) : o = .inl none := by
  cases o with
  | inl v_ =>
    have h_ : v_.map (am_rv G) = none := h
    cases v_ with
    | none => rfl
    | some w_ => cases h_
  | inr z_ => exact h.elim
theorem zb_as.out {G : am_G} {h h2 k : List am_C} {p : Nat} {c c0 : am_C} (hp : 1000 ≤ p) (hk : am_g G k p = some c) (h0 : am_g G h p = some c0) (hn : c0 ≠ c) : am_g G (zb_as h h2 k) p = some c := by
  unfold am_g at hk h0 ⊢
  rw [if_neg (by omega)] at hk h0 ⊢
  unfold zb_as
  rw [List.getElem?_mapIdx, hk]
  show some (if h[p - 1000]? = some c then (h2[p - 1000]?).getD c else c) = some c
  rw [if_neg (fun y_ => hn (Option.some.inj (h0.symm.trans y_)))]
def cv_i0 (G : am_G) (CM : ck_CM) : ck_CM := fun a h mc ms P => ∀ x : Nat, zi_1 G h x → a = [.ref x] → CM a h mc ms (fun o h' => P o h' ∧ o = .inl none ∧ ∃ r : Nat → Nat, zi_2 G h' x r)
def cv_i1 (G : am_G) (CM : ck_CM) : ck_CM := fun a h mc ms P => ∀ (x m : Nat) (r : Nat → Nat), zi_3 G h x m r → a = [.ref m] → CM a h mc ms (fun o h' => P o h' ∧ o = .inl none ∧ zi_4 G h' x m r)
def cv_i2 (G : am_G) (CM : ck_CM) : ck_CM := fun a h mc ms P => ∀ (x m out : Nat) (r : Nat → Nat), zi_5 G h x m out r → a = [.ref out] → CM a h mc ms (fun o h' => P o h' ∧ o = .inl none ∧ zv_k G h' x m out r zi_T zi_T)
section ZI2
variable {l : Launch} {G : am_G}
theorem cv_i0_m (g : gM l G li_X) : ck_Con (cv_i0 G (am_cm l G yX10_init (.code yX10_init prog_1_method_1_code 1 none) 4 82)) G li_X gT gc_yX10_init_k := by
  intro K r s a h hH hV hC hF hn hS mc ms hmc hms x I ha
  have t1_ := gm_yX10_init_k g K r s a h hH hV hC hF hn hS mc ms hmc hms
  have f1_ := ck_Lv.fn (show ck_Lv r (ck_k 257) (mc : Int) from hmc) (ck_Lv.k r _)
  have f2_ := ck_Lv.fn (show ck_Lv r (ck_k 2420) (ms : Int) from hms) (ck_Lv.k r _)
  subst ha
  obtain ⟨l_, x0_, h2_, e_, g2_⟩ := I
  have t2_ := zi_class_M g g2_ x0_ (by rw [e_.1]; exact l_) (mc := mc) (ms := ms) (by omega) (by omega) (Post := fun o k2 => o = .inl none ∧ ∃ r : Nat → Nat, zc_X G k2 x r 0 0 0 sp_0 []) (fun h' r z_ c_ => ⟨rfl, r, c_⟩)
  refine am_M.mono (zb_join e_ t1_ t2_) fun o k hq => ?_
  obtain ⟨p_, o2_, k2_, ⟨eo_, r_, R_, old_, cnt_, xx_, xl_⟩, zo_, er_⟩ := hq
  rw [eo_] at zo_
  have o1_ := zi_on zo_
  subst o1_
  have hTk_ := p_.1
  obtain ⟨q_, p2_, -, -, fa_, -⟩ := p_.2.2.2
  obtain ⟨vs_, kx_⟩ := zi_f (fa_ _ List.mem_cons_self) (zi_s0 hS)
  have sh_ : zb_sh G zt_A k k2_ (zb_mg zt_A k k2_) := zb_mg.sh
  exact ⟨p_, rfl, r_, ⟨vs_, kx_⟩, zb_mg zt_A k k2_, zb_mg.eq er_ zt_A62, R_, old_, cnt_, xx_.mg er_.ti hTk_ (sh_.le zt_BA) kx_, xl_⟩
theorem cv_i1_m (g : gM l G li_X) : ck_Con (cv_i1 G (am_cm l G yX14_init (.code yX14_init prog_14_method_1_code 1 none) 5 101)) G li_X gT gc_yX14_init_k := by
  intro K r s a h hH hV hC hF hn hS mc ms hmc hms x m r2 I ha
  have t1_ := gm_yX14_init_k g K r s a h hH hV hC hF hn hS mc ms hmc hms
  have f1_ := ck_Lv.fn (show ck_Lv r (ck_k 23) (mc : Int) from hmc) (ck_Lv.k r _)
  have f2_ := ck_Lv.fn (show ck_Lv r (ck_k 271) (ms : Int) from hms) (ck_Lv.k r _)
  subst ha
  obtain ⟨m0_, ⟨vx_, kx_⟩, h2_, e_, ⟨R_, old_, cnt_, xx_, xl_⟩, g2_⟩ := I
  have t2_ := zm_init_M g g2_ rfl m0_ (mc := mc) (ms := ms) (by omega) (by omega) (Post := fun o k2 => o = .inl none ∧ zm_fr G h2_ k2 ∧ zm_X G k2 m 0 0 0 0 sp_0 []) (fun h' f_ c_ => ⟨rfl, f_, c_⟩)
  refine am_M.mono (zb_join e_ t1_ t2_) fun o k hq => ?_
  obtain ⟨p_, o2_, k2_, ⟨eo_, fr_, ow_, tx_, now_, qw_, mm_⟩, zo_, er_⟩ := hq
  rw [eo_] at zo_
  have o1_ := zi_on zo_
  subst o1_
  have hTk_ := p_.1
  obtain ⟨vx2_, kx2_, -⟩ := zi_kp p_.2.1 (by decide) kx_
  obtain ⟨q_, p2_, -, -, fa_, -⟩ := p_.2.2.2
  obtain ⟨vs_, km_⟩ := zi_f (fa_ _ List.mem_cons_self) (zi_s0 hS)
  have xk2_ := xx_.rf e_.ti hH kx_ fr_
  have sh_ : zb_sh G zt_A k k2_ (zb_mg zt_A k k2_) := zb_mg.sh
  exact ⟨p_, rfl, ⟨⟨_, kx2_⟩, ⟨_, km_⟩⟩, zb_mg zt_A k k2_, zb_mg.eq er_ zt_A62, ⟨R_, old_, cnt_, xk2_.mg er_.ti hTk_ (sh_.le zt_BA) kx2_, xl_⟩, 0, ow_, tx_, now_, qw_, mm_.mg er_.ti er_.l hTk_ (sh_.le zt_NA) km_⟩
theorem cv_i2_m (g : gM l G li_X) : ck_Con (cv_i2 G (am_cm l G yX11_init (.code yX11_init prog_13_method_1_code 1 none) 1 20)) G li_X gT gc_yX11_init_a := by
  intro K r s a h hH hV hC hF hn hS mc ms hmc hms x m out r2 I ha
  have t1_ := gm_yX11_init_a g.1 K r s a h hH hV hC hF hn hS mc ms hmc hms
  subst ha
  obtain ⟨o0_, ⟨⟨vx_, kx_⟩, ⟨vm_, km_⟩⟩, h2_, e_, ⟨R_, old_, cnt_, xx_, xl_⟩, th_, ow_, tx_, now_, qw_, mm_⟩ := I
  refine am_M.l fun L_ => am_M.mono (zb_and t1_ t1_) fun o k hq => ?_
  obtain ⟨p_, o2_, k2_, -, -, er_⟩ := hq
  have hTk_ := p_.1
  have kp_ := p_.2.1
  have s0_ := zi_s0 hS
  obtain ⟨w0_, k0_⟩ := zi_f0 (hF _ List.mem_cons_self) s0_
  have same_ : ∀ (p : Nat) (c : am_C), am_g G h p = some c → c.1 ≠ 16 → am_g G k p = some c := fun p c h1 hn => by
    obtain ⟨t_, v_⟩ := c
    obtain ⟨v2_, b1_, b3_⟩ := zi_kp (t := t_) kp_ hn h1
    have v3_ : v2_ = v_ := List.ext_getElem? fun j => b3_ j rfl
    rw [b1_, v3_]
  have sh_ : ∀ S : Nat → Bool, S 16 = false → zb_sh G S h h2_ (zb_as h h2_ k) := fun S hS6 p c d h1 hd ht hSc => zb_as.in hd h1 (same_ p c h1 fun y_ => by rw [y_, hS6] at hSc; cases hSc)
  cases o with
  | inr E_ =>
    have z_ : E_ ∈ ([] : List String) := p_.2.2.2
    cases z_
  | inl v_ =>
    cases v_ with
    | some w_ =>
      obtain ⟨q_, p2_, -, -, -, -, z_⟩ := p_.2.2.2
      exact z_.elim
    | none =>
      obtain ⟨q_, p2_, -, -, fa_, -⟩ := p_.2.2.2
      obtain ⟨vs_, ko_⟩ := zi_f (fa_ _ List.mem_cons_self) s0_
      obtain ⟨n2_, s2_, e2_⟩ := zv_out hTk_ ko_
      rw [e2_] at ko_
      exact ⟨p_, rfl, er_.l, ⟨⟨_, same_ _ _ kx_ (show ¬ (1015 = 16) by decide)⟩, ⟨_, same_ _ _ km_ (show ¬ (1019 = 16) by decide)⟩, ⟨_, ko_⟩⟩, ⟨o0_, xx_.2.2.1, by decide⟩, zb_as h h2_ k, zb_as.eq e_, ⟨R_, old_, cnt_, xx_.mg e_.ti hH (sh_ zt_B rfl) kx_, xl_⟩, ⟨th_, ow_, tx_, now_, qw_, mm_.mg e_.ti L_ hH (sh_ zt_N rfl) km_⟩, n2_, s2_, zb_as.out o0_ ko_ k0_ fun y_ => absurd (show (16 : Nat) = 1016 from congrArg Prod.fst y_) (by decide)⟩
theorem cv_i0_ok (g : gM l G li_X) : ck_Con (cv_i0 G (am_cn l G yX10_init (.code yX10_init prog_1_method_1_code 1 none) 4 82)) G li_X gT gc_yX10_init_k := by
  intro K r s a h h1 h2 h3 h4 h5 h6 mc ms h7 h8 x I ha
  exact ⟨cv_i0_m g K r s a h h1 h2 h3 h4 h5 h6 mc ms h7 h8 x I ha, fun E h' hp => nomatch hp.2.1⟩
theorem cv_i1_ok (g : gM l G li_X) : ck_Con (cv_i1 G (am_cn l G yX14_init (.code yX14_init prog_14_method_1_code 1 none) 5 101)) G li_X gT gc_yX14_init_k := by
  intro K r s a h h1 h2 h3 h4 h5 h6 mc ms h7 h8 x m r2 I ha
  exact ⟨cv_i1_m g K r s a h h1 h2 h3 h4 h5 h6 mc ms h7 h8 x m r2 I ha, fun E h' hp => nomatch hp.2.1⟩
theorem cv_i2_ok (g : gM l G li_X) : ck_Con (cv_i2 G (am_cn l G yX11_init (.code yX11_init prog_13_method_1_code 1 none) 1 20)) G li_X gT gc_yX11_init_a := by
  intro K r s a h h1 h2 h3 h4 h5 h6 mc ms h7 h8 x m out r2 I ha
  exact ⟨cv_i2_m g K r s a h h1 h2 h3 h4 h5 h6 mc ms h7 h8 x m out r2 I ha, fun E h' hp => nomatch hp.2.1⟩
end ZI2
