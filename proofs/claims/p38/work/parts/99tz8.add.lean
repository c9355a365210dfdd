/-! LISTS, EXACTLY: what writes them -/
theorem zw_Mq {S : ck_SS} {pc nx tg q k n : Nat} {eq : Bool} {h : List am_C} {L : List (Option Value)} {st : List Value} (H : ck_sM S pc nx tg eq) (kk : S (bif eq then tg else nx) L st h k n) : S pc L (.ref q :: .ref q :: st) h k n := H.2 L q st h k n kk
theorem zw_E2 {S : ck_SS} {G : am_G} {Rc Rs pc nx ci t N k n : Nat} {e : Int} {h : List am_C} {L : List (Option Value)} {st : List Value} (H : ck_sE S Rc Rs pc nx ci 2) (ht : t % 100 = ci) (he : e = (N : Int)) (hN : N ≤ 1000000) (hk : k + 1 ≤ Rc) (hn : n + N ≤ Rs) (kk : ∀ (h' : List am_C) (a : Nat), a = 1000 + h.length → h'.length = h.length + 1 → zg G h h' → am_g G h' a = some (t, List.replicate N Value.null) → S nx L (.ref a :: st) h' (k + 1) (n + N)) : S pc L (.int (Int32.ofInt e) :: st) h k n := by
  have hx_ : (Int32.ofInt e).toInt = (N : Int) := by
    rw [hd_oi (by omega) (by omega)]
    exact he
  refine H t L st h _ N k n ht hx_ hN hk hn ?_
  exact kk _ _ rfl (by rw [List.length_append]; rfl) ⟨by rw [List.length_append]; omega, fun p c hg => hd_old hg⟩ hd_new
/-- what is known stays, but where D holds -/
def zk (G : am_G) (h h' : List am_C) (D : Nat → Prop) : Prop := h.length ≤ h'.length ∧ ∀ (p : Nat) (c : am_C), am_g G h p = some c → ¬ D p → am_g G h' p = some c
theorem zk.g {G : am_G} {h h' : List am_C} {D : Nat → Prop} (a : zg G h h') : zk G h h' D := ⟨a.1, fun p c e _ => a.2 p c e⟩
theorem zk.w {G : am_G} {h h' : List am_C} {q : Nat} {c : am_C} {D : Nat → Prop} (w : hd_w G h h' q c) (hq : D q ∨ 1000 + h.length ≤ q) : zk G h h' D := ⟨Nat.le_of_eq w.1.symm, fun p d e hn => (w.ne (fun e_ => hq.elim (fun y_ => hn (by rw [e_]; exact y_)) fun y_ => by have := zg_lt e; omega)).trans e⟩
theorem zk.tr {G : am_G} {h h' h2 : List am_C} {D : Nat → Prop} (a : zk G h h' D) (b : zk G h' h2 D) : zk G h h2 D := ⟨Nat.le_trans a.1 b.1, fun p c e hn => b.2 p c (a.2 p c e hn) hn⟩
/-- the second one writes what is new to the first one too -/
theorem zk.tr2 {G : am_G} {h h' h2 : List am_C} {D D2 : Nat → Prop} (a : zk G h h' D) (b : zk G h' h2 D2) (hD : ∀ p, p < 1000 + h.length → D2 p → D p) : zk G h h2 D := ⟨Nat.le_trans a.1 b.1, fun p c e hn => b.2 p c (a.2 p c e hn) fun y_ => hn (hD p (zg_lt e) y_)⟩
theorem zk.mono {G : am_G} {h h' : List am_C} {D D2 : Nat → Prop} (a : zk G h h' D) (hD : ∀ p, D p → D2 p) : zk G h h' D2 := ⟨a.1, fun p c e hn => a.2 p c e fun y_ => hn (hD p y_)⟩
/-- the row behind a list -/
def zl_at (vs : List Nat) (i : Nat) : Value := match vs[i]? with
  | some v => .ref v
  | none => .null
def zl_ws (N : Nat) (vs : List Nat) : List Value := (List.range N).map fun i => zl_at vs i
theorem zl_ws_len {N : Nat} {vs : List Nat} : (zl_ws N vs).length = N := by unfold zl_ws; simp
theorem zl_ws_at {N i : Nat} {vs : List Nat} : (zl_ws N vs)[i]? = if i < N then some (zl_at vs i) else none := by
  unfold zl_ws
  by_cases c_ : i < N
  · rw [List.getElem?_map, List.getElem?_range c_, if_pos c_]
    rfl
  · rw [List.getElem?_eq_none (by rw [List.length_map, List.length_range]; omega), if_neg c_]
theorem zl_at_some {i v : Nat} {vs : List Nat} (h : vs[i]? = some v) : zl_at vs i = .ref v := by unfold zl_at; rw [h]
theorem zl_at_none {i : Nat} {vs : List Nat} (h : vs.length ≤ i) : zl_at vs i = .null := by unfold zl_at; rw [List.getElem?_eq_none h]
theorem zl_ws_get {N i v : Nat} {vs : List Nat} (h : vs[i]? = some v) (hN : vs.length ≤ N) : (zl_ws N vs)[i]? = some (.ref v) := by
  have := (List.getElem?_eq_some_iff.mp h).1
  rw [zl_ws_at, if_pos (by omega), zl_at_some h]
theorem zl_ws_nil {N : Nat} : zl_ws N [] = List.replicate N Value.null := by
  apply List.ext_getElem?
  intro i
  rw [zl_ws_at, List.getElem?_replicate]
  rfl
theorem zl_ws_add {N v : Nat} {vs : List Nat} (h : vs.length < N) : (zl_ws N vs).set vs.length (.ref v) = zl_ws N (vs ++ [v]) := by
  apply List.ext_getElem?
  intro i
  by_cases e_ : i = vs.length
  · rw [e_, List.getElem?_set_self (by rw [zl_ws_len]; exact h), zl_ws_at, if_pos h, zl_at_some (v := v) (by rw [List.getElem?_append_right (Nat.le_refl _), Nat.sub_self]; rfl)]
  · rw [List.getElem?_set_ne (fun y_ => e_ y_.symm), zl_ws_at, zl_ws_at]
    congr 2
    unfold zl_at
    by_cases c_ : i < vs.length
    · rw [List.getElem?_append_left c_]
    · rw [List.getElem?_eq_none (by omega), List.getElem?_eq_none (by rw [List.length_append, List.length_singleton]; omega)]
theorem zl_ws_gd {N i : Nat} {vs : List Nat} (h : vs.length ≤ N) : (zl_ws N vs).getD i .null = zl_at vs i := by
  rw [List.getD_eq_getElem?_getD, zl_ws_at]
  by_cases c_ : i < N
  · rw [if_pos c_, Option.getD_some]
  · rw [if_neg c_, Option.getD_none, zl_at_none (by omega)]
theorem zl_cpy_at {A B : List Value} {sp dp n j : Nat} : (am_cpy A B sp dp n)[j]? = if j < B.length then some (if dp ≤ j ∧ j < dp + n then A.getD (sp + (j - dp)) .null else B.getD j .null) else none := by
  unfold am_cpy
  by_cases c_ : j < B.length
  · rw [List.getElem?_map, List.getElem?_range c_, if_pos c_]
    rfl
  · rw [List.getElem?_eq_none (by rw [List.length_map, List.length_range]; omega), if_neg c_]
theorem zl_ws_cpy {N N2 : Nat} {vs : List Nat} (h : vs.length ≤ N) (h2 : N ≤ N2) : am_cpy (zl_ws N vs) (List.replicate N2 Value.null) 0 0 N = zl_ws N2 vs := by
  apply List.ext_getElem?
  intro i
  rw [zl_cpy_at, zl_ws_at, List.length_replicate]
  by_cases c_ : i < N2
  · rw [if_pos c_, if_pos c_]
    by_cases d_ : i < N
    · rw [if_pos ⟨Nat.zero_le _, by omega⟩, zl_ws_gd h, show 0 + (i - 0) = i by omega]
    · rw [if_neg (by omega), List.getD_eq_getElem?_getD, List.getElem?_replicate, if_pos c_, Option.getD_some, zl_at_none (by omega)]
  · rw [if_neg c_, if_neg c_]
theorem zl_at_er {j i : Nat} {vs : List Nat} : zl_at (vs.eraseIdx j) i = if i < j then zl_at vs i else zl_at vs (i + 1) := by
  unfold zl_at
  rw [List.getElem?_eraseIdx]
  by_cases c_ : i < j
  · rw [if_pos c_, if_pos c_]
  · rw [if_neg c_, if_neg c_]
theorem zl_ws_rem {N j m : Nat} {vs : List Nat} (hm : vs.length = m + 1) (hj : j < m) (h : m + 1 ≤ N) : (am_cpy (zl_ws N vs) (zl_ws N vs) (j + 1) j (m - j)).set m .null = zl_ws N (vs.eraseIdx j) := by
  apply List.ext_getElem?
  intro i
  rw [zl_ws_at, zl_at_er]
  by_cases e_ : i = m
  · rw [e_, List.getElem?_set_self (by rw [am_cpy_len, zl_ws_len]; omega), if_pos (by omega), if_neg (by omega), zl_at_none (by omega)]
  · rw [List.getElem?_set_ne (fun y_ => e_ y_.symm), zl_cpy_at, zl_ws_len]
    by_cases c_ : i < N
    · rw [if_pos c_, if_pos c_]
      by_cases d_ : i < j
      · rw [if_neg (by omega), if_pos d_, zl_ws_gd (by omega)]
      · rw [if_neg d_]
        by_cases f_ : i < m
        · rw [if_pos (by omega), zl_ws_gd (by omega), show j + 1 + (i - j) = i + 1 by omega]
        · rw [if_neg (by omega), zl_ws_gd (by omega), zl_at_none (by omega), zl_at_none (by omega)]
    · rw [if_neg c_, if_neg c_]
theorem zl_ws_last {N m : Nat} {vs : List Nat} (hm : vs.length = m + 1) (h : m + 1 ≤ N) : (zl_ws N vs).set m .null = zl_ws N (vs.eraseIdx m) := by
  apply List.ext_getElem?
  intro i
  rw [zl_ws_at, zl_at_er]
  by_cases e_ : i = m
  · rw [e_, List.getElem?_set_self (by rw [zl_ws_len]; omega), if_pos (by omega), if_neg (by omega), zl_at_none (by omega)]
  · rw [List.getElem?_set_ne (fun y_ => e_ y_.symm), zl_ws_at]
    by_cases c_ : i < N
    · rw [if_pos c_, if_pos c_]
      by_cases d_ : i < m
      · rw [if_pos d_]
      · rw [if_neg d_, zl_at_none (by omega), zl_at_none (by omega)]
    · rw [if_neg c_, if_neg c_]
/-- what lies in a list: int rows, boxes, states -/
def zl_ob (G : am_G) (h : List am_C) (vs : List Nat) : Prop := ∀ (i v : Nat), vs[i]? = some v → ∃ (t : Nat) (ws : List Value), am_g G h v = some (t, ws) ∧ am_ob (t % 100) = true
theorem zl_ob.ws {G : am_G} {h : List am_C} {vs : List Nat} (a : zl_ob G h vs) {N j : Nat} {v : Value} (hv : (zl_ws N vs)[j]? = some v) : v = .null ∨ ∃ (q tq : Nat) (vq : List Value), v = .ref q ∧ am_g G h q = some (tq, vq) ∧ am_ob (tq % 100) = true := by
  rw [zl_ws_at] at hv
  by_cases c_ : j < N
  · rw [if_pos c_] at hv
    cases e_ : vs[j]? with
    | none =>
      left
      unfold zl_at at hv
      rw [e_] at hv
      exact (Option.some.inj hv).symm
    | some w_ =>
      right
      rw [zl_at_some e_] at hv
      obtain ⟨t_, ws_, b1_, b2_⟩ := a j w_ e_
      exact ⟨w_, t_, ws_, (Option.some.inj hv).symm, b1_, b2_⟩
  · rw [if_neg c_] at hv
    cases hv
theorem zl_ob.g {G : am_G} {h h' : List am_C} {vs : List Nat} (a : zl_ob G h vs) (f : zg G h h') : zl_ob G h' vs := fun i v hv => by
  obtain ⟨t_, ws_, b1_, b2_⟩ := a i v hv
  exact ⟨t_, ws_, f.2 _ _ b1_, b2_⟩
/-- arraycopy of references -/
theorem zw_arM {G : am_G} {src dst ts td sp dp n : Nat} {A B : List Value} {e1 e2 e3 : Int} {h : List am_C} (hd : 1000 ≤ dst) (h1 : am_g G h src = some (ts, A)) (h2 : am_g G h dst = some (td, B)) (t1 : ts % 100 = 56) (t2 : td % 100 = 56) (f1 : e1 = (sp : Int)) (f2 : e2 = (dp : Int)) (f3 : e3 = (n : Int)) (b1 : sp + n ≤ A.length) (b2 : dp + n ≤ B.length) (b3 : A.length ≤ 1000) (b4 : B.length ≤ 1000)
    (ho : ∀ (j : Nat) (v : Value), A[j]? = some v → v = .null ∨ ∃ (q tq : Nat) (vq : List Value), v = .ref q ∧ am_g G h q = some (tq, vq) ∧ am_ob (tq % 100) = true) {mc ms : Nat} {P : am_O → List am_C → Prop} (hP : ∀ h', hd_w G h h' dst (td, am_cpy A B sp dp n) → P (.inl none) h') : ck_arM G [.ref src, .int (Int32.ofInt e1), .ref dst, .int (Int32.ofInt e2), .int (Int32.ofInt e3)] h mc ms P := by
  have x1_ : (Int32.ofInt e1).toInt = (sp : Int) := by rw [hd_oi (by omega) (by omega)]; exact f1
  have x2_ : (Int32.ofInt e2).toInt = (dp : Int) := by rw [hd_oi (by omega) (by omega)]; exact f2
  have x3_ : (Int32.ofInt e3).toInt = (n : Int) := by rw [hd_oi (by omega) (by omega)]; exact f3
  refine ⟨src, dst, ts, td, _, _, _, _, _, rfl, hd, h1, h2, ⟨t1, t2⟩, ⟨by omega, by omega, by omega, by omega, by omega⟩, ho, ?_⟩
  rw [x1_, x2_, x3_, Int.toNat_natCast, Int.toNat_natCast, Int.toNat_natCast]
  exact hP _ (hd_w.s hd h2)
theorem zl_shr {L : List (Option Value)} {st : List Value} {v : Int} : ck_cf 15 9 v L (.int (Int32.ofInt 1) :: .int (Int32.ofInt ((10 : Nat) : Int)) :: st) = some (L, .int (Int32.ofInt 5) :: st) := rfl
set_option maxHeartbeats 4000000 in
theorem zl_min_M {l : Launch} {G : am_G} {X : ck_XT} (g : gM l G X) {a_ b_ M : Nat} {h : List am_C} (h1 : M ≤ a_) (h2 : M ≤ b_) (h3 : M = a_ ∨ M = b_) (h4 : a_ ≤ 1000) (h5 : b_ ≤ 1000) {mc ms : Nat} {Post : am_O → List am_C → Prop} (hP : Post (.inl (some (.int (Int32.ofInt (M : Int))))) h) :
    am_M l G yJ9_min_7cf53 (.code yJ9_min_7cf53 prog_32_method_69_code 2 (some .int)) 1 20 mc ms [.int (Int32.ofInt (a_ : Int)), .int (Int32.ofInt (b_ : Int))] h Post := by
  refine gh_yJ9_min_7cf53_X g (Nat.le_of_ble_eq_true rfl) fun S SX hs hr hw hx => ?_
  have rv : ∀ x : Int32, ck_fv 0 (.int x) := fun x => ⟨_, rfl⟩
  by_cases c_ : a_ ≤ b_
  · have e_ : M = a_ := by omega
    rw [e_] at hP
    refine hs 0 _ rfl _ _ _ _ _ _ _ rfl ?_
    refine hs 1 _ rfl _ _ _ _ _ _ _ rfl ?_
    refine hs 2 _ rfl _ _ _ _ _ _ _ (fun zq => absurd (hd_c2z (c := 4) (by omega) (by omega) (by omega) (by omega) zq) (by omega : ¬ (0 < ((a_ : Int) - (b_ : Int))))) (fun _ => ?_)
    refine hs 3 _ rfl _ _ _ _ _ _ _ rfl ?_
    refine hs 4 _ rfl _ _ _ _ _ ?_
    exact hs 6 _ rfl _ _ _ _ _ (rv _) (Nat.zero_le _) (Nat.zero_le _) hP
  · have e_ : M = b_ := by omega
    rw [e_] at hP
    refine hs 0 _ rfl _ _ _ _ _ _ _ rfl ?_
    refine hs 1 _ rfl _ _ _ _ _ _ _ rfl ?_
    refine hs 2 _ rfl _ _ _ _ _ _ _ (fun _ => ?_) (fun zq => absurd (hd_c2t (c := 4) (by omega) (by omega) (by omega) (by omega) (by omega : 0 < ((a_ : Int) - (b_ : Int)))) zq)
    refine hs 5 _ rfl _ _ _ _ _ _ _ rfl ?_
    exact hs 6 _ rfl _ _ _ _ _ (rv _) (Nat.zero_le _) (Nat.zero_le _) hP
set_option maxHeartbeats 4000000 in
theorem zl_newLen_M {l : Launch} {G : am_G} {X : ck_XT} (g : gM l G X) {h : List am_C} {mc ms : Nat} {Post : am_O → List am_C → Prop} (hP : Post (.inl (some (.int (Int32.ofInt (15 : Int))))) h) :
    am_M l G yJ8_newLength_cabcc (.code yJ8_newLength_cabcc prog_55_method_27_code 4 (some .int)) 2 41 mc ms [.int (Int32.ofInt ((10 : Nat) : Int)), .int (Int32.ofInt ((1 : Nat) : Int)), .int (Int32.ofInt ((5 : Nat) : Int))] h Post := by
  refine gh_yJ8_newLength_cabcc_X g (Nat.le_of_ble_eq_true rfl) fun S SX hs hr hw hx => ?_
  have rv : ∀ x : Int32, ck_fv 0 (.int x) := fun x => ⟨_, rfl⟩
  refine hs 0 _ rfl _ _ _ _ _ _ _ rfl ?_
  refine hs 1 _ rfl _ _ _ _ _ _ _ rfl ?_
  refine hs 2 _ rfl _ _ _ _ _ _ _ rfl ?_
  refine zw_c (hs 3 _ rfl) (a := [.int (Int32.ofInt ((1 : Nat) : Int)), .int (Int32.ofInt ((5 : Nat) : Int))]) (st := [.int (Int32.ofInt ((10 : Nat) : Int))]) rfl rfl (Nat.le_of_ble_eq_true rfl) trivial (by omega) (by omega) (zn_max_M g (a_ := 1) (b_ := 5) (M := 5) (by omega) (by omega) (by omega) (by omega) ?_)
  show S 6 [some (.int (Int32.ofInt ((10 : Nat) : Int))), some (.int (Int32.ofInt ((1 : Nat) : Int))), some (.int (Int32.ofInt ((5 : Nat) : Int))), none] [.int (Int32.ofInt ((5 : Nat) : Int)), .int (Int32.ofInt ((10 : Nat) : Int))] _ _ _
  refine hs 4 _ rfl _ _ _ _ _ _ _ hd_add ?_
  refine hs 5 _ rfl _ _ _ _ _ _ _ rfl ?_
  refine hs 6 _ rfl _ _ _ _ _ _ _ rfl ?_
  refine hs 7 _ rfl _ _ _ _ _ _ _ rfl ?_
  refine hs 8 _ rfl _ _ _ _ _ _ _ (fun zq => absurd (hd_c2z (c := 3) (by omega) (by omega) (by omega) (by omega) zq) (by omega : ¬ (0 ≤ ((0 : Int) - (((10 : Nat) : Int) + ((5 : Nat) : Int)))))) (fun _ => ?_)
  refine hs 9 _ rfl _ _ _ _ _ _ _ rfl ?_
  refine hs 10 _ rfl _ _ _ _ _ _ _ rfl ?_
  refine hs 11 _ rfl _ _ _ _ _ _ _ (fun zq => absurd (hd_c2z (c := 4) (by omega) (by omega) (by omega) (by omega) zq) (by omega : ¬ (0 < ((((10 : Nat) : Int) + ((5 : Nat) : Int)) - (2147483639 : Int))))) (fun _ => ?_)
  refine hs 12 _ rfl _ _ _ _ _ _ _ rfl ?_
  exact hs 13 _ rfl _ _ _ _ _ (rv _) (Nat.zero_le _) (Nat.zero_le _) hP
set_option maxHeartbeats 4000000 in
theorem zl_cop3_M {l : Launch} {G : am_G} {X : ck_XT} (g : gM l G X) {p tr N N2 : Nat} {vs : List Nat} {h : List am_C} (a3_ : am_g G h p = some (tr, zl_ws N vs)) (a4_ : tr % 100 = 56) (hb_ : zl_ob G h vs) (h1_ : vs.length ≤ N) (h2_ : N ≤ N2) (h3_ : N2 ≤ 100) {mc ms : Nat} {Post : am_O → List am_C → Prop} (hmc : 1 ≤ mc) (hms : N2 ≤ ms)
    (hP : ∀ (h' : List am_C) (a : Nat), zg G h h' → 1000 + h.length ≤ a → am_g G h' a = some (56, zl_ws N2 vs) → Post (.inl (some (.ref a))) h') :
    am_M l G yJ7_copyOf_6403c (.code yJ7_copyOf_6403c prog_48_method_120_code 4 (some (.array (.object "java/lang/Object")))) 2 59 mc ms [.ref p, .int (Int32.ofInt (N2 : Int)), .ref 5] h Post := by
  refine gh_yJ7_copyOf_6403c_X g (Nat.le_of_ble_eq_true rfl) fun S SX hs hr hw hx => ?_
  have rv : ∀ x : Int32, ck_fv 0 (.int x) := fun x => ⟨_, rfl⟩
  refine hs 0 _ rfl _ _ _ _ _ _ _ rfl ?_
  refine hs 1 _ rfl _ _ _ _ _ _ _ rfl ?_
  refine zw_Mq (hs 2 _ rfl) ?_
  show S 6 [some (.ref p), some (.int (Int32.ofInt (N2 : Int))), some (.ref 5), none] [] _ _ _
  refine hs 3 _ rfl _ _ _ _ _ _ _ rfl ?_
  refine zw_E2 (G := G) (hs 4 _ rfl) (t := 56) (N := N2) rfl (by omega) (by omega) (by omega) (by omega) fun hz207 az208 ez209 lz210 gz211 cz212 => ?_
  refine hs 5 _ rfl _ _ _ _ _ ?_
  refine hs 7 _ rfl _ _ _ _ _ _ _ rfl ?_
  refine hs 8 _ rfl _ _ _ _ _ _ _ rfl ?_
  refine hs 9 _ rfl _ _ _ _ _ _ _ rfl ?_
  refine hs 10 _ rfl _ _ _ _ _ _ _ rfl ?_
  refine hs 11 _ rfl _ _ _ _ _ _ _ rfl ?_
  refine hs 12 _ rfl _ _ _ _ _ _ _ rfl ?_
  refine zw_Ln (hs 13 _ rfl) ((gz211.2 _ _ a3_)) a4_ zl_ws_len ?_
  refine hs 14 _ rfl _ _ _ _ _ _ _ rfl ?_
  refine zw_c (hs 15 _ rfl) (a := [.int (Int32.ofInt (N : Int)), .int (Int32.ofInt (N2 : Int))]) (st := [.int (Int32.ofInt (0 : Int)), .ref az208, .int (Int32.ofInt (0 : Int)), .ref p]) rfl rfl (Nat.le_of_ble_eq_true rfl) trivial (by omega) (by omega) (zl_min_M g (a_ := N) (b_ := N2) (M := N) (by omega) (by omega) (by omega) (by omega) (by omega) ?_)
  show S 35 [some (.ref p), some (.int (Int32.ofInt (N2 : Int))), some (.ref 5), some (.ref az208)] [.int (Int32.ofInt (N : Int)), .int (Int32.ofInt (0 : Int)), .ref az208, .int (Int32.ofInt (0 : Int)), .ref p] _ _ _
  refine zw_c (hs 16 _ rfl) (a := [.ref p, .int (Int32.ofInt (0 : Int)), .ref az208, .int (Int32.ofInt (0 : Int)), .int (Int32.ofInt (N : Int))]) (st := []) rfl rfl (Nat.le_of_ble_eq_true rfl) trivial (by omega) (by omega) (zw_arM (mc := 0) (ms := 0) (sp := 0) (dp := 0) (n := N) (by omega) ((gz211.2 _ _ a3_)) (cz212) a4_ rfl rfl rfl rfl (by rw [zl_ws_len]; omega) (by rw [List.length_replicate]; omega) (by rw [zl_ws_len]; omega) (by rw [List.length_replicate]; omega) (fun j_ v_ hv_ => (hb_.g gz211).ws hv_) fun hy_ wy_ => ?_)
  show S 38 [some (.ref p), some (.int (Int32.ofInt (N2 : Int))), some (.ref 5), some (.ref az208)] [] _ _ _
  refine hs 17 _ rfl _ _ _ _ _ _ _ rfl ?_
  exact hs 18 _ rfl _ _ _ _ _ (Or.inl ⟨_, rfl⟩) (by omega) (by omega) (hP _ _ (gz211.w wy_ (by omega)) (by omega) (by rw [wy_.at, zl_ws_cpy h1_ h2_]))
set_option maxHeartbeats 4000000 in
theorem zl_cop2_M {l : Launch} {G : am_G} {X : ck_XT} (g : gM l G X) {p tr N N2 : Nat} {vs : List Nat} {h : List am_C} (a3_ : am_g G h p = some (tr, zl_ws N vs)) (a4_ : tr % 100 = 56) (hb_ : zl_ob G h vs) (h1_ : vs.length ≤ N) (h2_ : N ≤ N2) (h3_ : N2 ≤ 100) {mc ms : Nat} {Post : am_O → List am_C → Prop} (hmc : 1 ≤ mc) (hms : N2 ≤ ms)
    (hP : ∀ (h' : List am_C) (a : Nat), zg G h h' → 1000 + h.length ≤ a → am_g G h' a = some (56, zl_ws N2 vs) → Post (.inl (some (.ref a))) h') :
    am_M l G yJ7_copyOf_1904c (.code yJ7_copyOf_1904c prog_48_method_119_code 2 (some (.array (.object "java/lang/Object")))) 3 82 mc ms [.ref p, .int (Int32.ofInt (N2 : Int))] h Post := by
  refine gh_yJ7_copyOf_1904c_X g (Nat.le_of_ble_eq_true rfl) fun S SX hs hr hw hx => ?_
  have rv : ∀ x : Int32, ck_fv 0 (.int x) := fun x => ⟨_, rfl⟩
  refine hs 0 _ rfl _ _ _ _ _ _ _ rfl ?_
  refine hs 1 _ rfl _ _ _ _ _ _ _ rfl ?_
  refine hs 2 _ rfl _ _ _ _ _ _ _ rfl ?_
  refine zw_c (hs 3 _ rfl) (a := [.ref p]) (st := [.int (Int32.ofInt (N2 : Int)), .ref p]) rfl rfl (Nat.le_of_ble_eq_true rfl) ⟨_, _, _, rfl, a3_, a4_⟩ (by omega) (by omega) (⟨p, tr, _, rfl, a3_, a4_, ?_⟩)
  show S 6 [some (.ref p), some (.int (Int32.ofInt (N2 : Int)))] [.ref 5, .int (Int32.ofInt (N2 : Int)), .ref p] _ _ _
  refine zw_cm (hs 4 _ rfl) (a := [.ref p, .int (Int32.ofInt (N2 : Int)), .ref 5]) (st := []) 1 N2 rfl rfl (Nat.le_of_ble_eq_true rfl) trivial (by omega) (by omega) (zl_cop3_M g a3_ a4_ hb_ h1_ h2_ h3_ (by omega) (by omega) fun hy_ ay_ gy_ ly_ cy_ => ?_)
  show S 9 [some (.ref p), some (.int (Int32.ofInt (N2 : Int)))] [.ref ay_] _ _ _
  exact hs 5 _ rfl _ _ _ _ _ (Or.inl ⟨_, rfl⟩) (by omega) (by omega) (hP _ _ gy_ ly_ cy_)
set_option maxHeartbeats 4000000 in
theorem zl_grow1_M {l : Launch} {G : am_G} {X : ck_XT} (g : gM l G X) {q t p tr N : Nat} {mo : Int} {vs : List Nat} {h : List am_C} (a1_ : am_g G h q = some (t, [.int (Int32.ofInt mo), .ref p, .int (Int32.ofInt (vs.length : Int))])) (a2_ : t % 100 = 6) (a3_ : am_g G h p = some (tr, zl_ws N vs)) (a4_ : tr % 100 = 56) (hb_ : zl_ob G h vs) (hq_ : 1000 ≤ q) (hn_ : vs.length = N) (hc_ : (N = 0 ∧ p = 4) ∨ N = 10) {mc ms : Nat} {Post : am_O → List am_C → Prop} (hmc : 1 ≤ mc) (hms : N + 10 ≤ ms)
    (hP : ∀ (h' : List am_C) (a N2 : Nat), zk G h h' (fun x => x = q) → 1000 + h.length ≤ a → N2 = 10 ∨ N2 = 15 → N < N2 → am_g G h' q = some (t, [.int (Int32.ofInt mo), .ref a, .int (Int32.ofInt (vs.length : Int))]) → am_g G h' a = some (56, zl_ws N2 vs) → Post (.inl (some (.ref a))) h') :
    am_M l G yJx4a65c_grow_92f84 (.code yJx4a65c_grow_92f84 prog_46_method_6_code 4 (some (.array (.object "java/lang/Object")))) 5 140 mc ms [.ref q, .int (Int32.ofInt ((vs.length : Int) + 1))] h Post := by
  refine gh_yJx4a65c_grow_92f84_X g (Nat.le_of_ble_eq_true rfl) fun S SX hs hr hw hx => ?_
  have rv : ∀ x : Int32, ck_fv 0 (.int x) := fun x => ⟨_, rfl⟩
  have lq_ := zg_lt a1_
  by_cases c_ : N = 0
  · obtain ⟨-, rfl⟩ : N = 0 ∧ p = 4 := by omega
    subst c_
    have e_ : (vs.length : Int) + 1 = (1 : Int) := by omega
    rw [e_]
    have hvs_ : vs = [] := List.eq_nil_of_length_eq_zero hn_
    show S 0 [some (.ref q), some (.int (Int32.ofInt (1 : Int))), none, none] [] _ _ _
    refine hs 0 _ rfl _ _ _ _ _ _ _ rfl ?_
    refine hs 1 _ rfl _ _ _ _ _ _ _ _ _ (a1_) a2_ rfl ?_
    refine zw_Ln (hs 2 _ rfl) (a3_) a4_ zl_ws_len ?_
    refine hs 3 _ rfl _ _ _ _ _ _ _ rfl ?_
    refine hs 4 _ rfl _ _ _ _ _ _ _ rfl ?_
    refine hs 5 _ rfl _ _ _ _ _ _ (fun zq => absurd (hd_c1z (c := 4) (by omega) (by omega) zq) (by omega : ¬ (0 < (0 : Int)))) (fun _ => ?_)
    refine hs 6 _ rfl _ _ _ _ _ _ _ rfl ?_
    refine hs 7 _ rfl _ _ _ _ _ _ _ _ _ (a1_) a2_ rfl ?_
    refine hs 8 _ rfl _ _ _ _ _ _ _ rfl ?_
    refine zw_Mq (hs 9 _ rfl) ?_
    show S 45 [some (.ref q), some (.int (Int32.ofInt (1 : Int))), some (.int (Int32.ofInt (0 : Int))), none] [] _ _ _
    refine hs 27 _ rfl _ _ _ _ _ _ _ rfl ?_
    refine hs 28 _ rfl _ _ _ _ _ _ _ rfl ?_
    refine hs 29 _ rfl _ _ _ _ _ _ _ rfl ?_
    refine zw_c (hs 30 _ rfl) (a := [.int (Int32.ofInt (10 : Int)), .int (Int32.ofInt (1 : Int))]) (st := [.ref q]) rfl rfl (Nat.le_of_ble_eq_true rfl) trivial (by omega) (by omega) (zn_max_M g (a_ := 10) (b_ := 1) (M := 10) (by omega) (by omega) (by omega) (by omega) ?_)
    show S 52 [some (.ref q), some (.int (Int32.ofInt (1 : Int))), some (.int (Int32.ofInt (0 : Int))), none] [.int (Int32.ofInt ((10 : Nat) : Int)), .ref q] _ _ _
    refine zw_E2 (G := G) (hs 31 _ rfl) (t := 56) (N := 10) rfl (by omega) (by omega) (by omega) (by omega) fun hz213 az214 ez215 lz216 gz217 cz218 => ?_
    refine hs 32 _ rfl _ _ _ _ _ _ _ rfl ?_
    refine zw_U (hs 33 _ rfl) (by omega) ((gz217.2 _ _ a1_)) a2_ (Or.inl ⟨_, rfl⟩) fun hz219 wz220 => ?_
    have wz220 : hd_w G hz213 hz219 q (t, [.int (Int32.ofInt mo), .ref az214, .int (Int32.ofInt (vs.length : Int))]) := wz220
    exact hs 34 _ rfl _ _ _ _ _ (Or.inl ⟨_, rfl⟩) (by omega) (by omega) (hP _ az214 10 ((zk.g gz217).tr (zk.w wz220 (Or.inl rfl))) (by omega) (Or.inl rfl) (by omega) wz220.at (((wz220.ne (by omega)).trans cz218).trans (by rw [hvs_, zl_ws_nil])))
  · obtain rfl : N = 10 := by omega
    have e_ : (vs.length : Int) + 1 = ((11 : Nat) : Int) := by omega
    rw [e_]
    show S 0 [some (.ref q), some (.int (Int32.ofInt ((11 : Nat) : Int))), none, none] [] _ _ _
    refine hs 0 _ rfl _ _ _ _ _ _ _ rfl ?_
    refine hs 1 _ rfl _ _ _ _ _ _ _ _ _ (a1_) a2_ rfl ?_
    refine zw_Ln (hs 2 _ rfl) (a3_) a4_ zl_ws_len ?_
    refine hs 3 _ rfl _ _ _ _ _ _ _ rfl ?_
    refine hs 4 _ rfl _ _ _ _ _ _ _ rfl ?_
    refine hs 5 _ rfl _ _ _ _ _ _ (fun _ => ?_) (fun zq => absurd (hd_c1t (c := 4) (by omega) (by omega) (by omega : 0 < (10 : Int))) zq)
    have e1_ : ((11 : Nat) : Int) - ((10 : Nat) : Int) = ((1 : Nat) : Int) := by omega
    refine hs 10 _ rfl _ _ _ _ _ _ _ rfl ?_
    refine hs 11 _ rfl _ _ _ _ _ _ _ rfl ?_
    refine hs 12 _ rfl _ _ _ _ _ _ _ rfl ?_
    refine hs 13 _ rfl _ _ _ _ _ _ _ hd_sub ?_
    refine hs 14 _ rfl _ _ _ _ _ _ _ rfl ?_
    refine hs 15 _ rfl _ _ _ _ _ _ _ rfl ?_
    refine hs 16 _ rfl _ _ _ _ _ _ _ zl_shr ?_
    refine zw_c (hs 17 _ rfl) (a := [.int (Int32.ofInt (10 : Int)), .int (Int32.ofInt (((11 : Nat) : Int) - (10 : Int))), .int (Int32.ofInt (5 : Int))]) (st := []) rfl rfl (Nat.le_of_ble_eq_true rfl) trivial (by omega) (by omega) (zl_newLen_M g ?_)
    show S 30 [some (.ref q), some (.int (Int32.ofInt ((11 : Nat) : Int))), some (.int (Int32.ofInt (10 : Int))), none] [.int (Int32.ofInt (15 : Int))] _ _ _
    refine hs 18 _ rfl _ _ _ _ _ _ _ rfl ?_
    refine hs 19 _ rfl _ _ _ _ _ _ _ rfl ?_
    refine hs 20 _ rfl _ _ _ _ _ _ _ rfl ?_
    refine hs 21 _ rfl _ _ _ _ _ _ _ _ _ (a1_) a2_ rfl ?_
    refine hs 22 _ rfl _ _ _ _ _ _ _ rfl ?_
    refine zw_cm (hs 23 _ rfl) (a := [.ref p, .int (Int32.ofInt (15 : Int))]) (st := [.ref q]) 1 15 rfl rfl (Nat.le_of_ble_eq_true rfl) trivial (by omega) (by omega) (zl_cop2_M g (N2 := 15) a3_ a4_ hb_ (by omega) (by omega) (by omega) (by omega) (by omega) fun hy_ ay_ gy_ ly_ cy_ => ?_)
    show S 40 [some (.ref q), some (.int (Int32.ofInt ((11 : Nat) : Int))), some (.int (Int32.ofInt (10 : Int))), some (.int (Int32.ofInt (15 : Int)))] [.ref ay_, .ref q] _ _ _
    refine hs 24 _ rfl _ _ _ _ _ _ _ rfl ?_
    refine zw_U (hs 25 _ rfl) (by omega) ((gy_.2 _ _ a1_)) a2_ (Or.inl ⟨_, rfl⟩) fun hz221 wz222 => ?_
    have wz222 : hd_w G hy_ hz221 q (t, [.int (Int32.ofInt mo), .ref ay_, .int (Int32.ofInt (vs.length : Int))]) := wz222
    exact hs 26 _ rfl _ _ _ _ _ (Or.inl ⟨_, rfl⟩) (by omega) (by omega) (hP _ ay_ 15 ((zk.g gy_).tr (zk.w wz222 (Or.inl rfl))) (by omega) (Or.inr rfl) (by omega) wz222.at ((wz222.ne (by omega)).trans cy_))
set_option maxHeartbeats 4000000 in
theorem zl_grow0_M {l : Launch} {G : am_G} {X : ck_XT} (g : gM l G X) {q t p tr N : Nat} {mo : Int} {vs : List Nat} {h : List am_C} (a1_ : am_g G h q = some (t, [.int (Int32.ofInt mo), .ref p, .int (Int32.ofInt (vs.length : Int))])) (a2_ : t % 100 = 6) (a3_ : am_g G h p = some (tr, zl_ws N vs)) (a4_ : tr % 100 = 56) (hb_ : zl_ob G h vs) (hq_ : 1000 ≤ q) (hn_ : vs.length = N) (hc_ : (N = 0 ∧ p = 4) ∨ N = 10) {mc ms : Nat} {Post : am_O → List am_C → Prop} (hmc : 1 ≤ mc) (hms : N + 10 ≤ ms)
    (hP : ∀ (h' : List am_C) (a N2 : Nat), zk G h h' (fun x => x = q) → 1000 + h.length ≤ a → N2 = 10 ∨ N2 = 15 → N < N2 → am_g G h' q = some (t, [.int (Int32.ofInt mo), .ref a, .int (Int32.ofInt (vs.length : Int))]) → am_g G h' a = some (56, zl_ws N2 vs) → Post (.inl (some (.ref a))) h') :
    am_M l G yJx4a65c_grow_d5877 (.code yJx4a65c_grow_d5877 prog_46_method_7_code 1 (some (.array (.object "java/lang/Object")))) 6 170 mc ms [.ref q] h Post := by
  refine gh_yJx4a65c_grow_d5877_X g (Nat.le_of_ble_eq_true rfl) fun S SX hs hr hw hx => ?_
  have rv : ∀ x : Int32, ck_fv 0 (.int x) := fun x => ⟨_, rfl⟩
  refine hs 0 _ rfl _ _ _ _ _ _ _ rfl ?_
  refine hs 1 _ rfl _ _ _ _ _ _ _ rfl ?_
  refine hs 2 _ rfl _ _ _ _ _ _ _ _ _ (a1_) a2_ rfl ?_
  refine hs 3 _ rfl _ _ _ _ _ _ _ rfl ?_
  refine hs 4 _ rfl _ _ _ _ _ _ _ hd_add ?_
  refine zw_cm (hs 5 _ rfl) (a := [.ref q, .int (Int32.ofInt ((vs.length : Int) + (1 : Int)))]) (st := []) 1 (N + 10) rfl rfl (Nat.le_of_ble_eq_true rfl) ⟨_, _, _, rfl, (a1_), a2_⟩ (by omega) (by omega) (zl_grow1_M g a1_ a2_ a3_ a4_ hb_ hq_ hn_ hc_ (by omega) (by omega) fun hy_ ay_ ny_ ky_ ly_ my_ oy_ cy_ dy_ => ?_)
  show S 10 [some (.ref q)] [.ref ay_] _ _ _
  exact hs 6 _ rfl _ _ _ _ _ (Or.inl ⟨_, rfl⟩) (by omega) (by omega) (hP _ _ _ ky_ ly_ my_ oy_ cy_ dy_)
set_option maxHeartbeats 4000000 in
theorem zl_add2_M {l : Launch} {G : am_G} {X : ck_XT} (g : gM l G X) {q t p tr N v tv : Nat} {vv : List Value} {mo : Int} {vs : List Nat} {h : List am_C} (a1_ : am_g G h q = some (t, [.int (Int32.ofInt mo), .ref p, .int (Int32.ofInt (vs.length : Int))])) (a2_ : t % 100 = 6) (a3_ : am_g G h p = some (tr, zl_ws N vs)) (a4_ : tr % 100 = 56) (hb_ : zl_ob G h vs) (hq_ : 1000 ≤ q) (hn_ : vs.length ≤ N) (hc_ : (N = 0 ∧ p = 4) ∨ (N = 10 ∧ 1000 ≤ p) ∨ (N = 15 ∧ vs.length < 15 ∧ 1000 ≤ p)) (hv_ : am_g G h v = some (tv, vv)) (hk_ : tv % 100 = 50 ∨ tv % 100 = 2 ∨ tv % 100 = 18) {mc ms : Nat} {Post : am_O → List am_C → Prop} (hmc : vs.length = N → 1 ≤ mc) (hms : vs.length = N → N + 10 ≤ ms)
    (hP : ∀ (h' : List am_C) (a ta N2 : Nat), zk G h h' (fun x => x = q ∨ x = p) → ((a = p ∧ N2 = N) ∨ 1000 + h.length ≤ a) → 1000 ≤ a → N2 = 10 ∨ N2 = 15 → vs.length < N2 → am_g G h' q = some (t, [.int (Int32.ofInt (mo)), .ref a, .int (Int32.ofInt ((vs ++ [v]).length : Int))]) → am_g G h' a = some (ta, zl_ws N2 (vs ++ [v])) → ta % 100 = 56 → Post (.inl none) h') :
    am_M l G yJx4a65c_add_72be8 (.code yJx4a65c_add_72be8 prog_46_method_24_code 4 none) 7 200 mc ms [.ref q, .ref v, .ref p, .int (Int32.ofInt (vs.length : Int))] h Post := by
  refine gh_yJx4a65c_add_72be8_X g (Nat.le_of_ble_eq_true rfl) fun S SX hs hr hw hx => ?_
  have rv : ∀ x : Int32, ck_fv 0 (.int x) := fun x => ⟨_, rfl⟩
  have lq_ := zg_lt a1_
  have lp_ := zg_lt a3_
  have hvq_ : v ≠ q := fun y_ => by
    rw [y_, a1_] at hv_
    have := congrArg Prod.fst (Option.some.inj hv_)
    dsimp only at this
    omega
  have hvp_ : v ≠ p := fun y_ => by
    rw [y_, a3_] at hv_
    have := congrArg Prod.fst (Option.some.inj hv_)
    dsimp only at this
    omega
  have hpq_ : p ≠ q := fun y_ => by
    rw [y_, a1_] at a3_
    have := congrArg Prod.fst (Option.some.inj a3_)
    dsimp only at this
    omega
  have lv_ := zg_lt hv_
  have sz_ : (vs.length : Int) + 1 = ((vs ++ [v]).length : Int) := by rw [List.length_append, List.length_singleton]; omega
  by_cases c_ : vs.length = N
  · have hmc2_ := hmc c_
    have hms2_ := hms c_
    have hq2_ : (56, tv % 100) ∈ [(56, 50), (56, 2), (56, 18)] := by rcases hk_ with y_ | y_ | y_ <;> rw [y_] <;> decide
    refine hs 0 _ rfl _ _ _ _ _ _ _ rfl ?_
    refine hs 1 _ rfl _ _ _ _ _ _ _ rfl ?_
    refine zw_Ln (hs 2 _ rfl) (a3_) a4_ zl_ws_len ?_
    refine hs 3 _ rfl _ _ _ _ _ _ _ (fun zq => absurd (hd_c2z (c := 1) (by omega) (by omega) (by omega) (by omega) zq) (by omega : ¬ (((vs.length : Int) - (N : Int)) ≠ 0))) (fun _ => ?_)
    refine hs 4 _ rfl _ _ _ _ _ _ _ rfl ?_
    refine zw_cm (hs 5 _ rfl) (a := [.ref q]) (st := []) 1 (N + 10) rfl rfl (Nat.le_of_ble_eq_true rfl) ⟨_, _, _, rfl, (a1_), a2_⟩ (by omega) (by omega) (zl_grow0_M g a1_ a2_ a3_ a4_ hb_ hq_ c_ (by omega) (by omega) (by omega) fun hy_ ay_ ny_ ky_ ly_ my_ oy_ cy_ dy_ => ?_)
    show S 10 [some (.ref q), some (.ref v), some (.ref p), some (.int (Int32.ofInt (vs.length : Int)))] [.ref ay_] _ _ _
    refine hs 6 _ rfl _ _ _ _ _ _ _ rfl ?_
    refine hs 7 _ rfl _ _ _ _ _ _ _ rfl ?_
    refine hs 8 _ rfl _ _ _ _ _ _ _ rfl ?_
    refine hs 9 _ rfl _ _ _ _ _ _ _ rfl ?_
    refine zw_Br (hs 10 _ rfl) (by omega) (dy_) (by first | decide | (rw [(rfl : 56 % 100 = 56)]; decide)) (by first | decide | (rw [(rfl : 56 % 100 = 56)]; decide)) (j := vs.length) (by omega) (by omega) (by rw [zl_ws_len]; omega) (Or.inr (Or.inr (Or.inr (Or.inr ⟨_, _, _, rfl, ((ky_.2 _ _ hv_ (fun y_ => hvq_ y_))), hq2_⟩)))) fun hz227 wz228 => ?_
    refine hs 11 _ rfl _ _ _ _ _ _ _ rfl ?_
    refine hs 12 _ rfl _ _ _ _ _ _ _ rfl ?_
    refine hs 13 _ rfl _ _ _ _ _ _ _ rfl ?_
    refine hs 14 _ rfl _ _ _ _ _ _ _ hd_add ?_
    refine zw_U (hs 15 _ rfl) (by omega) ((wz228.ne (by omega)).trans cy_) a2_ ⟨_, rfl⟩ fun hz229 wz230 => ?_
    have wz230 : hd_w G hz227 hz229 q (t, [.int (Int32.ofInt mo), .ref ay_, .int (Int32.ofInt ((vs.length : Int) + (1 : Int)))]) := wz230
    refine hs 16 _ rfl _ _ _ _ (by omega) (by omega) (hP _ ay_ 56 ny_ (((ky_.mono fun x_ y_ => Or.inl y_).tr2 (zk.w wz228 (Or.inl rfl) : zk _ _ _ (fun x => x = ay_)) (fun p_ h1_ (h2_ : p_ = ay_) => absurd h1_ (by omega))).tr (zk.w wz230 (Or.inl (Or.inl rfl)))) (Or.inr ly_) (by omega) my_ (by omega) ?_ ?_ rfl)
    · rw [← sz_]
      exact wz230.at
    · rw [← zl_ws_add (by omega)]
      exact (wz230.ne (by omega)).trans wz228.at
  · have hq2_ : (tr % 100, tv % 100) ∈ [(56, 50), (56, 2), (56, 18)] := by rw [a4_]; rcases hk_ with y_ | y_ | y_ <;> rw [y_] <;> decide
    refine hs 0 _ rfl _ _ _ _ _ _ _ rfl ?_
    refine hs 1 _ rfl _ _ _ _ _ _ _ rfl ?_
    refine zw_Ln (hs 2 _ rfl) (a3_) a4_ zl_ws_len ?_
    refine hs 3 _ rfl _ _ _ _ _ _ _ (fun _ => ?_) (fun zq => absurd (hd_c2t (c := 1) (by omega) (by omega) (by omega) (by omega) (by omega : ((vs.length : Int) - (N : Int)) ≠ 0)) zq)
    refine hs 7 _ rfl _ _ _ _ _ _ _ rfl ?_
    refine hs 8 _ rfl _ _ _ _ _ _ _ rfl ?_
    refine hs 9 _ rfl _ _ _ _ _ _ _ rfl ?_
    refine zw_Br (hs 10 _ rfl) (by omega) (a3_) (by first | decide | (rw [a4_]; decide)) (by first | decide | (rw [a4_]; decide)) (j := vs.length) (by omega) (by omega) (by rw [zl_ws_len]; omega) (Or.inr (Or.inr (Or.inr (Or.inr ⟨_, _, _, rfl, (hv_), hq2_⟩)))) fun hz223 wz224 => ?_
    refine hs 11 _ rfl _ _ _ _ _ _ _ rfl ?_
    refine hs 12 _ rfl _ _ _ _ _ _ _ rfl ?_
    refine hs 13 _ rfl _ _ _ _ _ _ _ rfl ?_
    refine hs 14 _ rfl _ _ _ _ _ _ _ hd_add ?_
    refine zw_U (hs 15 _ rfl) (by omega) ((wz224.ne (by omega)).trans a1_) a2_ ⟨_, rfl⟩ fun hz225 wz226 => ?_
    have wz226 : hd_w G hz223 hz225 q (t, [.int (Int32.ofInt mo), .ref p, .int (Int32.ofInt ((vs.length : Int) + (1 : Int)))]) := wz226
    refine hs 16 _ rfl _ _ _ _ (by omega) (by omega) (hP _ p tr N ((zk.w wz224 (Or.inl (Or.inr rfl))).tr (zk.w wz226 (Or.inl (Or.inl rfl)))) (Or.inl ⟨rfl, rfl⟩) (by omega) (by omega) (by omega) ?_ ?_ a4_)
    · rw [← sz_]
      exact wz226.at
    · rw [← zl_ws_add (by omega)]
      exact (wz226.ne (by omega)).trans wz224.at
set_option maxHeartbeats 4000000 in
theorem zl_add1_M {l : Launch} {G : am_G} {X : ck_XT} (g : gM l G X) {q t p tr N v tv : Nat} {vv : List Value} {mo : Int} {vs : List Nat} {h : List am_C} (a1_ : am_g G h q = some (t, [.int (Int32.ofInt mo), .ref p, .int (Int32.ofInt (vs.length : Int))])) (a2_ : t % 100 = 6) (a3_ : am_g G h p = some (tr, zl_ws N vs)) (a4_ : tr % 100 = 56) (hb_ : zl_ob G h vs) (hq_ : 1000 ≤ q) (hn_ : vs.length ≤ N) (hc_ : (N = 0 ∧ p = 4) ∨ (N = 10 ∧ 1000 ≤ p) ∨ (N = 15 ∧ vs.length < 15 ∧ 1000 ≤ p)) (hv_ : am_g G h v = some (tv, vv)) (hk_ : tv % 100 = 50 ∨ tv % 100 = 2 ∨ tv % 100 = 18) {mc ms : Nat} {Post : am_O → List am_C → Prop} (hmc : vs.length = N → 1 ≤ mc) (hms : vs.length = N → N + 10 ≤ ms)
    (hP : ∀ (h' : List am_C) (a ta N2 : Nat), zk G h h' (fun x => x = q ∨ x = p) → ((a = p ∧ N2 = N) ∨ 1000 + h.length ≤ a) → 1000 ≤ a → N2 = 10 ∨ N2 = 15 → vs.length < N2 → am_g G h' q = some (t, [.int (Int32.ofInt (mo + 1)), .ref a, .int (Int32.ofInt ((vs ++ [v]).length : Int))]) → am_g G h' a = some (ta, zl_ws N2 (vs ++ [v])) → ta % 100 = 56 → Post (.inl (some (.int (Int32.ofInt 1)))) h') :
    am_M l G yJx4a65c_add_9ea2d (.code yJx4a65c_add_9ea2d prog_46_method_25_code 2 (some .boolean)) 8 230 mc ms [.ref q, .ref v] h Post := by
  refine gh_yJx4a65c_add_9ea2d_X g (Nat.le_of_ble_eq_true rfl) fun S SX hs hr hw hx => ?_
  have rv : ∀ x : Int32, ck_fv 0 (.int x) := fun x => ⟨_, rfl⟩
  have hvq_ : v ≠ q := fun y_ => by
    rw [y_, a1_] at hv_
    have := congrArg Prod.fst (Option.some.inj hv_)
    dsimp only at this
    omega
  have hpq_ : p ≠ q := fun y_ => by
    rw [y_, a1_] at a3_
    have := congrArg Prod.fst (Option.some.inj a3_)
    dsimp only at this
    omega
  have hb2_ : ∀ (h2_ : List am_C) {c_ : am_C}, hd_w G h h2_ q c_ → zl_ob G h2_ vs := fun h2_ c_ w_ i_ v_ hv2_ => by
    obtain ⟨t_, ws_, b1_, b2_⟩ := hb_ i_ v_ hv2_
    refine ⟨t_, ws_, (w_.ne fun y_ => ?_).trans b1_, b2_⟩
    rw [y_, a1_] at b1_
    have := congrArg Prod.fst (Option.some.inj b1_)
    dsimp only at this
    rw [← this, a2_] at b2_
    exact absurd b2_ (by decide)
  refine hs 0 _ rfl _ _ _ _ _ _ _ rfl ?_
  refine hs 1 _ rfl _ _ _ _ _ _ _ rfl ?_
  refine hs 2 _ rfl _ _ _ _ _ _ _ _ _ (a1_) a2_ rfl ?_
  refine hs 3 _ rfl _ _ _ _ _ _ _ rfl ?_
  refine hs 4 _ rfl _ _ _ _ _ _ _ hd_add ?_
  refine zw_U (hs 5 _ rfl) (by omega) (a1_) a2_ ⟨_, rfl⟩ fun hz231 wz232 => ?_
  have wz232 : hd_w G h hz231 q (t, [.int (Int32.ofInt (mo + (1 : Int))), .ref p, .int (Int32.ofInt (vs.length : Int))]) := wz232
  refine hs 6 _ rfl _ _ _ _ _ _ _ rfl ?_
  refine hs 7 _ rfl _ _ _ _ _ _ _ rfl ?_
  refine hs 8 _ rfl _ _ _ _ _ _ _ rfl ?_
  refine hs 9 _ rfl _ _ _ _ _ _ _ _ _ (wz232.at) a2_ rfl ?_
  refine hs 10 _ rfl _ _ _ _ _ _ _ rfl ?_
  refine hs 11 _ rfl _ _ _ _ _ _ _ _ _ (wz232.at) a2_ rfl ?_
  refine zw_cm (hs 12 _ rfl) (a := [.ref q, .ref v, .ref p, .int (Int32.ofInt (vs.length : Int))]) (st := []) mc ms rfl rfl (Nat.le_of_ble_eq_true rfl) ⟨_, _, _, rfl, (wz232.at), a2_⟩ (by omega) (by omega) (zl_add2_M g wz232.at a2_ ((wz232.ne (by omega)).trans a3_) a4_ (hb2_ _ wz232) hq_ hn_ hc_ ((wz232.ne (by omega)).trans hv_) hk_ hmc hms fun hy_ ay_ ty_ ny_ ky_ ly_ my_ oy_ sy_ cy_ dy_ ey_ => ?_)
  show S 23 [some (.ref q), some (.ref v)] [] _ _ _
  refine hs 13 _ rfl _ _ _ _ _ _ _ rfl ?_
  refine hs 14 _ rfl _ _ _ _ _ ⟨_, rfl, by decide, by decide⟩ (by omega) (by omega) (hP _ _ _ _ ((zk.w wz232 (Or.inl (Or.inl rfl))).tr ky_) ?_ my_ oy_ sy_ cy_ dy_ ey_)
  have l_ := wz232.1
  omega
set_option maxHeartbeats 4000000 in
theorem zl_chkP_M {l : Launch} {G : am_G} {X : ck_XT} (g : gM l G X) {j_ n_ : Nat} {h : List am_C} (hj : j_ < n_) (hn : n_ ≤ 100) {mc ms : Nat} {Post : am_O → List am_C → Prop} (hP : Post (.inl (some (.int (Int32.ofInt (j_ : Int))))) h) :
    am_M l G yJ3_checkIndex_8e157 (.code yJ3_checkIndex_8e157 prog_56_method_11_code 3 (some .int)) 1 20 mc ms [.int (Int32.ofInt (j_ : Int)), .int (Int32.ofInt (n_ : Int)), .null] h Post := by
  refine gh_yJ3_checkIndex_8e157_X g (Nat.le_of_ble_eq_true rfl) fun S SX hs hr hw hx => ?_
  have rv : ∀ x : Int32, ck_fv 0 (.int x) := fun x => ⟨_, rfl⟩
  refine hs 0 _ rfl _ _ _ _ _ _ _ rfl ?_
  refine hs 1 _ rfl _ _ _ _ _ _ (fun zq => absurd (hd_c1z (c := 2) (by omega) (by omega) zq) (by omega : ¬ ((j_ : Int) < 0))) (fun _ => ?_)
  refine hs 2 _ rfl _ _ _ _ _ _ _ rfl ?_
  refine hs 3 _ rfl _ _ _ _ _ _ _ rfl ?_
  refine hs 4 _ rfl _ _ _ _ _ _ _ (fun _ => ?_) (fun zq => absurd (hd_c2t (c := 2) (by omega) (by omega) (by omega) (by omega) (by omega : ((j_ : Int) - (n_ : Int)) < 0)) zq)
  refine hs 8 _ rfl _ _ _ _ _ _ _ rfl ?_
  exact hs 9 _ rfl _ _ _ _ _ (rv _) (Nat.zero_le _) (Nat.zero_le _) hP
set_option maxHeartbeats 4000000 in
theorem zl_chkO_M {l : Launch} {G : am_G} {X : ck_XT} (g : gM l G X) {j_ n_ : Nat} {h : List am_C} (hj : j_ < n_) (hn : n_ ≤ 100) {mc ms : Nat} {Post : am_O → List am_C → Prop} (hP : Post (.inl (some (.int (Int32.ofInt (j_ : Int))))) h) :
    am_M l G yJ15_checkIndex_7cf53 (.code yJ15_checkIndex_7cf53 prog_52_method_17_code 2 (some .int)) 2 42 mc ms [.int (Int32.ofInt (j_ : Int)), .int (Int32.ofInt (n_ : Int))] h Post := by
  refine gh_yJ15_checkIndex_7cf53_X g (Nat.le_of_ble_eq_true rfl) fun S SX hs hr hw hx => ?_
  have rv : ∀ x : Int32, ck_fv 0 (.int x) := fun x => ⟨_, rfl⟩
  refine hs 0 _ rfl _ _ _ _ _ _ _ rfl ?_
  refine hs 1 _ rfl _ _ _ _ _ _ _ rfl ?_
  refine hs 2 _ rfl _ _ _ _ _ _ _ rfl ?_
  refine zw_c (hs 3 _ rfl) (a := [.int (Int32.ofInt (j_ : Int)), .int (Int32.ofInt (n_ : Int)), .null]) (st := []) rfl rfl (Nat.le_of_ble_eq_true rfl) trivial (by omega) (by omega) (zl_chkP_M g hj hn ?_)
  show S 6 [some (.int (Int32.ofInt (j_ : Int))), some (.int (Int32.ofInt (n_ : Int)))] [.int (Int32.ofInt (j_ : Int))] _ _ _
  exact hs 4 _ rfl _ _ _ _ _ (rv _) (Nat.zero_le _) (Nat.zero_le _) hP
set_option maxHeartbeats 4000000 in
theorem zl_fast_M {l : Launch} {G : am_G} {X : ck_XT} (g : gM l G X) {q t p tr N j_ : Nat} {mo : Int} {vs : List Nat} {h : List am_C} (a1_ : am_g G h q = some (t, [.int (Int32.ofInt mo), .ref p, .int (Int32.ofInt (vs.length : Int))])) (a2_ : t % 100 = 6) (a3_ : am_g G h p = some (tr, zl_ws N vs)) (a4_ : tr % 100 = 56) (hb_ : zl_ob G h vs) (hq_ : 1000 ≤ q) (hn_ : vs.length ≤ N) (hN_ : N ≤ 90) (hp_ : 1000 ≤ p) (hj_ : j_ < vs.length) {mc ms : Nat} {Post : am_O → List am_C → Prop}
    (hP : ∀ (h' : List am_C), zk G h h' (fun x => x = q ∨ x = p) → h'.length = h.length → am_g G h' q = some (t, [.int (Int32.ofInt (mo + 1)), .ref p, .int (Int32.ofInt ((vs.eraseIdx j_).length : Int))]) → am_g G h' p = some (tr, zl_ws N (vs.eraseIdx j_)) → Post (.inl none) h') :
    am_M l G yJx4a65c_fastRemove_b59b0 (.code yJx4a65c_fastRemove_b59b0 prog_46_method_39_code 4 none) 2 59 mc ms [.ref q, .ref p, .int (Int32.ofInt (j_ : Int))] h Post := by
  refine gh_yJx4a65c_fastRemove_b59b0_X g (Nat.le_of_ble_eq_true rfl) fun S SX hs hr hw hx => ?_
  have rv : ∀ x : Int32, ck_fv 0 (.int x) := fun x => ⟨_, rfl⟩
  have hpq_ : p ≠ q := fun y_ => by
    rw [y_, a1_] at a3_
    have := congrArg Prod.fst (Option.some.inj a3_)
    dsimp only at this
    omega
  have hb2_ : ∀ (h2_ : List am_C) {c_ : am_C}, hd_w G h h2_ q c_ → zl_ob G h2_ vs := fun h2_ c_ w_ i_ v_ hv2_ => by
    obtain ⟨t_, ws_, b1_, b2_⟩ := hb_ i_ v_ hv2_
    refine ⟨t_, ws_, (w_.ne fun y_ => ?_).trans b1_, b2_⟩
    rw [y_, a1_] at b1_
    have := congrArg Prod.fst (Option.some.inj b1_)
    dsimp only at this
    rw [← this, a2_] at b2_
    exact absurd b2_ (by decide)
  obtain ⟨m_, hm_⟩ : ∃ m_, vs.length = m_ + 1 := ⟨vs.length - 1, by omega⟩
  have er_ : (vs.eraseIdx j_).length = m_ := by rw [List.length_eraseIdx, if_pos hj_]; omega
  have sz_ : (vs.length : Int) - 1 = ((vs.eraseIdx j_).length : Int) := by rw [er_]; omega
  by_cases c_ : j_ = m_
  · 
    refine hs 0 _ rfl _ _ _ _ _ _ _ rfl ?_
    refine hs 1 _ rfl _ _ _ _ _ _ _ rfl ?_
    refine hs 2 _ rfl _ _ _ _ _ _ _ _ _ (a1_) a2_ rfl ?_
    refine hs 3 _ rfl _ _ _ _ _ _ _ rfl ?_
    refine hs 4 _ rfl _ _ _ _ _ _ _ hd_add ?_
    refine zw_U (hs 5 _ rfl) (by omega) (a1_) a2_ ⟨_, rfl⟩ fun hz239 wz240 => ?_
    have wz240 : hd_w G h hz239 q (t, [.int (Int32.ofInt (mo + (1 : Int))), .ref p, .int (Int32.ofInt (vs.length : Int))]) := wz240
    refine hs 6 _ rfl _ _ _ _ _ _ _ rfl ?_
    refine hs 7 _ rfl _ _ _ _ _ _ _ _ _ (wz240.at) a2_ rfl ?_
    refine hs 8 _ rfl _ _ _ _ _ _ _ rfl ?_
    refine hs 9 _ rfl _ _ _ _ _ _ _ hd_sub ?_
    refine hs 10 _ rfl _ _ _ _ _ _ _ rfl ?_
    refine hs 11 _ rfl _ _ _ _ _ _ _ rfl ?_
    refine hs 12 _ rfl _ _ _ _ _ _ _ rfl ?_
    refine hs 13 _ rfl _ _ _ _ _ _ _ (fun _ => ?_) (fun zq => absurd (hd_c2t (c := 5) (by omega) (by omega) (by omega) (by omega) (by omega : (((vs.length : Int) - (1 : Int)) - (j_ : Int)) ≤ 0)) zq)
    refine hs 24 _ rfl _ _ _ _ _ _ _ rfl ?_
    refine hs 25 _ rfl _ _ _ _ _ _ _ rfl ?_
    refine hs 26 _ rfl _ _ _ _ _ _ _ rfl ?_
    refine hs 27 _ rfl _ _ _ _ _ _ _ rfl ?_
    refine zw_U (hs 28 _ rfl) (by omega) (wz240.at) a2_ ⟨_, rfl⟩ fun hz241 wz242 => ?_
    have wz242 : hd_w G hz239 hz241 q (t, [.int (Int32.ofInt (mo + (1 : Int))), .ref p, .int (Int32.ofInt ((vs.length : Int) - (1 : Int)))]) := wz242
    refine hs 29 _ rfl _ _ _ _ _ _ _ rfl ?_
    refine zw_Br (hs 30 _ rfl) (by omega) ((wz242.ne (by omega)).trans ((wz240.ne (by omega)).trans a3_)) (by first | decide | (rw [a4_]; decide)) (by first | decide | (rw [a4_]; decide)) (j := m_) (by omega) (by omega) (by rw [zl_ws_len]; omega) (Or.inr (Or.inr (Or.inr (Or.inl ⟨a4_, rfl⟩)))) fun hz243 wz244 => ?_
    refine hs 31 _ rfl _ _ _ _ (Nat.zero_le _) (Nat.zero_le _) (hP _ (((zk.w wz240 (Or.inl (Or.inl rfl))).tr (zk.w wz242 (Or.inl (Or.inl rfl)))).tr (zk.w wz244 (Or.inl (Or.inr rfl)))) (by rw [wz244.1, wz242.1, wz240.1]) ?_ ?_)
    · rw [← sz_]
      exact (wz244.ne (by omega)).trans wz242.at
    · rw [c_, ← zl_ws_last hm_ (by omega)]
      exact wz244.at
  · have c2_ : j_ < m_ := by omega
    refine hs 0 _ rfl _ _ _ _ _ _ _ rfl ?_
    refine hs 1 _ rfl _ _ _ _ _ _ _ rfl ?_
    refine hs 2 _ rfl _ _ _ _ _ _ _ _ _ (a1_) a2_ rfl ?_
    refine hs 3 _ rfl _ _ _ _ _ _ _ rfl ?_
    refine hs 4 _ rfl _ _ _ _ _ _ _ hd_add ?_
    refine zw_U (hs 5 _ rfl) (by omega) (a1_) a2_ ⟨_, rfl⟩ fun hz233 wz234 => ?_
    have wz234 : hd_w G h hz233 q (t, [.int (Int32.ofInt (mo + (1 : Int))), .ref p, .int (Int32.ofInt (vs.length : Int))]) := wz234
    refine hs 6 _ rfl _ _ _ _ _ _ _ rfl ?_
    refine hs 7 _ rfl _ _ _ _ _ _ _ _ _ (wz234.at) a2_ rfl ?_
    refine hs 8 _ rfl _ _ _ _ _ _ _ rfl ?_
    refine hs 9 _ rfl _ _ _ _ _ _ _ hd_sub ?_
    refine hs 10 _ rfl _ _ _ _ _ _ _ rfl ?_
    refine hs 11 _ rfl _ _ _ _ _ _ _ rfl ?_
    refine hs 12 _ rfl _ _ _ _ _ _ _ rfl ?_
    refine hs 13 _ rfl _ _ _ _ _ _ _ (fun zq => absurd (hd_c2z (c := 5) (by omega) (by omega) (by omega) (by omega) zq) (by omega : ¬ ((((vs.length : Int) - (1 : Int)) - (j_ : Int)) ≤ 0))) (fun _ => ?_)
    refine hs 14 _ rfl _ _ _ _ _ _ _ rfl ?_
    refine hs 15 _ rfl _ _ _ _ _ _ _ rfl ?_
    refine hs 16 _ rfl _ _ _ _ _ _ _ rfl ?_
    refine hs 17 _ rfl _ _ _ _ _ _ _ hd_add ?_
    refine hs 18 _ rfl _ _ _ _ _ _ _ rfl ?_
    refine hs 19 _ rfl _ _ _ _ _ _ _ rfl ?_
    refine hs 20 _ rfl _ _ _ _ _ _ _ rfl ?_
    refine hs 21 _ rfl _ _ _ _ _ _ _ rfl ?_
    refine hs 22 _ rfl _ _ _ _ _ _ _ hd_sub ?_
    refine zw_c (hs 23 _ rfl) (a := [.ref p, .int (Int32.ofInt ((j_ : Int) + (1 : Int))), .ref p, .int (Int32.ofInt (j_ : Int)), .int (Int32.ofInt (((vs.length : Int) - (1 : Int)) - (j_ : Int)))]) (st := []) rfl rfl (Nat.le_of_ble_eq_true rfl) trivial (by omega) (by omega) (zw_arM (mc := 0) (ms := 0) (sp := j_ + 1) (dp := j_) (n := m_ - j_) (by omega) ((wz234.ne (by omega)).trans a3_) ((wz234.ne (by omega)).trans a3_) a4_ a4_ (by omega) rfl (by omega) (by rw [zl_ws_len]; omega) (by rw [zl_ws_len]; omega) (by rw [zl_ws_len]; omega) (by rw [zl_ws_len]; omega) (fun i_ v_ hv_ => (hb2_ _ wz234).ws hv_) fun hy_ wy_ => ?_)
    show S 34 [some (.ref q), some (.ref p), some (.int (Int32.ofInt (j_ : Int))), some (.int (Int32.ofInt ((vs.length : Int) - (1 : Int))))] [] _ _ _
    refine hs 24 _ rfl _ _ _ _ _ _ _ rfl ?_
    refine hs 25 _ rfl _ _ _ _ _ _ _ rfl ?_
    refine hs 26 _ rfl _ _ _ _ _ _ _ rfl ?_
    refine hs 27 _ rfl _ _ _ _ _ _ _ rfl ?_
    refine zw_U (hs 28 _ rfl) (by omega) ((wy_.ne (by omega)).trans wz234.at) a2_ ⟨_, rfl⟩ fun hz235 wz236 => ?_
    have wz236 : hd_w G hy_ hz235 q (t, [.int (Int32.ofInt (mo + (1 : Int))), .ref p, .int (Int32.ofInt ((vs.length : Int) - (1 : Int)))]) := wz236
    refine hs 29 _ rfl _ _ _ _ _ _ _ rfl ?_
    refine zw_Br (hs 30 _ rfl) (by omega) ((wz236.ne (by omega)).trans wy_.at) (by first | decide | (rw [a4_]; decide)) (by first | decide | (rw [a4_]; decide)) (j := m_) (by omega) (by omega) (by rw [am_cpy_len, zl_ws_len]; omega) (Or.inr (Or.inr (Or.inr (Or.inl ⟨a4_, rfl⟩)))) fun hz237 wz238 => ?_
    refine hs 31 _ rfl _ _ _ _ (Nat.zero_le _) (Nat.zero_le _) (hP _ ((((zk.w wz234 (Or.inl (Or.inl rfl))).tr (zk.w wy_ (Or.inl (Or.inr rfl)))).tr (zk.w wz236 (Or.inl (Or.inl rfl)))).tr (zk.w wz238 (Or.inl (Or.inr rfl)))) (by rw [wz238.1, wz236.1, wy_.1, wz234.1]) ?_ ?_)
    · rw [← sz_]
      exact (wz238.ne (by omega)).trans wz236.at
    · rw [← zl_ws_rem hm_ c2_ (by omega)]
      exact wz238.at
set_option maxHeartbeats 4000000 in
theorem zl_rem_M {l : Launch} {G : am_G} {X : ck_XT} (g : gM l G X) {q t p tr N j_ : Nat} {mo : Int} {vs : List Nat} {h : List am_C} (a1_ : am_g G h q = some (t, [.int (Int32.ofInt mo), .ref p, .int (Int32.ofInt (vs.length : Int))])) (a2_ : t % 100 = 6) (a3_ : am_g G h p = some (tr, zl_ws N vs)) (a4_ : tr % 100 = 56) (hb_ : zl_ob G h vs) (hq_ : 1000 ≤ q) (hn_ : vs.length ≤ N) (hN_ : N ≤ 90) (hp_ : 1000 ≤ p) (hj_ : j_ < vs.length) {v_ : Nat} (hv_ : vs[j_]? = some v_) {mc ms : Nat} {Post : am_O → List am_C → Prop}
    (hP : ∀ (h' : List am_C), zk G h h' (fun x => x = q ∨ x = p) → h'.length = h.length → am_g G h' q = some (t, [.int (Int32.ofInt (mo + 1)), .ref p, .int (Int32.ofInt ((vs.eraseIdx j_).length : Int))]) → am_g G h' p = some (tr, zl_ws N (vs.eraseIdx j_)) → Post (.inl (some (.ref v_))) h') :
    am_M l G yJx4a65c_remove_915e3 (.code yJx4a65c_remove_915e3 prog_46_method_29_code 4 (some (.object "java/lang/Object"))) 3 82 mc ms [.ref q, .int (Int32.ofInt (j_ : Int))] h Post := by
  refine gh_yJx4a65c_remove_915e3_X g (Nat.le_of_ble_eq_true rfl) fun S SX hs hr hw hx => ?_
  have rv : ∀ x : Int32, ck_fv 0 (.int x) := fun x => ⟨_, rfl⟩
  refine hs 0 _ rfl _ _ _ _ _ _ _ rfl ?_
  refine hs 1 _ rfl _ _ _ _ _ _ _ rfl ?_
  refine hs 2 _ rfl _ _ _ _ _ _ _ _ _ (a1_) a2_ rfl ?_
  refine zw_c (hs 3 _ rfl) (a := [.int (Int32.ofInt (j_ : Int)), .int (Int32.ofInt (vs.length : Int))]) (st := []) rfl rfl (Nat.le_of_ble_eq_true rfl) trivial (by omega) (by omega) (zl_chkO_M g hj_ (by omega) ?_)
  show S 8 [some (.ref q), some (.int (Int32.ofInt (j_ : Int))), none, none] [.int (Int32.ofInt (j_ : Int))] _ _ _
  refine hs 4 _ rfl _ _ _ _ _ _ _ rfl ?_
  refine hs 5 _ rfl _ _ _ _ _ _ _ rfl ?_
  refine hs 6 _ rfl _ _ _ _ _ _ _ _ _ (a1_) a2_ rfl ?_
  refine hs 7 _ rfl _ _ _ _ _ _ _ rfl ?_
  refine hs 8 _ rfl _ _ _ _ _ _ _ rfl ?_
  refine hs 9 _ rfl _ _ _ _ _ _ _ rfl ?_
  refine zw_Ar (hs 10 _ rfl) (a3_) (by first | rfl | (rw [a4_]; rfl)) (j := j_) (by omega) (by omega) (zl_ws_get hv_ hn_) ?_
  refine hs 11 _ rfl _ _ _ _ _ _ _ rfl ?_
  refine hs 12 _ rfl _ _ _ _ _ _ _ rfl ?_
  refine hs 13 _ rfl _ _ _ _ _ _ _ rfl ?_
  refine hs 14 _ rfl _ _ _ _ _ _ _ rfl ?_
  refine zw_c (hs 15 _ rfl) (a := [.ref q, .ref p, .int (Int32.ofInt (j_ : Int))]) (st := []) rfl rfl (Nat.le_of_ble_eq_true rfl) ⟨_, _, _, rfl, (a1_), a2_⟩ (by omega) (by omega) (zl_fast_M g a1_ a2_ a3_ a4_ hb_ hq_ hn_ hN_ hp_ hj_ fun hy_ ky_ ly_ cy_ dy_ => ?_)
  show S 24 [some (.ref q), some (.int (Int32.ofInt (j_ : Int))), some (.ref p), some (.ref v_)] [] _ _ _
  refine hs 16 _ rfl _ _ _ _ _ _ _ rfl ?_
  exact hs 17 _ rfl _ _ _ _ _ (Or.inl ⟨_, rfl⟩) (Nat.zero_le _) (Nat.zero_le _) (hP _ ky_ ly_ cy_ dy_)
