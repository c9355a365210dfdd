/-! THE LAW'S CALLS OVER SYMBOLS -/
/-- the script's ints that a call takes, the last on top -/
def cs_ar (k : Nat) : List cs_S := match k with
  | 0 => []
  | 1 => [(8, 1)]
  | _ => [(8, 2), (8, 1)]
/-- symbols that a call of the class leaves, and one of the reference -/
def cs_n8 (A : List cs_S) : Bool := A.all fun s => Nat.ble s.1 8
def cs_n9 (A : List cs_S) : Bool := A.all fun s => Nat.ble s.1 8 || Nat.beq s.1 11
def cs_hd (S : List cs_S) : Bool := match S with
  | s :: _ => cs_e1 s (3, 0)
  | [] => false
/-- a call: what it is (0 asks; 1, 2 change class and reference; 3, 4 count a knock; 5, 6 the size; 7, 8, 9 the starts; 10 what was thrown), which one, how many ints -/
def cs_q (z : Nat × Nat × Nat) (na : Nat) (e : cs_T) : Option cs_T := match z with
  | (kd, n, k) => match kd with
    | 0 => bif Nat.beq e.1.1 6 && Nat.beq e.2.2.length na then some ((6, 0), e.2.1, [(10, 0)]) else none
    | 1 => bif Nat.beq e.1.1 6 && (Nat.ble k 2 && (cs_eL e.2.2 ((4, 0) :: (cs_ar k ++ [(2, 0)])) && (Nat.beq na (k + 2) && (cs_nb n && cs_n8 e.2.1)))) then some ((7, n), e.2.1, [(11, 0)]) else none
    | 2 => bif (Nat.beq e.1.1 7 && Nat.beq e.1.2 n) && (Nat.ble k 2 && (cs_eL e.2.2 (cs_ar k ++ [(3, 0)]) && (Nat.beq na (k + 1) && (cs_n9 e.2.1 && cs_nb n)))) then some ((8, n), e.2.1, [(12, 0)]) else none
    | 3 => bif Nat.beq e.1.1 6 && (cs_eL e.2.2 [(2, 0)] && Nat.beq na 1) then some ((10, n), e.2.1, [(10, 0)]) else none
    | 4 => bif (Nat.beq e.1.1 10 && Nat.beq e.1.2 n) && (cs_eL e.2.2 [(3, 0)] && (Nat.beq na 1 && cs_n9 e.2.1)) then some ((6, 0), e.2.1, [(10, 0)]) else none
    | 5 => bif Nat.beq e.1.1 6 && (cs_eL e.2.2 [(2, 0)] && Nat.beq na 1) then some ((6, 0), e.2.1, [(9, 0)]) else none
    | 6 => bif Nat.beq e.1.1 6 && (cs_hd e.2.2 && Nat.beq na 1) then some ((6, 0), e.2.1, (9, 0) :: e.2.2.tail) else none
    | 7 => bif Nat.beq e.1.1 1 && (cs_eL e.2.2 [(2, 0), (2, 0)] && Nat.beq na 1) then some ((2, 0), e.2.1, [(2, 0)]) else none
    | 8 => bif Nat.beq e.1.1 3 && (cs_eL e.2.2 [(3, 0), (3, 0)] && Nat.beq na 1) then some ((4, 0), e.2.1, [(3, 0)]) else none
    | 9 => bif Nat.beq e.1.1 5 && (cs_eL e.2.2 [(4, 0), (4, 0)] && (Nat.beq na 1 && cs_n9 e.2.1)) then some ((6, 0), e.2.1, [(4, 0)]) else none
    | 10 => bif (Nat.beq e.1.1 8 || Nat.beq e.1.1 9) && (Nat.beq na 1 && cs_hd e.2.2) then some (e.1, e.2.1, (11, 0) :: e.2.2.tail) else none
    | _ => none
def cs_cm (G : am_G) (z : Nat × Nat × Nat) (CM : ck_CM) : ck_CM := match z with
  | (kd, n, k) => match kd with
    | 0 => cv_ask G CM
    | 1 => cv_clw G (cs_D n) k CM
    | 2 => cv_rew G (cs_D n) k CM
    | 3 => cv_cls0 G (cs_D n) CM
    | 4 => cv_ref0 G (cs_D n) CM
    | 5 => cv_cls0 G sp_zz CM
    | 6 => cv_ref0 G sp_zz CM
    | 7 => cv_i0 G CM
    | 8 => cv_i1 G CM
    | 9 => cv_i2 G CM
    | 10 => cv_thr G CM
    | _ => CM
theorem cs_rev1 {a w z : List Value} {v : Value} (h : a.reverse ++ w = v :: z) (hl : a.length = 1) : a = [v] ∧ w = z := by
  match a, hl with
  | [b], _ =>
    have h_ : b :: w = v :: z := h
    cases h_
    exact ⟨rfl, rfl⟩
theorem cs_rev {a w z : List Value} (h : a.reverse ++ w = z) (hl : a.length = z.length) : a = z.reverse ∧ w = [] := by
  have l_ := congrArg List.length h
  rw [List.length_append, List.length_reverse] at l_
  have w_ : w = [] := List.eq_nil_of_length_eq_zero (by omega)
  rw [w_, List.append_nil] at h
  exact ⟨by rw [← h, List.reverse_reverse], w_⟩
section CSQ
variable {G : am_G} {u : cs_E} {L : List (Option Value)} {w a : List Value} {h : List am_C} {A : List cs_S}
theorem cs_v.s8 {s : cs_S} {v : Value} (k : cs_v G u s v) (n : s.1 ≤ 8) (T' : sp_T) (r' : Nat → Nat) (t' v' b' : Int) : cs_v G (u.1, u.2.1, u.2.2.1, u.2.2.2.1, T', r', t', v', b') s v := by
  obtain ⟨s1, s2⟩ := s
  have n_ : s1 ≤ 8 := n
  match s1, n_, k with
  | 0, _, _ => trivial
  | 1, _, k =>
    have k_ : v = .ref 0 := k
    exact k_
  | 2, _, k =>
    have k_ : v = .ref u.1 := k
    exact k_
  | 3, _, k =>
    have k_ : v = .ref u.2.1 := k
    exact k_
  | 4, _, k =>
    have k_ : v = .ref u.2.2.1 := k
    exact k_
  | 5, _, k =>
    have k_ : v = .int u.2.2.2.1 := k
    exact k_
  | 6, _, k =>
    have k_ : v = .int (Int32.ofInt s2) := k
    exact k_
  | 7, _, k =>
    have k_ : v = .int (u.2.2.2.1 + Int32.ofInt s2) := k
    exact k_
  | 8, _, k =>
    have k_ : v = .int (cs_e G u.2.2.2.1 s2) := k
    exact k_
  | n_ + 9, h9_, _ => exact absurd h9_ (by omega)
theorem cs_lo.n8 (lo : cs_lo G u A L) (h8 : cs_n8 A = true) (T' : sp_T) (r' : Nat → Nat) (t' v' b' : Int) : cs_lo G (u.1, u.2.1, u.2.2.1, u.2.2.2.1, T', r', t', v', b') A L := lo.up fun s hs v k => k.s8 (Nat.le_of_ble_eq_true (List.all_eq_true.mp h8 s hs)) T' r' t' v' b'
theorem cs_lo.n9 (lo : cs_lo G u A L) (h9 : cs_n9 A = true) (T' : sp_T) (v' b' : Int) : cs_lo G (u.1, u.2.1, u.2.2.1, u.2.2.2.1, T', u.2.2.2.2.2.1, u.2.2.2.2.2.2.1, v', b') A L := lo.up fun s hs v k => by
  rcases Bool.or_eq_true_iff.mp (List.all_eq_true.mp h9 s hs) with y_ | y_
  · exact k.s8 (Nat.le_of_ble_eq_true y_) _ _ _ _ _
  · have e_ := ck_beq y_
    have k2_ := k.a11 e_
    unfold cs_v
    rw [e_]
    exact k2_
theorem cs_s1 {s : cs_S} (k : cs_st G u [s] w) (n : s.1 ≠ 10) : ∃ v : Value, w = [v] ∧ cs_v G u s v := by
  obtain ⟨v_, w_, e_, k_, k2_⟩ := k.ne n
  have w2_ : w_ = [] := k2_
  exact ⟨v_, by rw [e_, w2_], k_⟩
theorem cs_s2 {s t : cs_S} (k : cs_st G u [s, t] w) (n : s.1 ≠ 10) (n2 : t.1 ≠ 10) : ∃ v v2 : Value, w = [v, v2] ∧ cs_v G u s v ∧ cs_v G u t v2 := by
  obtain ⟨v_, w_, e_, k_, k2_⟩ := k.ne n
  obtain ⟨v2_, e2_, k3_⟩ := cs_s1 k2_ n2
  exact ⟨v_, v2_, by rw [e_, e2_], k_, k3_⟩
theorem cs_s3 {s t t2 : cs_S} (k : cs_st G u [s, t, t2] w) (n : s.1 ≠ 10) (n2 : t.1 ≠ 10) (n3 : t2.1 ≠ 10) : ∃ v v2 v3 : Value, w = [v, v2, v3] ∧ cs_v G u s v ∧ cs_v G u t v2 ∧ cs_v G u t2 v3 := by
  obtain ⟨v_, w_, e_, k_, k2_⟩ := k.ne n
  obtain ⟨v2_, v3_, e2_, k3_, k4_⟩ := cs_s2 k2_ n2 n3
  exact ⟨v_, v2_, v3_, by rw [e_, e2_], k_, k3_, k4_⟩
theorem cs_s4 {s t t2 t3 : cs_S} (k : cs_st G u [s, t, t2, t3] w) (n : s.1 ≠ 10) (n2 : t.1 ≠ 10) (n3 : t2.1 ≠ 10) (n4 : t3.1 ≠ 10) : ∃ v v2 v3 v4 : Value, w = [v, v2, v3, v4] ∧ cs_v G u s v ∧ cs_v G u t v2 ∧ cs_v G u t2 v3 ∧ cs_v G u t3 v4 := by
  obtain ⟨v_, w_, e_, k_, k2_⟩ := k.ne n
  obtain ⟨v2_, v3_, v4_, e2_, k3_, k4_, k5_⟩ := cs_s3 k2_ n2 n3 n4
  exact ⟨v_, v2_, v3_, v4_, by rw [e_, e2_], k_, k3_, k4_, k5_⟩
/-- the arguments of a changing call of the class -/
theorem cs_argC {k : Nat} (hk : Nat.ble k 2 = true) (hl : a.length = k + 2) (q : cs_st G u ((4, 0) :: (cs_ar k ++ [(2, 0)])) (a.reverse ++ w)) : a = .ref u.1 :: (([.int (cs_e G u.2.2.2.1 1), .int (cs_e G u.2.2.2.1 2)] : List Value).take k ++ [.ref u.2.2.1]) ∧ w = [] := by
  have k_ := Nat.le_of_ble_eq_true hk
  match k, k_ with
  | 0, _ =>
    obtain ⟨v_, v2_, e_, y1_, y2_⟩ := cs_s2 q (by decide) (by decide)
    obtain ⟨a_, w_⟩ := cs_rev e_ hl
    have y1_ : v_ = .ref u.2.2.1 := y1_
    have y2_ : v2_ = .ref u.1 := y2_
    rw [y1_, y2_] at a_
    exact ⟨a_, w_⟩
  | 1, _ =>
    obtain ⟨v_, v2_, v3_, e_, y1_, y2_, y3_⟩ := cs_s3 q (by decide) (by decide) (by decide)
    obtain ⟨a_, w_⟩ := cs_rev e_ hl
    have y1_ : v_ = .ref u.2.2.1 := y1_
    have y2_ : v2_ = .int (cs_e G u.2.2.2.1 1) := y2_
    have y3_ : v3_ = .ref u.1 := y3_
    rw [y1_, y2_, y3_] at a_
    exact ⟨a_, w_⟩
  | 2, _ =>
    obtain ⟨v_, v2_, v3_, v4_, e_, y1_, y2_, y3_, y4_⟩ := cs_s4 q (by decide) (by decide) (by decide) (by decide)
    obtain ⟨a_, w_⟩ := cs_rev e_ hl
    have y1_ : v_ = .ref u.2.2.1 := y1_
    have y2_ : v2_ = .int (cs_e G u.2.2.2.1 2) := y2_
    have y3_ : v3_ = .int (cs_e G u.2.2.2.1 1) := y3_
    have y4_ : v4_ = .ref u.1 := y4_
    rw [y1_, y2_, y3_, y4_] at a_
    exact ⟨a_, w_⟩
  | n_ + 3, k2_ => omega
theorem cs_argR {k : Nat} (hk : Nat.ble k 2 = true) (hl : a.length = k + 1) (q : cs_st G u (cs_ar k ++ [(3, 0)]) (a.reverse ++ w)) : a = .ref u.2.1 :: ([.int (cs_e G u.2.2.2.1 1), .int (cs_e G u.2.2.2.1 2)] : List Value).take k ∧ w = [] := by
  have k_ := Nat.le_of_ble_eq_true hk
  match k, k_ with
  | 0, _ =>
    obtain ⟨v_, e_, y1_⟩ := cs_s1 q (by decide)
    obtain ⟨a_, w_⟩ := cs_rev e_ hl
    have y1_ : v_ = .ref u.2.1 := y1_
    rw [y1_] at a_
    exact ⟨a_, w_⟩
  | 1, _ =>
    obtain ⟨v_, v2_, e_, y1_, y2_⟩ := cs_s2 q (by decide) (by decide)
    obtain ⟨a_, w_⟩ := cs_rev e_ hl
    have y1_ : v_ = .int (cs_e G u.2.2.2.1 1) := y1_
    have y2_ : v2_ = .ref u.2.1 := y2_
    rw [y1_, y2_] at a_
    exact ⟨a_, w_⟩
  | 2, _ =>
    obtain ⟨v_, v2_, v3_, e_, y1_, y2_, y3_⟩ := cs_s3 q (by decide) (by decide) (by decide)
    obtain ⟨a_, w_⟩ := cs_rev e_ hl
    have y1_ : v_ = .int (cs_e G u.2.2.2.1 2) := y1_
    have y2_ : v2_ = .int (cs_e G u.2.2.2.1 1) := y2_
    have y3_ : v3_ = .ref u.2.1 := y3_
    rw [y1_, y2_, y3_] at a_
    exact ⟨a_, w_⟩
  | n_ + 3, k2_ => omega
/-- the only argument -/
theorem cs_arg1 {s : cs_S} {S : List cs_S} (hl : a.length = 1) (q : cs_st G u (s :: S) (a.reverse ++ w)) (n : s.1 ≠ 10) : ∃ v : Value, a = [v] ∧ cs_v G u s v ∧ cs_st G u S w := by
  obtain ⟨v_, w_, e_, y_, k_⟩ := q.ne n
  obtain ⟨a_, b_⟩ := cs_rev1 e_ hl
  rw [b_]
  exact ⟨v_, a_, y_, k_⟩
set_option maxHeartbeats 1000000 in
theorem cs_q_ok {z : Nat × Nat × Nat} {na mc ms : Nat} {e e' : cs_T} {CM : ck_CM} {P : am_O → List am_C → Prop} (hq : cs_q z na e = some e') (ha : a.length = na) (hc : cs_cm G z CM a h mc ms P) (hI : cs_is G e L (a.reverse ++ w) h) :
    ∃ P2 : am_O → List am_C → Prop, CM a h mc ms P2 ∧ (∀ (v : Option Value) (h' : List am_C), P2 (.inl v) h' → P (.inl v) h' ∧ cs_is G e' L (v.toList ++ w) h') ∧ ∀ (Ex : String) (h' : List am_C), P2 (.inr Ex) h' → P (.inr Ex) h' := by
  obtain ⟨kd, n, k⟩ := z
  obtain ⟨⟨p1, p2⟩, A, S⟩ := e
  obtain ⟨u_, p_, lo_, st_⟩ := hI
  have lo_ : cs_lo G u_ A L := lo_
  have st_ : cs_st G u_ S (a.reverse ++ w) := st_
  unfold cs_q at hq
  unfold cs_cm at hc
  dsimp only at hq hc
  split at hq
  · obtain ⟨c_, d_⟩ := ck_bt' hq
    cases d_
    obtain ⟨c1_, c2_⟩ := Bool.and_eq_true_iff.mp c_
    have n_ := ck_beq c1_
    subst n_
    have m_ : S.length = na := ck_beq c2_
    have l_ : (a.reverse ++ w).length ≤ S.length := st_.le
    rw [List.length_append, List.length_reverse] at l_
    have m2_ : a.length = S.length := ha.trans m_.symm
    have w_ : w = [] := List.eq_nil_of_length_eq_zero (by omega)
    subst w_
    have hc_ : cv_ask G CM a h mc ms P := hc
    exact ⟨_, hc_ u_.1 u_.2.1 u_.2.2.1 u_.2.2.2.2.2.1 u_.2.2.2.2.1 u_.2.2.2.2.1 p_, fun v h' hp => ⟨hp.1, u_, hp.2, lo_, cs_st.opt⟩, fun Ex h' hp => hp.1⟩
  · obtain ⟨c_, d_⟩ := ck_bt' hq
    cases d_
    obtain ⟨c1_, c2_⟩ := Bool.and_eq_true_iff.mp c_
    obtain ⟨c3_, c4_⟩ := Bool.and_eq_true_iff.mp c2_
    obtain ⟨c5_, c6_⟩ := Bool.and_eq_true_iff.mp c4_
    have n_ := ck_beq c1_
    subst n_
    rw [cs_eL_ok c5_] at st_
    obtain ⟨c7_, c8_⟩ := Bool.and_eq_true_iff.mp c6_
    obtain ⟨c9_, c10_⟩ := Bool.and_eq_true_iff.mp c8_
    obtain ⟨a_, w_⟩ := cs_argC c3_ (ha.trans (ck_beq c7_)) st_
    subst w_
    have hc_ : cv_clw G (cs_D n) k CM a h mc ms P := hc
    refine ⟨_, hc_ u_.1 u_.2.1 u_.2.2.1 u_.2.2.2.2.2.1 u_.2.2.2.2.1 (cs_e G u_.2.2.2.1 1) (cs_e G u_.2.2.2.1 2) p_ a_, fun v h' hp => ?_, fun Ex h' hp => hp.1⟩
    obtain ⟨hp1_, v_, th_, T_, th0_, n0_, d_, z_, o_, t_⟩ := hp
    have o_ : v = some (.int (Int32.ofInt th_)) := Sum.inl.inj o_
    subst o_
    exact ⟨hp1_, (u_.1, u_.2.1, u_.2.2.1, u_.2.2.2.1, u_.2.2.2.2.1, u_.2.2.2.2.2.1, th_, v_, 0), ⟨T_, th0_, n0_, z_, d_, t_⟩, lo_.n8 c10_ _ _ _ _ _, Or.inl ⟨_, _, rfl, rfl, rfl⟩⟩
  · obtain ⟨c_, d_⟩ := ck_bt' hq
    cases d_
    obtain ⟨c1_, c2_⟩ := Bool.and_eq_true_iff.mp c_
    obtain ⟨c7_, c8_⟩ := Bool.and_eq_true_iff.mp c1_
    obtain ⟨c3_, c4_⟩ := Bool.and_eq_true_iff.mp c2_
    obtain ⟨c5_, c6_⟩ := Bool.and_eq_true_iff.mp c4_
    obtain ⟨c9_, c11_⟩ := Bool.and_eq_true_iff.mp c6_
    obtain ⟨c10_, c12_⟩ := Bool.and_eq_true_iff.mp c11_
    have n_ := ck_beq c7_
    subst n_
    have n2_ := ck_beq c8_
    have n2_ : p2 = n := n2_
    subst n2_
    rw [cs_eL_ok c5_] at st_
    obtain ⟨a_, w_⟩ := cs_argR c3_ (ha.trans (ck_beq c9_)) st_
    subst w_
    obtain ⟨T_, th0_, n0_, z_, d_, t_⟩ := p_
    have hc_ : cv_rew G (cs_D p2) k CM a h mc ms P := hc
    refine ⟨_, hc_ u_.1 u_.2.1 u_.2.2.1 u_.2.2.2.2.2.1 u_.2.2.2.2.1 T_ (cs_e G u_.2.2.2.1 1) (cs_e G u_.2.2.2.1 2) u_.2.2.2.2.2.2.2.1 u_.2.2.2.2.2.2.1 th0_ n0_ z_ d_ a_, fun v h' hp => ?_, fun Ex h' hp => hp.1⟩
    obtain ⟨hp1_, w_, b_, o_, q_⟩ := hp
    have o_ : v = some (.int (Int32.ofInt b_)) := Sum.inl.inj o_
    subst o_
    have ok_ := z_.2.2.1.2
    exact ⟨hp1_, (u_.1, u_.2.1, u_.2.2.1, u_.2.2.2.1, T_, u_.2.2.2.2.2.1, u_.2.2.2.2.2.2.1, u_.2.2.2.2.2.2.2.1, b_), ⟨n0_, w_, sp_D.bdn ok_.1 ok_.2 c12_ d_, fun y_ => ⟨t_ y_, q_ y_⟩, fun hb y_ => sp_D.bo hb d_ y_⟩, lo_.n9 c10_ _ _ _, Or.inl ⟨_, _, rfl, rfl, rfl⟩⟩
  · obtain ⟨c_, d_⟩ := ck_bt' hq
    cases d_
    obtain ⟨c1_, c2_⟩ := Bool.and_eq_true_iff.mp c_
    obtain ⟨c3_, c4_⟩ := Bool.and_eq_true_iff.mp c2_
    have n_ := ck_beq c1_
    subst n_
    rw [cs_eL_ok c3_] at st_
    obtain ⟨v_, a_, y_, w_⟩ := cs_arg1 (ha.trans (ck_beq c4_)) st_ (by decide)
    have w_ : w = [] := w_
    subst w_
    have y_ : v_ = .ref u_.1 := y_
    rw [y_] at a_
    have hc_ : cv_cls0 G (cs_D n) CM a h mc ms P := hc
    exact ⟨_, hc_ u_.1 u_.2.1 u_.2.2.1 u_.2.2.2.2.2.1 u_.2.2.2.2.1 (cs_e G u_.2.2.2.1 1) (cs_e G u_.2.2.2.1 2) p_ a_, fun v h' hp => ⟨hp.1, u_, by
      obtain ⟨v_, th_, T_, d_, z_, -⟩ := hp.2
      exact ⟨T_, z_, v_, th_, d_⟩, lo_, cs_st.opt⟩, fun Ex h' hp => hp.1⟩
  · obtain ⟨c_, d_⟩ := ck_bt' hq
    cases d_
    obtain ⟨c1_, c2_⟩ := Bool.and_eq_true_iff.mp c_
    obtain ⟨c7_, c8_⟩ := Bool.and_eq_true_iff.mp c1_
    obtain ⟨c3_, c4_⟩ := Bool.and_eq_true_iff.mp c2_
    obtain ⟨c9_, c10_⟩ := Bool.and_eq_true_iff.mp c4_
    have n_ := ck_beq c7_
    subst n_
    have n2_ := ck_beq c8_
    have n2_ : p2 = n := n2_
    subst n2_
    rw [cs_eL_ok c3_] at st_
    obtain ⟨v_, a_, y_, w_⟩ := cs_arg1 (ha.trans (ck_beq c9_)) st_ (by decide)
    have w_ : w = [] := w_
    subst w_
    have y_ : v_ = .ref u_.2.1 := y_
    rw [y_] at a_
    obtain ⟨T_, z_, d_⟩ := p_
    have hc_ : cv_ref0 G (cs_D p2) CM a h mc ms P := hc
    exact ⟨_, hc_ u_.1 u_.2.1 u_.2.2.1 u_.2.2.2.2.2.1 u_.2.2.2.2.1 T_ (cs_e G u_.2.2.2.1 1) (cs_e G u_.2.2.2.1 2) z_ d_ a_, fun v h' hp => ⟨hp.1, (u_.1, u_.2.1, u_.2.2.1, u_.2.2.2.1, T_, u_.2.2.2.2.2), hp.2.1, lo_.n9 c10_ T_ _ _, cs_st.opt⟩, fun Ex h' hp => hp.1⟩
  · obtain ⟨c_, d_⟩ := ck_bt' hq
    cases d_
    obtain ⟨c1_, c2_⟩ := Bool.and_eq_true_iff.mp c_
    obtain ⟨c3_, c4_⟩ := Bool.and_eq_true_iff.mp c2_
    have n_ := ck_beq c1_
    subst n_
    rw [cs_eL_ok c3_] at st_
    obtain ⟨v_, a_, y_, w_⟩ := cs_arg1 (ha.trans (ck_beq c4_)) st_ (by decide)
    have w_ : w = [] := w_
    subst w_
    have y_ : v_ = .ref u_.1 := y_
    rw [y_] at a_
    have hc_ : cv_cls0 G sp_zz CM a h mc ms P := hc
    refine ⟨_, hc_ u_.1 u_.2.1 u_.2.2.1 u_.2.2.2.2.2.1 u_.2.2.2.2.1 0 0 p_ a_, fun v h' hp => ?_, fun Ex h' hp => hp.1⟩
    obtain ⟨hp1_, v2_, th_, T_, ⟨-, d2_, d3_⟩, z_, o_⟩ := hp
    have o_ : v = some (.int (Int32.ofInt v2_)) := Sum.inl.inj o_
    subst o_
    subst d3_
    subst d2_
    exact ⟨hp1_, u_, z_, lo_, Or.inl ⟨_, _, rfl, rfl, rfl⟩⟩
  · obtain ⟨c_, d_⟩ := ck_bt' hq
    cases d_
    obtain ⟨c1_, c2_⟩ := Bool.and_eq_true_iff.mp c_
    obtain ⟨c3_, c4_⟩ := Bool.and_eq_true_iff.mp c2_
    have n_ := ck_beq c1_
    subst n_
    cases S with
    | nil => cases c3_
    | cons s_ S_ =>
      have s3_ : s_ = (3, 0) := cs_e1_ok c3_
      subst s3_
      obtain ⟨v_, a_, y_, k_⟩ := cs_arg1 (ha.trans (ck_beq c4_)) st_ (by decide)
      have y_ : v_ = .ref u_.2.1 := y_
      rw [y_] at a_
      have hc_ : cv_ref0 G sp_zz CM a h mc ms P := hc
      refine ⟨_, hc_ u_.1 u_.2.1 u_.2.2.1 u_.2.2.2.2.2.1 u_.2.2.2.2.1 u_.2.2.2.2.1 0 0 p_ ⟨_, 0, rfl, rfl, rfl⟩ a_, fun v h' hp => ?_, fun Ex h' hp => hp.1⟩
      obtain ⟨hp1_, z_, v2_, th_, ⟨-, d2_, -⟩, o_⟩ := hp
      have o_ : v = some (.int (Int32.ofInt v2_)) := Sum.inl.inj o_
      subst o_
      subst d2_
      exact ⟨hp1_, u_, z_, lo_, Or.inl ⟨_, _, rfl, rfl, k_⟩⟩
  · obtain ⟨c_, d_⟩ := ck_bt' hq
    cases d_
    obtain ⟨c1_, c2_⟩ := Bool.and_eq_true_iff.mp c_
    obtain ⟨c3_, c4_⟩ := Bool.and_eq_true_iff.mp c2_
    have n_ := ck_beq c1_
    subst n_
    rw [cs_eL_ok c3_] at st_
    obtain ⟨v_, a_, y_, k_⟩ := cs_arg1 (ha.trans (ck_beq c4_)) st_ (by decide)
    have y_ : v_ = .ref u_.1 := y_
    rw [y_] at a_
    have hc_ : cv_i0 G CM a h mc ms P := hc
    refine ⟨_, hc_ u_.1 p_ a_, fun v h' hp => ?_, fun Ex h' hp => hp.1⟩
    obtain ⟨hp1_, o_, r_, z_⟩ := hp
    have o_ : v = none := Sum.inl.inj o_
    subst o_
    exact ⟨hp1_, (u_.1, u_.2.1, u_.2.2.1, u_.2.2.2.1, u_.2.2.2.2.1, r_, u_.2.2.2.2.2.2), z_, lo_.up fun s hs v k => k, by
      obtain ⟨v2_, e2_, k2_⟩ := cs_s1 k_ (by decide)
      rw [e2_]
      exact Or.inl ⟨_, _, rfl, k2_, rfl⟩⟩
  · obtain ⟨c_, d_⟩ := ck_bt' hq
    cases d_
    obtain ⟨c1_, c2_⟩ := Bool.and_eq_true_iff.mp c_
    obtain ⟨c3_, c4_⟩ := Bool.and_eq_true_iff.mp c2_
    have n_ := ck_beq c1_
    subst n_
    rw [cs_eL_ok c3_] at st_
    obtain ⟨v_, a_, y_, k_⟩ := cs_arg1 (ha.trans (ck_beq c4_)) st_ (by decide)
    have y_ : v_ = .ref u_.2.1 := y_
    rw [y_] at a_
    have hc_ : cv_i1 G CM a h mc ms P := hc
    refine ⟨_, hc_ u_.1 u_.2.1 u_.2.2.2.2.2.1 p_ a_, fun v h' hp => ?_, fun Ex h' hp => hp.1⟩
    obtain ⟨hp1_, o_, z_⟩ := hp
    have o_ : v = none := Sum.inl.inj o_
    subst o_
    exact ⟨hp1_, u_, z_, lo_, k_⟩
  · obtain ⟨c_, d_⟩ := ck_bt' hq
    cases d_
    obtain ⟨c1_, c2_⟩ := Bool.and_eq_true_iff.mp c_
    obtain ⟨c3_, c4_⟩ := Bool.and_eq_true_iff.mp c2_
    obtain ⟨c5_, c6_⟩ := Bool.and_eq_true_iff.mp c4_
    have n_ := ck_beq c1_
    subst n_
    rw [cs_eL_ok c3_] at st_
    obtain ⟨v_, a_, y_, k_⟩ := cs_arg1 (ha.trans (ck_beq c5_)) st_ (by decide)
    have y_ : v_ = .ref u_.2.2.1 := y_
    rw [y_] at a_
    have hc_ : cv_i2 G CM a h mc ms P := hc
    refine ⟨_, hc_ u_.1 u_.2.1 u_.2.2.1 u_.2.2.2.2.2.1 p_ a_, fun v h' hp => ?_, fun Ex h' hp => hp.1⟩
    obtain ⟨hp1_, o_, z_⟩ := hp
    have o_ : v = none := Sum.inl.inj o_
    subst o_
    exact ⟨hp1_, (u_.1, u_.2.1, u_.2.2.1, u_.2.2.2.1, zi_T, u_.2.2.2.2.2), z_, lo_.n9 c6_ zi_T _ _, by
      obtain ⟨v2_, e2_, k2_⟩ := cs_s1 k_ (by decide)
      rw [e2_]
      exact Or.inl ⟨_, _, rfl, k2_, rfl⟩⟩
  · obtain ⟨c_, d_⟩ := ck_bt' hq
    cases d_
    obtain ⟨c1_, c2_⟩ := Bool.and_eq_true_iff.mp c_
    obtain ⟨c3_, c4_⟩ := Bool.and_eq_true_iff.mp c2_
    cases S with
    | nil => cases c4_
    | cons s_ S_ =>
      have s3_ : s_ = (3, 0) := cs_e1_ok c4_
      subst s3_
      obtain ⟨v_, a_, y_, k_⟩ := cs_arg1 (ha.trans (ck_beq c3_)) st_ (by decide)
      have y_ : v_ = .ref u_.2.1 := y_
      rw [y_] at a_
      have hc_ : cv_thr G CM a h mc ms P := hc
      rcases Bool.or_eq_true_iff.mp c1_ with n_ | n_
      · have n_ : p1 = 8 := ck_beq n_
        subst n_
        obtain ⟨n0_, w_, b_, t_⟩ := p_
        refine ⟨_, hc_ u_.1 u_.2.1 u_.2.2.1 u_.2.2.2.2.2.1 u_.2.2.2.2.1 u_.2.2.2.2.1 u_.2.2.2.2.2.2.1 n0_ w_ a_, fun v h' hp => ?_, fun Ex h' hp => hp.1⟩
        obtain ⟨hp1_, z_, o_⟩ := hp
        have o_ : v = some (.int (Int32.ofInt u_.2.2.2.2.2.2.1)) := Sum.inl.inj o_
        subst o_
        exact ⟨hp1_, u_, ⟨n0_, z_, b_, t_⟩, lo_, Or.inl ⟨_, _, rfl, rfl, k_⟩⟩
      · have n_ : p1 = 9 := ck_beq n_
        subst n_
        obtain ⟨w_, t_⟩ := p_
        refine ⟨_, hc_ u_.1 u_.2.1 u_.2.2.1 u_.2.2.2.2.2.1 u_.2.2.2.2.1 u_.2.2.2.2.1 u_.2.2.2.2.2.2.1 _ w_ a_, fun v h' hp => ?_, fun Ex h' hp => hp.1⟩
        obtain ⟨hp1_, z_, o_⟩ := hp
        have o_ : v = some (.int (Int32.ofInt u_.2.2.2.2.2.2.1)) := Sum.inl.inj o_
        subst o_
        exact ⟨hp1_, u_, ⟨z_, t_⟩, lo_, Or.inl ⟨_, _, rfl, rfl, k_⟩⟩
  · cases hq
end CSQ
/-- kinds for raw cells leave what is known -/
theorem cs_ph.rt {G : am_G} {p : Nat × Nat} {u : cs_E} {h : List am_C} (I : cs_ph G p u h) {q t t' : Nat} {vs : List Value} (hg : am_g G h q = some (t, vs)) (hq : 1000 ≤ q) (h1 : t < 1000) (ht : t' % 100 = t % 100) : cs_ph G p u (am_s h q (t', vs)) := by
  unfold cs_ph at I ⊢
  split at I
  · trivial
  · exact I.rt hg hq ht
  · exact I.rt hg hq h1 ht
  · exact I.rt hg hq h1 ht
  · exact I.rt hg hq h1 ht
  · exact ⟨I.1, I.2.rt hg hq h1 ht⟩
  · exact I.rt hg hq h1 ht
  · obtain ⟨T_, c_, d_, a_, b_⟩ := I
    exact ⟨T_, c_, d_, a_.rt hg hq h1 ht, b_⟩
  · obtain ⟨c_, a_, b_⟩ := I
    exact ⟨c_, a_.rt hg hq h1 ht, b_⟩
  · exact ⟨I.1.rt hg hq h1 ht, I.2⟩
  · obtain ⟨T_, a_, b_⟩ := I
    exact ⟨T_, a_.rt hg hq h1 ht, b_⟩
  · exact ⟨I.1.rt hg hq h1 ht, I.2⟩
  · exact ⟨I.1.rt hg hq h1 ht, I.2⟩
  · exact I.elim
theorem cs_I.rt {G : am_G} {tb : Nat → Option cs_T} {pc : Nat} {L : List (Option Value)} {w : List Value} {h : List am_C} (I : cs_I G tb pc L w h) {q t t' : Nat} {vs : List Value} (hg : am_g G h q = some (t, vs)) (hq : 1000 ≤ q) (h1 : t < 1000) (ht : t' % 100 = t % 100) : cs_I G tb pc L w (am_s h q (t', vs)) := by
  obtain ⟨e_, t_, u_, p_, a_⟩ := I
  exact ⟨e_, t_, u_, p_.rt hg hq h1 ht, a_⟩
theorem cn_lift16 {G : am_G} {Iv : Nat → List (Option Value) → List Value → List am_C → Prop} {S : ck_SS} {SX : Nat → ck_SX} {P : am_O → List am_C → Prop} {Rc Rs : Nat} {cm cm' : Nat → ck_CM} {E : ck_E} {pc f f2 nx tg na : Nat} {v : Int} {ex : List (Int × Nat)} {rc : Option Nat} {cs : List ck_KK} (hcl : E.2.2.2.2.2.1[f]? = some (rc, na, cs)) (h : ck_os G S SX P Rc Rs cm E pc (16, f, f2, v, nx, tg, ex))
    (w : ∀ (a : List Value) (L : List (Option Value)) (st : List Value) (h : List am_C) (mc ms : Nat) (P' : am_O → List am_C → Prop), a.length = na → cm' f a h mc ms P' → Iv pc L (a.reverse ++ st) h → ∃ P2 : am_O → List am_C → Prop, cm f a h mc ms P2 ∧ (∀ (v : Option Value) (h' : List am_C), P2 (.inl v) h' → P' (.inl v) h' ∧ Iv nx L (v.toList ++ st) h') ∧ ∀ (Ex : String) (h' : List am_C), P2 (.inr Ex) h' → P' (.inr Ex) h') : ck_os G (cn_S Iv S) SX P Rc Rs cm' E pc (16, f, f2, v, nx, tg, ex) := by
  obtain ⟨T, pr, own, nL, code, cl, hds, gh, cuts⟩ := E
  have hcl_ : cl[f]? = some (rc, na, cs) := hcl
  have h_ : (match cl[f]? with
      | some (rc, na, _) => ck_sQ G S (SX pc) Rc Rs nL pc nx rc (cm f) na
      | none => True) := h
  show (match cl[f]? with
      | some (rc, na, _) => ck_sQ G (cn_S Iv S) (SX pc) Rc Rs nL pc nx rc (cm' f) na
      | none => True)
  rw [hcl_] at h_ ⊢
  have h2_ : ck_sQ G S (SX pc) Rc Rs nL pc nx rc (cm f) na := h_
  show ck_sQ G (cn_S Iv S) (SX pc) Rc Rs nL pc nx rc (cm' f) na
  intro a L st h' k n mc ms P' hCM e1 e2 e3 e4 e5 e6 kr kx hl
  obtain ⟨P2_, c1_, c2_, c3_⟩ := w a L st h' mc ms P' e1 hCM hl
  exact h2_ a L st h' k n mc ms P2_ c1_ e1 e2 e3 e4 e5 e6 (fun v h2 hp => kr v h2 (c2_ v h2 hp).1 (c2_ v h2 hp).2) (fun Ex h2 hp => kx Ex h2 (c3_ Ex h2 hp))
def cs_ck (tb : Nat → Option cs_T) (cz : List (Nat × Nat × Nat)) (gi : List ck_Cl) (x : Nat × ck_O) : Bool := match tb x.1 with
  | none => false
  | some e => bif Nat.beq x.2.1 16 then (match cz[x.2.2.1]?, gi[x.2.2.1]? with
    | some z, some y => (match cs_q z y.2.1 e with
      | some d => cs_at tb x.2.2.2.2.2.1 d
      | none => false)
    | _, _ => false) else (match cs_stp x.2 e with
    | some l => l.all fun y => cs_at tb y.1 y.2
    | none => false)
theorem cs_ck_ok {G : am_G} (hr : ∀ (j : Int32) (v : Value), cs_sc G j = some v → ∃ x : Int32, v = .int x) {S : ck_SS} {SX : Nat → ck_SX} {P : am_O → List am_C → Prop} {Rc Rs : Nat} {cm cm' : Nat → ck_CM} {E : ck_E} {pc : Nat} {o : ck_O} {tb : Nat → Option cs_T} {cz : List (Nat × Nat × Nat)} (hcm : ∀ (f : Nat) (z : Nat × Nat × Nat), cz[f]? = some z → cm' f = cs_cm G z (cm f)) (h : ck_os G S SX P Rc Rs cm E pc o) (hc : cs_ck tb cz E.2.2.2.2.2.1 (pc, o) = true) : ck_os G (cn_S (cs_I G tb) S) SX P Rc Rs cm' E pc o := by
  unfold cs_ck at hc
  dsimp only at hc
  split at hc
  · cases hc
  · next e_ he_ =>
    cases hb_ : Nat.beq o.1 16
    · rw [hb_, cond_false] at hc
      split at hc
      · next l_ hl_ =>
        obtain ⟨c, f, f2, v, nx, tg, ex⟩ := o
        by_cases c1_ : c = 1
        · subst c1_
          exact cs_if_ok h he_ hl_ fun y hy => List.all_eq_true.mp hc y hy
        · by_cases c7_ : c = 7
          · subst c7_
            exact cs_get_ok h he_ hl_ fun y hy => List.all_eq_true.mp hc y hy
          · exact cn_lift h (cs_stp_ok hr c1_ c7_ he_ hl_ fun y hy => List.all_eq_true.mp hc y hy)
      · cases hc
    · rw [hb_, cond_true] at hc
      split at hc
      · next z_ y_ hz_ hy_ =>
        split at hc
        · next d_ hd_ =>
          obtain ⟨c, f, f2, v, nx, tg, ex⟩ := o
          have c_ : c = 16 := ck_beq hb_
          subst c_
          obtain ⟨rc, na, cs⟩ := y_
          refine cn_lift16 hy_ h fun a L st h' mc ms P' ha hCM hI => ?_
          obtain ⟨e2_, t_, i_⟩ := hI
          rw [he_] at t_
          cases t_
          have f_ : cm' f = cs_cm G z_ (cm f) := hcm f z_ hz_
          rw [f_] at hCM
          obtain ⟨P2_, q1_, q2_, q3_⟩ := cs_q_ok hd_ ha hCM i_
          exact ⟨P2_, q1_, fun v h2 hp => ⟨(q2_ v h2 hp).1, cs_wk hc (q2_ v h2 hp).2⟩, q3_⟩
        · cases hc
      · cases hc
theorem ck_cms_zip {G : am_G} : ∀ {cz : List (Nat × Nat × Nat)} {l : List ck_CM} {f : Nat} {z : Nat × Nat × Nat}, cz[f]? = some z → f < l.length → ck_cms (List.zipWith (cs_cm G) cz l) f = cs_cm G z (ck_cms l f) := by
  intro cz
  induction cz with
  | nil =>
    intro l f z h
    simp at h
  | cons y_ w_ ih =>
    intro l f z h hl
    cases l with
    | nil => exact absurd hl (Nat.not_lt_zero _)
    | cons c_ u_ =>
      cases f with
      | zero =>
        have h_ : some y_ = some z := h
        cases h_
        rfl
      | succ n_ =>
        rw [List.getElem?_cons_succ] at h
        have hl_ : n_ < u_.length := by
          rw [List.length_cons] at hl
          omega
        exact ih h hl_
