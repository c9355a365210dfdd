/-! HOW FAR THE ANSWERS REACH -/
def sp_bd (a th : Int) : Prop := (0 ≤ th ∧ th ≤ 9) ∧ (th = 0 → -2147483648 ≤ a ∧ a ≤ 2147483647)
/-- answers that are 0 or 1 -/
def cs_isb (n : Nat) : Bool := Nat.beq n 12
def cs_D (n : Nat) : Int → Int → sp_T → Int → Int → sp_T → Prop := match n with
  | 0 => sp_d0
  | 1 => sp_d1
  | 2 => sp_d2
  | 3 => sp_d3
  | 4 => sp_d4
  | 5 => sp_d5
  | 6 => sp_d6
  | 7 => sp_d7
  | 8 => sp_d8
  | 9 => sp_d9
  | 10 => sp_d10
  | 11 => sp_d11
  | 12 => sp_d12
  | 13 => sp_d13
  | 14 => sp_d14
  | 15 => sp_d15
  | 16 => sp_d16
  | 17 => sp_d17
  | 21 => sp_q21
  | 27 => sp_q27
  | 28 => sp_q28
  | 29 => sp_q29
  | 30 => sp_q30
  | 31 => sp_q31
  | 34 => sp_q34
  | 39 => sp_q39
  | 40 => sp_q40
  | 42 => sp_q42
  | 38 => sp_q38
  | _ => sp_zz
/-- calls that change, and asks, whose answers are numbers -/
def cs_nq (n : Nat) : Bool := Nat.beq n 21 || Nat.beq n 27 || Nat.beq n 28 || Nat.beq n 29 || Nat.beq n 30 || Nat.beq n 31 || Nat.beq n 34 || Nat.beq n 39 || Nat.beq n 40 || Nat.beq n 42
def cs_nb0 (n : Nat) : Bool := Nat.blt n 17 || cs_nq n
def cs_nb (n : Nat) : Bool := cs_nb0 n || Nat.beq n 38
section SPB
variable {T T' : sp_T} {e e2 z a th w : Int} {R : Int → Prop}
theorem sp_bd.no (hw : 1 ≤ w ∧ w ≤ 9) (h : th = w) : sp_bd a th := ⟨by omega, fun y_ => by omega⟩
theorem sp_bd.yes (h : th = 0) (h1 : -2147483648 ≤ a) (h2 : a ≤ 2147483647) : sp_bd a th := ⟨by omega, fun _ => ⟨h1, h2⟩⟩
theorem sp_num.bd (hw : 1 ≤ w ∧ w ≤ 9) (h : sp_num T e z a th T' w) : sp_bd a th := by
  rcases h with ⟨a1_, a2_, -, d_, a4_, a5_⟩ | ⟨-, a2_, -⟩
  · have l_ := a5_.le (n := 36) (by decide) (sp_in.abs.mp a1_)
    exact sp_bd.yes a2_ (by omega) (by omega)
  · exact sp_bd.no hw a2_
theorem sp_rnd.bd (hR : 0 < T.1.1 → R a → a ≤ 400) (h : sp_rnd T e R a th T') : sp_bd a th := by
  obtain ⟨a1_, b_⟩ := h
  rcases b_ with ⟨-, a2_, -⟩ | ⟨a3_, a4_, ⟨a5_, -⟩ | ⟨a5_, -⟩⟩
  · exact sp_bd.yes a1_ (by omega) (by omega)
  · exact sp_bd.yes a1_ (by omega) (by omega)
  · have l_ := hR a3_ a4_
    exact sp_bd.yes a1_ (by omega) (by omega)
theorem sp_md.le (hk : T.1.1 ≤ 400) {b : Int} (hp : 0 < T.1.1) (h : a = b % T.1.1) : a ≤ 400 := by
  have l_ := Int.emod_lt_of_pos b hp
  omega
theorem zc_pw.le {k m : Nat} (hm : 0 < m) (hk : m ≤ 400) (h : zc_pw k m e a) : a ≤ 400 := by
  rcases h with ⟨-, -, a_⟩ | ⟨-, f_, -, -, -, a_⟩
  · omega
  · have l_ := Nat.mod_lt (f_ ^ e.natAbs) hm
    omega
theorem sm_inv.le {k m : Nat} (hk : m ≤ 400) (h : sm_inv k m a) : a ≤ 400 := by
  rcases h with ⟨-, a_⟩ | ⟨-, -, a_, -⟩
  · omega
  · omega
theorem sp_D.bd {n : Nat} (hk : sp_ok T.1) (h12 : T.2.1.length ≤ 12) (hn : n < 17) (h : cs_D n e e2 T a th T') : sp_bd a th := by
  obtain ⟨⟨k1_, k2_⟩, -, ⟨k3_, -⟩, ⟨k4_, k5_⟩⟩ := hk
  match n, hn, h with
  | 0, _, h =>
    rcases h with ⟨-, a1_, a2_, -⟩ | ⟨-, a1_, -⟩
    · exact sp_bd.yes a1_ (by omega) (by omega)
    · exact sp_bd.no (by decide) a1_
  | 1, _, h =>
    rcases h with ⟨-, h_⟩ | ⟨-, a1_, -⟩
    · exact sp_num.bd (by decide) h_
    · exact sp_bd.no (by decide) a1_
  | 2, _, h =>
    rcases h with ⟨-, ⟨-, h_⟩ | ⟨-, a1_, -⟩⟩ | ⟨-, a1_, -⟩
    · exact sp_num.bd (by decide) h_
    · exact sp_bd.no (by decide) a1_
    · exact sp_bd.no (by decide) a1_
  | 3, _, h =>
    rcases h with ⟨-, h_⟩ | ⟨-, a1_, -⟩
    · exact sp_num.bd (by decide) h_
    · exact sp_bd.no (by decide) a1_
  | 4, _, h =>
    rcases h with ⟨-, h_⟩ | ⟨-, a1_, -⟩
    · exact sp_num.bd (by decide) h_
    · exact sp_bd.no (by decide) a1_
  | 5, _, h =>
    rcases h with ⟨-, a1_, a2_, -⟩ | ⟨-, a1_, -⟩
    · have s_ : -1 ≤ (sp_at T e).sign ∧ (sp_at T e).sign ≤ 1 := by
        rcases Int.lt_trichotomy (sp_at T e) 0 with y_ | y_ | y_
        · rw [Int.sign_eq_neg_one_of_neg y_]
          decide
        · rw [y_]
          decide
        · rw [Int.sign_eq_one_of_pos y_]
          decide
      exact sp_bd.yes a1_ (by omega) (by omega)
    · exact sp_bd.no (by decide) a1_
  | 6, _, h =>
    rcases h with ⟨-, h_⟩ | ⟨-, a1_, -⟩
    · exact sp_rnd.bd (fun hp hr => sp_md.le k2_ hp hr) h_
    · exact sp_bd.no (by decide) a1_
  | 7, _, h =>
    rcases h with ⟨-, h_⟩ | ⟨-, a1_, -⟩
    · exact sp_rnd.bd (fun hp hr => sp_md.le k2_ hp hr) h_
    · exact sp_bd.no (by decide) a1_
  | 8, _, h =>
    rcases h with ⟨-, h_⟩ | ⟨-, a1_, -⟩
    · exact sp_rnd.bd (fun hp hr => sp_md.le k2_ hp hr) h_
    · exact sp_bd.no (by decide) a1_
  | 9, _, h =>
    rcases h with ⟨-, h_⟩ | ⟨-, a1_, -⟩
    · exact sp_rnd.bd (fun hp hr => zc_pw.le (by omega) (by omega) hr) h_
    · exact sp_bd.no (by decide) a1_
  | 10, _, h =>
    rcases h with ⟨-, h_⟩ | ⟨-, a1_, -⟩
    · exact sp_rnd.bd (fun hp hr => sm_inv.le (by omega) hr) h_
    · exact sp_bd.no (by decide) a1_
  | 11, _, h =>
    rcases h with ⟨-, ⟨b_, a1_, a2_, -⟩ | ⟨-, a1_, -⟩⟩ | ⟨-, a1_, -⟩
    · exact sp_bd.yes a1_ (by omega) (by omega)
    · exact sp_bd.no (by decide) a1_
    · exact sp_bd.no (by decide) a1_
  | 12, _, h =>
    rcases h with ⟨-, ⟨b_, a1_, ⟨-, a2_, -⟩ | ⟨-, a2_, -⟩⟩ | ⟨-, a1_, -⟩⟩ | ⟨-, a1_, -⟩
    · exact sp_bd.yes a1_ (by omega) (by omega)
    · exact sp_bd.yes a1_ (by omega) (by omega)
    · exact sp_bd.no (by decide) a1_
    · exact sp_bd.no (by decide) a1_
  | 13, _, h =>
    rcases h with ⟨-, a1_, a2_, -⟩ | ⟨-, a1_, -⟩
    · have l_ := List.length_eraseIdx_le T.1.2.2.1 e.toNat
      exact sp_bd.yes a1_ (by omega) (by omega)
    · exact sp_bd.no (by decide) a1_
  | 14, _, h =>
    rcases h with ⟨-, ⟨-, a1_, a2_, -⟩ | ⟨-, a1_, -⟩⟩ | ⟨-, a1_, -⟩
    · exact sp_bd.yes a1_ (by omega) (by omega)
    · exact sp_bd.no (by decide) a1_
    · exact sp_bd.no (by decide) a1_
  | 15, _, h =>
    rcases h with ⟨B_, b_, e_, a1_, a2_, -⟩ | ⟨-, a1_, -⟩
    · have l_ := k5_ b_ (by rw [e_]; exact List.mem_append.mpr (Or.inr List.mem_cons_self))
      exact sp_bd.yes a1_ (by omega) (by omega)
    · exact sp_bd.no (by decide) a1_
  | 16, _, h =>
    rcases h with ⟨P_, s_, e_, a1_, a2_, -⟩ | ⟨-, a1_, -⟩
    · rw [e_, List.length_append, List.length_singleton] at h12
      exact sp_bd.yes a1_ (by omega) (by omega)
    · exact sp_bd.no (by decide) a1_
  | n_ + 17, hn, _ => omega
theorem sp_q.bd {ok : Prop} (hR : ok → R a → -9 ≤ a ∧ a ≤ 1000) (h : sp_q T ok R a th T') : sp_bd a th := by
  rcases h.2 with ⟨a1_, a2_, a3_⟩ | ⟨-, a2_⟩
  · have l_ := hR a1_ a3_
    exact sp_bd.yes a2_ (by omega) (by omega)
  · exact sp_bd.no (by decide) a2_
theorem sp_D.bdq {n : Nat} (hk : sp_ok T.1) (hn : cs_nq n = true) (h : cs_D n e e2 T a th T') : sp_bd a th := by
  unfold cs_nq at hn
  rcases Bool.or_eq_true_iff.mp hn with y_ | z_
  rotate_left
  · have n_ := ck_beq z_
    subst n_
    have h_ : sp_q42 e e2 T a th T' := h
    exact sp_q.bd (fun _ r_ => sp_r42.bd hk r_) h_
  rcases Bool.or_eq_true_iff.mp y_ with y_ | z_
  rotate_left
  · have n_ := ck_beq z_
    subst n_
    have h_ : sp_q40 e e2 T a th T' := h
    rcases h_.2 with ⟨-, -, a3_, a4_⟩ | ⟨-, -, a3_⟩ | ⟨-, a2_⟩
    · have l_ := sp_r40.bd hk a4_
      exact sp_bd.yes a3_ (by omega) (by omega)
    · exact sp_bd.no (by decide) a3_
    · exact sp_bd.no (by decide) a2_
  rcases Bool.or_eq_true_iff.mp y_ with y_ | z_
  rotate_left
  · have n_ := ck_beq z_
    subst n_
    have h_ : sp_q39 e e2 T a th T' := h
    exact sp_q.bd (fun _ r_ => sp_r39.bd hk r_) h_
  rcases Bool.or_eq_true_iff.mp y_ with y_ | z_
  rotate_left
  · have n_ := ck_beq z_
    subst n_
    have h_ : sp_q34 e e2 T a th T' := h
    exact sp_q.bd (fun _ r_ => sp_r34.bd hk r_) h_
  rcases Bool.or_eq_true_iff.mp y_ with y_ | z_
  rotate_left
  · have n_ := ck_beq z_
    subst n_
    have h_ : sp_q31 e e2 T a th T' := h
    exact sp_q.bd (fun _ r_ => sp_r31.bd hk r_) h_
  rcases Bool.or_eq_true_iff.mp y_ with y_ | z_
  rotate_left
  · have n_ := ck_beq z_
    subst n_
    have h_ : sp_q30 e e2 T a th T' := h
    exact sp_q.bd (fun _ r_ => sp_r30.bd hk r_) h_
  rcases Bool.or_eq_true_iff.mp y_ with y_ | z_
  rotate_left
  · have n_ := ck_beq z_
    subst n_
    have h_ : sp_q29 e e2 T a th T' := h
    exact sp_q.bd (fun _ r_ => sp_r29.bd hk r_) h_
  rcases Bool.or_eq_true_iff.mp y_ with y_ | z_
  rotate_left
  · have n_ := ck_beq z_
    subst n_
    have h_ : sp_q28 e e2 T a th T' := h
    exact sp_q.bd (fun _ r_ => sp_r28.bd hk r_) h_
  rcases Bool.or_eq_true_iff.mp y_ with y_ | z_
  rotate_left
  · have n_ := ck_beq z_
    subst n_
    have h_ : sp_q27 e e2 T a th T' := h
    exact sp_q.bd (fun _ r_ => sp_r27.bd hk r_) h_
  · have n_ := ck_beq y_
    subst n_
    have h_ : sp_q21 e e2 T a th T' := h
    exact sp_q.bd (fun i_ r_ => sp_r21.bd hk i_ r_) h_
theorem sp_D.bdn0 {n : Nat} (hk : sp_ok T.1) (h12 : T.2.1.length ≤ 12) (hn : cs_nb0 n = true) (h : cs_D n e e2 T a th T') : sp_bd a th := by
  rcases Bool.or_eq_true_iff.mp hn with y_ | y_
  · exact sp_D.bd hk h12 (Nat.blt_eq.mp y_) h
  · exact sp_D.bdq hk y_ h
theorem sp_D.bdn {n : Nat} (hk : sp_ok T.1) (h12 : T.2.1.length ≤ 12) (hn : cs_nb n = true) (h : cs_D n e e2 T a th T') : sp_bd a th := by
  rcases Bool.or_eq_true_iff.mp hn with y_ | z_
  · exact sp_D.bdn0 hk h12 y_ h
  · have n_ := ck_beq z_
    subst n_
    have h_ : sp_q38 e e2 T a th T' := h
    rcases h_.2 with ⟨-, -, a3_, a4_⟩ | ⟨-, -, a3_⟩ | ⟨-, a2_⟩
    · have l_ := sp_r38.bd hk a4_
      exact sp_bd.yes a3_ (by omega) (by omega)
    · exact sp_bd.no (by decide) a3_
    · exact sp_bd.no (by decide) a2_
theorem sp_D.bo {n : Nat} (hn : cs_isb n = true) (h : cs_D n e e2 T a th T') (h0 : th = 0) : a = 0 ∨ a = 1 := by
  have n_ : n = 12 := ck_beq hn
  subst n_
  have h_ : sp_d12 e e2 T a th T' := h
  rcases h_ with ⟨-, ⟨b_, a1_, ⟨-, a2_, -⟩ | ⟨-, a2_, -⟩⟩ | ⟨-, a1_, -⟩⟩ | ⟨-, a1_, -⟩
  · exact Or.inr a2_
  · exact Or.inl a2_
  · omega
  · omega
end SPB
theorem hd_i2lv {x : Int} (h1 : -2147483648 ≤ x) (h2 : x ≤ 2147483647) : (Int32.ofInt x).toInt64 = Int64.ofInt x := Int64.toInt_inj.mp (by rw [Int32.toInt_toInt64, hd_oi h1 h2, hd_li (by omega) (by omega)])
