/-! what is known behind a frame's instruction -/
def ck_isR (a : ck_V) : Bool := Nat.beq a.1 3 || (Nat.beq a.1 4 || (Nat.beq a.1 6 || Nat.beq a.1 7))
def ck_is1 (a : ck_V) : Bool := Nat.beq a.1 1 || ck_isR a
def ck_u (c : Nat) (Q : ck_Q) (e : ck_L) : ck_R := match c with
  | 0 => ck_ex ck_M32 Q (ck_mul (-1) e)
  | 1 => bif ck_is Q (-128) 127 e then (some e, 0, 0, []) else (none, -128, 127, [])
  | _ => bif ck_is Q 0 65535 e then (some e, 0, 0, []) else (none, 0, 65535, [])
/-- a quotient of what is below h times the divisor is below h -/
def ck_qh (h : Int) (c : Nat) (Q : ck_Q) (a b : ck_L) (R : ck_R) : ck_R := bif (Nat.beq c 3 && ck_nn (h - 1)) && ((R.1.isNone && ck_nn (ck_lo Q.1 a)) && (ck_ge Q.1 Q.2 (ck_sub b (ck_k 1)) && (ck_ge Q.1 Q.2 (ck_sub (ck_sub (ck_mul h b) (ck_k 1)) a) || Q.2.any fun c => ck_nn (ck_lo Q.1 (ck_sub (ck_sub (ck_sub (ck_mul h b) (ck_k 1)) a) (ck_mul h c)))))) then (none, R.2.1, ck_mn R.2.2.1 (h - 1), R.2.2.2) else R
def ck_cR (lo hi v : Int) : Bool := ck_nn (v - lo) && ck_nn (hi - v)
def ck_ap (c a : Nat) (v : Int) (Q : ck_Q) (Ls St : List ck_V) : Option (List ck_V × List ck_V × Option (Nat × ck_R)) := match c, St with
  | 0, St => bif ck_cR (-2147483648) 2147483647 v then some (Ls, (1, 0, (v, [])) :: St, none) else none
  | 1, St => bif ck_cR (-9223372036854775808) 9223372036854775807 v then some (Ls, (2, 0, (v, [])) :: St, none) else none
  | 2, St => some (Ls, (4, 0, (0, [])) :: St, none)
  | 3, St => match Ls[a]? with
    | some x => bif Nat.beq x.1 1 then some (Ls, x :: St, none) else none
    | none => none
  | 4, St => match Ls[a]? with
    | some x => bif Nat.beq x.1 2 then some (Ls, x :: St, none) else none
    | none => none
  | 5, St => match Ls[a]? with
    | some x => bif ck_isR x then some (Ls, x :: St, none) else none
    | none => none
  | 6, x :: St => bif Nat.beq x.1 1 && Nat.blt a Ls.length then some (ck_p1 Ls a x, St, none) else none
  | 7, x :: St => bif Nat.beq x.1 2 && Nat.blt (a + 1) Ls.length then some (ck_p2 Ls a x, St, none) else none
  | 8, x :: St => bif ck_isR x && Nat.blt a Ls.length then some (ck_p1 Ls a x, St, none) else none
  | 9, St => match Ls[a]? with
    | some (1, _, e) => bif ck_cR (-2147483648) 2147483647 v then (match ck_ex ck_M32 Q (ck_add e (ck_k v)) with
      | (some f, _) => some (ck_p1 Ls a (1, 0, f), St, none)
      | _ => none) else none
    | _ => none
  | 10, x :: St => bif ck_is1 x then some (Ls, St, none) else none
  | 11, x :: St => bif Nat.beq x.1 2 then some (Ls, St, none) else none
  | 12, x :: St => bif ck_is1 x then some (Ls, x :: x :: St, none) else none
  | 13, x :: y :: St => bif ck_is1 x && ck_is1 y then some (Ls, x :: y :: x :: St, none) else none
  | 14, x :: y :: St => bif ck_is1 x && ck_is1 y then some (Ls, x :: y :: x :: y :: St, none) else none
  | 15, (1, _, f) :: (1, _, e) :: St => (ck_bi32 a Q e f).bind fun R => some (Ls, St, some (1, ck_qh v a Q e f R))
  | 16, (2, _, f) :: (2, _, e) :: St => (ck_bi64 a Q e f).bind fun R => some (Ls, St, some (2, ck_qh v a Q e f R))
  | 17, (1, _, e) :: St => some (Ls, St, some (1, ck_u a Q e))
  | 18, (2, _, e) :: St => some (Ls, St, some (2, ck_ex ck_M64 Q (ck_mul (-1) e)))
  | 19, (1, _, e) :: St => some (Ls, (2, 0, e) :: St, none)
  | 20, (2, _, e) :: St => some (Ls, St, some (1, ck_ex ck_M32 Q e))
  | 22, St => some (Ls, (6, 0, (0, [])) :: St, none)
  | _, _ => none
theorem ck_av.ref {r : List Int} {s : List Nat} {a : ck_V} {v : Value} (h : ck_av r s a v) (h1 : ck_isR a = true) : (∃ q, v = .ref q) ∨ v = .null := by
  unfold ck_isR at h1
  unfold ck_av at h
  split at h
  · next e => rw [e] at h1; cases h1
  · next e => rw [e] at h1; cases h1
  · obtain ⟨q, -, h⟩ := h; exact Or.inl ⟨q, h⟩
  · exact Or.inr h
  · obtain ⟨q, h⟩ := h; exact Or.inl ⟨q, h⟩
  · obtain ⟨q, -, h⟩ := h
    unfold ck_rv at h
    split at h
    · exact Or.inr h
    · exact Or.inl ⟨q, h⟩
  · exact h.elim
theorem ck_av.one {r : List Int} {s : List Nat} {a : ck_V} {v : Value} (h : ck_av r s a v) (h1 : ck_is1 a = true) : v.category = 1 := by
  unfold ck_is1 at h1
  rcases Bool.or_eq_true_iff.mp h1 with h2 | h2
  · have e : a.1 = 1 := Nat.eq_of_beq_eq_true h2
    unfold ck_av at h
    rw [e] at h
    obtain ⟨x, h, -⟩ := h
    rw [h]; rfl
  · rcases h.ref h2 with ⟨q, h⟩ | h <;> rw [h] <;> rfl
theorem ck_av.int {r : List Int} {s : List Nat} {a : ck_V} {v : Value} (h : ck_av r s a v) (h1 : a.1 = 1) : ∃ x : Int32, v = .int x ∧ ck_Lv r a.2.2 x.toInt := by
  unfold ck_av at h
  rw [h1] at h
  exact h
theorem ck_av.long {r : List Int} {s : List Nat} {a : ck_V} {v : Value} (h : ck_av r s a v) (h1 : a.1 = 2) : ∃ x : Int64, v = .long x ∧ ck_Lv r a.2.2 x.toInt := by
  unfold ck_av at h
  rw [h1] at h
  exact h
theorem ck_loc.at {r : List Int} {s : List Nat} {A : List ck_V} {L : List (Option Value)} (h : ck_loc r s A L) {i : Nat} {a : ck_V} (ha : A[i]? = some a) (h0 : a.1 ≠ 0) : ∃ v : Value, L[i]? = some (some v) ∧ ck_av r s a v := (h.2 i a ha).resolve_left h0
theorem ck_beq {a b : Nat} (h : Nat.beq a b = true) : a = b := Nat.eq_of_beq_eq_true h
theorem ck_bt {c : Bool} {α : Type} {a : α} {b : Option α} (h : (bif c then some a else none) = b) {x : α} (hb : b = some x) : c = true ∧ a = x := by
  cases c
  · rw [cond_false] at h; rw [← h] at hb; cases hb
  · rw [cond_true] at h; rw [← h] at hb; cases hb; exact ⟨rfl, rfl⟩
theorem ck_ofInt32 {v : Int} (h : ck_cR (-2147483648) 2147483647 v = true) : (Int32.ofInt v).toInt = v := by
  obtain ⟨h1, h2⟩ := Bool.and_eq_true_iff.mp h
  have h1 := ck_nn_ok h1
  have h2 := ck_nn_ok h2
  exact Int32.toInt_ofInt_of_le (by omega) (by omega)
theorem ck_ofInt64 {v : Int} (h : ck_cR (-9223372036854775808) 9223372036854775807 v = true) : (Int64.ofInt v).toInt = v := by
  obtain ⟨h1, h2⟩ := Bool.and_eq_true_iff.mp h
  have h1 := ck_nn_ok h1
  have h2 := ck_nn_ok h2
  exact Int64.toInt_ofInt_of_le (by omega) (by omega)
theorem ck_i8 (x : Int32) : (-128 ≤ x.toInt ∧ x.toInt ≤ 127 → x.toInt8.toInt32.toInt = x.toInt) ∧ -128 ≤ x.toInt8.toInt32.toInt ∧ x.toInt8.toInt32.toInt ≤ 127 := by
  have e : x.toInt8.toInt32.toInt = x.toInt.bmod (2 * 128) := by
    rw [Int8.toInt_toInt32, Int32.toInt_toInt8]
  rw [e]
  refine ⟨fun h => ck_bm_eq (by omega) (by omega), ?_⟩
  have := ck_bm (B := 128) (by decide) x.toInt
  omega
theorem ck_ch (x : Int32) : (0 ≤ x.toInt ∧ x.toInt ≤ 65535 → (x.toUInt32 % 65536).toInt32.toInt = x.toInt) ∧ 0 ≤ (x.toUInt32 % 65536).toInt32.toInt ∧ (x.toUInt32 % 65536).toInt32.toInt ≤ 65535 := by
  rw [pk_char]
  have h2 : x.toBitVec.toNat % 65536 < 65536 := Nat.mod_lt _ (by decide)
  rw [nI_toInt (by omega)]
  refine ⟨fun h => ?_, by omega, by omega⟩
  have hm : x.toBitVec.msb = false := by
    have : ¬ x.toBitVec.msb = true := fun z => by have := (ck_neg_msb32 x).mpr z; omega
    simpa using this
  have e : x.toInt = (x.toBitVec.toNat : Int) := BitVec.toInt_eq_toNat_of_msb hm
  omega
theorem ck_u_ok {c : Nat} {Q : ck_Q} {e : ck_L} {r : List Int} {x : Int32} (hQ : ck_ok Q r) (he : ck_Lv r e x.toInt) : ck_rk (ck_u c Q e) r (ck_u32 c x).toInt := by
  match c with
  | 0 =>
    show ck_rk (ck_ex ck_M32 Q (ck_mul (-1) e)) r (-x).toInt
    rw [show (-x).toInt = (-x.toInt).bmod (2 * ck_M32) from Int32.toInt_neg x, show -x.toInt = -1 * x.toInt by omega]
    exact ck_ex_ok ck_B32 hQ (he.mul (-1))
  | 1 =>
    show ck_rk (bif ck_is Q (-128) 127 e then (some e, 0, 0, []) else (none, -128, 127, [])) r x.toInt8.toInt32.toInt
    have h := ck_i8 x
    cases hc : ck_is Q (-128) 127 e
    · exact ⟨h.2.1, h.2.2, ck_Co.nil⟩
    · show ck_Lv r e _
      rw [h.1 (ck_is_ok hc hQ he)]
      exact he
  | n + 2 =>
    show ck_rk (bif ck_is Q 0 65535 e then (some e, 0, 0, []) else (none, 0, 65535, [])) r (x.toUInt32 % 65536).toInt32.toInt
    have h := ck_ch x
    cases hc : ck_is Q 0 65535 e
    · exact ⟨h.2.1, h.2.2, ck_Co.nil⟩
    · show ck_Lv r e _
      rw [h.1 (ck_is_ok hc hQ he)]
      exact he
theorem ck_qh_ok {h : Int} {c : Nat} {Q : ck_Q} {a b : ck_L} {R : ck_R} {r : List Int} {x y z : Int} (hR : ck_rk R r z) (hQ : ck_ok Q r) (ha : ck_Lv r a x) (hb : ck_Lv r b y) (hz : c = 3 → 1 ≤ y → z = x.tdiv y) : ck_rk (ck_qh h c Q a b R) r z := by
  unfold ck_qh
  cases hc : ((Nat.beq c 3 && ck_nn (h - 1)) && ((R.1.isNone && ck_nn (ck_lo Q.1 a)) && (ck_ge Q.1 Q.2 (ck_sub b (ck_k 1)) && (ck_ge Q.1 Q.2 (ck_sub (ck_sub (ck_mul h b) (ck_k 1)) a) || Q.2.any fun c => ck_nn (ck_lo Q.1 (ck_sub (ck_sub (ck_sub (ck_mul h b) (ck_k 1)) a) (ck_mul h c)))))))
  · exact hR
  · rw [cond_true]
    simp only [Bool.and_eq_true] at hc
    obtain ⟨⟨c1, c2⟩, ⟨c3, c4⟩, c5, c6⟩ := hc
    have c2 := ck_nn_ok c2
    have c4 := ck_nn_ok c4
    have d1 := ck_lo_le hQ.1 ha
    have d2 := ck_ge_ok c5 hQ.1 hQ.2 (hb.sub (ck_Lv.k r 1))
    have d3 : 0 ≤ h * y - 1 - x := by
      rcases Bool.or_eq_true_iff.mp c6 with c6 | c6
      · exact ck_ge_ok c6 hQ.1 hQ.2 (((hb.mul h).sub (ck_Lv.k r 1)).sub ha)
      · obtain ⟨u, hu, h7⟩ := List.any_eq_true.mp c6
        obtain ⟨w, h8, h9⟩ := hQ.2 u hu
        have k1 := ck_lo_le hQ.1 ((((hb.mul h).sub (ck_Lv.k r 1)).sub ha).sub (h8.mul h))
        have k2 := ck_nn_ok h7
        have k3 : 0 ≤ h * w := Int.mul_nonneg (by omega) h9
        omega
    have e := hz (ck_beq c1) (by omega)
    have hR' : R.2.1 ≤ z ∧ z ≤ R.2.2.1 ∧ ck_Co R.2.2.2 (r ++ [z]) := by
      unfold ck_rk at hR
      rw [Option.isNone_iff_eq_none.mp c3] at hR
      exact hR
    refine ⟨hR'.1, ?_, hR'.2.2⟩
    show z ≤ ck_mn R.2.2.1 (h - 1)
    have h1 : z ≤ h - 1 := by
      rw [e]
      have h2 := Int.mul_tdiv_add_tmod x y
      have h3 := Int.tmod_nonneg y (show 0 ≤ x by omega)
      by_cases h4 : x.tdiv y ≤ h - 1
      · exact h4
      · exfalso
        have h5 : y * h ≤ y * x.tdiv y := Int.mul_le_mul_of_nonneg_left (by omega) (by omega)
        rw [Int.mul_comm y h] at h5
        omega
    have := ck_mn_or R.2.2.1 (h - 1)
    omega
set_option maxHeartbeats 4000000 in
theorem ck_ap_ok {c a : Nat} {v : Int} {Q : ck_Q} {Ls St Ls' St' : List ck_V} {o : Option (Nat × ck_R)} {r : List Int} {s : List Nat} {L : List (Option Value)} {st : List Value}
    (h : ck_ap c a v Q Ls St = some (Ls', St', o)) (hQ : ck_ok Q r) (hL : ck_loc r s Ls L) (hS : ck_stk r s St st) :
    (o = none ∧ ∃ (L' : List (Option Value)) (st' : List Value), ck_cf c a v L st = some (L', st') ∧ ck_loc r s Ls' L' ∧ ck_stk r s St' st') ∨
    (∃ (kd : Nat) (R : ck_R) (w : Value) (z : Int) (st' : List Value), o = some (kd, R) ∧ Ls' = Ls ∧ ck_cf c a v L st = some (L, w :: st') ∧ ck_nm kd z w ∧ ck_rk R r z ∧ ck_stk r s St' st') := by
  unfold ck_ap at h
  split at h
  · obtain ⟨hc, h⟩ := ck_bt rfl h
    cases h
    exact Or.inl ⟨rfl, L, _, rfl, hL, ⟨_, rfl, by rw [ck_ofInt32 hc]; exact ck_Lv.k r v⟩, hS⟩
  · obtain ⟨hc, h⟩ := ck_bt rfl h
    cases h
    exact Or.inl ⟨rfl, L, _, rfl, hL, ⟨_, rfl, by rw [ck_ofInt64 hc]; exact ck_Lv.k r v⟩, hS⟩
  · cases h
    exact Or.inl ⟨rfl, L, _, rfl, hL, rfl, hS⟩
  · split at h
    · next x hx =>
      obtain ⟨hc, h⟩ := ck_bt rfl h
      cases h
      obtain ⟨w, h1, h2⟩ := hL.at hx (by rw [ck_beq hc]; decide)
      obtain ⟨y, h3, -⟩ := h2.int (ck_beq hc)
      refine Or.inl ⟨rfl, L, w :: st, ?_, hL, h2, hS⟩
      simp only [ck_cf, h1, h3]
    · cases h
  · split at h
    · next x hx =>
      obtain ⟨hc, h⟩ := ck_bt rfl h
      cases h
      obtain ⟨w, h1, h2⟩ := hL.at hx (by rw [ck_beq hc]; decide)
      obtain ⟨y, h3, -⟩ := h2.long (ck_beq hc)
      refine Or.inl ⟨rfl, L, w :: st, ?_, hL, h2, hS⟩
      simp only [ck_cf, h1, h3]
    · cases h
  · split at h
    · next x hx =>
      obtain ⟨hc, h⟩ := ck_bt rfl h
      cases h
      obtain ⟨w, h1, h2⟩ := hL.at hx (fun z => by unfold ck_isR at hc; rw [z] at hc; cases hc)
      refine Or.inl ⟨rfl, L, w :: st, ?_, hL, h2, hS⟩
      rcases h2.ref hc with ⟨q, e⟩ | e <;> simp only [ck_cf, h1, e]
    · cases h
  · obtain ⟨hc, h⟩ := ck_bt rfl h
    cases h
    obtain ⟨h1, h2⟩ := Bool.and_eq_true_iff.mp hc
    cases st with
    | nil => exact hS.elim
    | cons w st =>
      obtain ⟨y, rfl, h3⟩ := hS.1.int (ck_beq h1)
      refine Or.inl ⟨rfl, am_put1 L a (.int y), st, ?_, hL.p1 a hS.1, hS.2⟩
      show (if a < L.length then some (am_put1 L a (.int y), st) else none) = _
      rw [if_pos (by rw [hL.1]; exact Nat.blt_eq.mp h2)]
  · obtain ⟨hc, h⟩ := ck_bt rfl h
    cases h
    obtain ⟨h1, h2⟩ := Bool.and_eq_true_iff.mp hc
    cases st with
    | nil => exact hS.elim
    | cons w st =>
      obtain ⟨y, rfl, h3⟩ := hS.1.long (ck_beq h1)
      refine Or.inl ⟨rfl, am_put2 L a (.long y), st, ?_, hL.p2 a hS.1, hS.2⟩
      show (if a + 1 < L.length then some (am_put2 L a (.long y), st) else none) = _
      rw [if_pos (by rw [hL.1]; exact Nat.blt_eq.mp h2)]
  · obtain ⟨hc, h⟩ := ck_bt rfl h
    cases h
    obtain ⟨h1, h2⟩ := Bool.and_eq_true_iff.mp hc
    cases st with
    | nil => exact hS.elim
    | cons w st =>
      rcases hS.1.ref h1 with ⟨q, rfl⟩ | rfl
      · refine Or.inl ⟨rfl, am_put1 L a (.ref q), st, ?_, hL.p1 a hS.1, hS.2⟩
        show (if a < L.length then some (am_put1 L a (.ref q), st) else none) = _
        rw [if_pos (by rw [hL.1]; exact Nat.blt_eq.mp h2)]
      · refine Or.inl ⟨rfl, am_put1 L a .null, st, ?_, hL.p1 a hS.1, hS.2⟩
        show (if a < L.length then some (am_put1 L a .null, st) else none) = _
        rw [if_pos (by rw [hL.1]; exact Nat.blt_eq.mp h2)]
  · split at h
    · next i e hx =>
      cases hc : ck_cR (-2147483648) 2147483647 v
      · rw [hc] at h; cases h
      · rw [hc, cond_true] at h
        split at h
        · next f u1 hf =>
          cases h
          obtain ⟨w, h1, h2⟩ := hL.at hx (show (1 : Nat) ≠ 0 by decide)
          obtain ⟨y, h3, h4⟩ := h2.int rfl
          have h5 := ck_ex_ok ck_B32 hQ (h4.add (ck_Lv.k r v))
          rw [hf] at h5
          have h6 : ck_Lv r f (y + Int32.ofInt v).toInt := by rw [ck_add32, ck_ofInt32 hc]; exact h5
          refine Or.inl ⟨rfl, am_put1 L a (.int (y + Int32.ofInt v)), st, ?_, hL.p1 a ⟨_, rfl, h6⟩, hS⟩
          simp only [ck_cf, h1, h3]
        · cases h
    · cases h
  · obtain ⟨hc, h⟩ := ck_bt rfl h
    cases h
    cases st with
    | nil => exact hS.elim
    | cons w st => exact Or.inl ⟨rfl, L, st, if_pos (hS.1.one hc), hL, hS.2⟩
  · obtain ⟨hc, h⟩ := ck_bt rfl h
    cases h
    cases st with
    | nil => exact hS.elim
    | cons w st =>
      obtain ⟨y, rfl, h3⟩ := hS.1.long (ck_beq hc)
      exact Or.inl ⟨rfl, L, st, rfl, hL, hS.2⟩
  · obtain ⟨hc, h⟩ := ck_bt rfl h
    cases h
    cases st with
    | nil => exact hS.elim
    | cons w st => exact Or.inl ⟨rfl, L, w :: w :: st, if_pos (hS.1.one hc), hL, hS.1, hS.1, hS.2⟩
  · obtain ⟨hc, h⟩ := ck_bt rfl h
    cases h
    obtain ⟨h1, h2⟩ := Bool.and_eq_true_iff.mp hc
    match st, hS with
    | u :: w :: st, hS => exact Or.inl ⟨rfl, L, u :: w :: u :: st, if_pos ⟨hS.1.one h1, hS.2.1.one h2⟩, hL, hS.1, hS.2.1, hS.1, hS.2.2⟩
  · obtain ⟨hc, h⟩ := ck_bt rfl h
    cases h
    obtain ⟨h1, h2⟩ := Bool.and_eq_true_iff.mp hc
    match st, hS with
    | u :: w :: st, hS => exact Or.inl ⟨rfl, L, u :: w :: u :: w :: st, if_pos ⟨hS.1.one h1, hS.2.1.one h2⟩, hL, hS.1, hS.2.1, hS.1, hS.2.1, hS.2.2⟩
  · cases hb : ck_bi32 a Q _ _ with
    | none => rw [hb] at h; cases h
    | some R =>
      rw [hb] at h
      cases h
      match st, hS with
      | u :: w :: st, hS =>
        obtain ⟨y, rfl, h1⟩ := hS.1.int rfl
        obtain ⟨x, rfl, h2⟩ := hS.2.1.int rfl
        obtain ⟨h3, h4⟩ := ck_bi32_ok hb hQ h2 h1
        exact Or.inr ⟨1, _, _, _, st, rfl, rfl, if_neg h4, ⟨_, rfl, rfl⟩, ck_qh_ok h3 hQ h2 h1 (fun e1 e2 => by
          rw [e1]
          have hx := ck_i32 x
          show (x / y).toInt = _
          rw [ck_div32]
          exact (ck_td hx.1 hx.2 e2).1), hS.2.2⟩
  · cases hb : ck_bi64 a Q _ _ with
    | none => rw [hb] at h; cases h
    | some R =>
      rw [hb] at h
      cases h
      match st, hS with
      | u :: w :: st, hS =>
        obtain ⟨y, rfl, h1⟩ := hS.1.long rfl
        obtain ⟨x, rfl, h2⟩ := hS.2.1.long rfl
        obtain ⟨h3, h4⟩ := ck_bi64_ok hb hQ h2 h1
        exact Or.inr ⟨2, _, _, _, st, rfl, rfl, if_neg h4, ⟨_, rfl, rfl⟩, ck_qh_ok h3 hQ h2 h1 (fun e1 e2 => by
          rw [e1]
          have hx := ck_i64 x
          show (x / y).toInt = _
          rw [ck_div64]
          exact (ck_td hx.1 hx.2 e2).1), hS.2.2⟩
  · cases h
    match st, hS with
    | u :: st, hS =>
      obtain ⟨x, rfl, h1⟩ := hS.1.int rfl
      exact Or.inr ⟨1, _, _, _, st, rfl, rfl, rfl, ⟨_, rfl, rfl⟩, ck_u_ok hQ h1, hS.2⟩
  · cases h
    match st, hS with
    | u :: st, hS =>
      obtain ⟨x, rfl, h1⟩ := hS.1.long rfl
      refine Or.inr ⟨2, _, _, _, st, rfl, rfl, rfl, ⟨_, rfl, rfl⟩, ?_, hS.2⟩
      rw [show (-x).toInt = (-x.toInt).bmod (2 * ck_M64) from Int64.toInt_neg x, show -x.toInt = -1 * x.toInt by omega]
      exact ck_ex_ok ck_B64 hQ (h1.mul (-1))
  · cases h
    match st, hS with
    | u :: st, hS =>
      obtain ⟨x, rfl, h1⟩ := hS.1.int rfl
      exact Or.inl ⟨rfl, L, _, rfl, hL, ⟨_, rfl, by rw [Int32.toInt_toInt64]; exact h1⟩, hS.2⟩
  · cases h
    match st, hS with
    | u :: st, hS =>
      obtain ⟨x, rfl, h1⟩ := hS.1.long rfl
      refine Or.inr ⟨1, _, _, _, st, rfl, rfl, rfl, ⟨_, rfl, rfl⟩, ?_, hS.2⟩
      rw [show x.toInt32.toInt = x.toInt.bmod (2 * ck_M32) from Int64.toInt_toInt32 x]
      exact ck_ex_ok ck_B32 hQ h1
  · cases h
    exact Or.inl ⟨rfl, L, _, rfl, hL, ⟨_, rfl⟩, hS⟩
  · cases h
