/-! A REFERENCE IS WRITTEN INTO A ROW -/
theorem zw_Br {G : am_G} {pr : List (Nat × Nat)} {S : ck_SS} {pc nx lo hi q t j k n : Nat} {e : Int} {vs : List Value} {v : Value} {h : List am_C} {L : List (Option Value)} {st : List Value} (H : ck_sB G pr S pc nx lo hi) (hq : 1000 ≤ q) (hg : am_g G h q = some (t, vs)) (h1 : lo ≤ t % 100) (h2 : t % 100 ≤ hi) (he : e = (j : Int)) (hj : j ≤ 2147483647) (hl : j < vs.length) (hw : ck_fw pr (am_g G h) (t % 100) v) (kk : ∀ h', hd_w G h h' q (t, vs.set j v) → S nx L st h' k n) : S pc L (v :: .int (Int32.ofInt e) :: .ref q :: st) h k n := by
  have hx_ : (Int32.ofInt e).toInt = (j : Int) := by
    rw [hd_oi (by omega) (by omega)]
    exact he
  refine H L st h k n q t _ _ _ hq hg h1 h2 (by omega) (by rw [hx_]; exact hl) hw ?_
  rw [hx_, Int.toNat_natCast]
  exact kk _ (hd_w.s hq hg)
