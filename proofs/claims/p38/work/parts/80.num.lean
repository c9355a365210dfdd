/-! WIDE, NUM'S MAKING -/
theorem hd_eq {G : am_G} {h1 h2 : List am_C} (e : ∀ p, am_g G h1 p = am_g G h2 p) : h1 = h2 := by
  refine List.ext_getElem? fun i => ?_
  have := e (1000 + i)
  unfold am_g at this
  rw [if_neg (by omega), if_neg (by omega), Nat.add_sub_cancel_left] at this
  exact this
theorem hd_w.eq {G : am_G} {h h' : List am_C} {q : Nat} {c c' : am_C} (hq : 1000 ≤ q) (hg : am_g G h q = some c') (a : hd_w G h h' q c) : h' = am_s h q c := hd_eq fun p => by rw [a.2 p, am_g_s hq (am_g_lt hq hg)]
theorem hd_set_mid {α : Type} (A B : List α) (a b : α) : (A ++ a :: B).set A.length b = A ++ b :: B := by
  induction A with
  | nil => rfl
  | cons x A ih => show x :: (A ++ a :: B).set A.length b = _; rw [ih]; rfl
theorem hd_fill {ds : List Int} {j n : Nat} {d : Int} (hj : ds[j]? = some d) (hn : j < n) : (ds.take j ++ List.replicate (n - j) 0).set j d = ds.take (j + 1) ++ List.replicate (n - (j + 1)) 0 := by
  obtain ⟨h1, h2⟩ := List.getElem?_eq_some_iff.mp hj
  have e : n - j = (n - (j + 1)) + 1 := by omega
  have h3 : (ds.take j).length = j := by rw [List.length_take]; omega
  rw [e, List.replicate_succ]
  have := hd_set_mid (ds.take j) (List.replicate (n - (j + 1)) (0 : Int)) 0 d
  rw [h3] at this
  rw [this, List.take_succ_eq_append_getElem h1, h2, List.append_assoc, List.singleton_append]
theorem hd_r0 (n : Nat) : List.replicate n (ck_d0 0) = hd_r (List.replicate n 0) := by
  unfold hd_r
  rw [List.map_replicate]
  rfl
theorem hd_new {G : am_G} {h : List am_C} {c : am_C} : am_g G (h ++ [c]) (1000 + h.length) = some c := by rw [am_g_new, if_pos rfl]
theorem hd_old {G : am_G} {h : List am_C} {c d : am_C} {q : Nat} (hg : am_g G h q = some d) : am_g G (h ++ [c]) q = some d := by
  rw [am_g_new, if_neg, hg]
  rintro rfl
  unfold am_g at hg
  rw [if_neg (by omega), List.getElem?_eq_none (by omega)] at hg
  cases hg
theorem hd_neq {G : am_G} {h : List am_C} {d : am_C} {q : Nat} (hg : am_g G h q = some d) : q ≠ 1000 + h.length := by
  rintro rfl
  unfold am_g at hg
  rw [if_neg (by omega), List.getElem?_eq_none (by omega)] at hg
  cases hg
set_option maxRecDepth 100000 in
set_option maxHeartbeats 4000000 in
theorem hd_wide_loop {G : am_G} {S : ck_SS} {SX : Nat → ck_SX} {Post : am_O → List am_C → Prop} {mc ms : Nat} {cm : Nat → ck_CM} (hs : ck_hs G S SX Post mc ms cm ge_yX12_wide_H) {q0 qd qn t0 td tn kc nc : Nat} {v0 : Value} {ds : List Int} (hq : 1000 ≤ qn) (h0 : t0 % 100 = 17) (h1 : td % 100 = 50) (h2 : tn % 100 = 50) (hl : ds.length ≤ 38) (n1 : q0 ≠ qn) (n2 : qd ≠ qn) :
    ∀ (m j : Nat) (h : List am_C), j + m = ds.length → am_g G h q0 = some (t0, [v0, .ref qd]) → am_g G h qd = some (td, hd_r ds) → am_g G h qn = some (tn, hd_r (ds.take j ++ List.replicate (38 - j) 0)) →
      (∀ h' : List am_C, hd_w G h h' qn (tn, hd_r (ds ++ List.replicate (38 - ds.length) 0)) → S 31 [some (.ref q0), some (.ref qn), some (.int (Int32.ofInt (ds.length : Int)))] [] h' kc nc) →
      S 7 [some (.ref q0), some (.ref qn), some (.int (Int32.ofInt (j : Int)))] [] h kc nc := by
  intro m
  induction m with
  | zero =>
    intro j h hj g0 g1 g2 fin
    obtain rfl : j = ds.length := by omega
    refine hs 5 _ rfl _ _ _ _ _ _ _ rfl ?_
    refine hs 6 _ rfl _ _ _ _ _ _ _ rfl ?_
    refine hs 7 _ rfl _ _ _ _ _ _ _ _ _ g0 (by omega) rfl ?_
    refine hd_Ln (hs 8 _ rfl) g1 h1 ?_
    refine hs 9 _ rfl _ _ _ _ _ _ _ (fun _ => ?_) (fun zq => absurd (hd_c2t (c := 3) (by omega) (by omega) (by omega) (by omega) (by omega : 0 ≤ ((ds.length : Int) - (ds.length : Int)))) zq)
    refine fin h ?_
    rw [List.take_of_length_le (Nat.le_refl _)] at g2
    exact hd_w.rf g2
  | succ m ih =>
    intro j h hj g0 g1 g2 fin
    have hdk : ds[j]? = some (ds[j]'(by omega)) := List.getElem?_eq_getElem (by omega)
    generalize ds[j]'(by omega) = d at hdk
    refine hs 5 _ rfl _ _ _ _ _ _ _ rfl ?_
    refine hs 6 _ rfl _ _ _ _ _ _ _ rfl ?_
    refine hs 7 _ rfl _ _ _ _ _ _ _ _ _ g0 (by omega) rfl ?_
    refine hd_Ln (hs 8 _ rfl) g1 h1 ?_
    refine hs 9 _ rfl _ _ _ _ _ _ _ (fun zq => absurd (hd_c2z (c := 3) (by omega) (by omega) (by omega) (by omega) zq) (by omega : ¬ (0 ≤ ((j : Int) - (ds.length : Int))))) (fun _ => ?_)
    refine hs 10 _ rfl _ _ _ _ _ _ _ rfl ?_
    refine hs 11 _ rfl _ _ _ _ _ _ _ rfl ?_
    refine hs 12 _ rfl _ _ _ _ _ _ _ rfl ?_
    refine hs 13 _ rfl _ _ _ _ _ _ _ _ _ g0 (by omega) rfl ?_
    refine hs 14 _ rfl _ _ _ _ _ _ _ rfl ?_
    refine hd_A (hs 15 _ rfl) (by decide) (by decide) g1 h1 (j := j) rfl (by omega) hdk ?_
    refine hd_B (hs 16 _ rfl) (by decide) (by decide) hq g2 h2 (j := j) rfl (by omega) (by rw [List.length_append, List.length_take, List.length_replicate]; omega) ?_
    refine hs 17 _ rfl _ _ _ _ _ _ _ (hd_inc rfl) ?_
    refine hs 18 _ rfl _ _ _ _ _ ?_
    rw [hd_fill hdk (by omega)]
    have hw := hd_w.s (c := (tn, hd_r (ds.take (j + 1) ++ List.replicate (38 - (j + 1)) 0))) hq g2
    exact ih (j + 1) _ (by omega) (by rw [hw.ne n1]; exact g0) (by rw [hw.ne n2]; exact g1) hw.at fun h' hh => fin h' (hd_w.tr hw hh)
set_option maxRecDepth 100000 in
set_option maxHeartbeats 4000000 in
theorem hd_wide_M {l : Launch} {G : am_G} {X : ck_XT} (g : gE l G X) {q0 qd t0 td : Nat} (tn : Nat) {v0 : Value} {ds : List Int} {h : List am_C} (h0 : t0 % 100 = 17) (h1 : td % 100 = 50) (h2 : tn % 100 = 50) (hl : ds.length ≤ 38) (g0 : am_g G h q0 = some (t0, [v0, .ref qd])) (g1 : am_g G h qd = some (td, hd_r ds)) {mc ms : Nat} (hmc : 1 ≤ mc) (hms : 38 ≤ ms) {Post : am_O → List am_C → Prop} (hP : Post (.inl (some (.ref (1000 + h.length)))) (h ++ [(tn, hd_r (ds ++ List.replicate (38 - ds.length) 0))])) :
    am_M l G yX12_wide (.code yX12_wide prog_15_method_12_code 3 (some (.array .int))) 1 20 mc ms [.ref q0] h Post := by
  refine gh_yX12_wide_H g (Nat.le_of_ble_eq_true rfl) fun S SX hs hr hw => ?_
  refine hs 0 _ rfl _ _ _ _ _ _ _ rfl ?_
  refine hs 1 _ rfl tn _ _ _ _ 38 _ _ h2 (by decide) (by decide) (by omega) (by omega) ?_
  rw [show Int.toNat 0 = 0 from rfl]
  refine hs 2 _ rfl _ _ _ _ _ _ _ rfl ?_
  refine hs 3 _ rfl _ _ _ _ _ _ _ rfl ?_
  refine hs 4 _ rfl _ _ _ _ _ _ _ rfl ?_
  rw [hd_r0]
  refine hd_wide_loop hs (by omega) h0 h1 h2 hl (hd_neq g0) (hd_neq g1) ds.length 0 _ (by omega) (hd_old g0) (hd_old g1) hd_new fun h' hh => ?_
  have e : h' = h ++ [(tn, hd_r (ds ++ List.replicate (38 - ds.length) 0))] := hd_eq fun p => by
    rw [hh.2 p, am_g_new, am_g_new]
    by_cases e : p = 1000 + h.length
    · rw [if_pos e, if_pos e]
    · rw [if_neg e, if_neg e, if_neg e]
  rw [e]
  refine hs 19 _ rfl _ _ _ _ _ _ _ rfl ?_
  exact hs 20 _ rfl _ _ _ _ _ (Or.inl ⟨_, rfl⟩) (by omega) (by omega) hP
set_option maxRecDepth 100000 in
set_option maxHeartbeats 4000000 in
theorem hd_init_l1 {G : am_G} {S : ck_SS} {SX : Nat → ck_SX} {Post : am_O → List am_C → Prop} {mc ms : Nat} {cm : Nat → ck_CM} (hs : ck_hs G S SX Post mc ms cm ge_yX12_init_H) {q0 qd td : Nat} {b : Int} {ds : List Int} {h : List am_C} (h1 : td % 100 = 50) (hl : ds.length ≤ 1000) (hd : hd_d ds) (g1 : am_g G h qd = some (td, hd_r ds))
    (fin : ∀ n : Nat, hd_pl ds n → S 25 [some (.ref q0), some (.int (Int32.ofInt b)), some (.ref qd), some (.int (Int32.ofInt (n : Int))), none] [] h 0 0) :
    ∀ (m : Nat), m ≤ ds.length → (∀ (j : Nat) (d : Int), m ≤ j → ds[j]? = some d → d = 0) →
      S 7 [some (.ref q0), some (.int (Int32.ofInt b)), some (.ref qd), some (.int (Int32.ofInt (m : Int))), none] [] h 0 0 := by
  intro m
  induction m with
  | zero =>
    intro hm hz
    refine hs 5 _ rfl _ _ _ _ _ _ _ rfl ?_
    refine hs 6 _ rfl _ _ _ _ _ _ (fun _ => ?_) (fun zq => absurd (hd_c1t (c := 5) (by omega) (by omega) (by omega : ((0 : Nat) : Int) ≤ 0)) zq)
    exact fin 0 ⟨hm, hz, fun z => absurd z (by omega)⟩
  | succ m ih =>
    intro hm hz
    have hdk : ds[m]? = some (ds[m]'(by omega)) := List.getElem?_eq_getElem (by omega)
    generalize ds[m]'(by omega) = d at hdk
    have hdd := hd.at hdk
    by_cases hc : d = 0
    · subst hc
      refine hs 5 _ rfl _ _ _ _ _ _ _ rfl ?_
      refine hs 6 _ rfl _ _ _ _ _ _ (fun zq => absurd (hd_c1z (c := 5) (by omega) (by omega) zq) (by omega : ¬ ((((m + 1 : Nat) : Int)) ≤ 0))) (fun _ => ?_)
      refine hs 7 _ rfl _ _ _ _ _ _ _ rfl ?_
      refine hs 8 _ rfl _ _ _ _ _ _ _ rfl ?_
      refine hs 9 _ rfl _ _ _ _ _ _ _ rfl ?_
      refine hs 10 _ rfl _ _ _ _ _ _ _ hd_sub ?_
      refine hd_A (hs 11 _ rfl) (by decide) (by decide) g1 h1 (j := m) (by omega) (by omega) hdk ?_
      refine hs 12 _ rfl _ _ _ _ _ _ (fun zq => absurd (hd_c1z (c := 1) (by omega) (by omega) zq) (by omega : ¬ ((0 : Int) ≠ 0))) (fun _ => ?_)
      refine hs 13 _ rfl _ _ _ _ _ _ _ (hd_inc rfl) ?_
      refine hs 14 _ rfl _ _ _ _ _ ?_
      rw [show ((m + 1 : Nat) : Int) + -1 = (m : Int) by omega]
      refine ih (by omega) fun j d hj he => ?_
      by_cases e : j = m
      · subst e; rw [hdk] at he; cases he; rfl
      · exact hz j d (by omega) he
    · 
      refine hs 5 _ rfl _ _ _ _ _ _ _ rfl ?_
      refine hs 6 _ rfl _ _ _ _ _ _ (fun zq => absurd (hd_c1z (c := 5) (by omega) (by omega) zq) (by omega : ¬ ((((m + 1 : Nat) : Int)) ≤ 0))) (fun _ => ?_)
      refine hs 7 _ rfl _ _ _ _ _ _ _ rfl ?_
      refine hs 8 _ rfl _ _ _ _ _ _ _ rfl ?_
      refine hs 9 _ rfl _ _ _ _ _ _ _ rfl ?_
      refine hs 10 _ rfl _ _ _ _ _ _ _ hd_sub ?_
      refine hd_A (hs 11 _ rfl) (by decide) (by decide) g1 h1 (j := m) (by omega) (by omega) hdk ?_
      refine hs 12 _ rfl _ _ _ _ _ _ (fun _ => ?_) (fun zq => absurd (hd_c1t (c := 1) (by omega) (by omega) (by omega : d ≠ 0)) zq)
      exact fin (m + 1) ⟨hm, hz, fun _ => ⟨d, hdk, hc⟩⟩
set_option maxRecDepth 100000 in
set_option maxHeartbeats 4000000 in
theorem hd_init_l2 {G : am_G} {S : ck_SS} {SX : Nat → ck_SX} {Post : am_O → List am_C → Prop} {mc ms : Nat} {cm : Nat → ck_CM} (hs : ck_hs G S SX Post mc ms cm ge_yX12_init_H) {q0 qd qn t0 td tn kc nc n : Nat} {b : Int} {v0 : Value} {ds : List Int} (hq : 1000 ≤ qn) (h0 : t0 % 100 = 17) (h1 : td % 100 = 50) (h2 : tn % 100 = 50) (hn : n ≤ ds.length) (hl : ds.length ≤ 1000) (n1 : q0 ≠ qn) (n2 : qd ≠ qn) :
    ∀ (m j : Nat) (h : List am_C) (w : Option Value), j + m = n → am_g G h q0 = some (t0, [v0, .ref qn]) → am_g G h qd = some (td, hd_r ds) → am_g G h qn = some (tn, hd_r (ds.take j ++ List.replicate (n - j) 0)) →
      (∀ (L : List (Option Value)) (h' : List am_C), hd_w G h h' qn (tn, hd_r (ds.take n)) → S 75 L [] h' kc nc) →
      S 52 [some (.ref q0), some (.int (Int32.ofInt b)), some (.ref qd), some (.int (Int32.ofInt (n : Int))), some (.int (Int32.ofInt (j : Int)))] [] h kc nc := by
  intro m
  induction m with
  | zero =>
    intro j h w hj g0 g1 g2 fin
    obtain rfl : j = n := by omega
    refine hs 30 _ rfl _ _ _ _ _ _ _ rfl ?_
    refine hs 31 _ rfl _ _ _ _ _ _ _ rfl ?_
    refine hs 32 _ rfl _ _ _ _ _ _ _ (fun _ => ?_) (fun zq => absurd (hd_c2t (c := 3) (by omega) (by omega) (by omega) (by omega) (by omega : 0 ≤ ((j : Int) - (j : Int)))) zq)
    refine fin _ h ?_
    rw [Nat.sub_self] at g2
    rw [List.replicate_zero, List.append_nil] at g2
    exact hd_w.rf g2
  | succ m ih =>
    intro j h w hj g0 g1 g2 fin
    have hdk : ds[j]? = some (ds[j]'(by omega)) := List.getElem?_eq_getElem (by omega)
    generalize ds[j]'(by omega) = d at hdk
    refine hs 30 _ rfl _ _ _ _ _ _ _ rfl ?_
    refine hs 31 _ rfl _ _ _ _ _ _ _ rfl ?_
    refine hs 32 _ rfl _ _ _ _ _ _ _ (fun zq => absurd (hd_c2z (c := 3) (by omega) (by omega) (by omega) (by omega) zq) (by omega : ¬ (0 ≤ ((j : Int) - (n : Int))))) (fun _ => ?_)
    refine hs 33 _ rfl _ _ _ _ _ _ _ rfl ?_
    refine hs 34 _ rfl _ _ _ _ _ _ _ _ _ g0 (by omega) rfl ?_
    refine hs 35 _ rfl _ _ _ _ _ _ _ rfl ?_
    refine hs 36 _ rfl _ _ _ _ _ _ _ rfl ?_
    refine hs 37 _ rfl _ _ _ _ _ _ _ rfl ?_
    refine hd_A (hs 38 _ rfl) (by decide) (by decide) g1 h1 (j := j) rfl (by omega) hdk ?_
    refine hd_B (hs 39 _ rfl) (by decide) (by decide) hq g2 h2 (j := j) rfl (by omega) (by rw [List.length_append, List.length_take, List.length_replicate]; omega) ?_
    refine hs 40 _ rfl _ _ _ _ _ _ _ (hd_inc rfl) ?_
    refine hs 41 _ rfl _ _ _ _ _ ?_
    rw [hd_fill hdk (by omega)]
    have hw := hd_w.s (c := (tn, hd_r (ds.take (j + 1) ++ List.replicate (n - (j + 1)) 0))) hq g2
    exact ih (j + 1) _ w (by omega) (by rw [hw.ne n1]; exact g0) (by rw [hw.ne n2]; exact g1) hw.at fun L h' hh => fin L h' (hd_w.tr hw hh)
set_option maxRecDepth 100000 in
set_option maxHeartbeats 4000000 in
theorem hd_init_M {l : Launch} {G : am_G} {X : ck_XT} (g : gE l G X) {q0 qd t0 td : Nat} (t0' tn : Nat) {x0 x1 : Value} {b : Int} {ds : List Int} {h : List am_C} (hq : 1000 ≤ q0) (hb : 0 ≤ b ∧ b ≤ 1) (h0 : t0 % 100 = 17) (h0' : t0' % 100 = 17) (h1 : td % 100 = 50) (h2 : tn % 100 = 50) (hl : ds.length ≤ 1000) (hd : hd_d ds) (g0 : am_g G h q0 = some (t0, [x0, x1])) (g1 : am_g G h qd = some (td, hd_r ds)) {mc ms : Nat} (hmc : 1 ≤ mc) (hms : ds.length ≤ ms) {Post : am_O → List am_C → Prop}
    (hP : ∀ (n : Nat) (v : Int), hd_pl ds n → 0 ≤ v → v ≤ 1 → Post (.inl none) (am_s (h ++ [(tn, hd_r (ds.take n))]) q0 (t0', [.int (Int32.ofInt v), .ref (1000 + h.length)]))) :
    am_M l G yX12_init (.code yX12_init prog_15_method_1_code 5 none) 1 20 mc ms [.ref q0, .int (Int32.ofInt b), .ref qd] h Post := by
  refine gh_yX12_init_H g (Nat.le_of_ble_eq_true rfl) fun S SX hs hr hw => ?_
  have hqd : qd ≠ q0 := by
    rintro rfl
    rw [g0] at g1
    have := (Prod.mk.inj (Option.some.inj g1)).1
    omega
  refine hr 0 _ _ _ _ _ q0 t0 t0' _ g0 hq (by omega) ?_
  have hw0 := hd_w.s (c := (t0', [x0, x1])) hq g0
  have k0 := hw0.at
  have k1 := (hw0.ne hqd).trans g1
  have hlen := hw0.1
  have H39 : ∀ (n : Nat) (v : Int), hd_pl ds n → 0 ≤ v → v ≤ 1 → S 39 [some (.ref q0), some (.int (Int32.ofInt b)), some (.ref qd), some (.int (Int32.ofInt (n : Int))), none] [.int (Int32.ofInt v), .ref q0] (am_s h q0 (t0', [x0, x1])) 0 0 := by
    intro n v hn hv1 hv2
    have hnl := hn.1
    have hv : ck_fv 1 (.int (Int32.ofInt v)) := ⟨_, rfl, by rw [hd_oi (by omega) (by omega)]; exact hv1, by rw [hd_oi (by omega) (by omega)]; exact hv2⟩
    refine hs 23 _ rfl _ _ _ _ _ _ _ _ _ hq k0 (by omega) hv ?_
    rw [show [x0, x1].set 0 (.int (Int32.ofInt v)) = [.int (Int32.ofInt v), x1] from rfl]
    have w2 := hd_w.s (c := (t0', [.int (Int32.ofInt v), x1])) hq k0
    have hl2 : (am_s (am_s h q0 (t0', [x0, x1])) q0 (t0', [.int (Int32.ofInt v), x1])).length = h.length := by rw [am_s_len, am_s_len]
    have hne : q0 ≠ 1000 + h.length := hd_neq g0
    have hnd : qd ≠ 1000 + h.length := hd_neq g1
    refine hs 24 _ rfl _ _ _ _ _ _ _ rfl ?_
    refine hs 25 _ rfl _ _ _ _ _ _ _ rfl ?_
    refine hs 26 _ rfl tn _ _ _ _ n _ _ h2 (hd_oi (by omega) (by omega)) (by omega) (by omega) (by omega) ?_
    rw [show Int.toNat 0 = 0 from rfl]
    have j2 := hd_old (c := (tn, List.replicate n (ck_d0 0))) w2.at
    refine hs 27 _ rfl _ _ _ _ _ _ _ _ _ hq j2 (by omega) (Or.inl ⟨_, rfl⟩) ?_
    rw [show ∀ u : Value, [.int (Int32.ofInt v), x1].set 1 u = [.int (Int32.ofInt v), u] from fun _ => rfl]
    refine hs 28 _ rfl _ _ _ _ _ _ _ rfl ?_
    refine hs 29 _ rfl _ _ _ _ _ _ _ rfl ?_
    have w4 := hd_w.s (c := (t0', [.int (Int32.ofInt v), .ref (1000 + (am_s (am_s h q0 (t0', [x0, x1])) q0 (t0', [.int (Int32.ofInt v), x1])).length)])) hq j2
    refine hd_init_l2 hs (qn := 1000 + (am_s (am_s h q0 (t0', [x0, x1])) q0 (t0', [.int (Int32.ofInt v), x1])).length) (by omega) h0' h1 h2 hnl hl (by rw [hl2]; exact hne) (by rw [hl2]; exact hnd) n 0 _ none (by omega) w4.at ?_ ?_ fun L h' hh => ?_
    · rw [w4.ne hqd, am_g_new, if_neg (by rw [hl2]; exact hnd), w2.ne hqd]; exact k1
    · rw [w4.ne (by rw [hl2]; exact fun z => hne z.symm), am_g_new, if_pos rfl, hd_r0]; rfl
    · have e : h' = am_s (h ++ [(tn, hd_r (ds.take n))]) q0 (t0', [.int (Int32.ofInt v), .ref (1000 + h.length)]) := hd_eq fun p => by
        rw [hh.2 p, w4.2 p, am_g_new, w2.2 p, hw0.2 p, am_g_s hq (by rw [List.length_append]; have := am_g_lt hq g0; omega), am_g_new, hl2]
        by_cases e1 : p = q0
        · rw [if_pos e1, if_pos e1, if_neg (by rw [e1]; exact hne)]
        · by_cases e2 : p = 1000 + h.length
          · rw [if_pos e2, if_neg e1, if_pos e2]
          · rw [if_neg e2, if_neg e1, if_neg e2, if_neg e1, if_neg e1, if_neg e1, if_neg e2]
      rw [e]
      exact hs 42 _ rfl _ _ _ _ (by omega) (by omega) (hP n v hn hv1 hv2)
  refine hs 0 _ rfl _ _ _ _ _ _ _ rfl ?_
  refine hs 1 _ rfl _ _ _ _ _ _ rfl (Nat.le_of_ble_eq_true rfl) ?_
  refine hs 2 _ rfl _ _ _ _ _ _ _ rfl ?_
  refine hd_Ln (hs 3 _ rfl) k1 h1 ?_
  refine hs 4 _ rfl _ _ _ _ _ _ _ rfl ?_
  refine hd_init_l1 hs h1 hl hd k1 (fun n hn => ?_) ds.length (Nat.le_refl _) fun j d hj he => by rw [List.getElem?_eq_none hj] at he; cases he
  have hnl := hn.1
  by_cases hb0 : b = 0
  · subst hb0
    refine hs 15 _ rfl _ _ _ _ _ _ _ rfl ?_
    refine hs 16 _ rfl _ _ _ _ _ _ _ rfl ?_
    refine hs 17 _ rfl _ _ _ _ _ _ (fun _ => ?_) (fun zq => absurd (hd_c1t (c := 0) (by omega) (by omega) (by omega : (0 : Int) = 0)) zq)
    refine hs 22 _ rfl _ _ _ _ _ _ _ rfl ?_
    exact H39 n 0 hn (by decide) (by decide)
  · by_cases hn0 : n = 0
    · subst hn0
      refine hs 15 _ rfl _ _ _ _ _ _ _ rfl ?_
      refine hs 16 _ rfl _ _ _ _ _ _ _ rfl ?_
      refine hs 17 _ rfl _ _ _ _ _ _ (fun zq => absurd (hd_c1z (c := 0) (by omega) (by omega) zq) (by omega : ¬ (b = 0))) (fun _ => ?_)
      refine hs 18 _ rfl _ _ _ _ _ _ _ rfl ?_
      refine hs 19 _ rfl _ _ _ _ _ _ (fun _ => ?_) (fun zq => absurd (hd_c1t (c := 5) (by omega) (by omega) (by omega : ((0 : Nat) : Int) ≤ 0)) zq)
      refine hs 22 _ rfl _ _ _ _ _ _ _ rfl ?_
      exact H39 0 0 hn (by decide) (by decide)
    · 
      refine hs 15 _ rfl _ _ _ _ _ _ _ rfl ?_
      refine hs 16 _ rfl _ _ _ _ _ _ _ rfl ?_
      refine hs 17 _ rfl _ _ _ _ _ _ (fun zq => absurd (hd_c1z (c := 0) (by omega) (by omega) zq) (by omega : ¬ (b = 0))) (fun _ => ?_)
      refine hs 18 _ rfl _ _ _ _ _ _ _ rfl ?_
      refine hs 19 _ rfl _ _ _ _ _ _ (fun zq => absurd (hd_c1z (c := 5) (by omega) (by omega) zq) (by omega : ¬ ((n : Int) ≤ 0))) (fun _ => ?_)
      refine hs 20 _ rfl _ _ _ _ _ _ _ rfl ?_
      refine hs 21 _ rfl _ _ _ _ _ ?_
      exact H39 n 1 hn (by decide) (by decide)
