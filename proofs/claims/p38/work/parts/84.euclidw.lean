/-! EUCLID AS A WHOLE -/
def eu_R (q1 q2 q3 q4 qa qb qc qd : Nat) : Prop := (qa = q1 ∧ qb = q2 ∨ qa = q2 ∧ qb = q1) ∧ (qc = q3 ∧ qd = q4 ∨ qc = q4 ∧ qd = q3)
set_option maxRecDepth 100000 in
set_option maxHeartbeats 8000000 in
theorem eu_M {l : Launch} {G : am_G} {X : ck_XT} (g : gE l G X) {q1 q2 t1 t2 : Nat} {A B : List Int} {h : List am_C} (hq1 : 1000 ≤ q1) (hq2 : 1000 ≤ q2) (hne : q1 ≠ q2) (h1 : t1 % 100 = 50) (h2 : t2 % 100 = 50) (hlA : A.length = 38) (hlB : B.length = 38) (hA : hd_d A) (hB : hd_d B) (g1 : am_g G h q1 = some (t1, hd_r A)) (g2 : am_g G h q2 = some (t2, hd_r B)) {mc ms : Nat} (hmc : 4 ≤ mc) (hms : 80 ≤ ms) {Post : am_O → List am_C → Prop}
    (hP : ∀ (R1 R2 R3 R4 : List Int) (qo qc : Nat) (x : Int32), (hd_d R1 ∧ R1.length = 38) → (hd_d R2 ∧ R2.length = 38) → (hd_d R3 ∧ R3.length = 38) → (hd_d R4 ∧ R4.length = 38) → (qo = q1 ∨ qo = q2) → (qc = 1000 + h.length ∨ qc = 1000 + (h.length + 1)) →
      Post (.inl (some (.ref (1000 + (h.length + 2))))) (am_s (am_s (h ++ [(850, hd_r R3), (850, hd_r R4), (57, [.ref qo, .ref qc, .ref (1000 + (h.length + 3))]), (350, [.int x])]) q1 (850, hd_r R1)) q2 (850, hd_r R2))) :
    am_M l G yX12_euclid (.code yX12_euclid prog_15_method_20_code 8 (some (.array (.array .int)))) 2 46 mc ms [.ref q1, .ref q2] h Post := by
  refine gh_yX12_euclid_H g (Nat.le_of_ble_eq_true rfl) fun S SX hs hr hw => ?_
  refine hr 0 _ _ _ _ _ q1 t1 850 _ g1 hq1 (by omega) ?_
  have w1 := hd_w.s (c := (850, hd_r A)) hq1 g1
  have g2' := (w1.ne hne.symm).trans g2
  refine hr 0 _ _ _ _ _ q2 t2 850 _ g2' hq2 (by omega) ?_
  have w2 := hd_w.s (c := (850, hd_r B)) hq2 g2'
  have k1 := (w2.ne hne).trans w1.at
  have k2 := w2.at
  have hlen : (am_s (am_s h q1 (850, hd_r A)) q2 (850, hd_r B)).length = h.length := by rw [am_s_len, am_s_len]
  have hold : ∀ p, p ≠ q1 → p ≠ q2 → am_g G (am_s (am_s h q1 (850, hd_r A)) q2 (850, hd_r B)) p = am_g G h p := fun p e1 e2 => (w2.ne e2).trans (w1.ne e1)
  generalize am_s (am_s h q1 (850, hd_r A)) q2 (850, hd_r B) = H at k1 k2 hlen hold ⊢
  refine hs 0 _ rfl _ _ _ _ _ _ _ rfl ?_
  refine hs 1 _ rfl _ _ _ _ _ _ _ rfl ?_
  refine hs 2 _ rfl _ _ _ _ _ _ _ rfl ?_
  refine hs 3 _ rfl _ _ _ _ _ _ _ rfl ?_
  refine hs 4 _ rfl _ _ _ _ _ _ _ rfl ?_
  refine hs 5 _ rfl 850 _ _ _ _ 38 _ _ (by decide) (by decide) (by decide) (by omega) (by omega) ?_
  rw [show Int.toNat 0 = 0 from rfl]
  rw [hd_r0]
  refine hs 6 _ rfl _ _ _ _ _ _ _ rfl ?_
  refine hs 7 _ rfl _ _ _ _ _ _ _ rfl ?_
  refine hs 8 _ rfl 850 _ _ _ _ 38 _ _ (by decide) (by decide) (by decide) (by omega) (by omega) ?_
  rw [show Int.toNat 0 = 0 from rfl]
  rw [hd_r0]
  have n1 := hd_neq k1
  have n2 := hd_neq k2
  have j1 := hd_old (c := (850, hd_r (List.replicate 38 0))) (hd_old (c := (850, hd_r (List.replicate 38 0))) k1)
  have j2 := hd_old (c := (850, hd_r (List.replicate 38 0))) (hd_old (c := (850, hd_r (List.replicate 38 0))) k2)
  have j3 := hd_old (c := (850, hd_r (List.replicate 38 0))) (hd_new (G := G) (h := H) (c := (850, hd_r (List.replicate 38 0))))
  have j4 := hd_new (G := G) (h := H ++ [(850, hd_r (List.replicate 38 0))]) (c := (850, hd_r (List.replicate 38 0)))
  have hlH : (H ++ [(850, hd_r (List.replicate 38 0))]).length = H.length + 1 := by rw [List.length_append]; rfl
  rw [hlH] at j4 ⊢
  refine hs 9 _ rfl _ _ _ _ _ _ _ rfl ?_
  refine hs 10 _ rfl _ _ _ _ _ _ _ rfl ?_
  refine hs 11 _ rfl _ _ _ _ _ _ _ rfl ?_
  refine hs 12 _ rfl _ _ _ _ _ _ _ rfl ?_
  refine hd_B (hs 13 _ rfl) (by decide) (by decide) (by omega) j4 (by decide) (j := 0) rfl (by decide) (by decide) ?_
  refine hs 14 _ rfl _ _ _ _ _ _ _ rfl ?_
  refine hs 15 _ rfl _ _ _ _ _ _ _ rfl ?_
  have w4 := hd_w.s (c := (850, hd_r ((List.replicate 38 (0 : Int)).set 0 1))) (by omega) j4
  have hd0 : hd_d (List.replicate 38 0) := fun d hd => by rw [List.eq_of_mem_replicate hd]; decide
  have hd1 : hd_d ((List.replicate 38 (0 : Int)).set 0 1) := fun d hd => (List.mem_or_eq_of_mem_set hd).elim (hd0 d) (fun e => by rw [e]; decide)
  have hlt1 := am_g_lt hq1 k1
  have hlt2 := am_g_lt hq2 k2
  have hne9 : eu_ne q1 q2 (1000 + H.length) (1000 + (H.length + 1)) := ⟨⟨hq1, hq2, by omega, by omega⟩, hne, n1, by omega, n2, by omega, by omega⟩
  have hst : eu_st G _ (am_s (H ++ [(850, hd_r (List.replicate 38 0))] ++ [(850, hd_r (List.replicate 38 0))]) (1000 + (H.length + 1)) (850, hd_r ((List.replicate 38 (0 : Int)).set 0 1))) q1 q2 (1000 + H.length) (1000 + (H.length + 1)) A B (List.replicate 38 0) ((List.replicate 38 (0 : Int)).set 0 1) :=
    ⟨⟨(w4.ne (by omega)).trans j1, (w4.ne (by omega)).trans j2, (w4.ne (by omega)).trans j3, w4.at⟩, ⟨⟨hA, hlA⟩, ⟨hB, hlB⟩, ⟨hd0, rfl⟩, ⟨hd1, rfl⟩⟩, rfl, fun p _ _ _ _ => rfl⟩
  have hl0 : (am_s (H ++ [(850, hd_r (List.replicate 38 0))] ++ [(850, hd_r (List.replicate 38 0))]) (1000 + (H.length + 1)) (850, hd_r ((List.replicate 38 (0 : Int)).set 0 1))).length = h.length + 2 := by rw [am_s_len, List.length_append, hlH, hlen]; rfl
  have hb0 : ∀ p, p ≠ 1000 + H.length → p ≠ 1000 + (H.length + 1) → am_g G (am_s (H ++ [(850, hd_r (List.replicate 38 0))] ++ [(850, hd_r (List.replicate 38 0))]) (1000 + (H.length + 1)) (850, hd_r ((List.replicate 38 (0 : Int)).set 0 1))) p = am_g G H p := fun p e1 e2 => by rw [w4.ne e2, am_g_new, hlH, if_neg e2, am_g_new, if_neg e1]
  generalize am_s (H ++ [(850, hd_r (List.replicate 38 0))] ++ [(850, hd_r (List.replicate 38 0))]) (1000 + (H.length + 1)) (850, hd_r ((List.replicate 38 (0 : Int)).set 0 1)) = H0 at hst hl0 hb0 ⊢
  have fin : ∀ (qa qb qc qd : Nat) (A B C D : List Int) (hh : List am_C) (x : Int32) (w : Option Value), eu_R q1 q2 (1000 + H.length) (1000 + (H.length + 1)) qa qb qc qd → eu_ne qa qb qc qd → eu_st G H0 hh qa qb qc qd A B C D → S 110 [some (.ref q1), some (.ref q2), some (.ref qa), some (.ref qb), some (.ref qc), some (.ref qd), some (.int x), w] [] hh 2 76 := by
    intro qa qb qc qd A B C D hh x w hRR hnn e
    obtain ⟨⟨a1, a2, a3, a4⟩, ⟨⟨b1, c1⟩, ⟨b2, c2⟩, ⟨b3, c3⟩, ⟨b4, c4⟩⟩, e3, e4⟩ := id e
    have hlh : hh.length = h.length + 2 := e3.trans hl0
    refine hs 59 _ rfl _ _ _ _ _ _ _ rfl ?_
    refine hs 60 _ rfl 57 _ _ _ _ 3 _ _ (by decide) (by decide) (by decide) (by omega) (by omega) ?_
    rw [show Int.toNat 2 = 2 from rfl]
    have m1 := hd_new (G := G) (h := hh) (c := (57, List.replicate 3 (ck_d0 2)))
    have o1 := hd_old (c := (57, List.replicate 3 (ck_d0 2))) a1
    refine hs 61 _ rfl _ _ _ _ _ _ _ rfl ?_
    refine hs 62 _ rfl _ _ _ _ _ _ _ rfl ?_
    refine hs 63 _ rfl _ _ _ _ _ _ _ rfl ?_
    refine hs 64 _ rfl _ _ _ _ _ (1000 + hh.length) 57 (Int32.ofInt 0) _ (.ref qa) (by omega) m1 (by decide) (by decide) (by decide) (by decide) (Or.inr (Or.inr (Or.inr (Or.inr ⟨_, _, _, rfl, o1, by decide⟩)))) ?_
    rw [show (Int32.ofInt 0).toInt.toNat = 0 from rfl]
    have w6 := hd_w.s (c := (57, (List.replicate 3 (ck_d0 2)).set 0 (.ref qa))) (by omega) m1
    have o2 := (w6.ne (hd_neq a3)).trans (hd_old (c := (57, List.replicate 3 (ck_d0 2))) a3)
    refine hs 65 _ rfl _ _ _ _ _ _ _ rfl ?_
    refine hs 66 _ rfl _ _ _ _ _ _ _ rfl ?_
    refine hs 67 _ rfl _ _ _ _ _ _ _ rfl ?_
    refine hs 68 _ rfl _ _ _ _ _ (1000 + hh.length) 57 (Int32.ofInt 1) _ (.ref qc) (by omega) w6.at (by decide) (by decide) (by decide) (by rw [List.length_set]; decide) (Or.inr (Or.inr (Or.inr (Or.inr ⟨_, _, _, rfl, o2, by decide⟩)))) ?_
    rw [show (Int32.ofInt 1).toInt.toNat = 1 from rfl]
    have w7 := hd_w.s (c := (57, ((List.replicate 3 (ck_d0 2)).set 0 (.ref qa)).set 1 (.ref qc))) (by omega) w6.at
    refine hs 69 _ rfl _ _ _ _ _ _ _ rfl ?_
    refine hs 70 _ rfl _ _ _ _ _ _ _ rfl ?_
    refine hs 71 _ rfl _ _ _ _ _ _ _ rfl ?_
    refine hs 72 _ rfl 350 _ _ _ _ 1 _ _ (by decide) (by decide) (by decide) (by omega) (by omega) ?_
    rw [show Int.toNat 0 = 0 from rfl]
    have hl7 : (am_s (am_s (hh ++ [(57, List.replicate 3 (ck_d0 2))]) (1000 + hh.length) (57, (List.replicate 3 (ck_d0 2)).set 0 (.ref qa))) (1000 + hh.length) (57, ((List.replicate 3 (ck_d0 2)).set 0 (.ref qa)).set 1 (.ref qc))).length = hh.length + 1 := by rw [am_s_len, am_s_len, List.length_append]; rfl
    have m8 := hd_new (G := G) (h := am_s (am_s (hh ++ [(57, List.replicate 3 (ck_d0 2))]) (1000 + hh.length) (57, (List.replicate 3 (ck_d0 2)).set 0 (.ref qa))) (1000 + hh.length) (57, ((List.replicate 3 (ck_d0 2)).set 0 (.ref qa)).set 1 (.ref qc))) (c := (350, List.replicate 1 (ck_d0 0)))
    rw [hl7] at m8 ⊢
    refine hs 73 _ rfl _ _ _ _ _ _ _ rfl ?_
    refine hs 74 _ rfl _ _ _ _ _ _ _ rfl ?_
    refine hs 75 _ rfl _ _ _ _ _ _ _ rfl ?_
    refine hs 76 _ rfl _ _ _ _ _ (1000 + (hh.length + 1)) 350 (Int32.ofInt 0) _ (.int x) (by omega) m8 (by decide) (by decide) (by decide) (by decide) (Or.inl ⟨by decide, _, rfl⟩) ?_
    rw [show (Int32.ofInt 0).toInt.toNat = 0 from rfl]
    have w9 := hd_w.s (c := (350, (List.replicate 1 (ck_d0 0)).set 0 (.int x))) (by omega) m8
    have m9 := (w9.ne (show 1000 + hh.length ≠ 1000 + (hh.length + 1) by omega)).trans (hd_old (c := (350, List.replicate 1 (ck_d0 0))) w7.at)
    refine hs 77 _ rfl _ _ _ _ _ (1000 + hh.length) 57 (Int32.ofInt 2) _ (.ref (1000 + (hh.length + 1))) (by omega) m9 (by decide) (by decide) (by decide) (by rw [List.length_set, List.length_set]; decide) (Or.inr (Or.inr (Or.inr (Or.inr ⟨_, _, _, rfl, w9.at, by decide⟩)))) ?_
    rw [show (Int32.ofInt 2).toInt.toNat = 2 from rfl]
    have w10 := hd_w.s (c := (57, (((List.replicate 3 (ck_d0 2)).set 0 (.ref qa)).set 1 (.ref qc)).set 2 (.ref (1000 + (hh.length + 1))))) (by omega) m9
    have hall : ∀ R1 R2 R3 R4 : List Int, (∀ p, am_g G hh p = if p = q1 then some (850, hd_r R1) else if p = q2 then some (850, hd_r R2) else if p = 1000 + H.length then some (850, hd_r R3) else if p = 1000 + (H.length + 1) then some (850, hd_r R4) else am_g G h p) → (hd_d R1 ∧ R1.length = 38) → (hd_d R2 ∧ R2.length = 38) → (hd_d R3 ∧ R3.length = 38) → (hd_d R4 ∧ R4.length = 38) → Post (.inl (some (.ref (1000 + hh.length)))) (am_s (am_s (am_s (am_s (hh ++ [(57, List.replicate 3 (ck_d0 2))]) (1000 + hh.length) (57, (List.replicate 3 (ck_d0 2)).set 0 (.ref qa))) (1000 + hh.length) (57, ((List.replicate 3 (ck_d0 2)).set 0 (.ref qa)).set 1 (.ref qc)) ++ [(350, List.replicate 1 (ck_d0 0))]) (1000 + (hh.length + 1)) (350, (List.replicate 1 (ck_d0 0)).set 0 (.int x))) (1000 + hh.length) (57, (((List.replicate 3 (ck_d0 2)).set 0 (.ref qa)).set 1 (.ref qc)).set 2 (.ref (1000 + (hh.length + 1))))) := by
      intro R1 R2 R3 R4 hall d1 d2 d3 d4
      have hx := hP R1 R2 R3 R4 qa qc x d1 d2 d3 d4 (hRR.1.elim (fun z => Or.inl z.1) fun z => Or.inr z.1) (by rw [← hlen]; exact hRR.2.elim (fun z => Or.inl z.1) fun z => Or.inr z.1)
      rw [show 1000 + hh.length = 1000 + (h.length + 2) by omega, show 1000 + (hh.length + 1) = 1000 + (h.length + 3) by omega] at *
      refine (congrArg (Post _) (hd_eq (G := G) fun p => ?_)).mp hx
      have l1 : q1 - 1000 < (h ++ [(850, hd_r R3), (850, hd_r R4), (57, [.ref qa, .ref qc, .ref (1000 + (h.length + 3))]), (350, [.int x])]).length := by rw [List.length_append]; omega
      rw [am_g_s hq2 (by rw [am_s_len, List.length_append]; omega), am_g_s hq1 l1, w10.2 p, w9.2 p, am_g_new, hl7, w7.2 p, w6.2 p, am_g_new, hall p]
      have e9 : ∀ p : Nat, am_g G (h ++ [(850, hd_r R3), (850, hd_r R4), (57, [.ref qa, .ref qc, .ref (1000 + (h.length + 3))]), (350, [.int x])]) p = if p = 1000 + h.length then some (850, hd_r R3) else if p = 1000 + (h.length + 1) then some (850, hd_r R4) else if p = 1000 + (h.length + 2) then some (57, [.ref qa, .ref qc, .ref (1000 + (h.length + 3))]) else if p = 1000 + (h.length + 3) then some (350, [.int x]) else am_g G h p := by
        intro p
        rw [show h ++ [((850 : Nat), hd_r R3), (850, hd_r R4), (57, [.ref qa, .ref qc, .ref (1000 + (h.length + 3))]), (350, [.int x])] = (((h ++ [(850, hd_r R3)]) ++ [(850, hd_r R4)]) ++ [(57, [.ref qa, .ref qc, .ref (1000 + (h.length + 3))])]) ++ [(350, [.int x])] by simp]
        rw [am_g_new, am_g_new, am_g_new, am_g_new]
        simp only [List.length_append, List.length_cons, List.length_nil]
        by_cases y1 : p = 1000 + h.length
        · subst y1; rw [if_neg (by omega), if_neg (by omega), if_neg (by omega), if_pos rfl, if_pos rfl]
        · by_cases y2 : p = 1000 + (h.length + 1)
          · subst y2; rw [if_neg (by omega), if_neg (by omega), if_pos (by omega), if_neg y1, if_pos rfl]
          · by_cases y3 : p = 1000 + (h.length + 2)
            · subst y3; rw [if_neg (by omega), if_pos (by omega), if_neg y1, if_neg y2, if_pos rfl]
            · by_cases y4 : p = 1000 + (h.length + 3)
              · subst y4; rw [if_pos (by omega), if_neg y1, if_neg y2, if_neg y3, if_pos rfl]
              · rw [if_neg (by omega), if_neg (by omega), if_neg (by omega), if_neg y1, if_neg y1, if_neg y2, if_neg y3, if_neg y4]
      rw [e9 p, hlen]
      by_cases y0 : p = q2
      · subst y0; rw [if_pos rfl, if_neg (by omega), if_neg (by omega), if_neg (by omega), if_neg (by omega), if_neg (by omega), if_neg (by omega), if_neg hne.symm, if_pos rfl]
      · by_cases yq : p = q1
        · subst yq; rw [if_neg y0, if_pos rfl, if_neg (by omega), if_neg (by omega), if_neg (by omega), if_neg (by omega), if_neg (by omega), if_neg (by omega), if_pos rfl]
        · by_cases y1 : p = 1000 + h.length
          · subst y1; rw [if_neg y0, if_neg yq, if_pos rfl, if_neg (by omega), if_neg (by omega), if_neg (by omega), if_neg (by omega), if_neg (by omega), if_neg (by omega), if_neg yq, if_neg y0, if_pos rfl]
          · by_cases y2 : p = 1000 + (h.length + 1)
            · subst y2; rw [if_neg y0, if_neg yq, if_neg y1, if_pos rfl, if_neg (by omega), if_neg (by omega), if_neg (by omega), if_neg (by omega), if_neg (by omega), if_neg (by omega), if_neg yq, if_neg y0, if_neg y1, if_pos rfl]
            · by_cases y3 : p = 1000 + (h.length + 2)
              · subst y3; rw [if_neg y0, if_neg yq, if_neg y1, if_neg y2, if_pos rfl, if_pos rfl]; rfl
              · by_cases y4 : p = 1000 + (h.length + 3)
                · subst y4; rw [if_neg y0, if_neg yq, if_neg y1, if_neg y2, if_neg y3, if_pos rfl, if_neg y3, if_pos rfl]; rfl
                · rw [if_neg y0, if_neg yq, if_neg y1, if_neg y2, if_neg y3, if_neg y4]; repeat rw [if_neg (by omega)]
    have hbase : ∀ p, p ≠ q1 → p ≠ q2 → p ≠ 1000 + H.length → p ≠ 1000 + (H.length + 1) → am_g G hh p = am_g G h p := by
      intro p y1 y2 y3 y4
      have : am_g G hh p = am_g G H0 p := by
        rcases hRR with ⟨⟨rfl, rfl⟩ | ⟨rfl, rfl⟩, ⟨rfl, rfl⟩ | ⟨rfl, rfl⟩⟩
        · exact e4 p y1 y2 y3 y4
        · exact e4 p y1 y2 y4 y3
        · exact e4 p y2 y1 y3 y4
        · exact e4 p y2 y1 y4 y3
      rw [this, hb0 p y3 y4, hold p y1 y2]
    have hmain : Post (.inl (some (.ref (1000 + hh.length)))) (am_s (am_s (am_s (am_s (hh ++ [(57, List.replicate 3 (ck_d0 2))]) (1000 + hh.length) (57, (List.replicate 3 (ck_d0 2)).set 0 (.ref qa))) (1000 + hh.length) (57, ((List.replicate 3 (ck_d0 2)).set 0 (.ref qa)).set 1 (.ref qc)) ++ [(350, List.replicate 1 (ck_d0 0))]) (1000 + (hh.length + 1)) (350, (List.replicate 1 (ck_d0 0)).set 0 (.int x))) (1000 + hh.length) (57, (((List.replicate 3 (ck_d0 2)).set 0 (.ref qa)).set 1 (.ref qc)).set 2 (.ref (1000 + (hh.length + 1))))) := by
      have key : ∀ R1 R2 R3 R4 : List Int, am_g G hh q1 = some (850, hd_r R1) → am_g G hh q2 = some (850, hd_r R2) → am_g G hh (1000 + H.length) = some (850, hd_r R3) → am_g G hh (1000 + (H.length + 1)) = some (850, hd_r R4) → ∀ p, am_g G hh p = if p = q1 then some (850, hd_r R1) else if p = q2 then some (850, hd_r R2) else if p = 1000 + H.length then some (850, hd_r R3) else if p = 1000 + (H.length + 1) then some (850, hd_r R4) else am_g G h p := by
        intro R1 R2 R3 R4 z1 z2 z3 z4 p
        by_cases y1 : p = q1
        · rw [if_pos y1, y1]; exact z1
        · rw [if_neg y1]
          by_cases y2 : p = q2
          · rw [if_pos y2, y2]; exact z2
          · rw [if_neg y2]
            by_cases y3 : p = 1000 + H.length
            · rw [if_pos y3, y3]; exact z3
            · rw [if_neg y3]
              by_cases y4 : p = 1000 + (H.length + 1)
              · rw [if_pos y4, y4]; exact z4
              · rw [if_neg y4]; exact hbase p y1 y2 y3 y4
      rcases id hRR with ⟨⟨y1, y2⟩ | ⟨y1, y2⟩, ⟨y3, y4⟩ | ⟨y3, y4⟩⟩
      · exact hall A B C D (key A B C D (y1 ▸ a1) (y2 ▸ a2) (y3 ▸ a3) (y4 ▸ a4)) ⟨b1, c1⟩ ⟨b2, c2⟩ ⟨b3, c3⟩ ⟨b4, c4⟩
      · exact hall A B D C (key A B D C (y1 ▸ a1) (y2 ▸ a2) (y4 ▸ a4) (y3 ▸ a3)) ⟨b1, c1⟩ ⟨b2, c2⟩ ⟨b4, c4⟩ ⟨b3, c3⟩
      · exact hall B A C D (key B A C D (y2 ▸ a2) (y1 ▸ a1) (y3 ▸ a3) (y4 ▸ a4)) ⟨b2, c2⟩ ⟨b1, c1⟩ ⟨b3, c3⟩ ⟨b4, c4⟩
      · exact hall B A D C (key B A D C (y2 ▸ a2) (y1 ▸ a1) (y4 ▸ a4) (y3 ▸ a3)) ⟨b2, c2⟩ ⟨b1, c1⟩ ⟨b4, c4⟩ ⟨b3, c3⟩
    exact hs 78 _ rfl _ _ _ _ _ (Or.inl ⟨_, rfl⟩) (by omega) (by omega) hmain
  exact eu_outer g hs (by omega) (by omega) (eu_R q1 q2 (1000 + H.length) (1000 + (H.length + 1))) (fun a b c d z => ⟨z.1.elim (fun y => Or.inr ⟨y.2, y.1⟩) (fun y => Or.inl ⟨y.2, y.1⟩), z.2.elim (fun y => Or.inr ⟨y.2, y.1⟩) (fun y => Or.inl ⟨y.2, y.1⟩)⟩) fin _ q1 q2 _ _ A B _ _ _ 0 none (Nat.lt_succ_self _) ⟨Or.inl ⟨rfl, rfl⟩, Or.inl ⟨rfl, rfl⟩⟩ hne9 hst
