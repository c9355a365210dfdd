/-! INTEGER.VALUEOF -/
def li_valK : ck_KK := (([(-128, 999)], [], [], 0, [(1, 0, (0, [(1, 0)]))]), ((1, []), (1, [])), [(2, 0)], [], ([], [], [(2, 0, 0, 41002, (0, 0, (1, []))), (3, 0, 0, 41002, (1, 0, (0, [(1, 0)])))], 1, [(3, 0, (0, []))]), [])
theorem li_val_con {l : Launch} {G : am_G} {X : ck_XT} (g : gM l G X) : ck_Con (am_cm l G yJ6_valueOf_2dffe (.code yJ6_valueOf_2dffe prog_28_method_22_code 1 (some (.object "java/lang/Integer"))) 3 61) G X gT li_valK := by
  intro K r s a h hH hV hC hFc hn hS mc ms hmc hms
  have hmc' : (mc : Int) = 1 := li_k hmc
  have hms' : (ms : Int) = 1 := li_k hms
  match r, hV.1 with
  | [x0], _ =>
    match s, hn with
    | [], _ =>
      match a, hS with
      | [v1], ⟨⟨x, s1, s2⟩, _⟩ =>
        subst s1
        have s2 := ck_lv1 s2
        cases s2
        obtain ⟨i1, i2⟩ := li_in' hV
        by_cases hx : 128 ≤ x.toInt
        · have H := gm_yJ6_valueOf_2dffe_h g K [x.toInt] [] [.int x] h hH (li_in hx i2 li_in0) (fun c hc => nomatch hc) (fun f hf => nomatch hf) rfl ⟨⟨x, rfl, ck_Lv.x rfl⟩, trivial⟩ mc ms hmc hms
          refine am_M.mono H fun o h' hp => ?_
          obtain ⟨k1, k2, k3, k4⟩ := hp
          refine ⟨k1, k2, k3, ?_⟩
          cases o with
          | inr E => cases (show E ∈ ([] : List String) from k4)
          | inl v =>
            obtain ⟨r2, s2, m1, m2, m3, m4, m5⟩ := k4
            exact ⟨r2, s2, m1, m2, fun f hf => m3 f (by unfold gc_yJ6_valueOf_2dffe_h; simp [li_valK] at hf ⊢; rcases hf with rfl | rfl <;> simp), m4, m5⟩
        · obtain ⟨-, -, vs, hG, hc⟩ := id g
          have hG : am_g G h 1 = some (43058, vs) := hG
          have hj : x.toInt + 128 = ((x.toInt + 128).toNat : Int) := by omega
          obtain ⟨c, c1, c2, c3⟩ := hc (x.toInt + 128).toNat (by omega)
          have hadd : (x + Int32.ofInt 128).toInt = x.toInt + 128 := by
            rw [Int32.toInt_add, show (Int32.ofInt 128).toInt = 128 by decide]
            exact Int.bmod_eq_of_le (by omega) (by omega)
          have hcx : am_g G h c = some (41002, [.int x]) := by
            unfold am_g
            rw [if_pos c2, c3]
            congr 3
            rw [← hj, show x.toInt + 128 - 128 = x.toInt by omega, Int32.ofInt_toInt]
          refine gh_yJ6_valueOf_2dffe_H g (Nat.le_of_ble_eq_true rfl) fun S SX hs hr hw => ?_
          refine hs 0 _ rfl _ _ _ _ _ _ _ rfl ?_
          refine hs 1 _ rfl _ _ _ _ _ _ _ rfl ?_
          refine hs 2 _ rfl _ _ _ _ _ _ _ (fun z => ?_) fun z => ?_
          · exfalso
            have z : x.toInt - (Int32.ofInt (-128)).toInt < 0 := z
            rw [show (Int32.ofInt (-128)).toInt = -128 by decide] at z
            omega
          refine hs 3 _ rfl _ _ _ _ _ _ _ rfl ?_
          refine hs 4 _ rfl _ _ _ _ _ _ _ rfl ?_
          refine hs 5 _ rfl _ _ _ _ _ _ _ (fun z => ?_) fun z => ?_
          · exfalso
            have z : 0 < x.toInt - (Int32.ofInt 127).toInt := z
            rw [show (Int32.ofInt 127).toInt = 127 by decide] at z
            omega
          refine hs 6 _ rfl _ _ _ _ _ _ _ rfl ?_
          refine hs 7 _ rfl _ _ _ _ _ _ _ rfl ?_
          refine hs 8 _ rfl _ _ _ _ _ _ _ rfl ?_
          refine hs 9 _ rfl _ _ _ _ _ _ _ rfl ?_
          refine hs 10 _ rfl _ _ _ _ _ _ _ _ _ _ hG (by decide) (by show 0 ≤ (x + Int32.ofInt 128).toInt; rw [hadd]; omega) (by show vs[(x + Int32.ofInt 128).toInt.toNat]? = _; rw [hadd]; exact c1) ?_
          refine hs 11 _ rfl _ _ _ _ _ (Or.inl ⟨_, rfl⟩) (by omega) (by omega) ⟨hH, ck_Kp.rf, Nat.le_refl _, [], [c], li_in0, (fun c hc => nomatch hc), List.forall_mem_cons.mpr ⟨?_, List.forall_mem_cons.mpr ⟨?_, List.forall_mem_nil _⟩⟩, rfl, ⟨⟨c, rfl, rfl⟩, trivial⟩⟩
          · exact ⟨c, _, rfl, hcx, ck_Lv.k _ 1⟩
          · exact ⟨c, _, _, rfl, hcx, rfl, x, rfl, ck_Lv.x rfl⟩
