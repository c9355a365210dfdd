/-! WHAT THE REFERENCE THREW -/
def gt_yX14_thrown_X : ck_TB := ([], [], [], [(31, 19, 0)], [], [], [], [], ([], [], [], []), [], [], [], 0)
def ge_yX14_thrown_X : ck_E := (gT, [], (([], [], [], 0, []), ((0, []), (0, [])), [], [], ([], [], [], 0, []), []), 1, [(0, (0, 5, 0, 0, 1, 0, [])), (1, (7, 19, 0, 0, 4, 0, [])), (4, (14, 0, 0, 0, 0, 0, []))], [], [], [], [])
theorem gd_yX14_thrown_X : ck_dec prog_14_method_2_code gt_yX14_thrown_X ge_yX14_thrown_X.2.2.2.2.1 = true := by decide +kernel
theorem gh_yX14_thrown_X {l : Launch} {G : am_G} {X : ck_XT} (g : gM l G X) {a : List Value} {h : List am_C} {mc ms : Nat} {Post : am_O → List am_C → Prop} (hay : (am_lay a).length ≤ 1) (H : ∀ (S : ck_SS) (SX : Nat → ck_SX), ck_hs G S SX Post mc ms (ck_cms []) ge_yX14_thrown_X → (∀ pc, ck_sR G S pc) → ck_hw S → zw_hx SX Post mc ms → S 0 (am_ent a 1) [] h 0 0) : am_M l G yX14_thrown (.code yX14_thrown prog_14_method_2_code 1 (some .int)) 1 20 mc ms a h Post :=
  zw_handX (E := ge_yX14_thrown_X) (tb := gt_yX14_thrown_X) (init := false) (cm := (ck_cms [])) g.1.1 (by decide +kernel) rfl gd_yX14_thrown_X ⟨(List.forall_mem_nil _), (List.forall_mem_nil _), (List.forall_mem_nil _), (List.forall_mem_cons.mpr ⟨⟨⟨_, _, _, rfl, Or.inl w1717⟩, by decide, _, _, g_fd19_0⟩, (List.forall_mem_nil _)⟩), (List.forall_mem_nil _), (List.forall_mem_nil _), (List.forall_mem_nil _), (List.forall_mem_nil _)⟩ (List.forall_mem_nil _) (fun h => nomatch h) ⟨_, rfl, rfl⟩ (by decide) (by decide) g_oi g_ar
    (fun s hk _ => (List.forall_mem_nil _)) (fun s hk => (List.forall_mem_nil _))
    (List.forall_mem_nil _) (List.forall_mem_nil _) (List.forall_mem_nil _) (List.forall_mem_nil _)
    (List.forall_mem_nil _) hay H
set_option maxHeartbeats 4000000 in
theorem zm_thrown_M {l : Launch} {G : am_G} {X : ck_XT} (g : gM l G X) {o : Nat → Nat} {x tx now qw : Nat} {th j m k : Int} {c : sp_S} {P : List sp_S} {h : List am_C} (hX : zm_x G h o x tx now qw th j m k c P) {mc ms : Nat} {Post : am_O → List am_C → Prop}
    (hP : Post (.inl (some (.int (Int32.ofInt th)))) h) :
    am_M l G yX14_thrown (.code yX14_thrown prog_14_method_2_code 1 (some .int)) 1 20 mc ms [.ref x] h Post := by
  refine gh_yX14_thrown_X g (Nat.le_of_ble_eq_true rfl) fun S SX hs hr hw hx => ?_
  have rv : ∀ x : Int32, ck_fv 0 (.int x) := fun x => ⟨_, rfl⟩
  obtain ⟨a1_, a2_, a3_, a4_⟩ := id hX
  refine hs 0 _ rfl _ _ _ _ _ _ _ rfl ?_
  refine hs 1 _ rfl _ _ _ _ _ _ _ _ _ a1_ a2_.1 rfl ?_
  exact hs 2 _ rfl _ _ _ _ _ (rv _) (Nat.zero_le _) (Nat.zero_le _) hP
