section
/-! THE STATE, TO BE WALKED BY HAND -/
def gt_yX9_become_X : ck_TB := ([], [], [], [(11, 14, 1), (17, 14, 3), (21, 14, 4), (24, 14, 6), (28, 14, 0), (36, 14, 2), (45, 14, 5)], [(28, 14, 0, 0), (36, 14, 2, 0), (45, 14, 5, 0)], [], [], [], ([(32, 0)], [], [(39, 1)], []), [], [], [], 9)
def ge_yX9_become_X : ck_E := (gT, [], (([], [], [], 0, []), ((0, []), (0, [])), [], [], ([], [], [], 0, []), []), 3, [(0, (0, 5, 0, 0, 1, 0, [])), (1, (0, 5, 1, 0, 2, 0, [])), (2, (7, 14, 0, 0, 5, 0, [])), (5, (8, 14, 0, 0, 8, 0, [])), (8, (0, 0, 0, 0, 9, 0, [])), (9, (0, 6, 2, 0, 10, 0, [])), (10, (0, 3, 2, 0, 11, 0, [])), (11, (0, 0, 0, 6, 13, 0, [])), (13, (2, 3, 0, 0, 16, 37, [])), (16, (0, 5, 0, 0, 17, 0, [])), (17, (7, 14, 1, 0, 20, 0, [])), (20, (0, 3, 2, 0, 21, 0, [])), (21, (12, 53, 58, 0, 22, 0, [])), (22, (0, 5, 1, 0, 23, 0, [])), (23, (7, 14, 1, 0, 26, 0, [])), (26, (0, 3, 2, 0, 27, 0, [])), (27, (12, 53, 58, 0, 28, 0, [])), (28, (16, 0, 0, 0, 31, 0, [])), (31, (0, 9, 2, 1, 34, 0, [])), (34, (3, 0, 0, 0, 0, 10, [])), (37, (0, 5, 0, 0, 38, 0, [])), (38, (0, 5, 1, 0, 39, 0, [])), (39, (7, 14, 2, 0, 42, 0, [])), (42, (8, 14, 2, 0, 45, 0, [])), (45, (0, 5, 1, 0, 46, 0, [])), (46, (7, 14, 3, 0, 49, 0, [])), (49, (0, 0, 0, 0, 50, 0, [])), (50, (0, 5, 0, 0, 51, 0, [])), (51, (7, 14, 3, 0, 54, 0, [])), (54, (0, 0, 0, 0, 55, 0, [])), (55, (0, 0, 0, 6, 57, 0, [])), (57, (16, 1, 0, 0, 60, 0, [])), (60, (0, 5, 1, 0, 61, 0, [])), (61, (7, 14, 4, 0, 64, 0, [])), (64, (0, 0, 0, 0, 65, 0, [])), (65, (0, 5, 0, 0, 66, 0, [])), (66, (7, 14, 4, 0, 69, 0, [])), (69, (0, 0, 0, 0, 70, 0, [])), (70, (0, 0, 0, 6, 72, 0, [])), (72, (16, 1, 0, 0, 75, 0, [])), (75, (0, 5, 0, 0, 76, 0, [])), (76, (0, 5, 1, 0, 77, 0, [])), (77, (7, 14, 5, 0, 80, 0, [])), (80, (8, 14, 5, 0, 83, 0, [])), (83, (0, 5, 1, 0, 84, 0, [])), (84, (7, 14, 6, 0, 87, 0, [])), (87, (0, 0, 0, 0, 88, 0, [])), (88, (0, 5, 0, 0, 89, 0, [])), (89, (7, 14, 6, 0, 92, 0, [])), (92, (0, 0, 0, 0, 93, 0, [])), (93, (0, 0, 0, 5, 94, 0, [])), (94, (16, 1, 0, 0, 97, 0, [])), (97, (15, 0, 0, 0, 0, 0, []))], [(some 7, 2, []), (none, 5, [])], [], [], [])
theorem gd_yX9_become_X : ck_dec prog_11_method_2_code gt_yX9_become_X ge_yX9_become_X.2.2.2.2.1 = true := by decide +kernel
theorem gh_yX9_become_X {l : Launch} {G : am_G} {X : ck_XT} (g : gM l G X) {a : List Value} {h : List am_C} {mc ms : Nat} {Post : am_O → List am_C → Prop} (hay : (am_lay a).length ≤ 3) (H : ∀ (S : ck_SS) (SX : Nat → ck_SX), ck_hs G S SX Post mc ms (ck_cms [am_cm l G yX0_become (.code yX0_become prog_2_method_7_code 2 none) 2 59, ck_acM G]) ge_yX9_become_X → (∀ pc, ck_sR G S pc) → ck_hw S → zw_hx SX Post mc ms → S 0 (am_ent a 3) [] h 0 0) : am_M l G yX9_become (.code yX9_become prog_11_method_2_code 3 none) 3 80 mc ms a h Post :=
  zw_handX (E := ge_yX9_become_X) (tb := gt_yX9_become_X) (init := false) (cm := (ck_cms [am_cm l G yX0_become (.code yX0_become prog_2_method_7_code 2 none) 2 59, ck_acM G])) g.1.1 (by decide +kernel) rfl gd_yX9_become_X ⟨(List.forall_mem_nil _), (List.forall_mem_nil _), (List.forall_mem_nil _), (List.forall_mem_cons.mpr ⟨⟨⟨_, _, _, rfl, Or.inl w163⟩, by decide, _, _, g_fd14_1⟩, (List.forall_mem_cons.mpr ⟨⟨⟨_, _, _, rfl, Or.inl w167⟩, by decide, _, _, g_fd14_3⟩, (List.forall_mem_cons.mpr ⟨⟨⟨_, _, _, rfl, Or.inl w169⟩, by decide, _, _, g_fd14_4⟩, (List.forall_mem_cons.mpr ⟨⟨⟨_, _, _, rfl, Or.inl w173⟩, by decide, _, _, g_fd14_6⟩, (List.forall_mem_cons.mpr ⟨⟨⟨_, _, _, rfl, Or.inl w162⟩, by decide, _, _, g_fd14_0⟩, (List.forall_mem_cons.mpr ⟨⟨⟨_, _, _, rfl, Or.inl w165⟩, by decide, _, _, g_fd14_2⟩, (List.forall_mem_cons.mpr ⟨⟨⟨_, _, _, rfl, Or.inl w171⟩, by decide, _, _, g_fd14_5⟩, (List.forall_mem_nil _)⟩)⟩)⟩)⟩)⟩)⟩)⟩), (List.forall_mem_nil _), (List.forall_mem_nil _), (List.forall_mem_nil _), (List.forall_mem_nil _)⟩ (List.forall_mem_cons.mpr ⟨⟨⟨_, _, _, rfl, Or.inl w162⟩, by decide, _, rfl, Or.inl g_fd14_0⟩, (List.forall_mem_cons.mpr ⟨⟨⟨_, _, _, rfl, Or.inl w165⟩, by decide, _, rfl, Or.inl g_fd14_2⟩, (List.forall_mem_cons.mpr ⟨⟨⟨_, _, _, rfl, Or.inl w171⟩, by decide, _, rfl, Or.inl g_fd14_5⟩, (List.forall_mem_nil _)⟩)⟩)⟩) (fun h => nomatch h) rfl (by decide) (by decide) g_oi g_ar
    (fun s hk _ => (List.forall_mem_nil _)) (fun s hk => (List.forall_mem_nil _))
    (List.forall_mem_cons.mpr ⟨(ck_kV g_y_yX0_become w1230 w975 w976 (T := TX0) (N := 3) rfl (by decide) (by decide) (by decide)), (List.forall_mem_nil _)⟩) (List.forall_mem_nil _) (List.forall_mem_cons.mpr ⟨(ck_kAC w1231 w538 w537 w105 (by decide) (by decide +kernel)), (List.forall_mem_nil _)⟩) (List.forall_mem_nil _)
    (List.forall_mem_nil _) hay H
def gt_yX9_addRow_X : ck_TB := ([], [], [], [(17, 14, 3), (21, 14, 4), (36, 14, 2)], [(36, 14, 2, 0)], [], [], [], ([], [], [(48, 0)], []), [], [], [], 9)
def ge_yX9_addRow_X : ck_E := (gT, [], (([], [], [], 0, []), ((0, []), (0, [])), [], [], ([], [], [], 0, []), []), 3, [(0, (0, 5, 0, 0, 1, 0, [])), (1, (7, 14, 2, 0, 4, 0, [])), (4, (0, 0, 0, 6, 6, 0, [])), (6, (2, 3, 0, 0, 9, 47, [])), (9, (0, 3, 2, 0, 10, 0, [])), (10, (1, 5, 0, 0, 13, 47, [])), (13, (0, 5, 0, 0, 14, 0, [])), (14, (7, 14, 3, 0, 17, 0, [])), (17, (0, 5, 0, 0, 18, 0, [])), (18, (7, 14, 2, 0, 21, 0, [])), (21, (0, 3, 1, 0, 22, 0, [])), (22, (0, 3, 2, 0, 23, 0, [])), (23, (16, 0, 0, 0, 26, 0, [])), (26, (13, 50, 50, 0, 27, 0, [])), (27, (0, 5, 0, 0, 28, 0, [])), (28, (7, 14, 4, 0, 31, 0, [])), (31, (0, 5, 0, 0, 32, 0, [])), (32, (7, 14, 2, 0, 35, 0, [])), (35, (0, 3, 2, 0, 36, 0, [])), (36, (13, 50, 50, 0, 37, 0, [])), (37, (0, 5, 0, 0, 38, 0, [])), (38, (0, 12, 0, 0, 39, 0, [])), (39, (7, 14, 2, 0, 42, 0, [])), (42, (0, 0, 0, 1, 43, 0, [])), (43, (0, 15, 0, 0, 44, 0, [])), (44, (8, 14, 2, 0, 47, 0, [])), (47, (15, 0, 0, 0, 0, 0, []))], [(none, 2, [])], [], [], [])
theorem gd_yX9_addRow_X : ck_dec prog_11_method_3_code gt_yX9_addRow_X ge_yX9_addRow_X.2.2.2.2.1 = true := by decide +kernel
theorem gh_yX9_addRow_X {l : Launch} {G : am_G} {X : ck_XT} (g : gM l G X) {a : List Value} {h : List am_C} {mc ms : Nat} {Post : am_O → List am_C → Prop} (hay : (am_lay a).length ≤ 3) (H : ∀ (S : ck_SS) (SX : Nat → ck_SX), ck_hs G S SX Post mc ms (ck_cms [am_cm l G yJ9_floorMod_7cf53 (.code yJ9_floorMod_7cf53 prog_32_method_50_code 3 (some .int)) 1 20]) ge_yX9_addRow_X → (∀ pc, ck_sR G S pc) → ck_hw S → zw_hx SX Post mc ms → S 0 (am_ent a 3) [] h 0 0) : am_M l G yX9_addRow (.code yX9_addRow prog_11_method_3_code 3 none) 2 42 mc ms a h Post :=
  zw_handX (E := ge_yX9_addRow_X) (tb := gt_yX9_addRow_X) (init := false) (cm := (ck_cms [am_cm l G yJ9_floorMod_7cf53 (.code yJ9_floorMod_7cf53 prog_32_method_50_code 3 (some .int)) 1 20])) g.1.1 (by decide +kernel) rfl gd_yX9_addRow_X ⟨(List.forall_mem_nil _), (List.forall_mem_nil _), (List.forall_mem_nil _), (List.forall_mem_cons.mpr ⟨⟨⟨_, _, _, rfl, Or.inl w167⟩, by decide, _, _, g_fd14_3⟩, (List.forall_mem_cons.mpr ⟨⟨⟨_, _, _, rfl, Or.inl w169⟩, by decide, _, _, g_fd14_4⟩, (List.forall_mem_cons.mpr ⟨⟨⟨_, _, _, rfl, Or.inl w165⟩, by decide, _, _, g_fd14_2⟩, (List.forall_mem_nil _)⟩)⟩)⟩), (List.forall_mem_nil _), (List.forall_mem_nil _), (List.forall_mem_nil _), (List.forall_mem_nil _)⟩ (List.forall_mem_cons.mpr ⟨⟨⟨_, _, _, rfl, Or.inl w165⟩, by decide, _, rfl, Or.inl g_fd14_2⟩, (List.forall_mem_nil _)⟩) (fun h => nomatch h) rfl (by decide) (by decide) g_oi g_ar
    (fun s hk _ => (List.forall_mem_nil _)) (fun s hk => (List.forall_mem_nil _))
    (List.forall_mem_nil _) (List.forall_mem_nil _) (List.forall_mem_cons.mpr ⟨(ck_kS g_y_yJ9_floorMod_7cf53 w1357 w956 (by decide) (by decide)), (List.forall_mem_nil _)⟩) (List.forall_mem_nil _)
    (List.forall_mem_nil _) hay H
def gt_yX9_removeRow_X : ck_TB := ([], [], [], [(17, 14, 3), (21, 14, 4), (36, 14, 2)], [(36, 14, 2, 0)], [], [], [], ([], [], [], []), [], [], [], 9)
def ge_yX9_removeRow_X : ck_E := (gT, [], (([], [], [], 0, []), ((0, []), (0, [])), [], [], ([], [], [], 0, []), []), 3, [(0, (0, 3, 1, 0, 1, 0, [])), (1, (1, 2, 0, 0, 4, 12, [])), (4, (0, 3, 1, 0, 5, 0, [])), (5, (0, 5, 0, 0, 6, 0, [])), (6, (7, 14, 2, 0, 9, 0, [])), (9, (2, 2, 0, 0, 12, 13, [])), (12, (15, 0, 0, 0, 0, 0, [])), (13, (0, 3, 1, 0, 14, 0, [])), (14, (0, 6, 2, 0, 15, 0, [])), (15, (0, 3, 2, 0, 16, 0, [])), (16, (0, 0, 0, 1, 17, 0, [])), (17, (0, 15, 0, 0, 18, 0, [])), (18, (0, 5, 0, 0, 19, 0, [])), (19, (7, 14, 2, 0, 22, 0, [])), (22, (2, 3, 0, 0, 25, 59, [])), (25, (0, 5, 0, 0, 26, 0, [])), (26, (7, 14, 3, 0, 29, 0, [])), (29, (0, 3, 2, 0, 30, 0, [])), (30, (0, 5, 0, 0, 31, 0, [])), (31, (7, 14, 3, 0, 34, 0, [])), (34, (0, 3, 2, 0, 35, 0, [])), (35, (0, 0, 0, 1, 36, 0, [])), (36, (0, 15, 0, 0, 37, 0, [])), (37, (12, 50, 50, 0, 38, 0, [])), (38, (13, 50, 50, 0, 39, 0, [])), (39, (0, 5, 0, 0, 40, 0, [])), (40, (7, 14, 4, 0, 43, 0, [])), (43, (0, 3, 2, 0, 44, 0, [])), (44, (0, 5, 0, 0, 45, 0, [])), (45, (7, 14, 4, 0, 48, 0, [])), (48, (0, 3, 2, 0, 49, 0, [])), (49, (0, 0, 0, 1, 50, 0, [])), (50, (0, 15, 0, 0, 51, 0, [])), (51, (12, 50, 50, 0, 52, 0, [])), (52, (13, 50, 50, 0, 53, 0, [])), (53, (0, 9, 2, 1, 56, 0, [])), (56, (3, 0, 0, 0, 0, 15, [])), (59, (0, 5, 0, 0, 60, 0, [])), (60, (0, 12, 0, 0, 61, 0, [])), (61, (7, 14, 2, 0, 64, 0, [])), (64, (0, 0, 0, 1, 65, 0, [])), (65, (0, 15, 1, 0, 66, 0, [])), (66, (8, 14, 2, 0, 69, 0, [])), (69, (15, 0, 0, 0, 0, 0, []))], [], [], [], [])
theorem gd_yX9_removeRow_X : ck_dec prog_11_method_4_code gt_yX9_removeRow_X ge_yX9_removeRow_X.2.2.2.2.1 = true := by decide +kernel
theorem gh_yX9_removeRow_X {l : Launch} {G : am_G} {X : ck_XT} (g : gM l G X) {a : List Value} {h : List am_C} {mc ms : Nat} {Post : am_O → List am_C → Prop} (hay : (am_lay a).length ≤ 3) (H : ∀ (S : ck_SS) (SX : Nat → ck_SX), ck_hs G S SX Post mc ms (ck_cms []) ge_yX9_removeRow_X → (∀ pc, ck_sR G S pc) → ck_hw S → zw_hx SX Post mc ms → S 0 (am_ent a 3) [] h 0 0) : am_M l G yX9_removeRow (.code yX9_removeRow prog_11_method_4_code 3 none) 1 20 mc ms a h Post :=
  zw_handX (E := ge_yX9_removeRow_X) (tb := gt_yX9_removeRow_X) (init := false) (cm := (ck_cms [])) g.1.1 (by decide +kernel) rfl gd_yX9_removeRow_X ⟨(List.forall_mem_nil _), (List.forall_mem_nil _), (List.forall_mem_nil _), (List.forall_mem_cons.mpr ⟨⟨⟨_, _, _, rfl, Or.inl w167⟩, by decide, _, _, g_fd14_3⟩, (List.forall_mem_cons.mpr ⟨⟨⟨_, _, _, rfl, Or.inl w169⟩, by decide, _, _, g_fd14_4⟩, (List.forall_mem_cons.mpr ⟨⟨⟨_, _, _, rfl, Or.inl w165⟩, by decide, _, _, g_fd14_2⟩, (List.forall_mem_nil _)⟩)⟩)⟩), (List.forall_mem_nil _), (List.forall_mem_nil _), (List.forall_mem_nil _), (List.forall_mem_nil _)⟩ (List.forall_mem_cons.mpr ⟨⟨⟨_, _, _, rfl, Or.inl w165⟩, by decide, _, rfl, Or.inl g_fd14_2⟩, (List.forall_mem_nil _)⟩) (fun h => nomatch h) rfl (by decide) (by decide) g_oi g_ar
    (fun s hk _ => (List.forall_mem_nil _)) (fun s hk => (List.forall_mem_nil _))
    (List.forall_mem_nil _) (List.forall_mem_nil _) (List.forall_mem_nil _) (List.forall_mem_nil _)
    (List.forall_mem_nil _) hay H
def gt_yX9_takesBase_X : ck_TB := ([], [], [], [(24, 14, 6), (45, 14, 5)], [], [], [], [], ([], [], [(54, 0)], []), [], [], [], 1)
def ge_yX9_takesBase_X : ck_E := (gT, [], (([], [], [], 0, []), ((0, []), (0, [])), [], [], ([], [], [], 0, []), []), 3, [(0, (0, 0, 0, 0, 1, 0, [])), (1, (0, 6, 2, 0, 2, 0, [])), (2, (0, 3, 2, 0, 3, 0, [])), (3, (0, 5, 0, 0, 4, 0, [])), (4, (7, 14, 5, 0, 7, 0, [])), (7, (2, 3, 0, 0, 10, 32, [])), (10, (0, 5, 0, 0, 11, 0, [])), (11, (7, 14, 6, 0, 14, 0, [])), (14, (0, 3, 2, 0, 15, 0, [])), (15, (12, 50, 50, 0, 16, 0, [])), (16, (0, 3, 1, 0, 17, 0, [])), (17, (16, 0, 0, 0, 20, 0, [])), (20, (0, 0, 0, 1, 21, 0, [])), (21, (2, 0, 0, 0, 24, 26, [])), (24, (0, 0, 0, 0, 25, 0, [])), (25, (14, 0, 0, 1, 0, 0, [])), (26, (0, 9, 2, 1, 29, 0, [])), (29, (3, 0, 0, 0, 0, 2, [])), (32, (0, 5, 0, 0, 33, 0, [])), (33, (7, 14, 5, 0, 36, 0, [])), (36, (0, 0, 0, 5, 37, 0, [])), (37, (2, 3, 0, 0, 40, 44, [])), (40, (0, 0, 0, 1, 41, 0, [])), (41, (3, 0, 0, 0, 0, 45, [])), (44, (0, 0, 0, 0, 45, 0, [])), (45, (14, 0, 0, 1, 0, 0, []))], [(none, 2, [])], [], [], [])
theorem gd_yX9_takesBase_X : ck_dec prog_11_method_6_code gt_yX9_takesBase_X ge_yX9_takesBase_X.2.2.2.2.1 = true := by decide +kernel
theorem gh_yX9_takesBase_X {l : Launch} {G : am_G} {X : ck_XT} (g : gM l G X) {a : List Value} {h : List am_C} {mc ms : Nat} {Post : am_O → List am_C → Prop} (hay : (am_lay a).length ≤ 3) (H : ∀ (S : ck_SS) (SX : Nat → ck_SX), ck_hs G S SX Post mc ms (ck_cms [am_cm l G yX7_commonOf (.code yX7_commonOf prog_9_method_2_code 6 (some .int)) 1 20]) ge_yX9_takesBase_X → (∀ pc, ck_sR G S pc) → ck_hw S → zw_hx SX Post mc ms → S 0 (am_ent a 3) [] h 0 0) : am_M l G yX9_takesBase (.code yX9_takesBase prog_11_method_6_code 3 (some .boolean)) 2 45 mc ms a h Post :=
  zw_handX (E := ge_yX9_takesBase_X) (tb := gt_yX9_takesBase_X) (init := false) (cm := (ck_cms [am_cm l G yX7_commonOf (.code yX7_commonOf prog_9_method_2_code 6 (some .int)) 1 20])) g.1.1 (by decide +kernel) rfl gd_yX9_takesBase_X ⟨(List.forall_mem_nil _), (List.forall_mem_nil _), (List.forall_mem_nil _), (List.forall_mem_cons.mpr ⟨⟨⟨_, _, _, rfl, Or.inl w173⟩, by decide, _, _, g_fd14_6⟩, (List.forall_mem_cons.mpr ⟨⟨⟨_, _, _, rfl, Or.inl w171⟩, by decide, _, _, g_fd14_5⟩, (List.forall_mem_nil _)⟩)⟩), (List.forall_mem_nil _), (List.forall_mem_nil _), (List.forall_mem_nil _), (List.forall_mem_nil _)⟩ (List.forall_mem_nil _) (fun h => nomatch h) ⟨_, rfl, rfl⟩ (by decide) (by decide) g_oi g_ar
    (fun s hk _ => (List.forall_mem_nil _)) (fun s hk => (List.forall_mem_nil _))
    (List.forall_mem_nil _) (List.forall_mem_nil _) (List.forall_mem_cons.mpr ⟨(ck_kS g_y_yX7_commonOf w941 w413 (by decide) (by decide)), (List.forall_mem_nil _)⟩) (List.forall_mem_nil _)
    (List.forall_mem_nil _) hay H
def gt_yX9_addBase_X : ck_TB := ([], [], [], [(24, 14, 6), (45, 14, 5)], [(45, 14, 5, 0)], [], [], [], ([], [], [], []), [], [], [], 9)
def ge_yX9_addBase_X : ck_E := (gT, [], (([], [], [], 0, []), ((0, []), (0, [])), [], [], ([], [], [], 0, []), []), 2, [(0, (0, 5, 0, 0, 1, 0, [])), (1, (7, 14, 5, 0, 4, 0, [])), (4, (0, 0, 0, 5, 5, 0, [])), (5, (2, 3, 0, 0, 8, 28, [])), (8, (0, 5, 0, 0, 9, 0, [])), (9, (7, 14, 6, 0, 12, 0, [])), (12, (0, 5, 0, 0, 13, 0, [])), (13, (7, 14, 5, 0, 16, 0, [])), (16, (0, 3, 1, 0, 17, 0, [])), (17, (13, 50, 50, 0, 18, 0, [])), (18, (0, 5, 0, 0, 19, 0, [])), (19, (0, 12, 0, 0, 20, 0, [])), (20, (7, 14, 5, 0, 23, 0, [])), (23, (0, 0, 0, 1, 24, 0, [])), (24, (0, 15, 0, 0, 25, 0, [])), (25, (8, 14, 5, 0, 28, 0, [])), (28, (15, 0, 0, 0, 0, 0, []))], [], [], [], [])
theorem gd_yX9_addBase_X : ck_dec prog_11_method_7_code gt_yX9_addBase_X ge_yX9_addBase_X.2.2.2.2.1 = true := by decide +kernel
theorem gh_yX9_addBase_X {l : Launch} {G : am_G} {X : ck_XT} (g : gM l G X) {a : List Value} {h : List am_C} {mc ms : Nat} {Post : am_O → List am_C → Prop} (hay : (am_lay a).length ≤ 2) (H : ∀ (S : ck_SS) (SX : Nat → ck_SX), ck_hs G S SX Post mc ms (ck_cms []) ge_yX9_addBase_X → (∀ pc, ck_sR G S pc) → ck_hw S → zw_hx SX Post mc ms → S 0 (am_ent a 2) [] h 0 0) : am_M l G yX9_addBase (.code yX9_addBase prog_11_method_7_code 2 none) 1 20 mc ms a h Post :=
  zw_handX (E := ge_yX9_addBase_X) (tb := gt_yX9_addBase_X) (init := false) (cm := (ck_cms [])) g.1.1 (by decide +kernel) rfl gd_yX9_addBase_X ⟨(List.forall_mem_nil _), (List.forall_mem_nil _), (List.forall_mem_nil _), (List.forall_mem_cons.mpr ⟨⟨⟨_, _, _, rfl, Or.inl w173⟩, by decide, _, _, g_fd14_6⟩, (List.forall_mem_cons.mpr ⟨⟨⟨_, _, _, rfl, Or.inl w171⟩, by decide, _, _, g_fd14_5⟩, (List.forall_mem_nil _)⟩)⟩), (List.forall_mem_nil _), (List.forall_mem_nil _), (List.forall_mem_nil _), (List.forall_mem_nil _)⟩ (List.forall_mem_cons.mpr ⟨⟨⟨_, _, _, rfl, Or.inl w171⟩, by decide, _, rfl, Or.inl g_fd14_5⟩, (List.forall_mem_nil _)⟩) (fun h => nomatch h) rfl (by decide) (by decide) g_oi g_ar
    (fun s hk _ => (List.forall_mem_nil _)) (fun s hk => (List.forall_mem_nil _))
    (List.forall_mem_nil _) (List.forall_mem_nil _) (List.forall_mem_nil _) (List.forall_mem_nil _)
    (List.forall_mem_nil _) hay H
def gt_yX9_removeBase_X : ck_TB := ([], [], [], [(24, 14, 6), (45, 14, 5)], [(45, 14, 5, 0)], [], [], [], ([], [], [], []), [], [], [], 0)
def ge_yX9_removeBase_X : ck_E := (gT, [], (([], [], [], 0, []), ((0, []), (0, [])), [], [], ([], [], [], 0, []), []), 1, [(0, (0, 5, 0, 0, 1, 0, [])), (1, (7, 14, 5, 0, 4, 0, [])), (4, (1, 4, 0, 0, 7, 9, [])), (7, (0, 0, 0, (-1), 8, 0, [])), (8, (14, 0, 0, 0, 0, 0, [])), (9, (0, 5, 0, 0, 10, 0, [])), (10, (0, 12, 0, 0, 11, 0, [])), (11, (7, 14, 5, 0, 14, 0, [])), (14, (0, 0, 0, 1, 15, 0, [])), (15, (0, 15, 1, 0, 16, 0, [])), (16, (8, 14, 5, 0, 19, 0, [])), (19, (0, 5, 0, 0, 20, 0, [])), (20, (7, 14, 6, 0, 23, 0, [])), (23, (0, 5, 0, 0, 24, 0, [])), (24, (7, 14, 5, 0, 27, 0, [])), (27, (12, 50, 50, 0, 28, 0, [])), (28, (14, 0, 0, 0, 0, 0, []))], [], [], [], [])
theorem gd_yX9_removeBase_X : ck_dec prog_11_method_8_code gt_yX9_removeBase_X ge_yX9_removeBase_X.2.2.2.2.1 = true := by decide +kernel
theorem gh_yX9_removeBase_X {l : Launch} {G : am_G} {X : ck_XT} (g : gM l G X) {a : List Value} {h : List am_C} {mc ms : Nat} {Post : am_O → List am_C → Prop} (hay : (am_lay a).length ≤ 1) (H : ∀ (S : ck_SS) (SX : Nat → ck_SX), ck_hs G S SX Post mc ms (ck_cms []) ge_yX9_removeBase_X → (∀ pc, ck_sR G S pc) → ck_hw S → zw_hx SX Post mc ms → S 0 (am_ent a 1) [] h 0 0) : am_M l G yX9_removeBase (.code yX9_removeBase prog_11_method_8_code 1 (some .int)) 1 20 mc ms a h Post :=
  zw_handX (E := ge_yX9_removeBase_X) (tb := gt_yX9_removeBase_X) (init := false) (cm := (ck_cms [])) g.1.1 (by decide +kernel) rfl gd_yX9_removeBase_X ⟨(List.forall_mem_nil _), (List.forall_mem_nil _), (List.forall_mem_nil _), (List.forall_mem_cons.mpr ⟨⟨⟨_, _, _, rfl, Or.inl w173⟩, by decide, _, _, g_fd14_6⟩, (List.forall_mem_cons.mpr ⟨⟨⟨_, _, _, rfl, Or.inl w171⟩, by decide, _, _, g_fd14_5⟩, (List.forall_mem_nil _)⟩)⟩), (List.forall_mem_nil _), (List.forall_mem_nil _), (List.forall_mem_nil _), (List.forall_mem_nil _)⟩ (List.forall_mem_cons.mpr ⟨⟨⟨_, _, _, rfl, Or.inl w171⟩, by decide, _, rfl, Or.inl g_fd14_5⟩, (List.forall_mem_nil _)⟩) (fun h => nomatch h) ⟨_, rfl, rfl⟩ (by decide) (by decide) g_oi g_ar
    (fun s hk _ => (List.forall_mem_nil _)) (fun s hk => (List.forall_mem_nil _))
    (List.forall_mem_nil _) (List.forall_mem_nil _) (List.forall_mem_nil _) (List.forall_mem_nil _)
    (List.forall_mem_nil _) hay H
def gt_yX5_keep_X : ck_TB := ([], [], [], [(11, 12, 0), (18, 12, 1), (22, 12, 2)], [(18, 12, 1, 0), (22, 12, 2, 0)], [], [], [], ([(25, 0)], [], [], []), [], [], [], 9)
def ge_yX5_keep_X : ck_E := (gT, [], (([], [], [], 0, []), ((0, []), (0, [])), [], [], ([], [], [], 0, []), []), 2, [(0, (0, 5, 0, 0, 1, 0, [])), (1, (7, 12, 0, 0, 4, 0, [])), (4, (0, 5, 0, 0, 5, 0, [])), (5, (7, 12, 1, 0, 8, 0, [])), (8, (0, 5, 0, 0, 9, 0, [])), (9, (7, 12, 2, 0, 12, 0, [])), (12, (0, 15, 0, 0, 13, 0, [])), (13, (0, 0, 0, 12, 15, 0, [])), (15, (0, 15, 4, 0, 16, 0, [])), (16, (12, 53, 58, 0, 17, 0, [])), (17, (0, 5, 1, 0, 18, 0, [])), (18, (16, 0, 0, 0, 21, 0, [])), (21, (0, 5, 0, 0, 22, 0, [])), (22, (7, 12, 2, 0, 25, 0, [])), (25, (0, 0, 0, 12, 27, 0, [])), (27, (2, 3, 0, 0, 30, 43, [])), (30, (0, 5, 0, 0, 31, 0, [])), (31, (0, 12, 0, 0, 32, 0, [])), (32, (7, 12, 2, 0, 35, 0, [])), (35, (0, 0, 0, 1, 36, 0, [])), (36, (0, 15, 0, 0, 37, 0, [])), (37, (8, 12, 2, 0, 40, 0, [])), (40, (3, 0, 0, 0, 0, 56, [])), (43, (0, 5, 0, 0, 44, 0, [])), (44, (0, 5, 0, 0, 45, 0, [])), (45, (7, 12, 1, 0, 48, 0, [])), (48, (0, 0, 0, 1, 49, 0, [])), (49, (0, 15, 0, 0, 50, 0, [])), (50, (0, 0, 0, 12, 52, 0, [])), (52, (0, 15, 4, 0, 53, 0, [])), (53, (8, 12, 1, 0, 56, 0, [])), (56, (15, 0, 0, 0, 0, 0, []))], [(some 14, 2, [])], [], [], [])
theorem gd_yX5_keep_X : ck_dec prog_7_method_2_code gt_yX5_keep_X ge_yX5_keep_X.2.2.2.2.1 = true := by decide +kernel
theorem gh_yX5_keep_X {l : Launch} {G : am_G} {X : ck_XT} (g : gM l G X) {a : List Value} {h : List am_C} {mc ms : Nat} {Post : am_O → List am_C → Prop} (hay : (am_lay a).length ≤ 2) (H : ∀ (S : ck_SS) (SX : Nat → ck_SX), ck_hs G S SX Post mc ms (ck_cms [am_cm l G yX9_become (.code yX9_become prog_11_method_2_code 3 none) 3 80]) ge_yX5_keep_X → (∀ pc, ck_sR G S pc) → ck_hw S → zw_hx SX Post mc ms → S 0 (am_ent a 2) [] h 0 0) : am_M l G yX5_keep (.code yX5_keep prog_7_method_2_code 2 none) 4 102 mc ms a h Post :=
  zw_handX (E := ge_yX5_keep_X) (tb := gt_yX5_keep_X) (init := false) (cm := (ck_cms [am_cm l G yX9_become (.code yX9_become prog_11_method_2_code 3 none) 3 80])) g.1.1 (by decide +kernel) rfl gd_yX5_keep_X ⟨(List.forall_mem_nil _), (List.forall_mem_nil _), (List.forall_mem_nil _), (List.forall_mem_cons.mpr ⟨⟨⟨_, _, _, rfl, Or.inl w199⟩, by decide, _, _, g_fd12_0⟩, (List.forall_mem_cons.mpr ⟨⟨⟨_, _, _, rfl, Or.inl w200⟩, by decide, _, _, g_fd12_1⟩, (List.forall_mem_cons.mpr ⟨⟨⟨_, _, _, rfl, Or.inl w201⟩, by decide, _, _, g_fd12_2⟩, (List.forall_mem_nil _)⟩)⟩)⟩), (List.forall_mem_nil _), (List.forall_mem_nil _), (List.forall_mem_nil _), (List.forall_mem_nil _)⟩ (List.forall_mem_cons.mpr ⟨⟨⟨_, _, _, rfl, Or.inl w200⟩, by decide, _, rfl, Or.inl g_fd12_1⟩, (List.forall_mem_cons.mpr ⟨⟨⟨_, _, _, rfl, Or.inl w201⟩, by decide, _, rfl, Or.inl g_fd12_2⟩, (List.forall_mem_nil _)⟩)⟩) (fun h => nomatch h) rfl (by decide) (by decide) g_oi g_ar
    (fun s hk _ => (List.forall_mem_nil _)) (fun s hk => (List.forall_mem_nil _))
    (List.forall_mem_cons.mpr ⟨(ck_kV g_y_yX9_become w1226 w1227 w1228 (T := TX9) (N := 7) rfl (by decide) (by decide) (by decide)), (List.forall_mem_nil _)⟩) (List.forall_mem_nil _) (List.forall_mem_nil _) (List.forall_mem_nil _)
    (List.forall_mem_nil _) hay H
def gt_yX5_bringBack_X : ck_TB := ([], [], [], [(11, 12, 0), (18, 12, 1), (22, 12, 2)], [(22, 12, 2, 0)], [], [], [], ([(25, 0)], [], [], []), [], [], [], 9)
def ge_yX5_bringBack_X : ck_E := (gT, [], (([], [], [], 0, []), ((0, []), (0, [])), [], [], ([], [], [], 0, []), []), 2, [(0, (0, 5, 0, 0, 1, 0, [])), (1, (7, 12, 2, 0, 4, 0, [])), (4, (1, 5, 0, 0, 7, 38, [])), (7, (0, 5, 0, 0, 8, 0, [])), (8, (0, 12, 0, 0, 9, 0, [])), (9, (7, 12, 2, 0, 12, 0, [])), (12, (0, 0, 0, 1, 13, 0, [])), (13, (0, 15, 1, 0, 14, 0, [])), (14, (8, 12, 2, 0, 17, 0, [])), (17, (0, 5, 1, 0, 18, 0, [])), (18, (0, 5, 0, 0, 19, 0, [])), (19, (7, 12, 0, 0, 22, 0, [])), (22, (0, 5, 0, 0, 23, 0, [])), (23, (7, 12, 1, 0, 26, 0, [])), (26, (0, 5, 0, 0, 27, 0, [])), (27, (7, 12, 2, 0, 30, 0, [])), (30, (0, 15, 0, 0, 31, 0, [])), (31, (0, 0, 0, 12, 33, 0, [])), (33, (0, 15, 4, 0, 34, 0, [])), (34, (12, 53, 58, 0, 35, 0, [])), (35, (16, 0, 0, 0, 38, 0, [])), (38, (15, 0, 0, 0, 0, 0, []))], [(some 14, 2, [])], [], [], [])
theorem gd_yX5_bringBack_X : ck_dec prog_7_method_3_code gt_yX5_bringBack_X ge_yX5_bringBack_X.2.2.2.2.1 = true := by decide +kernel
theorem gh_yX5_bringBack_X {l : Launch} {G : am_G} {X : ck_XT} (g : gM l G X) {a : List Value} {h : List am_C} {mc ms : Nat} {Post : am_O → List am_C → Prop} (hay : (am_lay a).length ≤ 2) (H : ∀ (S : ck_SS) (SX : Nat → ck_SX), ck_hs G S SX Post mc ms (ck_cms [am_cm l G yX9_become (.code yX9_become prog_11_method_2_code 3 none) 3 80]) ge_yX5_bringBack_X → (∀ pc, ck_sR G S pc) → ck_hw S → zw_hx SX Post mc ms → S 0 (am_ent a 2) [] h 0 0) : am_M l G yX5_bringBack (.code yX5_bringBack prog_7_method_3_code 2 none) 4 102 mc ms a h Post :=
  zw_handX (E := ge_yX5_bringBack_X) (tb := gt_yX5_bringBack_X) (init := false) (cm := (ck_cms [am_cm l G yX9_become (.code yX9_become prog_11_method_2_code 3 none) 3 80])) g.1.1 (by decide +kernel) rfl gd_yX5_bringBack_X ⟨(List.forall_mem_nil _), (List.forall_mem_nil _), (List.forall_mem_nil _), (List.forall_mem_cons.mpr ⟨⟨⟨_, _, _, rfl, Or.inl w199⟩, by decide, _, _, g_fd12_0⟩, (List.forall_mem_cons.mpr ⟨⟨⟨_, _, _, rfl, Or.inl w200⟩, by decide, _, _, g_fd12_1⟩, (List.forall_mem_cons.mpr ⟨⟨⟨_, _, _, rfl, Or.inl w201⟩, by decide, _, _, g_fd12_2⟩, (List.forall_mem_nil _)⟩)⟩)⟩), (List.forall_mem_nil _), (List.forall_mem_nil _), (List.forall_mem_nil _), (List.forall_mem_nil _)⟩ (List.forall_mem_cons.mpr ⟨⟨⟨_, _, _, rfl, Or.inl w201⟩, by decide, _, rfl, Or.inl g_fd12_2⟩, (List.forall_mem_nil _)⟩) (fun h => nomatch h) rfl (by decide) (by decide) g_oi g_ar
    (fun s hk _ => (List.forall_mem_nil _)) (fun s hk => (List.forall_mem_nil _))
    (List.forall_mem_cons.mpr ⟨(ck_kV g_y_yX9_become w1226 w1227 w1228 (T := TX9) (N := 7) rfl (by decide) (by decide) (by decide)), (List.forall_mem_nil _)⟩) (List.forall_mem_nil _) (List.forall_mem_nil _) (List.forall_mem_nil _)
    (List.forall_mem_nil _) hay H
end
section
/-! THE STATE'S METHODS -/
set_option maxHeartbeats 4000000 in
theorem zc_become_M {l : Launch} {G : am_G} {X : ck_XT} (g : gM l G X) {s o : Nat} {c c0 : sp_S} {h : List am_C} (hs1 : 1000 ≤ s) (hd : s + 17 ≤ o ∨ o + 17 ≤ s) (hs2 : zc_s G h s c0) (ho : zc_s G h o c) {mc ms : Nat} {Post : am_O → List am_C → Prop}
    (hP : ∀ h', zw_f G h h' s 17 → zc_s G h' s c → Post (.inl none) h') :
    am_M l G yX9_become (.code yX9_become prog_11_method_2_code 3 none) 3 80 mc ms [.ref s, .ref o] h Post := by
  refine gh_yX9_become_X g (Nat.le_of_ble_eq_true rfl) fun S SX hs hr hw hx => ?_
  have rv : ∀ x : Int32, ck_fv 0 (.int x) := fun x => ⟨_, rfl⟩
  obtain ⟨rs0, zs0, bs0, d1_, d2_, d3_, d4_, d5_, d6_, d7_⟩ := hs2
  obtain ⟨rs1, zs1, bs1, o1_, o2_, o3_, o4_, o5_, o6_, o7_⟩ := ho
  obtain ⟨⟨p4_, p5_, p6_⟩, -⟩ := d6_
  obtain ⟨⟨p1_, p2_, p3_⟩, p7_⟩ := id o6_
  have loop_ : ∀ (m_ i_ : Nat) (h1_ : List am_C), i_ + m_ = 6 → zw_f G h h1_ s 17 → am_g G h1_ s = some (zc_sc s c.1 (c0.2.2.1.length : Int) (c0.2.2.2.length : Int)) → am_g G h1_ (s + 1) = some (1053, zc_rl 6 fun i => s + 5 + 2 * i) → am_g G h1_ (s + 2) = some (1150, hd_r rs0) → am_g G h1_ (s + 3) = some (1250, hd_r zs0) → am_g G h1_ (s + 4) = some (1350, hd_r bs0) → (∀ j_, j_ < 6 → zc_n G h1_ (s + 5 + 2 * j_) (if j_ < i_ then c.2.1.getD j_ 0 else c0.2.1.getD j_ 0)) → S 10 [some (.ref s), some (.ref o), some (.int (Int32.ofInt (i_ : Int)))] [] h1_ 0 0 := by
    intro m_
    induction m_ with
    | zero =>
      intro i_ h1_ him_ f1_ e1_ e2_ e3_ e4_ e5_ e6_
      obtain rfl : i_ = 6 := by omega
      refine hs 6 _ rfl _ _ _ _ _ _ _ rfl ?_
      refine hs 7 _ rfl _ _ _ _ _ _ _ rfl ?_
      refine hs 8 _ rfl _ _ _ _ _ _ _ (fun _ => ?_) (fun zq => absurd (hd_c2t (c := 3) (by omega) (by omega) (by omega) (by omega) (by omega : 0 ≤ (((6 : Nat) : Int) - (6 : Int)))) zq)
      refine hs 20 _ rfl _ _ _ _ _ _ _ rfl ?_
      refine hs 21 _ rfl _ _ _ _ _ _ _ rfl ?_
      refine hs 22 _ rfl _ _ _ _ _ _ _ _ _ (((f1_.2 _ (by omega)).trans o1_)) rfl rfl ?_
      refine zw_U (hs 23 _ rfl) (by omega) (e1_) rfl ⟨_, rfl⟩ fun hz43 wz44 => ?_
      have wz44 : hd_w G h1_ hz43 s (1014, [.int (Int32.ofInt c.1), .ref (s + 1), .int (Int32.ofInt (c.2.2.1.length : Int)), .ref (s + 2), .ref (s + 3), .int (Int32.ofInt (c0.2.2.2.length : Int)), .ref (s + 4)]) := wz44
      refine hs 24 _ rfl _ _ _ _ _ _ _ rfl ?_
      refine hs 25 _ rfl _ _ _ _ _ _ _ _ _ ((wz44.ne (by omega)).trans (((f1_.2 _ (by omega)).trans o1_))) rfl rfl ?_
      refine hs 26 _ rfl _ _ _ _ _ _ _ rfl ?_
      refine hs 27 _ rfl _ _ _ _ _ _ _ rfl ?_
      refine hs 28 _ rfl _ _ _ _ _ _ _ _ _ (wz44.at) rfl rfl ?_
      refine hs 29 _ rfl _ _ _ _ _ _ _ rfl ?_
      refine hs 30 _ rfl _ _ _ _ _ _ _ rfl ?_
      refine zw_c (hs 31 _ rfl) (a := [.ref (o + 2), .int (Int32.ofInt (0 : Int)), .ref (s + 2), .int (Int32.ofInt (0 : Int)), .int (Int32.ofInt (6 : Int))]) (st := []) rfl rfl (Nat.le_of_ble_eq_true rfl) trivial (Nat.zero_le _) (Nat.zero_le _) (zw_acM (mc := 0) (ms := 0) (n := 6) (by omega) ((wz44.ne (by omega)).trans (((f1_.2 _ (by omega)).trans o3_))) ((wz44.ne (by omega)).trans e3_) rfl rfl p1_ p4_ (by decide) fun hz37 wz38 => ?_)
      show S 60 [some (.ref s), some (.ref o), some (.int (Int32.ofInt ((6 : Nat) : Int)))] [] _ _ _
      refine hs 32 _ rfl _ _ _ _ _ _ _ rfl ?_
      refine hs 33 _ rfl _ _ _ _ _ _ _ _ _ ((wz38.ne (by omega)).trans ((wz44.ne (by omega)).trans (((f1_.2 _ (by omega)).trans o1_)))) rfl rfl ?_
      refine hs 34 _ rfl _ _ _ _ _ _ _ rfl ?_
      refine hs 35 _ rfl _ _ _ _ _ _ _ rfl ?_
      refine hs 36 _ rfl _ _ _ _ _ _ _ _ _ ((wz38.ne (by omega)).trans wz44.at) rfl rfl ?_
      refine hs 37 _ rfl _ _ _ _ _ _ _ rfl ?_
      refine hs 38 _ rfl _ _ _ _ _ _ _ rfl ?_
      refine zw_c (hs 39 _ rfl) (a := [.ref (o + 3), .int (Int32.ofInt (0 : Int)), .ref (s + 3), .int (Int32.ofInt (0 : Int)), .int (Int32.ofInt (6 : Int))]) (st := []) rfl rfl (Nat.le_of_ble_eq_true rfl) trivial (Nat.zero_le _) (Nat.zero_le _) (zw_acM (mc := 0) (ms := 0) (n := 6) (by omega) ((wz38.ne (by omega)).trans ((wz44.ne (by omega)).trans (((f1_.2 _ (by omega)).trans o4_)))) ((wz38.ne (by omega)).trans ((wz44.ne (by omega)).trans e4_)) rfl rfl p2_ p5_ (by decide) fun hz39 wz40 => ?_)
      show S 75 [some (.ref s), some (.ref o), some (.int (Int32.ofInt ((6 : Nat) : Int)))] [] _ _ _
      refine hs 40 _ rfl _ _ _ _ _ _ _ rfl ?_
      refine hs 41 _ rfl _ _ _ _ _ _ _ rfl ?_
      refine hs 42 _ rfl _ _ _ _ _ _ _ _ _ ((wz40.ne (by omega)).trans ((wz38.ne (by omega)).trans ((wz44.ne (by omega)).trans (((f1_.2 _ (by omega)).trans o1_))))) rfl rfl ?_
      refine zw_U (hs 43 _ rfl) (by omega) ((wz40.ne (by omega)).trans ((wz38.ne (by omega)).trans wz44.at)) rfl ⟨_, rfl⟩ fun hz45 wz46 => ?_
      have wz46 : hd_w G hz39 hz45 s (1014, [.int (Int32.ofInt c.1), .ref (s + 1), .int (Int32.ofInt (c.2.2.1.length : Int)), .ref (s + 2), .ref (s + 3), .int (Int32.ofInt (c.2.2.2.length : Int)), .ref (s + 4)]) := wz46
      refine hs 44 _ rfl _ _ _ _ _ _ _ rfl ?_
      refine hs 45 _ rfl _ _ _ _ _ _ _ _ _ ((wz46.ne (by omega)).trans ((wz40.ne (by omega)).trans ((wz38.ne (by omega)).trans ((wz44.ne (by omega)).trans (((f1_.2 _ (by omega)).trans o1_)))))) rfl rfl ?_
      refine hs 46 _ rfl _ _ _ _ _ _ _ rfl ?_
      refine hs 47 _ rfl _ _ _ _ _ _ _ rfl ?_
      refine hs 48 _ rfl _ _ _ _ _ _ _ _ _ (wz46.at) rfl rfl ?_
      refine hs 49 _ rfl _ _ _ _ _ _ _ rfl ?_
      refine hs 50 _ rfl _ _ _ _ _ _ _ rfl ?_
      refine zw_c (hs 51 _ rfl) (a := [.ref (o + 4), .int (Int32.ofInt (0 : Int)), .ref (s + 4), .int (Int32.ofInt (0 : Int)), .int (Int32.ofInt (5 : Int))]) (st := []) rfl rfl (Nat.le_of_ble_eq_true rfl) trivial (Nat.zero_le _) (Nat.zero_le _) (zw_acM (mc := 0) (ms := 0) (n := 5) (by omega) ((wz46.ne (by omega)).trans ((wz40.ne (by omega)).trans ((wz38.ne (by omega)).trans ((wz44.ne (by omega)).trans (((f1_.2 _ (by omega)).trans o5_)))))) ((wz46.ne (by omega)).trans ((wz40.ne (by omega)).trans ((wz38.ne (by omega)).trans ((wz44.ne (by omega)).trans e5_)))) rfl rfl p3_ p6_ (by decide) fun hz41 wz42 => ?_)
      show S 97 [some (.ref s), some (.ref o), some (.int (Int32.ofInt ((6 : Nat) : Int)))] [] _ _ _
      refine hs 52 _ rfl _ _ _ _ (Nat.zero_le _) (Nat.zero_le _) (hP _ ((((((f1_).tr (zw_f.w wz44 (by omega) (by omega))).tr (zw_f.w wz38 (by omega) (by omega))).tr (zw_f.w wz40 (by omega) (by omega))).tr (zw_f.w wz46 (by omega) (by omega))).tr (zw_f.w wz42 (by omega) (by omega))) ⟨rs1, zs1, bs1, ((wz42.ne (by omega)).trans wz46.at), ((wz42.ne (by omega)).trans ((wz46.ne (by omega)).trans ((wz40.ne (by omega)).trans ((wz38.ne (by omega)).trans ((wz44.ne (by omega)).trans e2_))))), ((wz42.ne (by omega)).trans ((wz46.ne (by omega)).trans ((wz40.ne (by omega)).trans wz38.at))), ((wz42.ne (by omega)).trans ((wz46.ne (by omega)).trans wz40.at)), (wz42.at), o6_, fun j_ hj_ => ?_⟩)
      have e7_ := e6_ j_ hj_
      rw [if_pos hj_] at e7_
      exact e7_.keep ((((((wz42.ne (by omega)).trans (wz46.ne (by omega))).trans (wz40.ne (by omega))).trans (wz38.ne (by omega))).trans (wz44.ne (by omega)))) ((((((wz42.ne (by omega)).trans (wz46.ne (by omega))).trans (wz40.ne (by omega))).trans (wz38.ne (by omega))).trans (wz44.ne (by omega))))
    | succ m_ ih_ =>
      intro i_ h1_ him_ f1_ e1_ e2_ e3_ e4_ e5_ e6_
      obtain ⟨nx_, sx_, lx_, x1_, x2_, x3_⟩ := e6_ i_ (by omega)
      obtain ⟨ny_, sy_, ly_, y1_, y2_, y3_⟩ := (o7_ i_ (by omega)).fr f1_ (by omega)
      refine hs 6 _ rfl _ _ _ _ _ _ _ rfl ?_
      refine hs 7 _ rfl _ _ _ _ _ _ _ rfl ?_
      refine hs 8 _ rfl _ _ _ _ _ _ _ (fun zq => absurd (hd_c2z (c := 3) (by omega) (by omega) (by omega) (by omega) zq) (by omega : ¬ (0 ≤ ((i_ : Int) - (6 : Int))))) (fun _ => ?_)
      refine hs 9 _ rfl _ _ _ _ _ _ _ rfl ?_
      refine hs 10 _ rfl _ _ _ _ _ _ _ _ _ (e1_) rfl rfl ?_
      refine hs 11 _ rfl _ _ _ _ _ _ _ rfl ?_
      refine zw_Ar (hs 12 _ rfl) (e2_) rfl (j := i_) (by omega) (by omega) (zc_rl_get (by omega)) ?_
      refine hs 13 _ rfl _ _ _ _ _ _ _ rfl ?_
      refine hs 14 _ rfl _ _ _ _ _ _ _ _ _ (((f1_.2 _ (by omega)).trans o1_)) rfl rfl ?_
      refine hs 15 _ rfl _ _ _ _ _ _ _ rfl ?_
      refine zw_Ar (hs 16 _ rfl) (((f1_.2 _ (by omega)).trans o2_)) rfl (j := i_) (by omega) (by omega) (zc_rl_get (by omega)) ?_
      refine zw_c (hs 17 _ rfl) (a := [.ref (s + 5 + 2 * i_), .ref (o + 5 + 2 * i_)]) (st := []) rfl rfl (Nat.le_of_ble_eq_true rfl) ⟨_, _, _, rfl, x1_, rfl⟩ (Nat.zero_le _) (Nat.zero_le _) (sb_become_M g (by omega) (by omega) (by omega) x1_ rfl x2_ rfl x3_.1.1 y1_ rfl y2_ rfl y3_.1.1 (by omega) (by omega) fun h2_ w2_ => ?_)
      show S 31 [some (.ref s), some (.ref o), some (.int (Int32.ofInt (i_ : Int)))] [] _ _ _
      refine hs 18 _ rfl _ _ _ _ _ _ _ (hd_inc rfl) ?_
      refine hs 19 _ rfl _ _ _ _ _ ?_
      rw [show ((i_ : Int) + (1 : Int)) = ((i_ + 1 : Nat) : Int) by omega]
      refine ih_ (i_ + 1) h2_ (by omega) (f1_.tr (zw_f.w2 w2_ (by omega) (by omega) (by omega) (by omega))) ((w2_.ne (by omega) (by omega)).trans e1_) ((w2_.ne (by omega) (by omega)).trans e2_) ((w2_.ne (by omega) (by omega)).trans e3_) ((w2_.ne (by omega) (by omega)).trans e4_) ((w2_.ne (by omega) (by omega)).trans e5_) fun j_ hj_ => ?_
      by_cases ej_ : j_ = i_
      · subst ej_
        rw [if_pos (by omega)]
        exact ⟨ny_, sy_, ly_, w2_.q, w2_.p (by omega), y3_⟩
      · have e7_ := (e6_ j_ hj_).keep (w2_.ne (x := s + 5 + 2 * j_) (by omega) (by omega)) (w2_.ne (x := s + 5 + 2 * j_ + 1) (by omega) (by omega))
        by_cases el_ : j_ < i_
        · rw [if_pos el_] at e7_
          rw [if_pos (by omega)]
          exact e7_
        · rw [if_neg el_] at e7_
          rw [if_neg (by omega)]
          exact e7_
  refine hs 0 _ rfl _ _ _ _ _ _ _ rfl ?_
  refine hs 1 _ rfl _ _ _ _ _ _ _ rfl ?_
  refine hs 2 _ rfl _ _ _ _ _ _ _ _ _ (o1_) rfl rfl ?_
  refine zw_U (hs 3 _ rfl) (by omega) (d1_) rfl ⟨_, rfl⟩ fun hz35 wz36 => ?_
  have wz36 : hd_w G h hz35 s (1014, [.int (Int32.ofInt c.1), .ref (s + 1), .int (Int32.ofInt (c0.2.2.1.length : Int)), .ref (s + 2), .ref (s + 3), .int (Int32.ofInt (c0.2.2.2.length : Int)), .ref (s + 4)]) := wz36
  refine hs 4 _ rfl _ _ _ _ _ _ _ rfl ?_
  refine hs 5 _ rfl _ _ _ _ _ _ _ rfl ?_
  refine loop_ 6 0 _ (by omega) ((zw_f.rf).tr (zw_f.w wz36 (by omega) (by omega))) (wz36.at) ((wz36.ne (by omega)).trans d2_) ((wz36.ne (by omega)).trans d3_) ((wz36.ne (by omega)).trans d4_) ((wz36.ne (by omega)).trans d5_) fun j_ hj_ => ?_
  rw [if_neg (by omega)]
  exact (d7_ j_ hj_).keep ((wz36.ne (by omega))) ((wz36.ne (by omega)))
theorem zc_r.add {c : sp_S} {rs zs bs : List Int} (h : zc_r c rs zs bs) (hl : c.2.2.1.length < 6) {r z : Int} (hz : 1 ≤ z ∧ z ≤ 999) : zc_r (c.1, c.2.1, c.2.2.1 ++ [(r, z)], c.2.2.2) (rs.set c.2.2.1.length r) (zs.set c.2.2.1.length z) bs := by
  obtain ⟨⟨h1_, h2_, h3_⟩, ⟨h4_, h5_⟩, h6_, h7_⟩ := h
  refine ⟨⟨by rw [List.length_set]; exact h1_, by rw [List.length_set]; exact h2_, h3_⟩, ⟨fun x hx => ?_, h5_⟩, fun i p hp => ?_, h7_⟩
  · rcases List.mem_or_eq_of_mem_set hx with e_ | e_
    · exact h4_ x e_
    · rw [e_]; omega
  · have hp_ : (c.2.2.1 ++ [(r, z)])[i]? = some p := hp
    by_cases c_ : i < c.2.2.1.length
    · rw [List.getElem?_append_left c_] at hp_
      rw [List.getElem?_set_ne (by omega), List.getElem?_set_ne (by omega)]
      exact h6_ i p hp_
    · rw [List.getElem?_append_right (by omega)] at hp_
      have e_ : i = c.2.2.1.length := by
        have := (List.getElem?_eq_some_iff.mp hp_).1
        simp at this
        omega
      rw [e_, Nat.sub_self] at hp_
      cases hp_
      rw [e_, List.getElem?_set_self (by omega), List.getElem?_set_self (by omega)]
      exact ⟨rfl, rfl⟩
theorem zc_r.addb {c : sp_S} {rs zs bs : List Int} (h : zc_r c rs zs bs) (hl : c.2.2.2.length < 5) {z : Int} (hz : 1 ≤ z ∧ z ≤ 999) : zc_r (c.1, c.2.1, c.2.2.1, c.2.2.2 ++ [z]) rs zs (bs.set c.2.2.2.length z) := by
  obtain ⟨⟨h1_, h2_, h3_⟩, ⟨h4_, h5_⟩, h6_, h7_⟩ := h
  refine ⟨⟨h1_, h2_, by rw [List.length_set]; exact h3_⟩, ⟨h4_, fun x hx => ?_⟩, h6_, fun i p hp => ?_⟩
  · rcases List.mem_or_eq_of_mem_set hx with e_ | e_
    · exact h5_ x e_
    · rw [e_]; omega
  · have hp_ : (c.2.2.2 ++ [z])[i]? = some p := hp
    by_cases c_ : i < c.2.2.2.length
    · rw [List.getElem?_append_left c_] at hp_
      rw [List.getElem?_set_ne (by omega)]
      exact h7_ i p hp_
    · rw [List.getElem?_append_right (by omega)] at hp_
      have e_ : i = c.2.2.2.length := by
        have := (List.getElem?_eq_some_iff.mp hp_).1
        simp at this
        omega
      rw [e_, Nat.sub_self] at hp_
      cases hp_
      rw [e_, List.getElem?_set_self (by omega)]
theorem zc_r.subb {c : sp_S} {rs zs bs : List Int} (h : zc_r c rs zs bs) : zc_r (c.1, c.2.1, c.2.2.1, c.2.2.2.dropLast) rs zs bs := by
  obtain ⟨h1_, h2_, h6_, h7_⟩ := h
  refine ⟨h1_, h2_, h6_, fun i b hb => h7_ i b ?_⟩
  have hb_ : c.2.2.2.dropLast[i]? = some b := hb
  rw [List.getElem?_dropLast] at hb_
  split at hb_
  · exact hb_
  · cases hb_
/-- a row goes, those behind it move up -/
def zc_sh (A B : List Int) (p i : Nat) : Prop := B.length = A.length ∧ ∀ j, B.getD j 0 = if p ≤ j ∧ j < i then A.getD (j + 1) 0 else A.getD j 0
theorem zc_sh.step {A B : List Int} {p i : Nat} (h : zc_sh A B p i) (hp : p ≤ i) (hi : i + 1 < A.length) : zc_sh A (B.set i (B.getD (i + 1) 0)) p (i + 1) := by
  refine ⟨by rw [List.length_set]; exact h.1, fun j => ?_⟩
  by_cases c_ : j = i
  · subst c_
    rw [List.getD_eq_getElem?_getD, List.getElem?_set_self (by rw [h.1]; omega), Option.getD_some, if_pos ⟨hp, by omega⟩, h.2, if_neg (by omega)]
  · rw [sb_sets c_, h.2]
    by_cases c2_ : p ≤ j ∧ j < i
    · rw [if_pos c2_, if_pos ⟨c2_.1, by omega⟩]
    · rw [if_neg c2_, if_neg (by omega)]
theorem zc_r.rem {c : sp_S} {rs zs bs rs2 zs2 : List Int} (h : zc_r c rs zs bs) {p n : Nat} (hn : c.2.2.1.length = n + 1) (hp : p ≤ n) (hn6 : n + 1 ≤ 6) (h1 : zc_sh rs rs2 p n) (h2 : zc_sh zs zs2 p n) : zc_r (c.1, c.2.1, c.2.2.1.eraseIdx p, c.2.2.2) rs2 zs2 bs := by
  obtain ⟨⟨h1_, h2_, h3_⟩, ⟨h4_, h5_⟩, h6_, h7_⟩ := h
  have hgd_ : ∀ (l : List Int) (j : Nat), j < l.length → l[j]? = some (l.getD j 0) := fun l j hj => sb_ge hj
  refine ⟨⟨h1.1.trans h1_, h2.1.trans h2_, h3_⟩, ⟨fun x hx => ?_, h5_⟩, fun i q hq => ?_, h7_⟩
  · obtain ⟨j_, hj_, e_⟩ := List.mem_iff_getElem.mp hx
    have e2_ : x = zs2.getD j_ 0 := by rw [List.getD_eq_getElem?_getD, List.getElem?_eq_getElem hj_, Option.getD_some, e_]
    rw [e2_, h2.2]
    have key_ : ∀ k, 0 ≤ zs.getD k 0 ∧ zs.getD k 0 ≤ 999 := fun k => by
      by_cases c_ : k < zs.length
      · exact h4_ _ (List.mem_of_getElem? (hgd_ zs k c_))
      · rw [List.getD_eq_getElem?_getD, List.getElem?_eq_none (by omega)]
        decide
    split
    · exact key_ _
    · exact key_ _
  · have hq_ : (c.2.2.1.eraseIdx p)[i]? = some q := hq
    have hlen_ := (List.getElem?_eq_some_iff.mp hq_).1
    rw [List.length_eraseIdx_of_lt (by omega), hn] at hlen_
    rw [hgd_ rs2 i (by rw [h1.1]; omega), hgd_ zs2 i (by rw [h2.1]; omega), h1.2, h2.2]
    by_cases c_ : i < p
    · rw [List.getElem?_eraseIdx_of_lt c_] at hq_
      obtain ⟨e1_, e2_⟩ := h6_ i q hq_
      rw [if_neg (by omega), if_neg (by omega), ← hgd_ rs i (by omega), ← hgd_ zs i (by omega)]
      exact ⟨e1_, e2_⟩
    · rw [List.getElem?_eraseIdx_of_ge (by omega)] at hq_
      obtain ⟨e1_, e2_⟩ := h6_ (i + 1) q hq_
      rw [if_pos (by omega), if_pos (by omega), ← hgd_ rs (i + 1) (by omega), ← hgd_ zs (i + 1) (by omega)]
      exact ⟨e1_, e2_⟩
set_option maxHeartbeats 4000000 in
theorem zc_addRow_M {l : Launch} {G : am_G} {X : ck_XT} (g : gM l G X) {s : Nat} {c : sp_S} {h : List am_C} (hs1 : 1000 ≤ s) (hs2 : zc_s G h s c) {rest size : Int} (hr1 : -2147483648 ≤ rest) (hr2 : rest ≤ 2147483647) (hz : 1 ≤ size ∧ size ≤ 999) (hl : c.2.2.1.length < 6) {mc ms : Nat} {Post : am_O → List am_C → Prop}
    (hP : ∀ h', zw_f G h h' s 17 → zc_s G h' s (c.1, c.2.1, c.2.2.1 ++ [(rest % size, size)], c.2.2.2) → Post (.inl none) h') :
    am_M l G yX9_addRow (.code yX9_addRow prog_11_method_3_code 3 none) 2 42 mc ms [.ref s, .int (Int32.ofInt rest), .int (Int32.ofInt size)] h Post := by
  refine gh_yX9_addRow_X g (Nat.le_of_ble_eq_true rfl) fun S SX hs hr hw hx => ?_
  have rv : ∀ x : Int32, ck_fv 0 (.int x) := fun x => ⟨_, rfl⟩
  obtain ⟨rs0, zs0, bs0, d1_, d2_, d3_, d4_, d5_, d6_, d7_⟩ := hs2
  obtain ⟨⟨p4_, p5_, p6_⟩, -⟩ := id d6_
  refine hs 0 _ rfl _ _ _ _ _ _ _ rfl ?_
  refine hs 1 _ rfl _ _ _ _ _ _ _ _ _ (d1_) rfl rfl ?_
  refine hs 2 _ rfl _ _ _ _ _ _ _ rfl ?_
  refine hs 3 _ rfl _ _ _ _ _ _ _ (fun zq => absurd (hd_c2z (c := 3) (by omega) (by omega) (by omega) (by omega) zq) (by omega : ¬ (0 ≤ ((c.2.2.1.length : Int) - (6 : Int))))) (fun _ => ?_)
  refine hs 4 _ rfl _ _ _ _ _ _ _ rfl ?_
  refine hs 5 _ rfl _ _ _ _ _ _ (fun zq => absurd (hd_c1z (c := 5) (by omega) (by omega) zq) (by omega : ¬ (size ≤ 0))) (fun _ => ?_)
  refine hs 6 _ rfl _ _ _ _ _ _ _ rfl ?_
  refine hs 7 _ rfl _ _ _ _ _ _ _ _ _ (d1_) rfl rfl ?_
  refine hs 8 _ rfl _ _ _ _ _ _ _ rfl ?_
  refine hs 9 _ rfl _ _ _ _ _ _ _ _ _ (d1_) rfl rfl ?_
  refine hs 10 _ rfl _ _ _ _ _ _ _ rfl ?_
  refine hs 11 _ rfl _ _ _ _ _ _ _ rfl ?_
  refine zw_c (hs 12 _ rfl) (a := [.int (Int32.ofInt rest), .int (Int32.ofInt size)]) (st := [.int (Int32.ofInt (c.2.2.1.length : Int)), .ref (s + 2)]) rfl rfl (Nat.le_of_ble_eq_true rfl) trivial (Nat.zero_le _) (Nat.zero_le _) (sm_fmod_M g (by omega) (by omega) (by omega) (by omega) ?_)
  show S 26 [some (.ref s), some (.int (Int32.ofInt rest)), some (.int (Int32.ofInt size))] [.int (Int32.ofInt (rest % size)), .int (Int32.ofInt (c.2.2.1.length : Int)), .ref (s + 2)] _ _ _
  refine zw_B (hs 13 _ rfl) (by decide) (by decide) (by omega) (d3_) rfl (j := c.2.2.1.length) (by omega) (by omega) (by omega) fun hz47 wz48 => ?_
  refine hs 14 _ rfl _ _ _ _ _ _ _ rfl ?_
  refine hs 15 _ rfl _ _ _ _ _ _ _ _ _ ((wz48.ne (by omega)).trans d1_) rfl rfl ?_
  refine hs 16 _ rfl _ _ _ _ _ _ _ rfl ?_
  refine hs 17 _ rfl _ _ _ _ _ _ _ _ _ ((wz48.ne (by omega)).trans d1_) rfl rfl ?_
  refine hs 18 _ rfl _ _ _ _ _ _ _ rfl ?_
  refine zw_B (hs 19 _ rfl) (by decide) (by decide) (by omega) ((wz48.ne (by omega)).trans d4_) rfl (j := c.2.2.1.length) (by omega) (by omega) (by omega) fun hz49 wz50 => ?_
  refine hs 20 _ rfl _ _ _ _ _ _ _ rfl ?_
  refine hs 21 _ rfl _ _ _ _ _ _ _ rfl ?_
  refine hs 22 _ rfl _ _ _ _ _ _ _ _ _ ((wz50.ne (by omega)).trans ((wz48.ne (by omega)).trans d1_)) rfl rfl ?_
  refine hs 23 _ rfl _ _ _ _ _ _ _ rfl ?_
  refine hs 24 _ rfl _ _ _ _ _ _ _ hd_add ?_
  refine zw_U (hs 25 _ rfl) (by omega) ((wz50.ne (by omega)).trans ((wz48.ne (by omega)).trans d1_)) rfl ⟨_, rfl⟩ fun hz51 wz52 => ?_
  have wz52 : hd_w G hz49 hz51 s (1014, [.int (Int32.ofInt c.1), .ref (s + 1), .int (Int32.ofInt ((c.2.2.1.length : Int) + (1 : Int))), .ref (s + 2), .ref (s + 3), .int (Int32.ofInt (c.2.2.2.length : Int)), .ref (s + 4)]) := wz52
  have hlen_ : ((c.2.2.1 ++ [(rest % size, size)]).length : Int) = (c.2.2.1.length : Int) + (1 : Int) := by rw [List.length_append]; rfl
  refine hs 26 _ rfl _ _ _ _ (Nat.zero_le _) (Nat.zero_le _) ?_
  have hfin_ := fun (z_ : _) => hP hz51 ((((zw_f.rf).tr (zw_f.w wz48 (by omega) (by omega))).tr (zw_f.w wz50 (by omega) (by omega))).tr (zw_f.w wz52 (by omega) (by omega))) z_
  refine hfin_ ⟨_, _, _, ?_, ((wz52.ne (by omega)).trans ((wz50.ne (by omega)).trans ((wz48.ne (by omega)).trans d2_))), ((wz52.ne (by omega)).trans ((wz50.ne (by omega)).trans wz48.at)), ((wz52.ne (by omega)).trans wz50.at), ((wz52.ne (by omega)).trans ((wz50.ne (by omega)).trans ((wz48.ne (by omega)).trans d5_))), d6_.add hl hz, fun j_ hj_ => (d7_ j_ hj_).keep (((wz52.ne (by omega)).trans (wz50.ne (by omega))).trans (wz48.ne (by omega))) (((wz52.ne (by omega)).trans (wz50.ne (by omega))).trans (wz48.ne (by omega)))⟩
  show am_g G _ s = some (zc_sc s c.1 ((c.2.2.1 ++ [(rest % size, size)]).length : Int) (c.2.2.2.length : Int))
  rw [hlen_]
  exact (wz52.at)
set_option maxHeartbeats 4000000 in
theorem zc_addBase_M {l : Launch} {G : am_G} {X : ck_XT} (g : gM l G X) {s : Nat} {c : sp_S} {h : List am_C} (hs1 : 1000 ≤ s) (hs2 : zc_s G h s c) {size : Int} (hz : 1 ≤ size ∧ size ≤ 999) (hl : c.2.2.2.length < 5) {mc ms : Nat} {Post : am_O → List am_C → Prop}
    (hP : ∀ h', zw_f G h h' s 17 → zc_s G h' s (c.1, c.2.1, c.2.2.1, c.2.2.2 ++ [size]) → Post (.inl none) h') :
    am_M l G yX9_addBase (.code yX9_addBase prog_11_method_7_code 2 none) 1 20 mc ms [.ref s, .int (Int32.ofInt size)] h Post := by
  refine gh_yX9_addBase_X g (Nat.le_of_ble_eq_true rfl) fun S SX hs hr hw hx => ?_
  have rv : ∀ x : Int32, ck_fv 0 (.int x) := fun x => ⟨_, rfl⟩
  obtain ⟨rs0, zs0, bs0, d1_, d2_, d3_, d4_, d5_, d6_, d7_⟩ := hs2
  obtain ⟨⟨p4_, p5_, p6_⟩, -⟩ := id d6_
  refine hs 0 _ rfl _ _ _ _ _ _ _ rfl ?_
  refine hs 1 _ rfl _ _ _ _ _ _ _ _ _ (d1_) rfl rfl ?_
  refine hs 2 _ rfl _ _ _ _ _ _ _ rfl ?_
  refine hs 3 _ rfl _ _ _ _ _ _ _ (fun zq => absurd (hd_c2z (c := 3) (by omega) (by omega) (by omega) (by omega) zq) (by omega : ¬ (0 ≤ ((c.2.2.2.length : Int) - (5 : Int))))) (fun _ => ?_)
  refine hs 4 _ rfl _ _ _ _ _ _ _ rfl ?_
  refine hs 5 _ rfl _ _ _ _ _ _ _ _ _ (d1_) rfl rfl ?_
  refine hs 6 _ rfl _ _ _ _ _ _ _ rfl ?_
  refine hs 7 _ rfl _ _ _ _ _ _ _ _ _ (d1_) rfl rfl ?_
  refine hs 8 _ rfl _ _ _ _ _ _ _ rfl ?_
  refine zw_B (hs 9 _ rfl) (by decide) (by decide) (by omega) (d5_) rfl (j := c.2.2.2.length) (by omega) (by omega) (by omega) fun hz53 wz54 => ?_
  refine hs 10 _ rfl _ _ _ _ _ _ _ rfl ?_
  refine hs 11 _ rfl _ _ _ _ _ _ _ rfl ?_
  refine hs 12 _ rfl _ _ _ _ _ _ _ _ _ ((wz54.ne (by omega)).trans d1_) rfl rfl ?_
  refine hs 13 _ rfl _ _ _ _ _ _ _ rfl ?_
  refine hs 14 _ rfl _ _ _ _ _ _ _ hd_add ?_
  refine zw_U (hs 15 _ rfl) (by omega) ((wz54.ne (by omega)).trans d1_) rfl ⟨_, rfl⟩ fun hz55 wz56 => ?_
  have wz56 : hd_w G hz53 hz55 s (1014, [.int (Int32.ofInt c.1), .ref (s + 1), .int (Int32.ofInt (c.2.2.1.length : Int)), .ref (s + 2), .ref (s + 3), .int (Int32.ofInt ((c.2.2.2.length : Int) + (1 : Int))), .ref (s + 4)]) := wz56
  have hlen_ : ((c.2.2.2 ++ [size]).length : Int) = (c.2.2.2.length : Int) + (1 : Int) := by rw [List.length_append]; rfl
  refine hs 16 _ rfl _ _ _ _ (Nat.zero_le _) (Nat.zero_le _) ?_
  have hfin_ := fun (z_ : _) => hP hz55 (((zw_f.rf).tr (zw_f.w wz54 (by omega) (by omega))).tr (zw_f.w wz56 (by omega) (by omega))) z_
  refine hfin_ ⟨_, _, _, ?_, ((wz56.ne (by omega)).trans ((wz54.ne (by omega)).trans d2_)), ((wz56.ne (by omega)).trans ((wz54.ne (by omega)).trans d3_)), ((wz56.ne (by omega)).trans ((wz54.ne (by omega)).trans d4_)), ((wz56.ne (by omega)).trans wz54.at), d6_.addb hl hz, fun j_ hj_ => (d7_ j_ hj_).keep ((wz56.ne (by omega)).trans (wz54.ne (by omega))) ((wz56.ne (by omega)).trans (wz54.ne (by omega)))⟩
  show am_g G _ s = some (zc_sc s c.1 (c.2.2.1.length : Int) ((c.2.2.2 ++ [size]).length : Int))
  rw [hlen_]
  exact (wz56.at)
set_option maxHeartbeats 4000000 in
theorem zc_removeBase_M {l : Launch} {G : am_G} {X : ck_XT} (g : gM l G X) {s n : Nat} {c : sp_S} {b : Int} {h : List am_C} (hs1 : 1000 ≤ s) (hs2 : zc_s G h s c) (hn : c.2.2.2.length = n + 1) (hn5 : n + 1 ≤ 5) (hb : c.2.2.2[n]? = some b) {mc ms : Nat} {Post : am_O → List am_C → Prop}
    (hP : ∀ h', zw_f G h h' s 17 → zc_s G h' s (c.1, c.2.1, c.2.2.1, c.2.2.2.dropLast) → Post (.inl (some (.int (Int32.ofInt b)))) h') :
    am_M l G yX9_removeBase (.code yX9_removeBase prog_11_method_8_code 1 (some .int)) 1 20 mc ms [.ref s] h Post := by
  refine gh_yX9_removeBase_X g (Nat.le_of_ble_eq_true rfl) fun S SX hs hr hw hx => ?_
  have rv : ∀ x : Int32, ck_fv 0 (.int x) := fun x => ⟨_, rfl⟩
  obtain ⟨rs0, zs0, bs0, d1_, d2_, d3_, d4_, d5_, d6_, d7_⟩ := hs2
  obtain ⟨⟨p4_, p5_, p6_⟩, -⟩ := id d6_
  have eb_ := d6_.2.2.2 n b hb
  refine hs 0 _ rfl _ _ _ _ _ _ _ rfl ?_
  refine hs 1 _ rfl _ _ _ _ _ _ _ _ _ (d1_) rfl rfl ?_
  refine hs 2 _ rfl _ _ _ _ _ _ (fun _ => ?_) (fun zq => absurd (hd_c1t (c := 4) (by omega) (by omega) (by omega : 0 < (c.2.2.2.length : Int))) zq)
  refine hs 5 _ rfl _ _ _ _ _ _ _ rfl ?_
  refine hs 6 _ rfl _ _ _ _ _ _ _ rfl ?_
  refine hs 7 _ rfl _ _ _ _ _ _ _ _ _ (d1_) rfl rfl ?_
  refine hs 8 _ rfl _ _ _ _ _ _ _ rfl ?_
  refine hs 9 _ rfl _ _ _ _ _ _ _ hd_sub ?_
  refine zw_U (hs 10 _ rfl) (by omega) (d1_) rfl ⟨_, rfl⟩ fun hz57 wz58 => ?_
  have wz58 : hd_w G h hz57 s (1014, [.int (Int32.ofInt c.1), .ref (s + 1), .int (Int32.ofInt (c.2.2.1.length : Int)), .ref (s + 2), .ref (s + 3), .int (Int32.ofInt ((c.2.2.2.length : Int) - (1 : Int))), .ref (s + 4)]) := wz58
  refine hs 11 _ rfl _ _ _ _ _ _ _ rfl ?_
  refine hs 12 _ rfl _ _ _ _ _ _ _ _ _ (wz58.at) rfl rfl ?_
  refine hs 13 _ rfl _ _ _ _ _ _ _ rfl ?_
  refine hs 14 _ rfl _ _ _ _ _ _ _ _ _ (wz58.at) rfl rfl ?_
  refine hd_A (hs 15 _ rfl) (by decide) (by decide) ((wz58.ne (by omega)).trans d5_) rfl (j := n) (by omega) (by omega) eb_ ?_
  have hlen_ : ((c.2.2.2.dropLast).length : Int) = (c.2.2.2.length : Int) - (1 : Int) := by rw [List.length_dropLast]; omega
  refine hs 16 _ rfl _ _ _ _ _ (rv _) (Nat.zero_le _) (Nat.zero_le _) ?_
  have hfin_ := fun (z_ : _) => hP hz57 ((zw_f.rf).tr (zw_f.w wz58 (by omega) (by omega))) z_
  refine hfin_ ⟨_, _, _, ?_, ((wz58.ne (by omega)).trans d2_), ((wz58.ne (by omega)).trans d3_), ((wz58.ne (by omega)).trans d4_), ((wz58.ne (by omega)).trans d5_), d6_.subb, fun j_ hj_ => (d7_ j_ hj_).keep (wz58.ne (by omega)) (wz58.ne (by omega))⟩
  show am_g G _ s = some (zc_sc s c.1 (c.2.2.1.length : Int) ((c.2.2.2.dropLast).length : Int))
  rw [hlen_]
  exact (wz58.at)
/-- a base may be told -/
def sp_tb (c : sp_S) (size : Int) : Prop := (∀ b ∈ c.2.2.2, Nat.gcd b.toNat size.toNat = 1) ∧ c.2.2.2.length < 5
set_option maxHeartbeats 4000000 in
theorem zc_takesBase_M {l : Launch} {G : am_G} {X : ck_XT} (g : gM l G X) {s : Nat} {c : sp_S} {h : List am_C} (hs2 : zc_s G h s c) (hok : sp_ok c) {size : Int} (hz : 2 ≤ size ∧ size ≤ 999) {mc ms : Nat} {Post : am_O → List am_C → Prop}
    (hP1 : sp_tb c size → Post (.inl (some (.int (Int32.ofInt 1)))) h) (hP0 : ¬ sp_tb c size → Post (.inl (some (.int (Int32.ofInt 0)))) h) :
    am_M l G yX9_takesBase (.code yX9_takesBase prog_11_method_6_code 3 (some .boolean)) 2 45 mc ms [.ref s, .int (Int32.ofInt size)] h Post := by
  refine gh_yX9_takesBase_X g (Nat.le_of_ble_eq_true rfl) fun S SX hs hr hw hx => ?_
  have rv : ∀ x : Int32, ck_fv 0 (.int x) := fun x => ⟨_, rfl⟩
  obtain ⟨rs0, zs0, bs0, d1_, d2_, d3_, d4_, d5_, d6_, d7_⟩ := hs2
  obtain ⟨⟨p4_, p5_, p6_⟩, -⟩ := id d6_
  obtain ⟨-, -, -, hb5_, hbb_⟩ := hok
  obtain ⟨z_, rfl⟩ : ∃ z_ : Nat, size = (z_ : Int) := ⟨size.toNat, by omega⟩
  have loop_ : ∀ (m_ i_ : Nat), i_ + m_ = c.2.2.2.length → (∀ (j_ : Nat) (b : Int), j_ < i_ → c.2.2.2[j_]? = some b → Nat.gcd b.toNat z_ = 1) → S 2 [some (.ref s), some (.int (Int32.ofInt (z_ : Int))), some (.int (Int32.ofInt (i_ : Int)))] [] h 0 0 := by
    intro m_
    induction m_ with
    | zero =>
      intro i_ him_ hg_
      have hall_ : ∀ b ∈ c.2.2.2, Nat.gcd b.toNat z_ = 1 := fun b hb => by
        obtain ⟨j_, hj_, e_⟩ := List.mem_iff_getElem.mp hb
        exact hg_ j_ b (by omega) (by rw [List.getElem?_eq_getElem hj_, e_])
      by_cases hl5_ : c.2.2.2.length < 5
      · 
        refine hs 2 _ rfl _ _ _ _ _ _ _ rfl ?_
        refine hs 3 _ rfl _ _ _ _ _ _ _ rfl ?_
        refine hs 4 _ rfl _ _ _ _ _ _ _ _ _ (d1_) rfl rfl ?_
        refine hs 5 _ rfl _ _ _ _ _ _ _ (fun _ => ?_) (fun zq => absurd (hd_c2t (c := 3) (by omega) (by omega) (by omega) (by omega) (by omega : 0 ≤ ((i_ : Int) - (c.2.2.2.length : Int)))) zq)
        refine hs 18 _ rfl _ _ _ _ _ _ _ rfl ?_
        refine hs 19 _ rfl _ _ _ _ _ _ _ _ _ (d1_) rfl rfl ?_
        refine hs 20 _ rfl _ _ _ _ _ _ _ rfl ?_
        refine hs 21 _ rfl _ _ _ _ _ _ _ (fun zq => absurd (hd_c2z (c := 3) (by omega) (by omega) (by omega) (by omega) zq) (by omega : ¬ (0 ≤ ((c.2.2.2.length : Int) - (5 : Int))))) (fun _ => ?_)
        refine hs 22 _ rfl _ _ _ _ _ _ _ rfl ?_
        refine hs 23 _ rfl _ _ _ _ _ ?_
        exact hs 25 _ rfl _ _ _ _ _ ⟨_, rfl, by decide, by decide⟩ (Nat.zero_le _) (Nat.zero_le _) (hP1 ⟨fun b hb => hall_ b hb, hl5_⟩)
      · 
        refine hs 2 _ rfl _ _ _ _ _ _ _ rfl ?_
        refine hs 3 _ rfl _ _ _ _ _ _ _ rfl ?_
        refine hs 4 _ rfl _ _ _ _ _ _ _ _ _ (d1_) rfl rfl ?_
        refine hs 5 _ rfl _ _ _ _ _ _ _ (fun _ => ?_) (fun zq => absurd (hd_c2t (c := 3) (by omega) (by omega) (by omega) (by omega) (by omega : 0 ≤ ((i_ : Int) - (c.2.2.2.length : Int)))) zq)
        refine hs 18 _ rfl _ _ _ _ _ _ _ rfl ?_
        refine hs 19 _ rfl _ _ _ _ _ _ _ _ _ (d1_) rfl rfl ?_
        refine hs 20 _ rfl _ _ _ _ _ _ _ rfl ?_
        refine hs 21 _ rfl _ _ _ _ _ _ _ (fun _ => ?_) (fun zq => absurd (hd_c2t (c := 3) (by omega) (by omega) (by omega) (by omega) (by omega : 0 ≤ ((c.2.2.2.length : Int) - (5 : Int)))) zq)
        refine hs 24 _ rfl _ _ _ _ _ _ _ rfl ?_
        exact hs 25 _ rfl _ _ _ _ _ ⟨_, rfl, by decide, by decide⟩ (Nat.zero_le _) (Nat.zero_le _) (hP0 fun y_ => hl5_ y_.2)
    | succ m_ ih_ =>
      intro i_ him_ hg0_
      have hi_ : i_ < c.2.2.2.length := by omega
      have eb_ := List.getElem?_eq_getElem hi_
      have ha0_ := hbb_ _ (List.mem_of_getElem? eb_)
      obtain ⟨a_, hae_⟩ : ∃ a_ : Nat, c.2.2.2[i_] = (a_ : Int) := ⟨(c.2.2.2[i_]).toNat, by omega⟩
      have ha_ := List.mem_of_getElem? eb_
      rw [hae_] at eb_ ha0_ ha_
      have ea_ := d6_.2.2.2 i_ _ eb_
      have hle_ : Nat.gcd a_ z_ ≤ a_ := Nat.gcd_le_left _ (by omega)
      by_cases hg_ : Nat.gcd a_ z_ = 1
      · 
        refine hs 2 _ rfl _ _ _ _ _ _ _ rfl ?_
        refine hs 3 _ rfl _ _ _ _ _ _ _ rfl ?_
        refine hs 4 _ rfl _ _ _ _ _ _ _ _ _ (d1_) rfl rfl ?_
        refine hs 5 _ rfl _ _ _ _ _ _ _ (fun zq => absurd (hd_c2z (c := 3) (by omega) (by omega) (by omega) (by omega) zq) (by omega : ¬ (0 ≤ ((i_ : Int) - (c.2.2.2.length : Int))))) (fun _ => ?_)
        refine hs 6 _ rfl _ _ _ _ _ _ _ rfl ?_
        refine hs 7 _ rfl _ _ _ _ _ _ _ _ _ (d1_) rfl rfl ?_
        refine hs 8 _ rfl _ _ _ _ _ _ _ rfl ?_
        refine hd_A (hs 9 _ rfl) (by decide) (by decide) (d5_) rfl (j := i_) (by omega) (by omega) ea_ ?_
        refine hs 10 _ rfl _ _ _ _ _ _ _ rfl ?_
        refine zw_c (hs 11 _ rfl) (a := [.int (Int32.ofInt (a_ : Int)), .int (Int32.ofInt (z_ : Int))]) (st := []) rfl rfl (Nat.le_of_ble_eq_true rfl) trivial (Nat.zero_le _) (Nat.zero_le _) (sm_common_M g (a := a_) (b := z_) (by omega) (by omega) ?_)
        show S 20 [some (.ref s), some (.int (Int32.ofInt (z_ : Int))), some (.int (Int32.ofInt (i_ : Int)))] [.int (Int32.ofInt ((Nat.gcd a_ z_ : Nat) : Int))] _ _ _
        refine hs 12 _ rfl _ _ _ _ _ _ _ rfl ?_
        refine hs 13 _ rfl _ _ _ _ _ _ _ (fun _ => ?_) (fun zq => absurd (hd_c2t (c := 0) (by omega) (by omega) (by omega) (by omega) ((by omega) : (((Nat.gcd a_ z_ : Nat) : Int) - (1 : Int)) = 0)) zq)
        refine hs 16 _ rfl _ _ _ _ _ _ _ (hd_inc rfl) ?_
        refine hs 17 _ rfl _ _ _ _ _ ?_
        rw [show ((i_ : Int) + (1 : Int)) = ((i_ + 1 : Nat) : Int) by omega]
        refine ih_ (i_ + 1) (by omega) fun j_ b hj_ hb_ => ?_
        by_cases c_ : j_ = i_
        · subst c_
          rw [eb_] at hb_
          cases hb_
          exact hg_
        · exact hg0_ j_ b (by omega) hb_
      · 
        refine hs 2 _ rfl _ _ _ _ _ _ _ rfl ?_
        refine hs 3 _ rfl _ _ _ _ _ _ _ rfl ?_
        refine hs 4 _ rfl _ _ _ _ _ _ _ _ _ (d1_) rfl rfl ?_
        refine hs 5 _ rfl _ _ _ _ _ _ _ (fun zq => absurd (hd_c2z (c := 3) (by omega) (by omega) (by omega) (by omega) zq) (by omega : ¬ (0 ≤ ((i_ : Int) - (c.2.2.2.length : Int))))) (fun _ => ?_)
        refine hs 6 _ rfl _ _ _ _ _ _ _ rfl ?_
        refine hs 7 _ rfl _ _ _ _ _ _ _ _ _ (d1_) rfl rfl ?_
        refine hs 8 _ rfl _ _ _ _ _ _ _ rfl ?_
        refine hd_A (hs 9 _ rfl) (by decide) (by decide) (d5_) rfl (j := i_) (by omega) (by omega) ea_ ?_
        refine hs 10 _ rfl _ _ _ _ _ _ _ rfl ?_
        refine zw_c (hs 11 _ rfl) (a := [.int (Int32.ofInt (a_ : Int)), .int (Int32.ofInt (z_ : Int))]) (st := []) rfl rfl (Nat.le_of_ble_eq_true rfl) trivial (Nat.zero_le _) (Nat.zero_le _) (sm_common_M g (a := a_) (b := z_) (by omega) (by omega) ?_)
        show S 20 [some (.ref s), some (.int (Int32.ofInt (z_ : Int))), some (.int (Int32.ofInt (i_ : Int)))] [.int (Int32.ofInt ((Nat.gcd a_ z_ : Nat) : Int))] _ _ _
        refine hs 12 _ rfl _ _ _ _ _ _ _ rfl ?_
        refine hs 13 _ rfl _ _ _ _ _ _ _ (fun zq => absurd (hd_c2z (c := 0) (by omega) (by omega) (by omega) (by omega) zq) ((by omega) : ¬ ((((Nat.gcd a_ z_ : Nat) : Int) - (1 : Int)) = 0))) (fun _ => ?_)
        refine hs 14 _ rfl _ _ _ _ _ _ _ rfl ?_
        exact hs 15 _ rfl _ _ _ _ _ ⟨_, rfl, by decide, by decide⟩ (Nat.zero_le _) (Nat.zero_le _) (hP0 fun y_ => hg_ (y_.1 _ ha_))
  refine hs 0 _ rfl _ _ _ _ _ _ _ rfl ?_
  refine hs 1 _ rfl _ _ _ _ _ _ _ rfl ?_
  exact loop_ c.2.2.2.length 0 (by omega) (fun j_ b hj_ _ => absurd hj_ (Nat.not_lt_zero _))
set_option maxHeartbeats 4000000 in
theorem zc_removeRow_M {l : Launch} {G : am_G} {X : ck_XT} (g : gM l G X) {s p n : Nat} {c : sp_S} {h : List am_C} (hs1 : 1000 ≤ s) (hs2 : zc_s G h s c) (hn : c.2.2.1.length = n + 1) (hn6 : n + 1 ≤ 6) (hp : p ≤ n) {mc ms : Nat} {Post : am_O → List am_C → Prop}
    (hP : ∀ h', zw_f G h h' s 17 → zc_s G h' s (c.1, c.2.1, c.2.2.1.eraseIdx p, c.2.2.2) → Post (.inl none) h') :
    am_M l G yX9_removeRow (.code yX9_removeRow prog_11_method_4_code 3 none) 1 20 mc ms [.ref s, .int (Int32.ofInt (p : Int))] h Post := by
  refine gh_yX9_removeRow_X g (Nat.le_of_ble_eq_true rfl) fun S SX hs hr hw hx => ?_
  have rv : ∀ x : Int32, ck_fv 0 (.int x) := fun x => ⟨_, rfl⟩
  obtain ⟨rs0, zs0, bs0, d1_, d2_, d3_, d4_, d5_, d6_, d7_⟩ := hs2
  obtain ⟨⟨p4_, p5_, p6_⟩, -⟩ := id d6_
  have loop_ : ∀ (m_ i_ : Nat) (rs_ zs_ : List Int) (h1_ : List am_C), i_ + m_ = n → p ≤ i_ → zc_sh rs0 rs_ p i_ → zc_sh zs0 zs_ p i_ → zw_f G h h1_ s 17 → am_g G h1_ s = some (zc_sc s c.1 (c.2.2.1.length : Int) (c.2.2.2.length : Int)) → am_g G h1_ (s + 1) = some (1053, zc_rl 6 fun i => s + 5 + 2 * i) → am_g G h1_ (s + 2) = some (1150, hd_r rs_) → am_g G h1_ (s + 3) = some (1250, hd_r zs_) → am_g G h1_ (s + 4) = some (1350, hd_r bs0) → (∀ j_, j_ < 6 → zc_n G h1_ (s + 5 + 2 * j_) (c.2.1.getD j_ 0)) → S 15 [some (.ref s), some (.int (Int32.ofInt (p : Int))), some (.int (Int32.ofInt (i_ : Int)))] [] h1_ 0 0 := by
    intro m_
    induction m_ with
    | zero =>
      intro i_ rs_ zs_ h1_ him_ hpi_ r1_ r2_ f1_ e1_ e2_ e3_ e4_ e5_ e6_
      obtain rfl : i_ = n := by omega
      refine hs 9 _ rfl _ _ _ _ _ _ _ rfl ?_
      refine hs 10 _ rfl _ _ _ _ _ _ _ rfl ?_
      refine hs 11 _ rfl _ _ _ _ _ _ _ hd_add ?_
      refine hs 12 _ rfl _ _ _ _ _ _ _ rfl ?_
      refine hs 13 _ rfl _ _ _ _ _ _ _ _ _ (e1_) rfl rfl ?_
      refine hs 14 _ rfl _ _ _ _ _ _ _ (fun _ => ?_) (fun zq => absurd (hd_c2t (c := 3) (by omega) (by omega) (by omega) (by omega) (by omega : 0 ≤ (((i_ : Int) + (1 : Int)) - (c.2.2.1.length : Int)))) zq)
      refine hs 37 _ rfl _ _ _ _ _ _ _ rfl ?_
      refine hs 38 _ rfl _ _ _ _ _ _ _ rfl ?_
      refine hs 39 _ rfl _ _ _ _ _ _ _ _ _ (e1_) rfl rfl ?_
      refine hs 40 _ rfl _ _ _ _ _ _ _ rfl ?_
      refine hs 41 _ rfl _ _ _ _ _ _ _ hd_sub ?_
      refine zw_U (hs 42 _ rfl) (by omega) (e1_) rfl ⟨_, rfl⟩ fun hz59 wz60 => ?_
      have wz60 : hd_w G h1_ hz59 s (1014, [.int (Int32.ofInt c.1), .ref (s + 1), .int (Int32.ofInt ((c.2.2.1.length : Int) - (1 : Int))), .ref (s + 2), .ref (s + 3), .int (Int32.ofInt (c.2.2.2.length : Int)), .ref (s + 4)]) := wz60
      have hlen_ : ((c.2.2.1.eraseIdx p).length : Int) = (c.2.2.1.length : Int) - (1 : Int) := by rw [List.length_eraseIdx_of_lt (by omega)]; omega
      refine hs 43 _ rfl _ _ _ _ (Nat.zero_le _) (Nat.zero_le _) ?_
      have hfin_ := fun (z_ : _) => hP hz59 ((f1_).tr (zw_f.w wz60 (by omega) (by omega))) z_
      refine hfin_ ⟨rs_, zs_, bs0, ?_, ((wz60.ne (by omega)).trans e2_), ((wz60.ne (by omega)).trans e3_), ((wz60.ne (by omega)).trans e4_), ((wz60.ne (by omega)).trans e5_), d6_.rem hn hp hn6 r1_ r2_, fun j_ hj_ => (e6_ j_ hj_).keep (wz60.ne (by omega)) (wz60.ne (by omega))⟩
      show am_g G _ s = some (zc_sc s c.1 ((c.2.2.1.eraseIdx p).length : Int) (c.2.2.2.length : Int))
      rw [hlen_]
      exact (wz60.at)
    | succ m_ ih_ =>
      intro i_ rs_ zs_ h1_ him_ hpi_ r1_ r2_ f1_ e1_ e2_ e3_ e4_ e5_ e6_
      have l1_ := r1_.1
      have l2_ := r2_.1
      refine hs 9 _ rfl _ _ _ _ _ _ _ rfl ?_
      refine hs 10 _ rfl _ _ _ _ _ _ _ rfl ?_
      refine hs 11 _ rfl _ _ _ _ _ _ _ hd_add ?_
      refine hs 12 _ rfl _ _ _ _ _ _ _ rfl ?_
      refine hs 13 _ rfl _ _ _ _ _ _ _ _ _ (e1_) rfl rfl ?_
      refine hs 14 _ rfl _ _ _ _ _ _ _ (fun zq => absurd (hd_c2z (c := 3) (by omega) (by omega) (by omega) (by omega) zq) (by omega : ¬ (0 ≤ (((i_ : Int) + (1 : Int)) - (c.2.2.1.length : Int))))) (fun _ => ?_)
      refine hs 15 _ rfl _ _ _ _ _ _ _ rfl ?_
      refine hs 16 _ rfl _ _ _ _ _ _ _ _ _ (e1_) rfl rfl ?_
      refine hs 17 _ rfl _ _ _ _ _ _ _ rfl ?_
      refine hs 18 _ rfl _ _ _ _ _ _ _ rfl ?_
      refine hs 19 _ rfl _ _ _ _ _ _ _ _ _ (e1_) rfl rfl ?_
      refine hs 20 _ rfl _ _ _ _ _ _ _ rfl ?_
      refine hs 21 _ rfl _ _ _ _ _ _ _ rfl ?_
      refine hs 22 _ rfl _ _ _ _ _ _ _ hd_add ?_
      refine hd_A (hs 23 _ rfl) (by decide) (by decide) (e3_) rfl (j := (i_ + 1)) (by omega) (by omega) (sb_ge (by omega)) ?_
      refine zw_B (hs 24 _ rfl) (by decide) (by decide) (by omega) (e3_) rfl (j := i_) (by omega) (by omega) (by omega) fun hz61 wz62 => ?_
      refine hs 25 _ rfl _ _ _ _ _ _ _ rfl ?_
      refine hs 26 _ rfl _ _ _ _ _ _ _ _ _ ((wz62.ne (by omega)).trans e1_) rfl rfl ?_
      refine hs 27 _ rfl _ _ _ _ _ _ _ rfl ?_
      refine hs 28 _ rfl _ _ _ _ _ _ _ rfl ?_
      refine hs 29 _ rfl _ _ _ _ _ _ _ _ _ ((wz62.ne (by omega)).trans e1_) rfl rfl ?_
      refine hs 30 _ rfl _ _ _ _ _ _ _ rfl ?_
      refine hs 31 _ rfl _ _ _ _ _ _ _ rfl ?_
      refine hs 32 _ rfl _ _ _ _ _ _ _ hd_add ?_
      refine hd_A (hs 33 _ rfl) (by decide) (by decide) ((wz62.ne (by omega)).trans e4_) rfl (j := (i_ + 1)) (by omega) (by omega) (sb_ge (by omega)) ?_
      refine zw_B (hs 34 _ rfl) (by decide) (by decide) (by omega) ((wz62.ne (by omega)).trans e4_) rfl (j := i_) (by omega) (by omega) (by omega) fun hz63 wz64 => ?_
      refine hs 35 _ rfl _ _ _ _ _ _ _ (hd_inc rfl) ?_
      refine hs 36 _ rfl _ _ _ _ _ ?_
      rw [show ((i_ : Int) + (1 : Int)) = ((i_ + 1 : Nat) : Int) by omega]
      exact ih_ (i_ + 1) _ _ _ (by omega) (by omega) (r1_.step hpi_ (by omega)) (r2_.step hpi_ (by omega)) (((f1_).tr (zw_f.w wz62 (by omega) (by omega))).tr (zw_f.w wz64 (by omega) (by omega))) ((wz64.ne (by omega)).trans ((wz62.ne (by omega)).trans e1_)) ((wz64.ne (by omega)).trans ((wz62.ne (by omega)).trans e2_)) ((wz64.ne (by omega)).trans wz62.at) (wz64.at) ((wz64.ne (by omega)).trans ((wz62.ne (by omega)).trans e5_)) fun j_ hj_ => (e6_ j_ hj_).keep ((wz64.ne (by omega)).trans (wz62.ne (by omega))) ((wz64.ne (by omega)).trans (wz62.ne (by omega)))
  refine hs 0 _ rfl _ _ _ _ _ _ _ rfl ?_
  refine hs 1 _ rfl _ _ _ _ _ _ (fun zq => absurd (hd_c1z (c := 2) (by omega) (by omega) zq) (by omega : ¬ ((p : Int) < 0))) (fun _ => ?_)
  refine hs 2 _ rfl _ _ _ _ _ _ _ rfl ?_
  refine hs 3 _ rfl _ _ _ _ _ _ _ rfl ?_
  refine hs 4 _ rfl _ _ _ _ _ _ _ _ _ (d1_) rfl rfl ?_
  refine hs 5 _ rfl _ _ _ _ _ _ _ (fun _ => ?_) (fun zq => absurd (hd_c2t (c := 2) (by omega) (by omega) (by omega) (by omega) (by omega : ((p : Int) - (c.2.2.1.length : Int)) < 0)) zq)
  refine hs 7 _ rfl _ _ _ _ _ _ _ rfl ?_
  refine hs 8 _ rfl _ _ _ _ _ _ _ rfl ?_
  exact loop_ (n - p) p rs0 zs0 h (by omega) (Nat.le_refl _) ⟨rfl, fun j_ => by rw [if_neg (by omega)]⟩ ⟨rfl, fun j_ => by rw [if_neg (by omega)]⟩ zw_f.rf d1_ d2_ d3_ d4_ d5_ d7_
end
section
/-! THE PAST -/
def zc_put (R : Nat → sp_S) (j : Nat) (c : sp_S) : Nat → sp_S := fun i => if i = j then c else R i
theorem zc_p.mk {G : am_G} {h h' : List am_C} {p : Nat} {R : Nat → sp_S} {old cnt old2 cnt2 j : Nat} {c : sp_S} (a : zc_p G h p R old cnt) (hj : j < 12) (f : ∀ q, p + 2 ≤ q → (q < p + 2 + 17 * j ∨ p + 2 + 17 * j + 17 ≤ q) → am_g G h' q = am_g G h q) (hl : h'.length = h.length) (h1 : am_g G h' p = some (1012, [.ref (p + 1), .int (Int32.ofInt (old2 : Int)), .int (Int32.ofInt (cnt2 : Int))])) (h2 : am_g G h' (p + 1) = am_g G h (p + 1)) (hs : zc_s G h' (p + 2 + 17 * j) c) (hc : sp_ok c) (h3 : old2 ≤ 11) (h4 : cnt2 ≤ 12) : zc_p G h' p (zc_put R j c) old2 cnt2 := by
  obtain ⟨a1_, a2_, a3_, a4_, a5_⟩ := a
  refine ⟨h1, h2.trans a2_, fun i hi => ?_, h3, h4⟩
  unfold zc_put
  by_cases e_ : i = j
  · rw [if_pos e_, e_]
    exact ⟨hs, hc⟩
  · rw [if_neg e_]
    obtain ⟨⟨rs_, zs_, bs_, b1_, b2_, b3_, b4_, b5_, b6_, b7_⟩, b8_⟩ := a3_ i hi
    exact ⟨⟨rs_, zs_, bs_, (f _ (by omega) (by omega)).trans b1_, (f _ (by omega) (by omega)).trans b2_, (f _ (by omega) (by omega)).trans b3_, (f _ (by omega) (by omega)).trans b4_, (f _ (by omega) (by omega)).trans b5_, b6_, fun k hk => (b7_ k hk).keep (f _ (by omega) (by omega)) (f _ (by omega) (by omega))⟩, b8_⟩
set_option maxHeartbeats 4000000 in
theorem zc_keep_M {l : Launch} {G : am_G} {X : ck_XT} (g : gM l G X) {p s old cnt : Nat} {R : Nat → sp_S} {c : sp_S} {h : List am_C} (hp1 : 1000 ≤ p) (hd : s + 17 ≤ p ∨ p + 206 ≤ s) (hi_ : zc_p G h p R old cnt) (hs2 : zc_s G h s c) (hok : sp_ok c) {mc ms : Nat} {Post : am_O → List am_C → Prop}
    (hP : ∀ (h' : List am_C) (old2 cnt2 : Nat), zw_f G h h' p 206 → zc_p G h' p (zc_put R ((old + cnt) % 12) c) old2 cnt2 → old2 = (if cnt < 12 then old else (old + 1) % 12) → cnt2 = (if cnt < 12 then cnt + 1 else 12) → Post (.inl none) h') :
    am_M l G yX5_keep (.code yX5_keep prog_7_method_2_code 2 none) 4 102 mc ms [.ref p, .ref s] h Post := by
  refine gh_yX5_keep_X g (Nat.le_of_ble_eq_true rfl) fun S SX hs hr hw hx => ?_
  have rv : ∀ x : Int32, ck_fv 0 (.int x) := fun x => ⟨_, rfl⟩
  obtain ⟨a1_, a2_, a3_, a4_, a5_⟩ := id hi_
  obtain ⟨b1_, b2_⟩ := a3_ ((old + cnt) % 12) (by omega)
  by_cases hc_ : cnt < 12
  · 
    refine hs 0 _ rfl _ _ _ _ _ _ _ rfl ?_
    refine hs 1 _ rfl _ _ _ _ _ _ _ _ _ (a1_) rfl rfl ?_
    refine hs 2 _ rfl _ _ _ _ _ _ _ rfl ?_
    refine hs 3 _ rfl _ _ _ _ _ _ _ _ _ (a1_) rfl rfl ?_
    refine hs 4 _ rfl _ _ _ _ _ _ _ rfl ?_
    refine hs 5 _ rfl _ _ _ _ _ _ _ _ _ (a1_) rfl rfl ?_
    refine hs 6 _ rfl _ _ _ _ _ _ _ hd_add ?_
    refine hs 7 _ rfl _ _ _ _ _ _ _ rfl ?_
    refine hs 8 _ rfl _ _ _ _ _ _ _ (hd_rem (by omega) (by omega) (by omega) (by omega)) ?_
    refine zw_Ar (hs 9 _ rfl) (a2_) rfl (j := ((old + cnt) % 12)) (by omega) (by omega) (zc_rl_get (by omega)) ?_
    refine hs 10 _ rfl _ _ _ _ _ _ _ rfl ?_
    refine zw_c (hs 11 _ rfl) (a := [.ref (p + 2 + 17 * ((old + cnt) % 12)), .ref s]) (st := []) rfl rfl (Nat.le_of_ble_eq_true rfl) ⟨_, _, _, rfl, b1_.choose_spec.choose_spec.choose_spec.1, rfl⟩ (Nat.zero_le _) (Nat.zero_le _) (zc_become_M g (s := p + 2 + 17 * ((old + cnt) % 12)) (o := s) (by omega) (by omega) b1_ hs2 fun hy_ f1_ n1_ => ?_)
    show S 21 [some (.ref p), some (.ref s)] [] _ _ _
    refine hs 12 _ rfl _ _ _ _ _ _ _ rfl ?_
    refine hs 13 _ rfl _ _ _ _ _ _ _ _ _ (((f1_.2 _ (by omega))).trans a1_) rfl rfl ?_
    refine hs 14 _ rfl _ _ _ _ _ _ _ rfl ?_
    refine hs 15 _ rfl _ _ _ _ _ _ _ (fun zq => absurd (hd_c2z (c := 3) (by omega) (by omega) (by omega) (by omega) zq) (by omega : ¬ (0 ≤ ((cnt : Int) - (12 : Int))))) (fun _ => ?_)
    refine hs 16 _ rfl _ _ _ _ _ _ _ rfl ?_
    refine hs 17 _ rfl _ _ _ _ _ _ _ rfl ?_
    refine hs 18 _ rfl _ _ _ _ _ _ _ _ _ (((f1_.2 _ (by omega))).trans a1_) rfl rfl ?_
    refine hs 19 _ rfl _ _ _ _ _ _ _ rfl ?_
    refine hs 20 _ rfl _ _ _ _ _ _ _ hd_add ?_
    refine zw_U (hs 21 _ rfl) (by omega) (((f1_.2 _ (by omega))).trans a1_) rfl ⟨_, rfl⟩ fun hz65 wz66 => ?_
    have wz66 : hd_w G hy_ hz65 p (1012, [.ref (p + 1), .int (Int32.ofInt (old : Int)), .int (Int32.ofInt ((cnt : Int) + (1 : Int)))]) := wz66
    refine hs 22 _ rfl _ _ _ _ _ ?_
    have e1_ := wz66.at
    rw [show ((cnt : Int) + (1 : Int)) = ((cnt + 1 : Nat) : Int) by omega] at e1_
    refine hs 31 _ rfl _ _ _ _ (Nat.zero_le _) (Nat.zero_le _) (hP _ old (cnt + 1) ((f1_.mono (by omega) (by omega)).tr (zw_f.w wz66 (by omega) (by omega))) (hi_.mk (by omega) (fun q_ h1_ h2_ => (wz66.ne (by omega)).trans (f1_.2 _ (by omega))) (wz66.1.trans f1_.1) e1_ ((wz66.ne (by omega)).trans (f1_.2 _ (by omega))) ?_ hok (by omega) (by omega)) (by exact (if_pos hc_).symm) (by exact (if_pos hc_).symm))
    exact n1_.fr (zw_f.w (lo := p) (n := 1) wz66 (by omega) (by omega)) (by omega)

  · obtain rfl : cnt = 12 := by omega
    refine hs 0 _ rfl _ _ _ _ _ _ _ rfl ?_
    refine hs 1 _ rfl _ _ _ _ _ _ _ _ _ (a1_) rfl rfl ?_
    refine hs 2 _ rfl _ _ _ _ _ _ _ rfl ?_
    refine hs 3 _ rfl _ _ _ _ _ _ _ _ _ (a1_) rfl rfl ?_
    refine hs 4 _ rfl _ _ _ _ _ _ _ rfl ?_
    refine hs 5 _ rfl _ _ _ _ _ _ _ _ _ (a1_) rfl rfl ?_
    refine hs 6 _ rfl _ _ _ _ _ _ _ hd_add ?_
    refine hs 7 _ rfl _ _ _ _ _ _ _ rfl ?_
    refine hs 8 _ rfl _ _ _ _ _ _ _ (hd_rem (by omega) (by omega) (by omega) (by omega)) ?_
    refine zw_Ar (hs 9 _ rfl) (a2_) rfl (j := ((old + 12) % 12)) (by omega) (by omega) (zc_rl_get (by omega)) ?_
    refine hs 10 _ rfl _ _ _ _ _ _ _ rfl ?_
    refine zw_c (hs 11 _ rfl) (a := [.ref (p + 2 + 17 * ((old + 12) % 12)), .ref s]) (st := []) rfl rfl (Nat.le_of_ble_eq_true rfl) ⟨_, _, _, rfl, b1_.choose_spec.choose_spec.choose_spec.1, rfl⟩ (Nat.zero_le _) (Nat.zero_le _) (zc_become_M g (s := p + 2 + 17 * ((old + 12) % 12)) (o := s) (by omega) (by omega) b1_ hs2 fun hy_ f1_ n1_ => ?_)
    show S 21 [some (.ref p), some (.ref s)] [] _ _ _
    refine hs 12 _ rfl _ _ _ _ _ _ _ rfl ?_
    refine hs 13 _ rfl _ _ _ _ _ _ _ _ _ (((f1_.2 _ (by omega))).trans a1_) rfl rfl ?_
    refine hs 14 _ rfl _ _ _ _ _ _ _ rfl ?_
    refine hs 15 _ rfl _ _ _ _ _ _ _ (fun _ => ?_) (fun zq => absurd (hd_c2t (c := 3) (by omega) (by omega) (by omega) (by omega) (by omega : 0 ≤ (((12 : Nat) : Int) - (12 : Int)))) zq)
    refine hs 23 _ rfl _ _ _ _ _ _ _ rfl ?_
    refine hs 24 _ rfl _ _ _ _ _ _ _ rfl ?_
    refine hs 25 _ rfl _ _ _ _ _ _ _ _ _ (((f1_.2 _ (by omega))).trans a1_) rfl rfl ?_
    refine hs 26 _ rfl _ _ _ _ _ _ _ rfl ?_
    refine hs 27 _ rfl _ _ _ _ _ _ _ hd_add ?_
    refine hs 28 _ rfl _ _ _ _ _ _ _ rfl ?_
    refine hs 29 _ rfl _ _ _ _ _ _ _ (hd_rem (by omega) (by omega) (by omega) (by omega)) ?_
    refine zw_U (hs 30 _ rfl) (by omega) (((f1_.2 _ (by omega))).trans a1_) rfl ⟨_, rfl⟩ fun hz67 wz68 => ?_
    have wz68 : hd_w G hy_ hz67 p (1012, [.ref (p + 1), .int (Int32.ofInt (((old : Int) + (1 : Int)) % (12 : Int))), .int (Int32.ofInt ((12 : Nat) : Int))]) := wz68
    have e1_ := wz68.at
    rw [show (((old : Int) + (1 : Int)) % (12 : Int)) = (((old + 1) % 12 : Nat) : Int) by omega] at e1_
    refine hs 31 _ rfl _ _ _ _ (Nat.zero_le _) (Nat.zero_le _) (hP _ ((old + 1) % 12) 12 ((f1_.mono (by omega) (by omega)).tr (zw_f.w wz68 (by omega) (by omega))) (hi_.mk (by omega) (fun q_ h1_ h2_ => (wz68.ne (by omega)).trans (f1_.2 _ (by omega))) (wz68.1.trans f1_.1) e1_ ((wz68.ne (by omega)).trans (f1_.2 _ (by omega))) ?_ hok (by omega) (by omega)) (by exact (if_neg hc_).symm) (by exact (if_neg hc_).symm))
    exact n1_.fr (zw_f.w (lo := p) (n := 1) wz68 (by omega) (by omega)) (by omega)
set_option maxHeartbeats 4000000 in
theorem zc_back_M {l : Launch} {G : am_G} {X : ck_XT} (g : gM l G X) {p s old cnt : Nat} {R : Nat → sp_S} {c : sp_S} {h : List am_C} (hp1 : 1000 ≤ s) (hd : s + 17 = p) (hi_ : zc_p G h p R old cnt) (hs2 : zc_s G h s c) (h0 : 0 < cnt) {mc ms : Nat} {Post : am_O → List am_C → Prop}
    (hP : ∀ (h' : List am_C), zw_f G h h' s 18 → zc_p G h' p R old (cnt - 1) → zc_s G h' s (R ((old + (cnt - 1)) % 12)) → Post (.inl none) h') :
    am_M l G yX5_bringBack (.code yX5_bringBack prog_7_method_3_code 2 none) 4 102 mc ms [.ref p, .ref s] h Post := by
  refine gh_yX5_bringBack_X g (Nat.le_of_ble_eq_true rfl) fun S SX hs hr hw hx => ?_
  have rv : ∀ x : Int32, ck_fv 0 (.int x) := fun x => ⟨_, rfl⟩
  obtain ⟨a1_, a2_, a3_, a4_, a5_⟩ := id hi_
  obtain ⟨b1_, b2_⟩ := a3_ ((old + (cnt - 1)) % 12) (by omega)
  refine hs 0 _ rfl _ _ _ _ _ _ _ rfl ?_
  refine hs 1 _ rfl _ _ _ _ _ _ _ _ _ (a1_) rfl rfl ?_
  refine hs 2 _ rfl _ _ _ _ _ _ (fun zq => absurd (hd_c1z (c := 5) (by omega) (by omega) zq) (by omega : ¬ ((cnt : Int) ≤ 0))) (fun _ => ?_)
  refine hs 3 _ rfl _ _ _ _ _ _ _ rfl ?_
  refine hs 4 _ rfl _ _ _ _ _ _ _ rfl ?_
  refine hs 5 _ rfl _ _ _ _ _ _ _ _ _ (a1_) rfl rfl ?_
  refine hs 6 _ rfl _ _ _ _ _ _ _ rfl ?_
  refine hs 7 _ rfl _ _ _ _ _ _ _ hd_sub ?_
  refine zw_U (hs 8 _ rfl) (by omega) (a1_) rfl ⟨_, rfl⟩ fun hz69 wz70 => ?_
  have wz70 : hd_w G h hz69 p (1012, [.ref (p + 1), .int (Int32.ofInt (old : Int)), .int (Int32.ofInt ((cnt : Int) - (1 : Int)))]) := wz70
  have q1_ := hs2.fr (zw_f.w (lo := p) (n := 1) wz70 (by omega) (by omega)) (by omega)
  have q2_ := b1_.fr (zw_f.w (lo := p) (n := 1) wz70 (by omega) (by omega)) (by omega)
  refine hs 9 _ rfl _ _ _ _ _ _ _ rfl ?_
  refine hs 10 _ rfl _ _ _ _ _ _ _ rfl ?_
  refine hs 11 _ rfl _ _ _ _ _ _ _ _ _ (wz70.at) rfl rfl ?_
  refine hs 12 _ rfl _ _ _ _ _ _ _ rfl ?_
  refine hs 13 _ rfl _ _ _ _ _ _ _ _ _ (wz70.at) rfl rfl ?_
  refine hs 14 _ rfl _ _ _ _ _ _ _ rfl ?_
  refine hs 15 _ rfl _ _ _ _ _ _ _ _ _ (wz70.at) rfl rfl ?_
  refine hs 16 _ rfl _ _ _ _ _ _ _ hd_add ?_
  refine hs 17 _ rfl _ _ _ _ _ _ _ rfl ?_
  refine hs 18 _ rfl _ _ _ _ _ _ _ (hd_rem (by omega) (by omega) (by omega) (by omega)) ?_
  refine zw_Ar (hs 19 _ rfl) ((wz70.ne (by omega)).trans a2_) rfl (j := ((old + (cnt - 1)) % 12)) (by omega) (by omega) (zc_rl_get (by omega)) ?_
  refine zw_c (hs 20 _ rfl) (a := [.ref s, .ref (p + 2 + 17 * ((old + (cnt - 1)) % 12))]) (st := []) rfl rfl (Nat.le_of_ble_eq_true rfl) ⟨_, _, _, rfl, q1_.choose_spec.choose_spec.choose_spec.1, rfl⟩ (Nat.zero_le _) (Nat.zero_le _) (zc_become_M g (s := s) (o := p + 2 + 17 * ((old + (cnt - 1)) % 12)) (by omega) (by omega) q1_ q2_ fun hy_ f1_ n1_ => ?_)
  show S 38 [some (.ref p), some (.ref s)] [] _ _ _
  have e1_ := (f1_.2 p (by omega)).trans wz70.at
  rw [show ((cnt : Int) - (1 : Int)) = ((cnt - 1 : Nat) : Int) by omega] at e1_
  refine hs 21 _ rfl _ _ _ _ (Nat.zero_le _) (Nat.zero_le _) (hP _ ((zw_f.w wz70 (by omega) (by omega)).tr (f1_.mono (by omega) (by omega))) ⟨e1_, (f1_.2 _ (by omega)).trans ((wz70.ne (by omega)).trans a2_), fun j_ hj_ => ⟨((a3_ j_ hj_).1.fr (zw_f.w (lo := p) (n := 1) wz70 (by omega) (by omega)) (by omega)).fr f1_ (by omega), (a3_ j_ hj_).2⟩, a4_, by omega⟩ n1_)
end
section
/-! THE CLASS AS A WHOLE -/
theorem zc_s.d {G : am_G} {h : List am_C} {s : Nat} {c : sp_S} (a : zc_s G h s c) : am_g G h s = some (zc_sc s c.1 (c.2.2.1.length : Int) (c.2.2.2.length : Int)) := by obtain ⟨_, _, _, a1_, -⟩ := a; exact a1_
theorem zc_s.nr {G : am_G} {h : List am_C} {s : Nat} {c : sp_S} (a : zc_s G h s c) : am_g G h (s + 1) = some (1053, zc_rl 6 fun i => s + 5 + 2 * i) := by obtain ⟨_, _, _, -, a1_, -⟩ := a; exact a1_
theorem zc_s.n {G : am_G} {h : List am_C} {s : Nat} {c : sp_S} (a : zc_s G h s c) {i : Nat} (hi : i < 6) : zc_n G h (s + 5 + 2 * i) (c.2.1.getD i 0) := by obtain ⟨_, _, _, -, -, -, -, -, -, a1_⟩ := a; exact a1_ i hi
theorem zc_s.num {G : am_G} {h h' : List am_C} {s i : Nat} {c : sp_S} {z : Int} (a : zc_s G h s c) (hi : i < 6) (hl : c.2.1.length = 6) (f : ∀ p, p ≠ s + 5 + 2 * i → p ≠ s + 5 + 2 * i + 1 → am_g G h' p = am_g G h p) (hn : zc_n G h' (s + 5 + 2 * i) z) : zc_s G h' s (c.1, c.2.1.set i z, c.2.2) := by
  obtain ⟨rs_, zs_, bs_, a1_, a2_, a3_, a4_, a5_, a6_, a7_⟩ := a
  refine ⟨rs_, zs_, bs_, (f _ (by omega) (by omega)).trans a1_, (f _ (by omega) (by omega)).trans a2_, (f _ (by omega) (by omega)).trans a3_, (f _ (by omega) (by omega)).trans a4_, (f _ (by omega) (by omega)).trans a5_, a6_, fun j hj => ?_⟩
  show zc_n G h' (s + 5 + 2 * j) ((c.2.1.set i z).getD j 0)
  by_cases e_ : j = i
  · rw [e_, List.getD_eq_getElem?_getD, List.getElem?_set_self (by omega), Option.getD_some]
    exact hn
  · rw [sb_sets e_]
    exact (a7_ j hj).keep (f _ (by omega) (by omega)) (f _ (by omega) (by omega))
def zc_cell (x : Nat) (j m k : Int) (r : Nat → Nat) : am_C := (1015, [.ref (x + 1), .ref (x + 18), .int (Int32.ofInt j), .int (Int32.ofInt m), .int (Int32.ofInt k), .ref (x + 224), .ref (x + 226), .ref (r 0), .ref (r 1), .ref (r 2), .ref (r 3), .ref (r 4), .ref (r 5)])
def zc_x (G : am_G) (h : List am_C) (x : Nat) (r : Nat → Nat) (j m k : Int) (c : sp_S) (R : Nat → sp_S) (old cnt : Nat) : Prop :=
  am_g G h x = some (zc_cell x j m k r) ∧ zc_s G h (x + 1) c ∧ sp_ok c ∧ zc_p G h (x + 18) R old cnt ∧ (zc_w G h (x + 224) ∧ zc_w G h (x + 226)) ∧ (∃ (a : Int32) (b d : Int64), am_g G h (r 4) = some (1011, [.int a, .long b, .long d])) ∧ x + 228 ≤ r 4 ∧ 1000 ≤ x
/-- outside the class nothing has changed -/
def zc_fr (G : am_G) (h h' : List am_C) (x : Nat) (r : Nat → Nat) : Prop := h'.length = h.length ∧ ∀ p, (p < x ∨ x + 228 ≤ p) → p ≠ r 4 → am_g G h' p = am_g G h p
theorem zc_fr.rf {G : am_G} {h : List am_C} {x : Nat} {r : Nat → Nat} : zc_fr G h h x r := ⟨rfl, fun _ _ _ => rfl⟩
theorem zc_fr.tr {G : am_G} {h h' h2 : List am_C} {x : Nat} {r : Nat → Nat} (a : zc_fr G h h' x r) (b : zc_fr G h' h2 x r) : zc_fr G h h2 x r := ⟨b.1.trans a.1, fun p h1 h2 => (b.2 p h1 h2).trans (a.2 p h1 h2)⟩
theorem zc_fr.of {G : am_G} {h h' : List am_C} {x lo n : Nat} {r : Nat → Nat} (a : zw_f G h h' lo n) (h1 : x ≤ lo) (h2 : lo + n ≤ x + 228) : zc_fr G h h' x r := ⟨a.1, fun p hp _ => a.2 p (by omega)⟩
section ZCX
variable {G : am_G} {h h' : List am_C} {x : Nat} {r : Nat → Nat} {j m k : Int} {c : sp_S} {R : Nat → sp_S} {old cnt : Nat}
theorem zc_x.st (a : zc_x G h x r j m k c R old cnt) {c2 : sp_S} (f : zw_f G h h' (x + 1) 17) (hs : zc_s G h' (x + 1) c2) (hc : sp_ok c2) : zc_x G h' x r j m k c2 R old cnt := by
  obtain ⟨a1_, a2_, a3_, a4_, ⟨a5_, a6_⟩, ⟨y1_, y2_, y3_, a7_⟩, a8_, a9_⟩ := a
  exact ⟨(f.2 _ (by omega)).trans a1_, hs, hc, a4_.fr f (by omega), ⟨a5_.fr f (by omega), a6_.fr f (by omega)⟩, ⟨y1_, y2_, y3_, (f.2 _ (by omega)).trans a7_⟩, a8_, a9_⟩
theorem zc_x.past (a : zc_x G h x r j m k c R old cnt) {R2 : Nat → sp_S} {old2 cnt2 : Nat} (f : zw_f G h h' (x + 18) 206) (hs : zc_p G h' (x + 18) R2 old2 cnt2) : zc_x G h' x r j m k c R2 old2 cnt2 := by
  obtain ⟨a1_, a2_, a3_, a4_, ⟨a5_, a6_⟩, ⟨y1_, y2_, y3_, a7_⟩, a8_, a9_⟩ := a
  exact ⟨(f.2 _ (by omega)).trans a1_, a2_.fr f (by omega), a3_, hs, ⟨a5_.fr f (by omega), a6_.fr f (by omega)⟩, ⟨y1_, y2_, y3_, (f.2 _ (by omega)).trans a7_⟩, a8_, a9_⟩
theorem zc_x.undo (a : zc_x G h x r j m k c R old cnt) {c2 : sp_S} {R2 : Nat → sp_S} {old2 cnt2 : Nat} (f : zw_f G h h' (x + 1) 18) (hs : zc_p G h' (x + 18) R2 old2 cnt2) (hc : zc_s G h' (x + 1) c2) (hk : sp_ok c2) : zc_x G h' x r j m k c2 R2 old2 cnt2 := by
  obtain ⟨a1_, a2_, a3_, a4_, ⟨a5_, a6_⟩, ⟨y1_, y2_, y3_, a7_⟩, a8_, a9_⟩ := a
  exact ⟨(f.2 _ (by omega)).trans a1_, hc, hk, hs, ⟨a5_.fr f (by omega), a6_.fr f (by omega)⟩, ⟨y1_, y2_, y3_, (f.2 _ (by omega)).trans a7_⟩, a8_, a9_⟩
theorem zc_x.work (a : zc_x G h x r j m k c R old cnt) (f : zw_f G h h' (x + 224) 4) (h1 : zc_w G h' (x + 224)) (h2 : zc_w G h' (x + 226)) : zc_x G h' x r j m k c R old cnt := by
  obtain ⟨a1_, a2_, a3_, a4_, ⟨a5_, a6_⟩, ⟨y1_, y2_, y3_, a7_⟩, a8_, a9_⟩ := a
  exact ⟨(f.2 _ (by omega)).trans a1_, a2_.fr f (by omega), a3_, a4_.fr f (by omega), ⟨h1, h2⟩, ⟨y1_, y2_, y3_, (f.2 _ (by omega)).trans a7_⟩, a8_, a9_⟩
theorem zc_x.own (a : zc_x G h x r j m k c R old cnt) {j2 m2 k2 : Int} (w : hd_w G h h' x (zc_cell x j2 m2 k2 r)) : zc_x G h' x r j2 m2 k2 c R old cnt := by
  obtain ⟨a1_, a2_, a3_, a4_, ⟨a5_, a6_⟩, ⟨y1_, y2_, y3_, a7_⟩, a8_, a9_⟩ := a
  have f_ : zw_f G h h' x 1 := zw_f.w w (by omega) (by omega)
  exact ⟨w.at, a2_.fr f_ (by omega), a3_, a4_.fr f_ (by omega), ⟨a5_.fr f_ (by omega), a6_.fr f_ (by omega)⟩, ⟨y1_, y2_, y3_, (f_.2 _ (by omega)).trans a7_⟩, a8_, a9_⟩
theorem zc_x.join (a : zc_x G h x r j m k c R old cnt) {y1 : Int32} {y2 y3 : Int64} (w : hd_w G h h' (r 4) (1011, [.int y1, .long y2, .long y3])) : zc_x G h' x r j m k c R old cnt := by
  obtain ⟨a1_, a2_, a3_, a4_, ⟨a5_, a6_⟩, -, a8_, a9_⟩ := a
  have f_ : zw_f G h h' (r 4) 1 := zw_f.w w (by omega) (by omega)
  exact ⟨(f_.2 _ (by omega)).trans a1_, a2_.fr f_ (by omega), a3_, a4_.fr f_ (by omega), ⟨a5_.fr f_ (by omega), a6_.fr f_ (by omega)⟩, ⟨y1, y2, y3, w.at⟩, a8_, a9_⟩
end ZCX
/-- the states that may come back, the last one last -/
def zc_l (R : Nat → sp_S) (old cnt : Nat) : List sp_S := (List.range cnt).map fun i => R ((old + i) % 12)
def sp_keep (P : List sp_S) (c : sp_S) : List sp_S := (if P.length < 12 then P else P.tail) ++ [c]
theorem zc_l_len {R : Nat → sp_S} {old cnt : Nat} : (zc_l R old cnt).length = cnt := by unfold zc_l; simp
theorem zc_l_get {R : Nat → sp_S} {old cnt i : Nat} (h : i < cnt) : (zc_l R old cnt)[i]? = some (R ((old + i) % 12)) := by
  unfold zc_l
  rw [List.getElem?_map, List.getElem?_range h]
  rfl
theorem zc_l_keep {R : Nat → sp_S} {old cnt old2 cnt2 : Nat} {c : sp_S} (ho : old ≤ 11) (hn : cnt ≤ 12) (h1 : old2 = (if cnt < 12 then old else (old + 1) % 12)) (h2 : cnt2 = (if cnt < 12 then cnt + 1 else 12)) : zc_l (zc_put R ((old + cnt) % 12) c) old2 cnt2 = sp_keep (zc_l R old cnt) c := by
  apply List.ext_getElem?
  intro i
  unfold sp_keep
  rw [zc_l_len]
  by_cases c_ : cnt < 12
  · rw [if_pos c_] at h1 h2 ⊢
    subst h1 h2
    by_cases ci_ : i < cnt
    · rw [zc_l_get (by omega), List.getElem?_append_left (by rw [zc_l_len]; exact ci_), zc_l_get ci_]
      unfold zc_put
      rw [if_neg (by omega)]
    · by_cases ce_ : i = cnt
      · rw [ce_, zc_l_get (by omega), List.getElem?_append_right (by rw [zc_l_len]; omega), zc_l_len, Nat.sub_self]
        unfold zc_put
        rw [if_pos rfl]
        rfl
      · rw [List.getElem?_eq_none (by rw [zc_l_len]; omega), List.getElem?_eq_none (by rw [List.length_append, zc_l_len, List.length_singleton]; omega)]
  · obtain rfl : cnt = 12 := by omega
    rw [if_neg c_] at h1 h2 ⊢
    subst h1 h2
    have hlt_ : (zc_l R old 12).tail.length = 11 := by rw [List.length_tail, zc_l_len]
    by_cases ci_ : i < 11
    · rw [zc_l_get (by omega), List.getElem?_append_left (by omega), List.getElem?_tail, zc_l_get (by omega)]
      unfold zc_put
      rw [if_neg (by omega), show ((old + 1) % 12 + i) % 12 = (old + (i + 1)) % 12 by omega]
    · by_cases ce_ : i = 11
      · rw [ce_, zc_l_get (by omega), List.getElem?_append_right (by omega), hlt_, Nat.sub_self]
        unfold zc_put
        rw [if_pos (by omega)]
        rfl
      · rw [List.getElem?_eq_none (by rw [zc_l_len]; omega), List.getElem?_eq_none (by rw [List.length_append, hlt_, List.length_singleton]; omega)]
theorem zc_l_back {R : Nat → sp_S} {old cnt : Nat} (h0 : 0 < cnt) : zc_l R old (cnt - 1) = (zc_l R old cnt).dropLast ∧ (zc_l R old cnt).getLast? = some (R ((old + (cnt - 1)) % 12)) := by
  constructor
  · apply List.ext_getElem?
    intro i
    rw [List.getElem?_dropLast, zc_l_len]
    by_cases c_ : i < cnt - 1
    · rw [if_pos c_, zc_l_get c_, zc_l_get (by omega)]
    · rw [if_neg c_, List.getElem?_eq_none (by rw [zc_l_len]; omega)]
  · rw [List.getLast?_eq_getElem?, zc_l_len, zc_l_get (by omega)]
/-- the class with the states that may come back -/
def zc_X (G : am_G) (h : List am_C) (x : Nat) (r : Nat → Nat) (j m k : Int) (c : sp_S) (P : List sp_S) : Prop := ∃ (R : Nat → sp_S) (old cnt : Nat), zc_x G h x r j m k c R old cnt ∧ P = zc_l R old cnt
end
section
/-! THE CLASS, TO BE WALKED BY HAND -/
def gt_yX10_numberAt_X : ck_TB := ([], [], [], [(10, 15, 0), (412, 14, 1)], [], [], [], [], ([], [], [], []), [(10, 0)], [], [], 4)
def ge_yX10_numberAt_X : ck_E := (gT, [], (([], [], [], 0, []), ((0, []), (0, [])), [], [], ([], [], [], 0, []), ["java/lang/IndexOutOfBoundsException"]), 2, [(0, (0, 3, 1, 0, 1, 0, [])), (1, (1, 2, 0, 0, 4, 10, [])), (4, (0, 3, 1, 0, 5, 0, [])), (5, (0, 0, 0, 6, 7, 0, [])), (7, (2, 2, 0, 0, 10, 21, [])), (10, (17, 0, 0, 0, 0, 0, [])), (21, (0, 5, 0, 0, 22, 0, [])), (22, (7, 15, 0, 0, 25, 0, [])), (25, (7, 14, 1, 0, 28, 0, [])), (28, (0, 3, 1, 0, 29, 0, [])), (29, (12, 53, 58, 0, 30, 0, [])), (30, (14, 0, 0, 4, 0, 0, []))], [], [], [], [])
theorem gd_yX10_numberAt_X : ck_dec prog_1_method_62_code gt_yX10_numberAt_X ge_yX10_numberAt_X.2.2.2.2.1 = true := by decide +kernel
theorem gh_yX10_numberAt_X {l : Launch} {G : am_G} {X : ck_XT} (g : gM l G X) {a : List Value} {h : List am_C} {mc ms : Nat} {Post : am_O → List am_C → Prop} (hay : (am_lay a).length ≤ 2) (H : ∀ (S : ck_SS) (SX : Nat → ck_SX), ck_hs G S SX Post mc ms (ck_cms []) ge_yX10_numberAt_X → (∀ pc, ck_sR G S pc) → ck_hw S → zw_hx SX Post mc ms → S 0 (am_ent a 2) [] h 0 0) : am_M l G yX10_numberAt (.code yX10_numberAt prog_1_method_62_code 2 (some (.object "Clockhouse$Big"))) 6 90 mc ms a h Post :=
  zw_handX (E := ge_yX10_numberAt_X) (tb := gt_yX10_numberAt_X) (init := false) (cm := (ck_cms [])) g.1.1 (by decide +kernel) rfl gd_yX10_numberAt_X ⟨(List.forall_mem_nil _), (List.forall_mem_nil _), (List.forall_mem_nil _), (List.forall_mem_cons.mpr ⟨⟨⟨_, _, _, rfl, Or.inl w353⟩, by decide, _, _, g_fd15_0⟩, (List.forall_mem_cons.mpr ⟨⟨⟨_, _, _, rfl, Or.inr (Or.inl ⟨_, w164⟩)⟩, by decide, _, _, g_fd14_1⟩, (List.forall_mem_nil _)⟩)⟩), (List.forall_mem_nil _), (List.forall_mem_nil _), (List.forall_mem_nil _), (List.forall_mem_nil _)⟩ (List.forall_mem_nil _) (fun h => nomatch h) ⟨_, rfl, Or.inl ⟨_, rfl⟩⟩ (by decide) (by decide) g_oi g_ar
    (fun s hk _ => (List.forall_mem_nil _)) (fun s hk => (List.forall_mem_nil _))
    (List.forall_mem_nil _) (List.forall_mem_nil _) (List.forall_mem_nil _) (List.forall_mem_nil _)
    (List.forall_mem_cons.mpr ⟨(fun Ex hE => by
      have hE : (some "java/lang/IndexOutOfBoundsException" : Option String) = some Ex := hE
      cases hE
      exact ck_zW (names := g_sup) (ik := 407) (is := 409) (ic := 411) (by decide +kernel) g_sup_fit w1044 w115 (List.mem_of_getElem? (i := 1) rfl) g_at_0 g_ot_0 (by decide +kernel) (by decide +kernel) (by decide +kernel) (by decide +kernel) (by decide +kernel) (by decide) (by decide)), (List.forall_mem_nil _)⟩) hay H
def gt_yX10_isJammed_X : ck_TB := ([], [], [], [(10, 15, 0), (71, 14, 0)], [], [], [], [], ([], [], [], []), [], [], [], 1)
def ge_yX10_isJammed_X : ck_E := (gT, [], (([], [], [], 0, []), ((0, []), (0, [])), [], [], ([], [], [], 0, []), []), 1, [(0, (0, 5, 0, 0, 1, 0, [])), (1, (7, 15, 0, 0, 4, 0, [])), (4, (7, 14, 0, 0, 7, 0, [])), (7, (1, 4, 0, 0, 10, 14, [])), (10, (0, 0, 0, 1, 11, 0, [])), (11, (3, 0, 0, 0, 0, 15, [])), (14, (0, 0, 0, 0, 15, 0, [])), (15, (14, 0, 0, 1, 0, 0, []))], [], [], [], [])
theorem gd_yX10_isJammed_X : ck_dec prog_1_method_63_code gt_yX10_isJammed_X ge_yX10_isJammed_X.2.2.2.2.1 = true := by decide +kernel
theorem gh_yX10_isJammed_X {l : Launch} {G : am_G} {X : ck_XT} (g : gM l G X) {a : List Value} {h : List am_C} {mc ms : Nat} {Post : am_O → List am_C → Prop} (hay : (am_lay a).length ≤ 1) (H : ∀ (S : ck_SS) (SX : Nat → ck_SX), ck_hs G S SX Post mc ms (ck_cms []) ge_yX10_isJammed_X → (∀ pc, ck_sR G S pc) → ck_hw S → zw_hx SX Post mc ms → S 0 (am_ent a 1) [] h 0 0) : am_M l G yX10_isJammed (.code yX10_isJammed prog_1_method_63_code 1 (some .boolean)) 1 20 mc ms a h Post :=
  zw_handX (E := ge_yX10_isJammed_X) (tb := gt_yX10_isJammed_X) (init := false) (cm := (ck_cms [])) g.1.1 (by decide +kernel) rfl gd_yX10_isJammed_X ⟨(List.forall_mem_nil _), (List.forall_mem_nil _), (List.forall_mem_nil _), (List.forall_mem_cons.mpr ⟨⟨⟨_, _, _, rfl, Or.inl w353⟩, by decide, _, _, g_fd15_0⟩, (List.forall_mem_cons.mpr ⟨⟨⟨_, _, _, rfl, Or.inr (Or.inl ⟨_, w161⟩)⟩, by decide, _, _, g_fd14_0⟩, (List.forall_mem_nil _)⟩)⟩), (List.forall_mem_nil _), (List.forall_mem_nil _), (List.forall_mem_nil _), (List.forall_mem_nil _)⟩ (List.forall_mem_nil _) (fun h => nomatch h) ⟨_, rfl, rfl⟩ (by decide) (by decide) g_oi g_ar
    (fun s hk _ => (List.forall_mem_nil _)) (fun s hk => (List.forall_mem_nil _))
    (List.forall_mem_nil _) (List.forall_mem_nil _) (List.forall_mem_nil _) (List.forall_mem_nil _)
    (List.forall_mem_nil _) hay H
def gt_yX10_putNumber_X : ck_TB := ([], [], [], [(10, 15, 0), (19, 15, 1)], [], [], [], [], ([(82, 1), (94, 3), (426, 0), (431, 2)], [], [], []), [(7, 0)], [], [], 0)
def ge_yX10_putNumber_X : ck_E := (gT, [], (([], [], [], 0, []), ((0, []), (0, [])), [], [], ([], [], [], 0, []), ["java/lang/IllegalStateException"]), 3, [(0, (0, 5, 2, 0, 1, 0, [])), (1, (16, 0, 0, 0, 4, 0, [])), (4, (1, 0, 0, 0, 7, 18, [])), (7, (17, 0, 0, 0, 0, 0, [])), (18, (0, 5, 0, 0, 19, 0, [])), (19, (7, 15, 1, 0, 22, 0, [])), (22, (0, 5, 0, 0, 23, 0, [])), (23, (7, 15, 0, 0, 26, 0, [])), (26, (16, 1, 0, 0, 29, 0, [])), (29, (0, 5, 1, 0, 30, 0, [])), (30, (0, 5, 2, 0, 31, 0, [])), (31, (16, 2, 0, 0, 34, 0, [])), (34, (0, 5, 1, 0, 35, 0, [])), (35, (16, 3, 0, 0, 38, 0, [])), (38, (14, 0, 0, 0, 0, 0, []))], [(some 7, 1, []), (some 12, 2, []), (some 7, 2, []), (some 7, 1, [])], [], [], [])
theorem gd_yX10_putNumber_X : ck_dec prog_1_method_68_code gt_yX10_putNumber_X ge_yX10_putNumber_X.2.2.2.2.1 = true := by decide +kernel
theorem gh_yX10_putNumber_X {l : Launch} {G : am_G} {X : ck_XT} (g : gM l G X) {a : List Value} {h : List am_C} {mc ms : Nat} {Post : am_O → List am_C → Prop} (hay : (am_lay a).length ≤ 3) (H : ∀ (S : ck_SS) (SX : Nat → ck_SX), ck_hs G S SX Post mc ms (ck_cms [am_cm l G yX0_isTooLong (.code yX0_isTooLong prog_2_method_4_code 1 (some .boolean)) 1 20, am_cm l G yX5_keep (.code yX5_keep prog_7_method_2_code 2 none) 4 102, am_cm l G yX0_become (.code yX0_become prog_2_method_7_code 2 none) 2 59, am_cm l G yX0_digitCount (.code yX0_digitCount prog_2_method_16_code 4 (some .int)) 2 41]) ge_yX10_putNumber_X → (∀ pc, ck_sR G S pc) → ck_hw S → zw_hx SX Post mc ms → S 0 (am_ent a 3) [] h 0 0) : am_M l G yX10_putNumber (.code yX10_putNumber prog_1_method_68_code 3 (some .int)) 6 123 mc ms a h Post :=
  zw_handX (E := ge_yX10_putNumber_X) (tb := gt_yX10_putNumber_X) (init := false) (cm := (ck_cms [am_cm l G yX0_isTooLong (.code yX0_isTooLong prog_2_method_4_code 1 (some .boolean)) 1 20, am_cm l G yX5_keep (.code yX5_keep prog_7_method_2_code 2 none) 4 102, am_cm l G yX0_become (.code yX0_become prog_2_method_7_code 2 none) 2 59, am_cm l G yX0_digitCount (.code yX0_digitCount prog_2_method_16_code 4 (some .int)) 2 41])) g.1.1 (by decide +kernel) rfl gd_yX10_putNumber_X ⟨(List.forall_mem_nil _), (List.forall_mem_nil _), (List.forall_mem_nil _), (List.forall_mem_cons.mpr ⟨⟨⟨_, _, _, rfl, Or.inl w353⟩, by decide, _, _, g_fd15_0⟩, (List.forall_mem_cons.mpr ⟨⟨⟨_, _, _, rfl, Or.inl w354⟩, by decide, _, _, g_fd15_1⟩, (List.forall_mem_nil _)⟩)⟩), (List.forall_mem_nil _), (List.forall_mem_nil _), (List.forall_mem_nil _), (List.forall_mem_nil _)⟩ (List.forall_mem_nil _) (fun h => nomatch h) ⟨_, rfl, rfl⟩ (by decide) (by decide) g_oi g_ar
    (fun s hk _ => (List.forall_mem_nil _)) (fun s hk => (List.forall_mem_nil _))
    (List.forall_mem_cons.mpr ⟨(ck_kV g_y_yX5_keep w1222 w1223 w1224 (T := TX5) (N := 3) rfl (by decide) (by decide) (by decide)), (List.forall_mem_cons.mpr ⟨(ck_kV g_y_yX0_digitCount w1057 w1058 w1059 (T := TX0) (N := 3) rfl (by decide) (by decide) (by decide)), (List.forall_mem_cons.mpr ⟨(ck_kV g_y_yX0_isTooLong w880 w881 w882 (T := TX0) (N := 3) rfl (by decide) (by decide) (by decide)), (List.forall_mem_cons.mpr ⟨(ck_kV g_y_yX0_become w1271 w975 w976 (T := TX0) (N := 3) rfl (by decide) (by decide) (by decide)), (List.forall_mem_nil _)⟩)⟩)⟩)⟩) (List.forall_mem_nil _) (List.forall_mem_nil _) (List.forall_mem_nil _)
    (List.forall_mem_cons.mpr ⟨(fun Ex hE => by
      have hE : (some "java/lang/IllegalStateException" : Option String) = some Ex := hE
      cases hE
      exact ck_zW (names := g_sup) (ik := 168) (is := 429) (ic := 172) (by decide +kernel) g_sup_fit w1255 w116 (List.mem_of_getElem? (i := 6) rfl) g_at_2 g_ot_2 (by decide +kernel) (by decide +kernel) (by decide +kernel) (by decide +kernel) (by decide +kernel) (by decide) (by decide)), (List.forall_mem_nil _)⟩) hay H
def gt_yX10_putRound_X : ck_TB := ([], [], [], [(10, 15, 0), (19, 15, 1), (350, 15, 2), (353, 15, 3)], [(350, 15, 2, 0), (353, 15, 3, 0)], [], [], [], ([(82, 0), (90, 1)], [], [], []), [], [], [], 0)
def ge_yX10_putRound_X : ck_E := (gT, [], (([], [], [], 0, []), ((0, []), (0, [])), [], [], ([], [], [], 0, []), []), 3, [(0, (0, 3, 2, 0, 1, 0, [])), (1, (0, 0, 0, (-9), 3, 0, [])), (3, (2, 1, 0, 0, 6, 19, [])), (6, (0, 5, 0, 0, 7, 0, [])), (7, (0, 12, 0, 0, 8, 0, [])), (8, (7, 15, 2, 0, 11, 0, [])), (11, (0, 0, 0, 1, 12, 0, [])), (12, (0, 15, 0, 0, 13, 0, [])), (13, (8, 15, 2, 0, 16, 0, [])), (16, (0, 0, 0, (-9), 18, 0, [])), (18, (14, 0, 0, 0, 0, 0, [])), (19, (0, 3, 2, 0, 20, 0, [])), (20, (0, 0, 0, (-8), 22, 0, [])), (22, (2, 1, 0, 0, 25, 38, [])), (25, (0, 5, 0, 0, 26, 0, [])), (26, (0, 12, 0, 0, 27, 0, [])), (27, (7, 15, 3, 0, 30, 0, [])), (30, (0, 0, 0, 1, 31, 0, [])), (31, (0, 15, 0, 0, 32, 0, [])), (32, (8, 15, 3, 0, 35, 0, [])), (35, (0, 0, 0, (-8), 37, 0, [])), (37, (14, 0, 0, 0, 0, 0, [])), (38, (0, 5, 0, 0, 39, 0, [])), (39, (7, 15, 1, 0, 42, 0, [])), (42, (0, 5, 0, 0, 43, 0, [])), (43, (7, 15, 0, 0, 46, 0, [])), (46, (16, 0, 0, 0, 49, 0, [])), (49, (0, 5, 1, 0, 50, 0, [])), (50, (0, 3, 2, 0, 51, 0, [])), (51, (0, 19, 0, 0, 52, 0, [])), (52, (16, 1, 0, 0, 55, 0, [])), (55, (0, 3, 2, 0, 56, 0, [])), (56, (14, 0, 0, 0, 0, 0, []))], [(some 12, 2, []), (some 7, 2, [])], [], [], [])
theorem gd_yX10_putRound_X : ck_dec prog_1_method_69_code gt_yX10_putRound_X ge_yX10_putRound_X.2.2.2.2.1 = true := by decide +kernel
theorem gh_yX10_putRound_X {l : Launch} {G : am_G} {X : ck_XT} (g : gM l G X) {a : List Value} {h : List am_C} {mc ms : Nat} {Post : am_O → List am_C → Prop} (hay : (am_lay a).length ≤ 3) (H : ∀ (S : ck_SS) (SX : Nat → ck_SX), ck_hs G S SX Post mc ms (ck_cms [am_cm l G yX5_keep (.code yX5_keep prog_7_method_2_code 2 none) 4 102, am_cm l G yX0_becomeLong (.code yX0_becomeLong prog_2_method_8_code 6 none) 2 42]) ge_yX10_putRound_X → (∀ pc, ck_sR G S pc) → ck_hw S → zw_hx SX Post mc ms → S 0 (am_ent a 3) [] h 0 0) : am_M l G yX10_putRound (.code yX10_putRound prog_1_method_69_code 3 (some .int)) 5 123 mc ms a h Post :=
  zw_handX (E := ge_yX10_putRound_X) (tb := gt_yX10_putRound_X) (init := false) (cm := (ck_cms [am_cm l G yX5_keep (.code yX5_keep prog_7_method_2_code 2 none) 4 102, am_cm l G yX0_becomeLong (.code yX0_becomeLong prog_2_method_8_code 6 none) 2 42])) g.1.1 (by decide +kernel) rfl gd_yX10_putRound_X ⟨(List.forall_mem_nil _), (List.forall_mem_nil _), (List.forall_mem_nil _), (List.forall_mem_cons.mpr ⟨⟨⟨_, _, _, rfl, Or.inl w353⟩, by decide, _, _, g_fd15_0⟩, (List.forall_mem_cons.mpr ⟨⟨⟨_, _, _, rfl, Or.inl w354⟩, by decide, _, _, g_fd15_1⟩, (List.forall_mem_cons.mpr ⟨⟨⟨_, _, _, rfl, Or.inl w355⟩, by decide, _, _, g_fd15_2⟩, (List.forall_mem_cons.mpr ⟨⟨⟨_, _, _, rfl, Or.inl w356⟩, by decide, _, _, g_fd15_3⟩, (List.forall_mem_nil _)⟩)⟩)⟩)⟩), (List.forall_mem_nil _), (List.forall_mem_nil _), (List.forall_mem_nil _), (List.forall_mem_nil _)⟩ (List.forall_mem_cons.mpr ⟨⟨⟨_, _, _, rfl, Or.inl w355⟩, by decide, _, rfl, Or.inl g_fd15_2⟩, (List.forall_mem_cons.mpr ⟨⟨⟨_, _, _, rfl, Or.inl w356⟩, by decide, _, rfl, Or.inl g_fd15_3⟩, (List.forall_mem_nil _)⟩)⟩) (fun h => nomatch h) ⟨_, rfl, rfl⟩ (by decide) (by decide) g_oi g_ar
    (fun s hk _ => (List.forall_mem_nil _)) (fun s hk => (List.forall_mem_nil _))
    (List.forall_mem_cons.mpr ⟨(ck_kV g_y_yX5_keep w1222 w1223 w1224 (T := TX5) (N := 3) rfl (by decide) (by decide) (by decide)), (List.forall_mem_cons.mpr ⟨(ck_kV g_y_yX0_becomeLong w461 w462 w463 (T := TX0) (N := 3) rfl (by decide) (by decide) (by decide)), (List.forall_mem_nil _)⟩)⟩) (List.forall_mem_nil _) (List.forall_mem_nil _) (List.forall_mem_nil _)
    (List.forall_mem_nil _) hay H
def gt_yX10_addRow_X : ck_TB := ([], [], [], [(10, 15, 0), (19, 15, 1), (159, 14, 2)], [], [], [], [], ([(82, 0), (434, 1)], [], [], []), [], [], [], 0)
def ge_yX10_addRow_X : ck_E := (gT, [], (([], [], [], 0, []), ((0, []), (0, [])), [], [], ([], [], [], 0, []), []), 3, [(0, (0, 5, 0, 0, 1, 0, [])), (1, (7, 15, 1, 0, 4, 0, [])), (4, (0, 5, 0, 0, 5, 0, [])), (5, (7, 15, 0, 0, 8, 0, [])), (8, (16, 0, 0, 0, 11, 0, [])), (11, (0, 5, 0, 0, 12, 0, [])), (12, (7, 15, 0, 0, 15, 0, [])), (15, (0, 3, 1, 0, 16, 0, [])), (16, (0, 3, 2, 0, 17, 0, [])), (17, (16, 1, 0, 0, 20, 0, [])), (20, (0, 5, 0, 0, 21, 0, [])), (21, (7, 15, 0, 0, 24, 0, [])), (24, (7, 14, 2, 0, 27, 0, [])), (27, (0, 0, 0, 1, 28, 0, [])), (28, (0, 15, 1, 0, 29, 0, [])), (29, (14, 0, 0, 0, 0, 0, []))], [(some 12, 2, []), (some 14, 3, [])], [], [], [])
theorem gd_yX10_addRow_X : ck_dec prog_1_method_70_code gt_yX10_addRow_X ge_yX10_addRow_X.2.2.2.2.1 = true := by decide +kernel
theorem gh_yX10_addRow_X {l : Launch} {G : am_G} {X : ck_XT} (g : gM l G X) {a : List Value} {h : List am_C} {mc ms : Nat} {Post : am_O → List am_C → Prop} (hay : (am_lay a).length ≤ 3) (H : ∀ (S : ck_SS) (SX : Nat → ck_SX), ck_hs G S SX Post mc ms (ck_cms [am_cm l G yX5_keep (.code yX5_keep prog_7_method_2_code 2 none) 4 102, am_cm l G yX9_addRow (.code yX9_addRow prog_11_method_3_code 3 none) 2 42]) ge_yX10_addRow_X → (∀ pc, ck_sR G S pc) → ck_hw S → zw_hx SX Post mc ms → S 0 (am_ent a 3) [] h 0 0) : am_M l G yX10_addRow (.code yX10_addRow prog_1_method_70_code 3 (some .int)) 5 123 mc ms a h Post :=
  zw_handX (E := ge_yX10_addRow_X) (tb := gt_yX10_addRow_X) (init := false) (cm := (ck_cms [am_cm l G yX5_keep (.code yX5_keep prog_7_method_2_code 2 none) 4 102, am_cm l G yX9_addRow (.code yX9_addRow prog_11_method_3_code 3 none) 2 42])) g.1.1 (by decide +kernel) rfl gd_yX10_addRow_X ⟨(List.forall_mem_nil _), (List.forall_mem_nil _), (List.forall_mem_nil _), (List.forall_mem_cons.mpr ⟨⟨⟨_, _, _, rfl, Or.inl w353⟩, by decide, _, _, g_fd15_0⟩, (List.forall_mem_cons.mpr ⟨⟨⟨_, _, _, rfl, Or.inl w354⟩, by decide, _, _, g_fd15_1⟩, (List.forall_mem_cons.mpr ⟨⟨⟨_, _, _, rfl, Or.inr (Or.inl ⟨_, w166⟩)⟩, by decide, _, _, g_fd14_2⟩, (List.forall_mem_nil _)⟩)⟩)⟩), (List.forall_mem_nil _), (List.forall_mem_nil _), (List.forall_mem_nil _), (List.forall_mem_nil _)⟩ (List.forall_mem_nil _) (fun h => nomatch h) ⟨_, rfl, rfl⟩ (by decide) (by decide) g_oi g_ar
    (fun s hk _ => (List.forall_mem_nil _)) (fun s hk => (List.forall_mem_nil _))
    (List.forall_mem_cons.mpr ⟨(ck_kV g_y_yX5_keep w1222 w1223 w1224 (T := TX5) (N := 3) rfl (by decide) (by decide) (by decide)), (List.forall_mem_cons.mpr ⟨(ck_kV g_y_yX9_addRow w1353 w1354 w1355 (T := TX9) (N := 7) rfl (by decide) (by decide) (by decide)), (List.forall_mem_nil _)⟩)⟩) (List.forall_mem_nil _) (List.forall_mem_nil _) (List.forall_mem_nil _)
    (List.forall_mem_nil _) hay H
def gt_yX10_needCongruence_X : ck_TB := ([], [], [], [], [], [], [], [], ([], [], [], []), [(14, 0), (37, 0)], [], [], 9)
def ge_yX10_needCongruence_X : ck_E := (gT, [], (([], [], [], 0, []), ((0, []), (0, [])), [], [], ([], [], [], 0, []), ["java/lang/IllegalArgumentException"]), 2, [(0, (0, 3, 0, 0, 1, 0, [])), (1, (0, 0, 0, (-9999), 4, 0, [])), (4, (2, 2, 0, 0, 7, 14, [])), (7, (0, 3, 0, 0, 8, 0, [])), (8, (0, 0, 0, 9999, 11, 0, [])), (11, (2, 5, 0, 0, 14, 25, [])), (14, (17, 0, 0, 0, 0, 0, [])), (25, (0, 3, 1, 0, 26, 0, [])), (26, (0, 0, 0, 1, 27, 0, [])), (27, (2, 2, 0, 0, 30, 37, [])), (30, (0, 3, 1, 0, 31, 0, [])), (31, (0, 0, 0, 999, 34, 0, [])), (34, (2, 5, 0, 0, 37, 48, [])), (37, (17, 0, 0, 0, 0, 0, [])), (48, (15, 0, 0, 0, 0, 0, []))], [], [], [], [])
theorem gd_yX10_needCongruence_X : ck_dec prog_1_method_65_code gt_yX10_needCongruence_X ge_yX10_needCongruence_X.2.2.2.2.1 = true := by decide +kernel
theorem gh_yX10_needCongruence_X {l : Launch} {G : am_G} {X : ck_XT} (g : gM l G X) {a : List Value} {h : List am_C} {mc ms : Nat} {Post : am_O → List am_C → Prop} (hay : (am_lay a).length ≤ 2) (H : ∀ (S : ck_SS) (SX : Nat → ck_SX), ck_hs G S SX Post mc ms (ck_cms []) ge_yX10_needCongruence_X → (∀ pc, ck_sR G S pc) → ck_hw S → zw_hx SX Post mc ms → S 0 (am_ent a 2) [] h 0 0) : am_M l G yX10_needCongruence (.code yX10_needCongruence prog_1_method_65_code 2 none) 6 90 mc ms a h Post :=
  zw_handX (E := ge_yX10_needCongruence_X) (tb := gt_yX10_needCongruence_X) (init := false) (cm := (ck_cms [])) g.1.1 (by decide +kernel) rfl gd_yX10_needCongruence_X ⟨(List.forall_mem_nil _), (List.forall_mem_nil _), (List.forall_mem_nil _), (List.forall_mem_nil _), (List.forall_mem_nil _), (List.forall_mem_nil _), (List.forall_mem_nil _), (List.forall_mem_nil _)⟩ (List.forall_mem_nil _) (fun h => nomatch h) rfl (by decide) (by decide) g_oi g_ar
    (fun s hk _ => (List.forall_mem_nil _)) (fun s hk => (List.forall_mem_nil _))
    (List.forall_mem_nil _) (List.forall_mem_nil _) (List.forall_mem_nil _) (List.forall_mem_nil _)
    (List.forall_mem_cons.mpr ⟨(fun Ex hE => by
      have hE : (some "java/lang/IllegalArgumentException" : Option String) = some Ex := hE
      cases hE
      exact ck_zW (names := g_sup) (ik := 75) (is := 418) (ic := 79) (by decide +kernel) g_sup_fit w1104 w104 (List.mem_of_getElem? (i := 7) rfl) g_at_1 g_ot_1 (by decide +kernel) (by decide +kernel) (by decide +kernel) (by decide +kernel) (by decide +kernel) (by decide) (by decide)), (List.forall_mem_cons.mpr ⟨(fun Ex hE => by
      have hE : (some "java/lang/IllegalArgumentException" : Option String) = some Ex := hE
      cases hE
      exact ck_zW (names := g_sup) (ik := 75) (is := 420) (ic := 79) (by decide +kernel) g_sup_fit w1104 w104 (List.mem_of_getElem? (i := 8) rfl) g_at_1 g_ot_1 (by decide +kernel) (by decide +kernel) (by decide +kernel) (by decide +kernel) (by decide +kernel) (by decide) (by decide)), (List.forall_mem_nil _)⟩)⟩) hay H
def gt_yX10_needFreeRow_X : ck_TB := ([], [], [], [(10, 15, 0), (159, 14, 2)], [], [], [], [], ([], [], [], []), [(12, 0)], [], [], 9)
def ge_yX10_needFreeRow_X : ck_E := (gT, [], (([], [], [], 0, []), ((0, []), (0, [])), [], [], ([], [], [], 0, []), ["java/lang/IllegalStateException"]), 1, [(0, (0, 5, 0, 0, 1, 0, [])), (1, (7, 15, 0, 0, 4, 0, [])), (4, (7, 14, 2, 0, 7, 0, [])), (7, (0, 0, 0, 6, 9, 0, [])), (9, (2, 2, 0, 0, 12, 23, [])), (12, (17, 0, 0, 0, 0, 0, [])), (23, (15, 0, 0, 0, 0, 0, []))], [], [], [], [])
theorem gd_yX10_needFreeRow_X : ck_dec prog_1_method_66_code gt_yX10_needFreeRow_X ge_yX10_needFreeRow_X.2.2.2.2.1 = true := by decide +kernel
theorem gh_yX10_needFreeRow_X {l : Launch} {G : am_G} {X : ck_XT} (g : gM l G X) {a : List Value} {h : List am_C} {mc ms : Nat} {Post : am_O → List am_C → Prop} (hay : (am_lay a).length ≤ 1) (H : ∀ (S : ck_SS) (SX : Nat → ck_SX), ck_hs G S SX Post mc ms (ck_cms []) ge_yX10_needFreeRow_X → (∀ pc, ck_sR G S pc) → ck_hw S → zw_hx SX Post mc ms → S 0 (am_ent a 1) [] h 0 0) : am_M l G yX10_needFreeRow (.code yX10_needFreeRow prog_1_method_66_code 1 none) 6 90 mc ms a h Post :=
  zw_handX (E := ge_yX10_needFreeRow_X) (tb := gt_yX10_needFreeRow_X) (init := false) (cm := (ck_cms [])) g.1.1 (by decide +kernel) rfl gd_yX10_needFreeRow_X ⟨(List.forall_mem_nil _), (List.forall_mem_nil _), (List.forall_mem_nil _), (List.forall_mem_cons.mpr ⟨⟨⟨_, _, _, rfl, Or.inl w353⟩, by decide, _, _, g_fd15_0⟩, (List.forall_mem_cons.mpr ⟨⟨⟨_, _, _, rfl, Or.inr (Or.inl ⟨_, w166⟩)⟩, by decide, _, _, g_fd14_2⟩, (List.forall_mem_nil _)⟩)⟩), (List.forall_mem_nil _), (List.forall_mem_nil _), (List.forall_mem_nil _), (List.forall_mem_nil _)⟩ (List.forall_mem_nil _) (fun h => nomatch h) rfl (by decide) (by decide) g_oi g_ar
    (fun s hk _ => (List.forall_mem_nil _)) (fun s hk => (List.forall_mem_nil _))
    (List.forall_mem_nil _) (List.forall_mem_nil _) (List.forall_mem_nil _) (List.forall_mem_nil _)
    (List.forall_mem_cons.mpr ⟨(fun Ex hE => by
      have hE : (some "java/lang/IllegalStateException" : Option String) = some Ex := hE
      cases hE
      exact ck_zW (names := g_sup) (ik := 168) (is := 422) (ic := 172) (by decide +kernel) g_sup_fit w1255 w116 (List.mem_of_getElem? (i := 9) rfl) g_at_2 g_ot_2 (by decide +kernel) (by decide +kernel) (by decide +kernel) (by decide +kernel) (by decide +kernel) (by decide) (by decide)), (List.forall_mem_nil _)⟩) hay H
def gt_yX10_needRow_X : ck_TB := ([], [], [], [(10, 15, 0), (159, 14, 2)], [], [], [], [], ([], [], [], []), [(15, 0)], [], [], 9)
def ge_yX10_needRow_X : ck_E := (gT, [], (([], [], [], 0, []), ((0, []), (0, [])), [], [], ([], [], [], 0, []), ["java/lang/IndexOutOfBoundsException"]), 2, [(0, (0, 3, 1, 0, 1, 0, [])), (1, (1, 2, 0, 0, 4, 15, [])), (4, (0, 3, 1, 0, 5, 0, [])), (5, (0, 5, 0, 0, 6, 0, [])), (6, (7, 15, 0, 0, 9, 0, [])), (9, (7, 14, 2, 0, 12, 0, [])), (12, (2, 2, 0, 0, 15, 26, [])), (15, (17, 0, 0, 0, 0, 0, [])), (26, (15, 0, 0, 0, 0, 0, []))], [], [], [], [])
theorem gd_yX10_needRow_X : ck_dec prog_1_method_67_code gt_yX10_needRow_X ge_yX10_needRow_X.2.2.2.2.1 = true := by decide +kernel
theorem gh_yX10_needRow_X {l : Launch} {G : am_G} {X : ck_XT} (g : gM l G X) {a : List Value} {h : List am_C} {mc ms : Nat} {Post : am_O → List am_C → Prop} (hay : (am_lay a).length ≤ 2) (H : ∀ (S : ck_SS) (SX : Nat → ck_SX), ck_hs G S SX Post mc ms (ck_cms []) ge_yX10_needRow_X → (∀ pc, ck_sR G S pc) → ck_hw S → zw_hx SX Post mc ms → S 0 (am_ent a 2) [] h 0 0) : am_M l G yX10_needRow (.code yX10_needRow prog_1_method_67_code 2 none) 6 90 mc ms a h Post :=
  zw_handX (E := ge_yX10_needRow_X) (tb := gt_yX10_needRow_X) (init := false) (cm := (ck_cms [])) g.1.1 (by decide +kernel) rfl gd_yX10_needRow_X ⟨(List.forall_mem_nil _), (List.forall_mem_nil _), (List.forall_mem_nil _), (List.forall_mem_cons.mpr ⟨⟨⟨_, _, _, rfl, Or.inl w353⟩, by decide, _, _, g_fd15_0⟩, (List.forall_mem_cons.mpr ⟨⟨⟨_, _, _, rfl, Or.inr (Or.inl ⟨_, w166⟩)⟩, by decide, _, _, g_fd14_2⟩, (List.forall_mem_nil _)⟩)⟩), (List.forall_mem_nil _), (List.forall_mem_nil _), (List.forall_mem_nil _), (List.forall_mem_nil _)⟩ (List.forall_mem_nil _) (fun h => nomatch h) rfl (by decide) (by decide) g_oi g_ar
    (fun s hk _ => (List.forall_mem_nil _)) (fun s hk => (List.forall_mem_nil _))
    (List.forall_mem_nil _) (List.forall_mem_nil _) (List.forall_mem_nil _) (List.forall_mem_nil _)
    (List.forall_mem_cons.mpr ⟨(fun Ex hE => by
      have hE : (some "java/lang/IndexOutOfBoundsException" : Option String) = some Ex := hE
      cases hE
      exact ck_zW (names := g_sup) (ik := 407) (is := 424) (ic := 411) (by decide +kernel) g_sup_fit w1044 w115 (List.mem_of_getElem? (i := 10) rfl) g_at_0 g_ot_0 (by decide +kernel) (by decide +kernel) (by decide +kernel) (by decide +kernel) (by decide +kernel) (by decide) (by decide)), (List.forall_mem_nil _)⟩) hay H
def gt_yX10_mod_X : ck_TB := ([], [], [], [(10, 15, 0), (71, 14, 0)], [], [], [], [], ([(86, 0), (125, 2), (220, 1)], [], [], []), [], [], [], 0)
def ge_yX10_mod_X : ck_E := (gT, [], (([], [], [], 0, []), ((0, []), (0, [])), [], [], ([], [], [], 0, []), []), 3, [(0, (0, 5, 0, 0, 1, 0, [])), (1, (0, 3, 1, 0, 2, 0, [])), (2, (16, 0, 0, 0, 5, 0, [])), (5, (0, 8, 2, 0, 6, 0, [])), (6, (0, 5, 0, 0, 7, 0, [])), (7, (16, 1, 0, 0, 10, 0, [])), (10, (1, 0, 0, 0, 13, 18, [])), (13, (0, 0, 0, (-9), 15, 0, [])), (15, (3, 0, 0, 0, 0, 29, [])), (18, (0, 5, 2, 0, 19, 0, [])), (19, (0, 5, 0, 0, 20, 0, [])), (20, (7, 15, 0, 0, 23, 0, [])), (23, (7, 14, 0, 0, 26, 0, [])), (26, (16, 2, 0, 0, 29, 0, [])), (29, (14, 0, 0, 0, 0, 0, []))], [(some 15, 2, []), (some 15, 1, []), (some 7, 2, [])], [], [], [])
theorem gd_yX10_mod_X : ck_dec prog_1_method_27_code gt_yX10_mod_X ge_yX10_mod_X.2.2.2.2.1 = true := by decide +kernel
theorem gh_yX10_mod_X {l : Launch} {G : am_G} {X : ck_XT} (g : gM l G X) {a : List Value} {h : List am_C} {mc ms : Nat} {Post : am_O → List am_C → Prop} (hay : (am_lay a).length ≤ 3) (H : ∀ (S : ck_SS) (SX : Nat → ck_SX), ck_hs G S SX Post mc ms (ck_cms [am_cm l G yX10_numberAt (.code yX10_numberAt prog_1_method_62_code 2 (some (.object "Clockhouse$Big"))) 6 90, am_cm l G yX10_isJammed (.code yX10_isJammed prog_1_method_63_code 1 (some .boolean)) 1 20, am_cm l G yX0_restBy (.code yX0_restBy prog_2_method_15_code 5 (some .int)) 2 41]) ge_yX10_mod_X → (∀ pc, ck_sR G S pc) → ck_hw S → zw_hx SX Post mc ms → S 0 (am_ent a 3) [] h 0 0) : am_M l G yX10_mod (.code yX10_mod prog_1_method_27_code 3 (some .int)) 7 111 mc ms a h Post :=
  zw_handX (E := ge_yX10_mod_X) (tb := gt_yX10_mod_X) (init := false) (cm := (ck_cms [am_cm l G yX10_numberAt (.code yX10_numberAt prog_1_method_62_code 2 (some (.object "Clockhouse$Big"))) 6 90, am_cm l G yX10_isJammed (.code yX10_isJammed prog_1_method_63_code 1 (some .boolean)) 1 20, am_cm l G yX0_restBy (.code yX0_restBy prog_2_method_15_code 5 (some .int)) 2 41])) g.1.1 (by decide +kernel) rfl gd_yX10_mod_X ⟨(List.forall_mem_nil _), (List.forall_mem_nil _), (List.forall_mem_nil _), (List.forall_mem_cons.mpr ⟨⟨⟨_, _, _, rfl, Or.inl w353⟩, by decide, _, _, g_fd15_0⟩, (List.forall_mem_cons.mpr ⟨⟨⟨_, _, _, rfl, Or.inr (Or.inl ⟨_, w161⟩)⟩, by decide, _, _, g_fd14_0⟩, (List.forall_mem_nil _)⟩)⟩), (List.forall_mem_nil _), (List.forall_mem_nil _), (List.forall_mem_nil _), (List.forall_mem_nil _)⟩ (List.forall_mem_nil _) (fun h => nomatch h) ⟨_, rfl, rfl⟩ (by decide) (by decide) g_oi g_ar
    (fun s hk _ => (List.forall_mem_nil _)) (fun s hk => (List.forall_mem_nil _))
    (List.forall_mem_cons.mpr ⟨(ck_kV g_y_yX10_numberAt w1040 w1042 w17 (T := TX10) (N := 13) rfl (by decide) (by decide) (by decide)), (List.forall_mem_cons.mpr ⟨(ck_kV g_y_yX0_restBy w892 w893 w894 (T := TX0) (N := 3) rfl (by decide) (by decide) (by decide)), (List.forall_mem_cons.mpr ⟨(ck_kV g_y_yX10_isJammed w405 w407 w0 (T := TX10) (N := 13) rfl (by decide) (by decide) (by decide)), (List.forall_mem_nil _)⟩)⟩)⟩) (List.forall_mem_nil _) (List.forall_mem_nil _) (List.forall_mem_nil _)
    (List.forall_mem_nil _) hay H
def gt_yX10_power_X : ck_TB := ([], [], [], [(10, 15, 0), (71, 14, 0)], [], [], [], [], ([(86, 0), (125, 2), (220, 1)], [], [(229, 3)], []), [], [], [], 0)
def ge_yX10_power_X : ck_E := (gT, [], (([], [], [], 0, []), ((0, []), (0, [])), [], [], ([], [], [], 0, []), []), 5, [(0, (0, 5, 0, 0, 1, 0, [])), (1, (0, 3, 1, 0, 2, 0, [])), (2, (16, 0, 0, 0, 5, 0, [])), (5, (0, 8, 3, 0, 6, 0, [])), (6, (0, 5, 0, 0, 7, 0, [])), (7, (0, 3, 2, 0, 8, 0, [])), (8, (16, 0, 0, 0, 11, 0, [])), (11, (0, 8, 4, 0, 13, 0, [])), (13, (0, 5, 0, 0, 14, 0, [])), (14, (16, 1, 0, 0, 17, 0, [])), (17, (1, 0, 0, 0, 20, 25, [])), (20, (0, 0, 0, (-9), 22, 0, [])), (22, (3, 0, 0, 0, 0, 48, [])), (25, (0, 5, 3, 0, 26, 0, [])), (26, (0, 5, 0, 0, 27, 0, [])), (27, (7, 15, 0, 0, 30, 0, [])), (30, (7, 14, 0, 0, 33, 0, [])), (33, (16, 2, 0, 0, 36, 0, [])), (36, (0, 5, 4, 0, 38, 0, [])), (38, (0, 5, 0, 0, 39, 0, [])), (39, (7, 15, 0, 0, 42, 0, [])), (42, (7, 14, 0, 0, 45, 0, [])), (45, (16, 3, 0, 0, 48, 0, [])), (48, (14, 0, 0, 0, 0, 0, []))], [(some 15, 2, []), (some 15, 1, []), (some 7, 2, []), (none, 3, [])], [], [], [])
theorem gd_yX10_power_X : ck_dec prog_1_method_29_code gt_yX10_power_X ge_yX10_power_X.2.2.2.2.1 = true := by decide +kernel
theorem gh_yX10_power_X {l : Launch} {G : am_G} {X : ck_XT} (g : gM l G X) {a : List Value} {h : List am_C} {mc ms : Nat} {Post : am_O → List am_C → Prop} (hay : (am_lay a).length ≤ 5) (H : ∀ (S : ck_SS) (SX : Nat → ck_SX), ck_hs G S SX Post mc ms (ck_cms [am_cm l G yX10_numberAt (.code yX10_numberAt prog_1_method_62_code 2 (some (.object "Clockhouse$Big"))) 6 90, am_cm l G yX10_isJammed (.code yX10_isJammed prog_1_method_63_code 1 (some .boolean)) 1 20, am_cm l G yX0_restBy (.code yX0_restBy prog_2_method_15_code 5 (some .int)) 2 41, am_cm l G yX7_raise (.code yX7_raise prog_9_method_5_code 6 (some .int)) 2 49]) ge_yX10_power_X → (∀ pc, ck_sR G S pc) → ck_hw S → zw_hx SX Post mc ms → S 0 (am_ent a 5) [] h 0 0) : am_M l G yX10_power (.code yX10_power prog_1_method_29_code 5 (some .int)) 7 111 mc ms a h Post :=
  zw_handX (E := ge_yX10_power_X) (tb := gt_yX10_power_X) (init := false) (cm := (ck_cms [am_cm l G yX10_numberAt (.code yX10_numberAt prog_1_method_62_code 2 (some (.object "Clockhouse$Big"))) 6 90, am_cm l G yX10_isJammed (.code yX10_isJammed prog_1_method_63_code 1 (some .boolean)) 1 20, am_cm l G yX0_restBy (.code yX0_restBy prog_2_method_15_code 5 (some .int)) 2 41, am_cm l G yX7_raise (.code yX7_raise prog_9_method_5_code 6 (some .int)) 2 49])) g.1.1 (by decide +kernel) rfl gd_yX10_power_X ⟨(List.forall_mem_nil _), (List.forall_mem_nil _), (List.forall_mem_nil _), (List.forall_mem_cons.mpr ⟨⟨⟨_, _, _, rfl, Or.inl w353⟩, by decide, _, _, g_fd15_0⟩, (List.forall_mem_cons.mpr ⟨⟨⟨_, _, _, rfl, Or.inr (Or.inl ⟨_, w161⟩)⟩, by decide, _, _, g_fd14_0⟩, (List.forall_mem_nil _)⟩)⟩), (List.forall_mem_nil _), (List.forall_mem_nil _), (List.forall_mem_nil _), (List.forall_mem_nil _)⟩ (List.forall_mem_nil _) (fun h => nomatch h) ⟨_, rfl, rfl⟩ (by decide) (by decide) g_oi g_ar
    (fun s hk _ => (List.forall_mem_nil _)) (fun s hk => (List.forall_mem_nil _))
    (List.forall_mem_cons.mpr ⟨(ck_kV g_y_yX10_numberAt w1040 w1042 w17 (T := TX10) (N := 13) rfl (by decide) (by decide) (by decide)), (List.forall_mem_cons.mpr ⟨(ck_kV g_y_yX0_restBy w892 w893 w894 (T := TX0) (N := 3) rfl (by decide) (by decide) (by decide)), (List.forall_mem_cons.mpr ⟨(ck_kV g_y_yX10_isJammed w405 w407 w0 (T := TX10) (N := 13) rfl (by decide) (by decide) (by decide)), (List.forall_mem_nil _)⟩)⟩)⟩) (List.forall_mem_nil _) (List.forall_mem_cons.mpr ⟨(ck_kS g_y_yX7_raise w1079 w1080 (by decide) (by decide)), (List.forall_mem_nil _)⟩) (List.forall_mem_nil _)
    (List.forall_mem_nil _) hay H
def gt_yX10_inverse_X : ck_TB := ([], [], [], [(10, 15, 0), (71, 14, 0)], [], [], [], [], ([(86, 0), (125, 2), (220, 1)], [], [(233, 3)], []), [], [], [], 0)
def ge_yX10_inverse_X : ck_E := (gT, [], (([], [], [], 0, []), ((0, []), (0, [])), [], [], ([], [], [], 0, []), []), 3, [(0, (0, 5, 0, 0, 1, 0, [])), (1, (0, 3, 1, 0, 2, 0, [])), (2, (16, 0, 0, 0, 5, 0, [])), (5, (0, 8, 2, 0, 6, 0, [])), (6, (0, 5, 0, 0, 7, 0, [])), (7, (16, 1, 0, 0, 10, 0, [])), (10, (1, 0, 0, 0, 13, 18, [])), (13, (0, 0, 0, (-9), 15, 0, [])), (15, (3, 0, 0, 0, 0, 39, [])), (18, (0, 5, 2, 0, 19, 0, [])), (19, (0, 5, 0, 0, 20, 0, [])), (20, (7, 15, 0, 0, 23, 0, [])), (23, (7, 14, 0, 0, 26, 0, [])), (26, (16, 2, 0, 0, 29, 0, [])), (29, (0, 5, 0, 0, 30, 0, [])), (30, (7, 15, 0, 0, 33, 0, [])), (33, (7, 14, 0, 0, 36, 0, [])), (36, (16, 3, 0, 0, 39, 0, [])), (39, (14, 0, 0, 0, 0, 0, []))], [(some 15, 2, []), (some 15, 1, []), (some 7, 2, []), (none, 2, [])], [], [], [])
theorem gd_yX10_inverse_X : ck_dec prog_1_method_30_code gt_yX10_inverse_X ge_yX10_inverse_X.2.2.2.2.1 = true := by decide +kernel
theorem gh_yX10_inverse_X {l : Launch} {G : am_G} {X : ck_XT} (g : gM l G X) {a : List Value} {h : List am_C} {mc ms : Nat} {Post : am_O → List am_C → Prop} (hay : (am_lay a).length ≤ 3) (H : ∀ (S : ck_SS) (SX : Nat → ck_SX), ck_hs G S SX Post mc ms (ck_cms [am_cm l G yX10_numberAt (.code yX10_numberAt prog_1_method_62_code 2 (some (.object "Clockhouse$Big"))) 6 90, am_cm l G yX10_isJammed (.code yX10_isJammed prog_1_method_63_code 1 (some .boolean)) 1 20, am_cm l G yX0_restBy (.code yX0_restBy prog_2_method_15_code 5 (some .int)) 2 41, am_cm l G yX7_invert (.code yX7_invert prog_9_method_3_code 10 (some .int)) 1 20]) ge_yX10_inverse_X → (∀ pc, ck_sR G S pc) → ck_hw S → zw_hx SX Post mc ms → S 0 (am_ent a 3) [] h 0 0) : am_M l G yX10_inverse (.code yX10_inverse prog_1_method_30_code 3 (some .int)) 7 111 mc ms a h Post :=
  zw_handX (E := ge_yX10_inverse_X) (tb := gt_yX10_inverse_X) (init := false) (cm := (ck_cms [am_cm l G yX10_numberAt (.code yX10_numberAt prog_1_method_62_code 2 (some (.object "Clockhouse$Big"))) 6 90, am_cm l G yX10_isJammed (.code yX10_isJammed prog_1_method_63_code 1 (some .boolean)) 1 20, am_cm l G yX0_restBy (.code yX0_restBy prog_2_method_15_code 5 (some .int)) 2 41, am_cm l G yX7_invert (.code yX7_invert prog_9_method_3_code 10 (some .int)) 1 20])) g.1.1 (by decide +kernel) rfl gd_yX10_inverse_X ⟨(List.forall_mem_nil _), (List.forall_mem_nil _), (List.forall_mem_nil _), (List.forall_mem_cons.mpr ⟨⟨⟨_, _, _, rfl, Or.inl w353⟩, by decide, _, _, g_fd15_0⟩, (List.forall_mem_cons.mpr ⟨⟨⟨_, _, _, rfl, Or.inr (Or.inl ⟨_, w161⟩)⟩, by decide, _, _, g_fd14_0⟩, (List.forall_mem_nil _)⟩)⟩), (List.forall_mem_nil _), (List.forall_mem_nil _), (List.forall_mem_nil _), (List.forall_mem_nil _)⟩ (List.forall_mem_nil _) (fun h => nomatch h) ⟨_, rfl, rfl⟩ (by decide) (by decide) g_oi g_ar
    (fun s hk _ => (List.forall_mem_nil _)) (fun s hk => (List.forall_mem_nil _))
    (List.forall_mem_cons.mpr ⟨(ck_kV g_y_yX10_numberAt w1040 w1042 w17 (T := TX10) (N := 13) rfl (by decide) (by decide) (by decide)), (List.forall_mem_cons.mpr ⟨(ck_kV g_y_yX0_restBy w892 w893 w894 (T := TX0) (N := 3) rfl (by decide) (by decide) (by decide)), (List.forall_mem_cons.mpr ⟨(ck_kV g_y_yX10_isJammed w405 w407 w0 (T := TX10) (N := 13) rfl (by decide) (by decide) (by decide)), (List.forall_mem_nil _)⟩)⟩)⟩) (List.forall_mem_nil _) (List.forall_mem_cons.mpr ⟨(ck_kS g_y_yX7_invert w1074 w451 (by decide) (by decide)), (List.forall_mem_nil _)⟩) (List.forall_mem_nil _)
    (List.forall_mem_nil _) hay H
end
section
/-! WHAT THE CALLS SHARE -/
set_option maxHeartbeats 4000000 in
theorem zc_numAt_M {l : Launch} {G : am_G} {X : ck_XT} (g : gM l G X) {x : Nat} {r : Nat → Nat} {jj mm kk : Int} {c : sp_S} {R : Nat → sp_S} {old cnt : Nat} {h : List am_C} (hX : zc_x G h x r jj mm kk c R old cnt) {i : Nat} {e : Int} (he : e = (i : Int)) (hi : i < 6) {mc ms : Nat} {Post : am_O → List am_C → Prop}
    (hP : Post (.inl (some (.ref (x + 1 + 5 + 2 * i)))) h) :
    am_M l G yX10_numberAt (.code yX10_numberAt prog_1_method_62_code 2 (some (.object "Clockhouse$Big"))) 6 90 mc ms [.ref x, .int (Int32.ofInt e)] h Post := by
  refine gh_yX10_numberAt_X g (Nat.le_of_ble_eq_true rfl) fun S SX hs hr hw hx => ?_
  have rv : ∀ x : Int32, ck_fv 0 (.int x) := fun x => ⟨_, rfl⟩
  refine hs 0 _ rfl _ _ _ _ _ _ _ rfl ?_
  refine hs 1 _ rfl _ _ _ _ _ _ (fun zq => absurd (hd_c1z (c := 2) (by omega) (by omega) zq) (by omega : ¬ (e < 0))) (fun _ => ?_)
  refine hs 2 _ rfl _ _ _ _ _ _ _ rfl ?_
  refine hs 3 _ rfl _ _ _ _ _ _ _ rfl ?_
  refine hs 4 _ rfl _ _ _ _ _ _ _ (fun _ => ?_) (fun zq => absurd (hd_c2t (c := 2) (by omega) (by omega) (by omega) (by omega) (by omega : (e - (6 : Int)) < 0)) zq)
  refine hs 6 _ rfl _ _ _ _ _ _ _ rfl ?_
  refine hs 7 _ rfl _ _ _ _ _ _ _ _ _ (hX.1) rfl rfl ?_
  refine hs 8 _ rfl _ _ _ _ _ _ _ _ _ (hX.2.1.d) rfl rfl ?_
  refine hs 9 _ rfl _ _ _ _ _ _ _ rfl ?_
  refine zw_Ar (hs 10 _ rfl) (hX.2.1.nr) rfl (j := i) (by omega) (by omega) (zc_rl_get (by omega)) ?_
  exact hs 11 _ rfl _ _ _ _ _ (Or.inl ⟨_, rfl⟩) (Nat.zero_le _) (Nat.zero_le _) hP
set_option maxHeartbeats 4000000 in
theorem zc_numAtX_M {l : Launch} {G : am_G} {X : ck_XT} (g : gM l G X) {x : Nat} {r : Nat → Nat} {jj mm kk : Int} {c : sp_S} {R : Nat → sp_S} {old cnt : Nat} {h : List am_C} (hX : zc_x G h x r jj mm kk c R old cnt) {e : Int} (he1 : -2147483648 ≤ e) (he2 : e ≤ 2147483647) (hi : e < 0 ∨ 6 ≤ e) {mc ms : Nat} {Post : am_O → List am_C → Prop} (hmc : 1 ≤ mc) (hms : 6 ≤ ms)
    (hP : Post (.inr "java/lang/IndexOutOfBoundsException") (h ++ [(99, [])])) :
    am_M l G yX10_numberAt (.code yX10_numberAt prog_1_method_62_code 2 (some (.object "Clockhouse$Big"))) 6 90 mc ms [.ref x, .int (Int32.ofInt e)] h Post := by
  refine gh_yX10_numberAt_X g (Nat.le_of_ble_eq_true rfl) fun S SX hs hr hw hx => ?_
  have rv : ∀ x : Int32, ck_fv 0 (.int x) := fun x => ⟨_, rfl⟩
  by_cases h0_ : e < 0
  · 
    refine hs 0 _ rfl _ _ _ _ _ _ _ rfl ?_
    refine hs 1 _ rfl _ _ _ _ _ _ (fun _ => ?_) (fun zq => absurd (hd_c1t (c := 2) (by omega) (by omega) (by omega : e < 0)) zq)
    exact hs 5 _ rfl _ _ _ _ _ rfl (Nat.le_of_ble_eq_true rfl) (by omega) (by omega) hP
  · 
    refine hs 0 _ rfl _ _ _ _ _ _ _ rfl ?_
    refine hs 1 _ rfl _ _ _ _ _ _ (fun zq => absurd (hd_c1z (c := 2) (by omega) (by omega) zq) (by omega : ¬ (e < 0))) (fun _ => ?_)
    refine hs 2 _ rfl _ _ _ _ _ _ _ rfl ?_
    refine hs 3 _ rfl _ _ _ _ _ _ _ rfl ?_
    refine hs 4 _ rfl _ _ _ _ _ _ _ (fun zq => absurd (hd_c2z (c := 2) (by omega) (by omega) (by omega) (by omega) zq) (by omega : ¬ ((e - (6 : Int)) < 0))) (fun _ => ?_)
    exact hs 5 _ rfl _ _ _ _ _ rfl (Nat.le_of_ble_eq_true rfl) (by omega) (by omega) hP
set_option maxHeartbeats 4000000 in
theorem zc_jam_M {l : Launch} {G : am_G} {X : ck_XT} (g : gM l G X) {x : Nat} {r : Nat → Nat} {jj mm kk : Int} {c : sp_S} {R : Nat → sp_S} {old cnt : Nat} {h : List am_C} (hX : zc_x G h x r jj mm kk c R old cnt) {mc ms : Nat} {Post : am_O → List am_C → Prop}
    (hP1 : c.1 ≤ 0 → Post (.inl (some (.int (Int32.ofInt 1)))) h) (hP0 : 0 < c.1 → Post (.inl (some (.int (Int32.ofInt 0)))) h) :
    am_M l G yX10_isJammed (.code yX10_isJammed prog_1_method_63_code 1 (some .boolean)) 1 20 mc ms [.ref x] h Post := by
  refine gh_yX10_isJammed_X g (Nat.le_of_ble_eq_true rfl) fun S SX hs hr hw hx => ?_
  have rv : ∀ x : Int32, ck_fv 0 (.int x) := fun x => ⟨_, rfl⟩
  have hb_ := hX.2.2.1.1
  by_cases h0_ : c.1 ≤ 0
  · 
    refine hs 0 _ rfl _ _ _ _ _ _ _ rfl ?_
    refine hs 1 _ rfl _ _ _ _ _ _ _ _ _ (hX.1) rfl rfl ?_
    refine hs 2 _ rfl _ _ _ _ _ _ _ _ _ (hX.2.1.d) rfl rfl ?_
    refine hs 3 _ rfl _ _ _ _ _ _ (fun zq => absurd (hd_c1z (c := 4) (by omega) (by omega) zq) (by omega : ¬ (0 < c.1))) (fun _ => ?_)
    refine hs 4 _ rfl _ _ _ _ _ _ _ rfl ?_
    refine hs 5 _ rfl _ _ _ _ _ ?_
    exact hs 7 _ rfl _ _ _ _ _ ⟨_, rfl, by decide, by decide⟩ (Nat.zero_le _) (Nat.zero_le _) (hP1 h0_)
  · 
    refine hs 0 _ rfl _ _ _ _ _ _ _ rfl ?_
    refine hs 1 _ rfl _ _ _ _ _ _ _ _ _ (hX.1) rfl rfl ?_
    refine hs 2 _ rfl _ _ _ _ _ _ _ _ _ (hX.2.1.d) rfl rfl ?_
    refine hs 3 _ rfl _ _ _ _ _ _ (fun _ => ?_) (fun zq => absurd (hd_c1t (c := 4) (by omega) (by omega) (by omega : 0 < c.1)) zq)
    refine hs 6 _ rfl _ _ _ _ _ _ _ rfl ?_
    exact hs 7 _ rfl _ _ _ _ _ ⟨_, rfl, by decide, by decide⟩ (Nat.zero_le _) (Nat.zero_le _) (hP0 (by omega))
set_option maxHeartbeats 4000000 in
theorem zc_needC_M {l : Launch} {G : am_G} {X : ck_XT} (g : gM l G X)  {a b : Int} {h : List am_C} (ha1 : -2147483648 ≤ a) (ha2 : a ≤ 2147483647) (hb1 : -2147483648 ≤ b) (hb2 : b ≤ 2147483647) (hc : -9999 ≤ a ∧ a ≤ 9999 ∧ 1 ≤ b ∧ b ≤ 999) {mc ms : Nat} {Post : am_O → List am_C → Prop} (hP : Post (.inl none) h) :
    am_M l G yX10_needCongruence (.code yX10_needCongruence prog_1_method_65_code 2 none) 6 90 mc ms [.int (Int32.ofInt a), .int (Int32.ofInt b)] h Post := by
  refine gh_yX10_needCongruence_X g (Nat.le_of_ble_eq_true rfl) fun S SX hs hr hw hx => ?_
  have rv : ∀ x : Int32, ck_fv 0 (.int x) := fun x => ⟨_, rfl⟩
  refine hs 0 _ rfl _ _ _ _ _ _ _ rfl ?_
  refine hs 1 _ rfl _ _ _ _ _ _ _ rfl ?_
  refine hs 2 _ rfl _ _ _ _ _ _ _ (fun zq => absurd (hd_c2z (c := 2) (by omega) (by omega) (by omega) (by omega) zq) (by omega : ¬ ((a - (-9999 : Int)) < 0))) (fun _ => ?_)
  refine hs 3 _ rfl _ _ _ _ _ _ _ rfl ?_
  refine hs 4 _ rfl _ _ _ _ _ _ _ rfl ?_
  refine hs 5 _ rfl _ _ _ _ _ _ _ (fun _ => ?_) (fun zq => absurd (hd_c2t (c := 5) (by omega) (by omega) (by omega) (by omega) (by omega : (a - (9999 : Int)) ≤ 0)) zq)
  refine hs 7 _ rfl _ _ _ _ _ _ _ rfl ?_
  refine hs 8 _ rfl _ _ _ _ _ _ _ rfl ?_
  refine hs 9 _ rfl _ _ _ _ _ _ _ (fun zq => absurd (hd_c2z (c := 2) (by omega) (by omega) (by omega) (by omega) zq) (by omega : ¬ ((b - (1 : Int)) < 0))) (fun _ => ?_)
  refine hs 10 _ rfl _ _ _ _ _ _ _ rfl ?_
  refine hs 11 _ rfl _ _ _ _ _ _ _ rfl ?_
  refine hs 12 _ rfl _ _ _ _ _ _ _ (fun _ => ?_) (fun zq => absurd (hd_c2t (c := 5) (by omega) (by omega) (by omega) (by omega) (by omega : (b - (999 : Int)) ≤ 0)) zq)
  exact hs 14 _ rfl _ _ _ _ (Nat.zero_le _) (Nat.zero_le _) hP
set_option maxHeartbeats 4000000 in
theorem zc_needCX_M {l : Launch} {G : am_G} {X : ck_XT} (g : gM l G X)  {a b : Int} {h : List am_C} (ha1 : -2147483648 ≤ a) (ha2 : a ≤ 2147483647) (hb1 : -2147483648 ≤ b) (hb2 : b ≤ 2147483647) (hc : ¬ (-9999 ≤ a ∧ a ≤ 9999 ∧ 1 ≤ b ∧ b ≤ 999)) {mc ms : Nat} {Post : am_O → List am_C → Prop} (hmc : 1 ≤ mc) (hms : 6 ≤ ms) (hP : Post (.inr "java/lang/IllegalArgumentException") (h ++ [(99, [])])) :
    am_M l G yX10_needCongruence (.code yX10_needCongruence prog_1_method_65_code 2 none) 6 90 mc ms [.int (Int32.ofInt a), .int (Int32.ofInt b)] h Post := by
  refine gh_yX10_needCongruence_X g (Nat.le_of_ble_eq_true rfl) fun S SX hs hr hw hx => ?_
  have rv : ∀ x : Int32, ck_fv 0 (.int x) := fun x => ⟨_, rfl⟩
  by_cases c1_ : a < -9999
  · 
    refine hs 0 _ rfl _ _ _ _ _ _ _ rfl ?_
    refine hs 1 _ rfl _ _ _ _ _ _ _ rfl ?_
    refine hs 2 _ rfl _ _ _ _ _ _ _ (fun _ => ?_) (fun zq => absurd (hd_c2t (c := 2) (by omega) (by omega) (by omega) (by omega) (by omega : (a - (-9999 : Int)) < 0)) zq)
    exact hs 6 _ rfl _ _ _ _ _ rfl (Nat.le_of_ble_eq_true rfl) (by omega) (by omega) hP
  · by_cases c2_ : 9999 < a
    · 
      refine hs 0 _ rfl _ _ _ _ _ _ _ rfl ?_
      refine hs 1 _ rfl _ _ _ _ _ _ _ rfl ?_
      refine hs 2 _ rfl _ _ _ _ _ _ _ (fun zq => absurd (hd_c2z (c := 2) (by omega) (by omega) (by omega) (by omega) zq) (by omega : ¬ ((a - (-9999 : Int)) < 0))) (fun _ => ?_)
      refine hs 3 _ rfl _ _ _ _ _ _ _ rfl ?_
      refine hs 4 _ rfl _ _ _ _ _ _ _ rfl ?_
      refine hs 5 _ rfl _ _ _ _ _ _ _ (fun zq => absurd (hd_c2z (c := 5) (by omega) (by omega) (by omega) (by omega) zq) (by omega : ¬ ((a - (9999 : Int)) ≤ 0))) (fun _ => ?_)
      exact hs 6 _ rfl _ _ _ _ _ rfl (Nat.le_of_ble_eq_true rfl) (by omega) (by omega) hP
    · by_cases c3_ : b < 1
      · 
        refine hs 0 _ rfl _ _ _ _ _ _ _ rfl ?_
        refine hs 1 _ rfl _ _ _ _ _ _ _ rfl ?_
        refine hs 2 _ rfl _ _ _ _ _ _ _ (fun zq => absurd (hd_c2z (c := 2) (by omega) (by omega) (by omega) (by omega) zq) (by omega : ¬ ((a - (-9999 : Int)) < 0))) (fun _ => ?_)
        refine hs 3 _ rfl _ _ _ _ _ _ _ rfl ?_
        refine hs 4 _ rfl _ _ _ _ _ _ _ rfl ?_
        refine hs 5 _ rfl _ _ _ _ _ _ _ (fun _ => ?_) (fun zq => absurd (hd_c2t (c := 5) (by omega) (by omega) (by omega) (by omega) (by omega : (a - (9999 : Int)) ≤ 0)) zq)
        refine hs 7 _ rfl _ _ _ _ _ _ _ rfl ?_
        refine hs 8 _ rfl _ _ _ _ _ _ _ rfl ?_
        refine hs 9 _ rfl _ _ _ _ _ _ _ (fun _ => ?_) (fun zq => absurd (hd_c2t (c := 2) (by omega) (by omega) (by omega) (by omega) (by omega : (b - (1 : Int)) < 0)) zq)
        exact hs 13 _ rfl _ _ _ _ _ rfl (Nat.le_of_ble_eq_true rfl) (by omega) (by omega) hP
      · 
        refine hs 0 _ rfl _ _ _ _ _ _ _ rfl ?_
        refine hs 1 _ rfl _ _ _ _ _ _ _ rfl ?_
        refine hs 2 _ rfl _ _ _ _ _ _ _ (fun zq => absurd (hd_c2z (c := 2) (by omega) (by omega) (by omega) (by omega) zq) (by omega : ¬ ((a - (-9999 : Int)) < 0))) (fun _ => ?_)
        refine hs 3 _ rfl _ _ _ _ _ _ _ rfl ?_
        refine hs 4 _ rfl _ _ _ _ _ _ _ rfl ?_
        refine hs 5 _ rfl _ _ _ _ _ _ _ (fun _ => ?_) (fun zq => absurd (hd_c2t (c := 5) (by omega) (by omega) (by omega) (by omega) (by omega : (a - (9999 : Int)) ≤ 0)) zq)
        refine hs 7 _ rfl _ _ _ _ _ _ _ rfl ?_
        refine hs 8 _ rfl _ _ _ _ _ _ _ rfl ?_
        refine hs 9 _ rfl _ _ _ _ _ _ _ (fun zq => absurd (hd_c2z (c := 2) (by omega) (by omega) (by omega) (by omega) zq) (by omega : ¬ ((b - (1 : Int)) < 0))) (fun _ => ?_)
        refine hs 10 _ rfl _ _ _ _ _ _ _ rfl ?_
        refine hs 11 _ rfl _ _ _ _ _ _ _ rfl ?_
        refine hs 12 _ rfl _ _ _ _ _ _ _ (fun zq => absurd (hd_c2z (c := 5) (by omega) (by omega) (by omega) (by omega) zq) (by omega : ¬ ((b - (999 : Int)) ≤ 0))) (fun _ => ?_)
        exact hs 13 _ rfl _ _ _ _ _ rfl (Nat.le_of_ble_eq_true rfl) (by omega) (by omega) hP
set_option maxHeartbeats 4000000 in
theorem zc_needF_M {l : Launch} {G : am_G} {X : ck_XT} (g : gM l G X) {x : Nat} {r : Nat → Nat} {jj mm kk : Int} {c : sp_S} {R : Nat → sp_S} {old cnt : Nat} {h : List am_C} (hX : zc_x G h x r jj mm kk c R old cnt) (hl : c.2.2.1.length < 6) {mc ms : Nat} {Post : am_O → List am_C → Prop} (hP : Post (.inl none) h) :
    am_M l G yX10_needFreeRow (.code yX10_needFreeRow prog_1_method_66_code 1 none) 6 90 mc ms [.ref x] h Post := by
  refine gh_yX10_needFreeRow_X g (Nat.le_of_ble_eq_true rfl) fun S SX hs hr hw hx => ?_
  have rv : ∀ x : Int32, ck_fv 0 (.int x) := fun x => ⟨_, rfl⟩
  refine hs 0 _ rfl _ _ _ _ _ _ _ rfl ?_
  refine hs 1 _ rfl _ _ _ _ _ _ _ _ _ (hX.1) rfl rfl ?_
  refine hs 2 _ rfl _ _ _ _ _ _ _ _ _ (hX.2.1.d) rfl rfl ?_
  refine hs 3 _ rfl _ _ _ _ _ _ _ rfl ?_
  refine hs 4 _ rfl _ _ _ _ _ _ _ (fun _ => ?_) (fun zq => absurd (hd_c2t (c := 2) (by omega) (by omega) (by omega) (by omega) (by omega : ((c.2.2.1.length : Int) - (6 : Int)) < 0)) zq)
  exact hs 6 _ rfl _ _ _ _ (Nat.zero_le _) (Nat.zero_le _) hP
set_option maxHeartbeats 4000000 in
theorem zc_needFX_M {l : Launch} {G : am_G} {X : ck_XT} (g : gM l G X) {x : Nat} {r : Nat → Nat} {jj mm kk : Int} {c : sp_S} {R : Nat → sp_S} {old cnt : Nat} {h : List am_C} (hX : zc_x G h x r jj mm kk c R old cnt) (hl : c.2.2.1.length = 6) {mc ms : Nat} {Post : am_O → List am_C → Prop} (hmc : 1 ≤ mc) (hms : 6 ≤ ms) (hP : Post (.inr "java/lang/IllegalStateException") (h ++ [(99, [])])) :
    am_M l G yX10_needFreeRow (.code yX10_needFreeRow prog_1_method_66_code 1 none) 6 90 mc ms [.ref x] h Post := by
  refine gh_yX10_needFreeRow_X g (Nat.le_of_ble_eq_true rfl) fun S SX hs hr hw hx => ?_
  have rv : ∀ x : Int32, ck_fv 0 (.int x) := fun x => ⟨_, rfl⟩
  refine hs 0 _ rfl _ _ _ _ _ _ _ rfl ?_
  refine hs 1 _ rfl _ _ _ _ _ _ _ _ _ (hX.1) rfl rfl ?_
  refine hs 2 _ rfl _ _ _ _ _ _ _ _ _ (hX.2.1.d) rfl rfl ?_
  refine hs 3 _ rfl _ _ _ _ _ _ _ rfl ?_
  refine hs 4 _ rfl _ _ _ _ _ _ _ (fun zq => absurd (hd_c2z (c := 2) (by omega) (by omega) (by omega) (by omega) zq) (by omega : ¬ (((c.2.2.1.length : Int) - (6 : Int)) < 0))) (fun _ => ?_)
  exact hs 5 _ rfl _ _ _ _ _ rfl (Nat.le_of_ble_eq_true rfl) (by omega) (by omega) hP
set_option maxHeartbeats 4000000 in
theorem zc_needR_M {l : Launch} {G : am_G} {X : ck_XT} (g : gM l G X) {x : Nat} {r : Nat → Nat} {jj mm kk : Int} {c : sp_S} {R : Nat → sp_S} {old cnt : Nat} {h : List am_C} (hX : zc_x G h x r jj mm kk c R old cnt) {e : Int} (he : 0 ≤ e ∧ e < (c.2.2.1.length : Int)) {mc ms : Nat} {Post : am_O → List am_C → Prop} (hP : Post (.inl none) h) :
    am_M l G yX10_needRow (.code yX10_needRow prog_1_method_67_code 2 none) 6 90 mc ms [.ref x, .int (Int32.ofInt e)] h Post := by
  refine gh_yX10_needRow_X g (Nat.le_of_ble_eq_true rfl) fun S SX hs hr hw hx => ?_
  have rv : ∀ x : Int32, ck_fv 0 (.int x) := fun x => ⟨_, rfl⟩
  have hlb_ := hX.2.2.1.2.2.1.1
  refine hs 0 _ rfl _ _ _ _ _ _ _ rfl ?_
  refine hs 1 _ rfl _ _ _ _ _ _ (fun zq => absurd (hd_c1z (c := 2) (by omega) (by omega) zq) (by omega : ¬ (e < 0))) (fun _ => ?_)
  refine hs 2 _ rfl _ _ _ _ _ _ _ rfl ?_
  refine hs 3 _ rfl _ _ _ _ _ _ _ rfl ?_
  refine hs 4 _ rfl _ _ _ _ _ _ _ _ _ (hX.1) rfl rfl ?_
  refine hs 5 _ rfl _ _ _ _ _ _ _ _ _ (hX.2.1.d) rfl rfl ?_
  refine hs 6 _ rfl _ _ _ _ _ _ _ (fun _ => ?_) (fun zq => absurd (hd_c2t (c := 2) (by omega) (by omega) (by omega) (by omega) (by omega : (e - (c.2.2.1.length : Int)) < 0)) zq)
  exact hs 8 _ rfl _ _ _ _ (Nat.zero_le _) (Nat.zero_le _) hP
set_option maxHeartbeats 4000000 in
theorem zc_needRX_M {l : Launch} {G : am_G} {X : ck_XT} (g : gM l G X) {x : Nat} {r : Nat → Nat} {jj mm kk : Int} {c : sp_S} {R : Nat → sp_S} {old cnt : Nat} {h : List am_C} (hX : zc_x G h x r jj mm kk c R old cnt) {e : Int} (he1 : -2147483648 ≤ e) (he2 : e ≤ 2147483647) (hi : ¬ (0 ≤ e ∧ e < (c.2.2.1.length : Int))) {mc ms : Nat} {Post : am_O → List am_C → Prop} (hmc : 1 ≤ mc) (hms : 6 ≤ ms) (hP : Post (.inr "java/lang/IndexOutOfBoundsException") (h ++ [(99, [])])) :
    am_M l G yX10_needRow (.code yX10_needRow prog_1_method_67_code 2 none) 6 90 mc ms [.ref x, .int (Int32.ofInt e)] h Post := by
  refine gh_yX10_needRow_X g (Nat.le_of_ble_eq_true rfl) fun S SX hs hr hw hx => ?_
  have rv : ∀ x : Int32, ck_fv 0 (.int x) := fun x => ⟨_, rfl⟩
  have hlb_ := hX.2.2.1.2.2.1.1
  by_cases h0_ : e < 0
  · 
    refine hs 0 _ rfl _ _ _ _ _ _ _ rfl ?_
    refine hs 1 _ rfl _ _ _ _ _ _ (fun _ => ?_) (fun zq => absurd (hd_c1t (c := 2) (by omega) (by omega) (by omega : e < 0)) zq)
    exact hs 7 _ rfl _ _ _ _ _ rfl (Nat.le_of_ble_eq_true rfl) (by omega) (by omega) hP
  · 
    refine hs 0 _ rfl _ _ _ _ _ _ _ rfl ?_
    refine hs 1 _ rfl _ _ _ _ _ _ (fun zq => absurd (hd_c1z (c := 2) (by omega) (by omega) zq) (by omega : ¬ (e < 0))) (fun _ => ?_)
    refine hs 2 _ rfl _ _ _ _ _ _ _ rfl ?_
    refine hs 3 _ rfl _ _ _ _ _ _ _ rfl ?_
    refine hs 4 _ rfl _ _ _ _ _ _ _ _ _ (hX.1) rfl rfl ?_
    refine hs 5 _ rfl _ _ _ _ _ _ _ _ _ (hX.2.1.d) rfl rfl ?_
    refine hs 6 _ rfl _ _ _ _ _ _ _ (fun zq => absurd (hd_c2z (c := 2) (by omega) (by omega) (by omega) (by omega) zq) (by omega : ¬ ((e - (c.2.2.1.length : Int)) < 0))) (fun _ => ?_)
    exact hs 7 _ rfl _ _ _ _ _ rfl (Nat.le_of_ble_eq_true rfl) (by omega) (by omega) hP
theorem zc_X.mk {G : am_G} {h : List am_C} {x : Nat} {r : Nat → Nat} {j m k : Int} {c : sp_S} {R : Nat → sp_S} {old cnt : Nat} {P : List sp_S} (a : zc_x G h x r j m k c R old cnt) (e : zc_l R old cnt = P) : zc_X G h x r j m k c P := ⟨R, old, cnt, a, e.symm⟩
theorem sp_ok.get {c : sp_S} (h : sp_ok c) {i : Nat} (hi : i < 6) : -1000000000000000000000000000000000000 < c.2.1.getD i 0 ∧ c.2.1.getD i 0 < 1000000000000000000000000000000000000 := by
  obtain ⟨-, ⟨h1_, h2_⟩, -⟩ := h
  exact h2_ _ (List.mem_of_getElem? (sb_ge (by omega)))
theorem sp_ok.set {c : sp_S} (h : sp_ok c) {i : Nat} {z : Int} (h1 : -1000000000000000000000000000000000000 < z) (h2 : z < 1000000000000000000000000000000000000) : sp_ok (c.1, c.2.1.set i z, c.2.2) := by
  obtain ⟨a1_, ⟨a2_, a3_⟩, a4_⟩ := h
  refine ⟨a1_, ⟨by show (c.2.1.set i z).length = 6; rw [List.length_set]; exact a2_, fun y hy => ?_⟩, a4_⟩
  rcases List.mem_or_eq_of_mem_set hy with e_ | e_
  · exact a3_ y e_
  · rw [e_]; exact ⟨h1, h2⟩
theorem zc_x.len {G : am_G} {h : List am_C} {x : Nat} {r : Nat → Nat} {j m k : Int} {c : sp_S} {R : Nat → sp_S} {old cnt : Nat} (a : zc_x G h x r j m k c R old cnt) : c.2.1.length = 6 := a.2.2.1.2.1.1
/-- a NUMBER of the state is written anew -/
theorem zc_x.num {G : am_G} {h h' : List am_C} {x : Nat} {r : Nat → Nat} {j m k : Int} {c : sp_S} {R : Nat → sp_S} {old cnt : Nat} (a : zc_x G h x r j m k c R old cnt) {i n : Nat} {s : Int} {ls : List Int} {z : Int} (hi : i < 6) (w : sb_w G h h' (x + 1 + 5 + 2 * i) (sb_c 1407 (x + 1 + 5 + 2 * i + 1) (n : Int) s) (x + 1 + 5 + 2 * i + 1) (1450, hd_r ls)) (hs : sb_is n s ls z) (h1 : -1000000000000000000000000000000000000 < z) (h2 : z < 1000000000000000000000000000000000000) : zc_x G h' x r j m k (c.1, c.2.1.set i z, c.2.2) R old cnt ∧ zw_f G h h' (x + 1) 17 := by
  have f_ : zw_f G h h' (x + 1) 17 := zw_f.w2 w (by omega) (by omega) (by omega) (by omega)
  exact ⟨a.st f_ (a.2.1.num hi a.len (fun p h1 h2 => w.ne h1 h2) ⟨n, s, ls, w.q, w.p (by omega), hs⟩) (a.2.2.1.set h1 h2), f_⟩
set_option maxHeartbeats 4000000 in
theorem zc_putRound_M {l : Launch} {G : am_G} {X : ck_XT} (g : gM l G X) {x : Nat} {r : Nat → Nat} {jj mm kk : Int} {c : sp_S} {R : Nat → sp_S} {old cnt : Nat} {h : List am_C} (hX : zc_x G h x r jj mm kk c R old cnt) {i : Nat} {v : Int} (hi : i < 6) (hv : v = -9 ∨ v = -8 ∨ 0 ≤ v) (hv2 : v ≤ 2147483647) {mc ms : Nat} {Post : am_O → List am_C → Prop}
    (hJ : v = -9 → ∀ h', zc_fr G h h' x r → zc_x G h' x r (jj + 1) mm kk c R old cnt → Post (.inl (some (.int (Int32.ofInt (-9))))) h')
    (hM : v = -8 → ∀ h', zc_fr G h h' x r → zc_x G h' x r jj (mm + 1) kk c R old cnt → Post (.inl (some (.int (Int32.ofInt (-8))))) h')
    (hP : 0 ≤ v → ∀ h', zc_fr G h h' x r → zc_X G h' x r jj mm kk (c.1, c.2.1.set i v, c.2.2) (sp_keep (zc_l R old cnt) c) → Post (.inl (some (.int (Int32.ofInt v)))) h') :
    am_M l G yX10_putRound (.code yX10_putRound prog_1_method_69_code 3 (some .int)) 5 123 mc ms [.ref x, .ref (x + 1 + 5 + 2 * i), .int (Int32.ofInt v)] h Post := by
  refine gh_yX10_putRound_X g (Nat.le_of_ble_eq_true rfl) fun S SX hs hr hw hx => ?_
  have rv : ∀ x : Int32, ck_fv 0 (.int x) := fun x => ⟨_, rfl⟩
  have hx9_ := hX.2.2.2.2.2.2.2
  rcases hv with hv1_ | hv1_ | hv1_
  · 
    refine hs 0 _ rfl _ _ _ _ _ _ _ rfl ?_
    refine hs 1 _ rfl _ _ _ _ _ _ _ rfl ?_
    refine hs 2 _ rfl _ _ _ _ _ _ _ (fun zq => absurd (hd_c2z (c := 1) (by omega) (by omega) (by omega) (by omega) zq) (by omega : ¬ ((v - (-9 : Int)) ≠ 0))) (fun _ => ?_)
    refine hs 3 _ rfl _ _ _ _ _ _ _ rfl ?_
    refine hs 4 _ rfl _ _ _ _ _ _ _ rfl ?_
    refine hs 5 _ rfl _ _ _ _ _ _ _ _ _ (hX.1) rfl rfl ?_
    refine hs 6 _ rfl _ _ _ _ _ _ _ rfl ?_
    refine hs 7 _ rfl _ _ _ _ _ _ _ hd_add ?_
    refine zw_U (hs 8 _ rfl) (by omega) (hX.1) rfl ⟨_, rfl⟩ fun hz71 wz72 => ?_
    have wz72 : hd_w G h hz71 x (1015, [.ref (x + 1), .ref (x + 18), .int (Int32.ofInt (jj + (1 : Int))), .int (Int32.ofInt mm), .int (Int32.ofInt kk), .ref (x + 224), .ref (x + 226), .ref (r 0), .ref (r 1), .ref (r 2), .ref (r 3), .ref (r 4), .ref (r 5)]) := wz72
    refine hs 9 _ rfl _ _ _ _ _ _ _ rfl ?_
    exact hs 10 _ rfl _ _ _ _ _ (rv _) (Nat.zero_le _) (Nat.zero_le _) (hJ hv1_ _ (zc_fr.of (zw_f.w (lo := x) (n := 1) wz72 (by omega) (by omega)) (by omega) (by omega)) (hX.own wz72))
  · 
    refine hs 0 _ rfl _ _ _ _ _ _ _ rfl ?_
    refine hs 1 _ rfl _ _ _ _ _ _ _ rfl ?_
    refine hs 2 _ rfl _ _ _ _ _ _ _ (fun _ => ?_) (fun zq => absurd (hd_c2t (c := 1) (by omega) (by omega) (by omega) (by omega) (by omega : (v - (-9 : Int)) ≠ 0)) zq)
    refine hs 11 _ rfl _ _ _ _ _ _ _ rfl ?_
    refine hs 12 _ rfl _ _ _ _ _ _ _ rfl ?_
    refine hs 13 _ rfl _ _ _ _ _ _ _ (fun zq => absurd (hd_c2z (c := 1) (by omega) (by omega) (by omega) (by omega) zq) (by omega : ¬ ((v - (-8 : Int)) ≠ 0))) (fun _ => ?_)
    refine hs 14 _ rfl _ _ _ _ _ _ _ rfl ?_
    refine hs 15 _ rfl _ _ _ _ _ _ _ rfl ?_
    refine hs 16 _ rfl _ _ _ _ _ _ _ _ _ (hX.1) rfl rfl ?_
    refine hs 17 _ rfl _ _ _ _ _ _ _ rfl ?_
    refine hs 18 _ rfl _ _ _ _ _ _ _ hd_add ?_
    refine zw_U (hs 19 _ rfl) (by omega) (hX.1) rfl ⟨_, rfl⟩ fun hz73 wz74 => ?_
    have wz74 : hd_w G h hz73 x (1015, [.ref (x + 1), .ref (x + 18), .int (Int32.ofInt jj), .int (Int32.ofInt (mm + (1 : Int))), .int (Int32.ofInt kk), .ref (x + 224), .ref (x + 226), .ref (r 0), .ref (r 1), .ref (r 2), .ref (r 3), .ref (r 4), .ref (r 5)]) := wz74
    refine hs 20 _ rfl _ _ _ _ _ _ _ rfl ?_
    exact hs 21 _ rfl _ _ _ _ _ (rv _) (Nat.zero_le _) (Nat.zero_le _) (hM hv1_ _ (zc_fr.of (zw_f.w (lo := x) (n := 1) wz74 (by omega) (by omega)) (by omega) (by omega)) (hX.own wz74))
  · 
    refine hs 0 _ rfl _ _ _ _ _ _ _ rfl ?_
    refine hs 1 _ rfl _ _ _ _ _ _ _ rfl ?_
    refine hs 2 _ rfl _ _ _ _ _ _ _ (fun _ => ?_) (fun zq => absurd (hd_c2t (c := 1) (by omega) (by omega) (by omega) (by omega) (by omega : (v - (-9 : Int)) ≠ 0)) zq)
    refine hs 11 _ rfl _ _ _ _ _ _ _ rfl ?_
    refine hs 12 _ rfl _ _ _ _ _ _ _ rfl ?_
    refine hs 13 _ rfl _ _ _ _ _ _ _ (fun _ => ?_) (fun zq => absurd (hd_c2t (c := 1) (by omega) (by omega) (by omega) (by omega) (by omega : (v - (-8 : Int)) ≠ 0)) zq)
    refine hs 22 _ rfl _ _ _ _ _ _ _ rfl ?_
    refine hs 23 _ rfl _ _ _ _ _ _ _ _ _ (hX.1) rfl rfl ?_
    refine hs 24 _ rfl _ _ _ _ _ _ _ rfl ?_
    refine hs 25 _ rfl _ _ _ _ _ _ _ _ _ (hX.1) rfl rfl ?_
    refine zw_c (hs 26 _ rfl) (a := [.ref (x + 18), .ref (x + 1)]) (st := []) rfl rfl (Nat.le_of_ble_eq_true rfl) ⟨_, _, _, rfl, hX.2.2.2.1.1, rfl⟩ (Nat.zero_le _) (Nat.zero_le _) (zc_keep_M g (p := x + 18) (s := x + 1) (by omega) (by omega) hX.2.2.2.1 hX.2.1 hX.2.2.1 fun hk1_ ok1_ ck1_ fk1_ pk1_ e11_ e21_ => ?_)
    have xk1_ := hX.past fk1_ pk1_
    have lk1_ := zc_l_keep (R := R) (c := c) hX.2.2.2.1.2.2.2.1 hX.2.2.2.1.2.2.2.2 e11_ e21_
    show S 49 [some (.ref x), some (.ref (x + 1 + 5 + 2 * i)), some (.int (Int32.ofInt v))] [] _ _ _
    obtain ⟨ny_, sy_, ly_, y1_, y2_, y3_⟩ := xk1_.2.1.n hi
    refine hs 27 _ rfl _ _ _ _ _ _ _ rfl ?_
    refine hs 28 _ rfl _ _ _ _ _ _ _ rfl ?_
    refine hs 29 _ rfl _ _ _ _ _ _ _ (hd_i2l (by omega) (by omega)) ?_
    refine zw_c (hs 30 _ rfl) (a := [.ref (x + 1 + 5 + 2 * i), .long (Int64.ofInt v)]) (st := []) rfl rfl (Nat.le_of_ble_eq_true rfl) ⟨_, _, _, rfl, y1_, rfl⟩ (Nat.zero_le _) (Nat.zero_le _) (sb_blong_M g (by omega) (by omega) (by omega) y1_ rfl y2_ rfl y3_.1.1 (by omega) (by omega) fun hb_ nb_ sb1_ lb_ wb_ ib_ => ?_)
    show S 55 [some (.ref x), some (.ref (x + 1 + 5 + 2 * i)), some (.int (Int32.ofInt v))] [] _ _ _
    refine hs 31 _ rfl _ _ _ _ _ _ _ rfl ?_
    obtain ⟨xb_, fb_⟩ := xk1_.num hi wb_ ib_ (by omega) (by omega)
    exact hs 32 _ rfl _ _ _ _ _ (rv _) (Nat.zero_le _) (Nat.zero_le _) (hP hv1_ _ ((zc_fr.of fk1_ (by omega) (by omega)).tr (zc_fr.of fb_ (by omega) (by omega))) (zc_X.mk xb_ lk1_))
theorem sp_ok.row {c : sp_S} (h : sp_ok c) (hl : c.2.2.1.length < 6) {r z : Int} (hz : 1 ≤ z ∧ z ≤ 999) (hr : 0 ≤ r ∧ r < z) : sp_ok (c.1, c.2.1, c.2.2.1 ++ [(r, z)], c.2.2.2) := by
  obtain ⟨a1_, a2_, ⟨a3_, a4_⟩, a5_⟩ := h
  refine ⟨a1_, a2_, ⟨by show (c.2.2.1 ++ [(r, z)]).length ≤ 6; rw [List.length_append, List.length_singleton]; omega, fun p hp => ?_⟩, a5_⟩
  rcases List.mem_append.mp hp with e_ | e_
  · exact a4_ p e_
  · cases List.mem_singleton.mp e_
    exact ⟨hz.1, hz.2, hr.1, hr.2⟩
set_option maxHeartbeats 4000000 in
theorem zc_addRowX_M {l : Launch} {G : am_G} {X : ck_XT} (g : gM l G X) {x : Nat} {r : Nat → Nat} {jj mm kk : Int} {c : sp_S} {R : Nat → sp_S} {old cnt : Nat} {h : List am_C} (hX : zc_x G h x r jj mm kk c R old cnt) {rest size : Int} (hr1 : -9999 ≤ rest) (hr2 : rest ≤ 9999) (hz_ : 1 ≤ size ∧ size ≤ 999) (hl : c.2.2.1.length < 6) {mc ms : Nat} {Post : am_O → List am_C → Prop}
    (hP : ∀ h', zc_fr G h h' x r → zc_X G h' x r jj mm kk (c.1, c.2.1, c.2.2.1 ++ [(rest % size, size)], c.2.2.2) (sp_keep (zc_l R old cnt) c) → Post (.inl (some (.int (Int32.ofInt (c.2.2.1.length : Int))))) h') :
    am_M l G yX10_addRow (.code yX10_addRow prog_1_method_70_code 3 (some .int)) 5 123 mc ms [.ref x, .int (Int32.ofInt rest), .int (Int32.ofInt size)] h Post := by
  refine gh_yX10_addRow_X g (Nat.le_of_ble_eq_true rfl) fun S SX hs hr hw hx => ?_
  have rv : ∀ x : Int32, ck_fv 0 (.int x) := fun x => ⟨_, rfl⟩
  have hx9_ := hX.2.2.2.2.2.2.2
  refine hs 0 _ rfl _ _ _ _ _ _ _ rfl ?_
  refine hs 1 _ rfl _ _ _ _ _ _ _ _ _ (hX.1) rfl rfl ?_
  refine hs 2 _ rfl _ _ _ _ _ _ _ rfl ?_
  refine hs 3 _ rfl _ _ _ _ _ _ _ _ _ (hX.1) rfl rfl ?_
  refine zw_c (hs 4 _ rfl) (a := [.ref (x + 18), .ref (x + 1)]) (st := []) rfl rfl (Nat.le_of_ble_eq_true rfl) ⟨_, _, _, rfl, hX.2.2.2.1.1, rfl⟩ (Nat.zero_le _) (Nat.zero_le _) (zc_keep_M g (p := x + 18) (s := x + 1) (by omega) (by omega) hX.2.2.2.1 hX.2.1 hX.2.2.1 fun hk2_ ok2_ ck2_ fk2_ pk2_ e12_ e22_ => ?_)
  have xk2_ := hX.past fk2_ pk2_
  have lk2_ := zc_l_keep (R := R) (c := c) hX.2.2.2.1.2.2.2.1 hX.2.2.2.1.2.2.2.2 e12_ e22_
  show S 11 [some (.ref x), some (.int (Int32.ofInt rest)), some (.int (Int32.ofInt size))] [] _ _ _
  refine hs 5 _ rfl _ _ _ _ _ _ _ rfl ?_
  refine hs 6 _ rfl _ _ _ _ _ _ _ _ _ (xk2_.1) rfl rfl ?_
  refine hs 7 _ rfl _ _ _ _ _ _ _ rfl ?_
  refine hs 8 _ rfl _ _ _ _ _ _ _ rfl ?_
  refine zw_c (hs 9 _ rfl) (a := [.ref (x + 1), .int (Int32.ofInt rest), .int (Int32.ofInt size)]) (st := []) rfl rfl (Nat.le_of_ble_eq_true rfl) ⟨_, _, _, rfl, xk2_.2.1.d, rfl⟩ (Nat.zero_le _) (Nat.zero_le _) (zc_addRow_M g (by omega) xk2_.2.1 (by omega) (by omega) hz_ hl fun ha_ fa_ na_ => ?_)
  show S 20 [some (.ref x), some (.int (Int32.ofInt rest)), some (.int (Int32.ofInt size))] [] _ _ _
  have xa_ := xk2_.st fa_ na_ (hX.2.2.1.row hl hz_ ⟨Int.emod_nonneg _ (by omega), Int.emod_lt_of_pos _ (by omega)⟩)
  refine hs 10 _ rfl _ _ _ _ _ _ _ rfl ?_
  refine hs 11 _ rfl _ _ _ _ _ _ _ _ _ (xa_.1) rfl rfl ?_
  refine hs 12 _ rfl _ _ _ _ _ _ _ _ _ (xa_.2.1.d) rfl rfl ?_
  refine hs 13 _ rfl _ _ _ _ _ _ _ rfl ?_
  refine hs 14 _ rfl _ _ _ _ _ _ _ hd_sub ?_
  refine hs 15 _ rfl _ _ _ _ _ (rv _) (Nat.zero_le _) (Nat.zero_le _) ?_
  have e_ : (((c.2.2.1 ++ [(rest % size, size)]).length : Int) - (1 : Int)) = (c.2.2.1.length : Int) := by rw [List.length_append, List.length_singleton]; omega
  show Post (.inl (some (.int (Int32.ofInt (((c.2.2.1 ++ [(rest % size, size)]).length : Int) - (1 : Int)))))) _
  rw [e_]
  exact hP _ ((zc_fr.of fk2_ (by omega) (by omega)).tr (zc_fr.of fa_ (by omega) (by omega))) (zc_X.mk xa_ lk2_)
theorem sb_restE_M {l : Launch} {G : am_G} {X : ck_XT} (g : gM l G X) {q p t tp n : Nat} {ls : List Int} {sg z e : Int} {h : List am_C} (hg : am_g G h q = some (sb_c t p (n : Int) sg)) (ht : t % 100 = 7) (hgp : am_g G h p = some (tp, hd_r ls)) (htp : tp % 100 = 50) (hi : sb_is n sg ls z) (hm : 1 ≤ e) (hm2 : e ≤ 1000) {mc ms : Nat} {Post : am_O → List am_C → Prop} (hP : Post (.inl (some (.int (Int32.ofInt (z % e))))) h) :
    am_M l G yX0_restBy (.code yX0_restBy prog_2_method_15_code 5 (some .int)) 2 41 mc ms [.ref q, .int (Int32.ofInt e)] h Post := by
  obtain ⟨m_, rfl⟩ : ∃ m_ : Nat, e = (m_ : Int) := ⟨e.toNat, by omega⟩
  exact sb_rest_M g hg ht hgp htp hi (by omega) (by omega) hP
theorem sm_invertE_M {l : Launch} {G : am_G} {X : ck_XT} (g : gM l G X) {a m : Int} {h : List am_C} (ha : 0 ≤ a) (ha2 : a < m) (hm : m ≤ 999) {mc ms : Nat} {Post : am_O → List am_C → Prop} (hP : ∀ z : Int, sm_inv a.toNat m.toNat z → Post (.inl (some (.int (Int32.ofInt z)))) h) :
    am_M l G yX7_invert (.code yX7_invert prog_9_method_3_code 10 (some .int)) 1 20 mc ms [.int (Int32.ofInt a), .int (Int32.ofInt m)] h Post := by
  obtain ⟨a_, rfl⟩ : ∃ a_ : Nat, a = (a_ : Int) := ⟨a.toNat, by omega⟩
  obtain ⟨m_, rfl⟩ : ∃ m_ : Nat, m = (m_ : Int) := ⟨m.toNat, by omega⟩
  exact sm_invert_M g (by omega) (by omega) hP
/-- a power: the number a on the dial m, the exponent e -/
def zc_pw (a m : Nat) (e z : Int) : Prop := (e < 0 ∧ Nat.gcd a m ≠ 1 ∧ z = -8) ∨ ((e < 0 → Nat.gcd a m = 1) ∧ ∃ f : Nat, f < m ∧ (e < 0 → (a : Int) * (f : Int) % m = 1 % m) ∧ (¬ e < 0 → f = a) ∧ z = ((f ^ e.natAbs % m : Nat) : Int))
theorem zc_pw.of {a m n : Nat} {sg e z : Int} {ls : List Int} (hi : sb_is n sg ls e) (h : sm_pw a m sg (sb_v ls) z) : zc_pw a m e z := by
  obtain ⟨hd_, -, rfl, hs_, h0_⟩ := hi
  have hn_ := sb_a.nn hd_.2
  have e1_ : sg < 0 ↔ sg * sb_v ls < 0 := by
    rcases hs_ with c_ | c_ | c_
    · rw [c_]
      constructor
      · intro _
        have : ¬ sb_v ls = 0 := fun y_ => by have := h0_.mpr y_; omega
        omega
      · intro _; decide
    · rw [c_, Int.zero_mul]
    · rw [c_, Int.one_mul]; omega
  have e2_ : ∀ f : Nat, f ^ (sb_v ls).toNat % m = f ^ (sg * sb_v ls).natAbs % m := fun f => by
    rcases hs_ with c_ | c_ | c_
    · rw [c_, show (-1 * sb_v ls).natAbs = (sb_v ls).toNat by omega]
    · rw [c_, h0_.mp c_]; rfl
    · rw [c_, Int.one_mul, show (sb_v ls).natAbs = (sb_v ls).toNat by omega]
  rcases h with ⟨b1_, b2_, b3_⟩ | ⟨b1_, f_, b2_, b3_, b4_, b5_⟩
  · exact Or.inl ⟨e1_.mp b1_, b2_, b3_⟩
  · exact Or.inr ⟨fun y_ => b1_ (e1_.mpr y_), f_, b2_, fun y_ => b3_ (e1_.mpr y_), fun y_ => b4_ (fun w_ => y_ (e1_.mp w_)), by rw [b5_, e2_]⟩
theorem sm_powE_M {l : Launch} {G : am_G} {X : ck_XT} (g : gM l G X) {q p t tp n : Nat} {ls : List Int} {sg z a m : Int} {h : List am_C} (ha : 0 ≤ a) (ha2 : a < m) (hm2 : m ≤ 999) (hg : am_g G h q = some (sb_c t p (n : Int) sg)) (ht : t % 100 = 7) (hgp : am_g G h p = some (tp, hd_r ls)) (htp : tp % 100 = 50) (hi : sb_is n sg ls z) {mc ms : Nat} {Post : am_O → List am_C → Prop} (hP : ∀ y : Int, zc_pw a.toNat m.toNat z y → Post (.inl (some (.int (Int32.ofInt y)))) h) :
    am_M l G yX7_raise (.code yX7_raise prog_9_method_5_code 6 (some .int)) 2 49 mc ms [.int (Int32.ofInt a), .ref q, .int (Int32.ofInt m)] h Post := by
  obtain ⟨a_, rfl⟩ : ∃ a_ : Nat, a = (a_ : Int) := ⟨a.toNat, by omega⟩
  obtain ⟨m_, rfl⟩ : ∃ m_ : Nat, m = (m_ : Int) := ⟨m.toNat, by omega⟩
  exact sm_pow_M g (by omega) (by omega) hg ht hgp htp hi fun y_ hy_ => hP y_ (zc_pw.of hi hy_)
set_option maxHeartbeats 4000000 in
theorem zc_mod_M {l : Launch} {G : am_G} {X : ck_XT} (g : gM l G X) {x : Nat} {r : Nat → Nat} {jj mm kk : Int} {c : sp_S} {R : Nat → sp_S} {old cnt : Nat} {h : List am_C} (hX : zc_x G h x r jj mm kk c R old cnt) {i : Nat} {e : Int} (he : e = (i : Int)) (hi : i < 6) {mc ms : Nat} {Post : am_O → List am_C → Prop}
    (hJ : c.1 ≤ 0 → Post (.inl (some (.int (Int32.ofInt (-9))))) h) (hP : 0 < c.1 → Post (.inl (some (.int (Int32.ofInt (c.2.1.getD i 0 % c.1))))) h) :
    am_M l G yX10_mod (.code yX10_mod prog_1_method_27_code 3 (some .int)) 7 111 mc ms [.ref x, .int (Int32.ofInt e)] h Post := by
  refine gh_yX10_mod_X g (Nat.le_of_ble_eq_true rfl) fun S SX hs hr hw hx => ?_
  have rv : ∀ x : Int32, ck_fv 0 (.int x) := fun x => ⟨_, rfl⟩
  have hb_ := hX.2.2.1.1
  by_cases h0_ : c.1 ≤ 0
  · 
    refine hs 0 _ rfl _ _ _ _ _ _ _ rfl ?_
    refine hs 1 _ rfl _ _ _ _ _ _ _ rfl ?_
    refine zw_c (hs 2 _ rfl) (a := [.ref x, .int (Int32.ofInt e)]) (st := []) rfl rfl (Nat.le_of_ble_eq_true rfl) ⟨_, _, _, rfl, hX.1, rfl⟩ (Nat.zero_le _) (Nat.zero_le _) (zc_numAt_M g hX (i := i) he hi ?_)
    show S 5 [some (.ref x), some (.int (Int32.ofInt e)), none] [.ref (x + 1 + 5 + 2 * i)] _ _ _
    refine hs 3 _ rfl _ _ _ _ _ _ _ rfl ?_
    refine hs 4 _ rfl _ _ _ _ _ _ _ rfl ?_
    refine zw_c (hs 5 _ rfl) (a := [.ref x]) (st := []) rfl rfl (Nat.le_of_ble_eq_true rfl) ⟨_, _, _, rfl, hX.1, rfl⟩ (Nat.zero_le _) (Nat.zero_le _) (zc_jam_M g hX (fun _ => ?_) (fun y_ => absurd y_ (by omega)))
    show S 10 [some (.ref x), some (.int (Int32.ofInt e)), some (.ref (x + 1 + 5 + 2 * i))] [.int (Int32.ofInt (1 : Int))] _ _ _
    refine hs 6 _ rfl _ _ _ _ _ _ (fun zq => absurd (hd_c1z (c := 0) (by omega) (by omega) zq) (by omega : ¬ ((1 : Int) = 0))) (fun _ => ?_)
    refine hs 7 _ rfl _ _ _ _ _ _ _ rfl ?_
    refine hs 8 _ rfl _ _ _ _ _ ?_
    exact hs 14 _ rfl _ _ _ _ _ (rv _) (Nat.zero_le _) (Nat.zero_le _) (hJ h0_)
  · obtain ⟨ny_, sy_, ly_, y1_, y2_, y3_⟩ := hX.2.1.n hi
    refine hs 0 _ rfl _ _ _ _ _ _ _ rfl ?_
    refine hs 1 _ rfl _ _ _ _ _ _ _ rfl ?_
    refine zw_c (hs 2 _ rfl) (a := [.ref x, .int (Int32.ofInt e)]) (st := []) rfl rfl (Nat.le_of_ble_eq_true rfl) ⟨_, _, _, rfl, hX.1, rfl⟩ (Nat.zero_le _) (Nat.zero_le _) (zc_numAt_M g hX (i := i) he hi ?_)
    show S 5 [some (.ref x), some (.int (Int32.ofInt e)), none] [.ref (x + 1 + 5 + 2 * i)] _ _ _
    refine hs 3 _ rfl _ _ _ _ _ _ _ rfl ?_
    refine hs 4 _ rfl _ _ _ _ _ _ _ rfl ?_
    refine zw_c (hs 5 _ rfl) (a := [.ref x]) (st := []) rfl rfl (Nat.le_of_ble_eq_true rfl) ⟨_, _, _, rfl, hX.1, rfl⟩ (Nat.zero_le _) (Nat.zero_le _) (zc_jam_M g hX (fun y_ => absurd y_ (by omega)) (fun _ => ?_))
    show S 10 [some (.ref x), some (.int (Int32.ofInt e)), some (.ref (x + 1 + 5 + 2 * i))] [.int (Int32.ofInt (0 : Int))] _ _ _
    refine hs 6 _ rfl _ _ _ _ _ _ (fun _ => ?_) (fun zq => absurd (hd_c1t (c := 0) (by omega) (by omega) (by omega : (0 : Int) = 0)) zq)
    refine hs 9 _ rfl _ _ _ _ _ _ _ rfl ?_
    refine hs 10 _ rfl _ _ _ _ _ _ _ rfl ?_
    refine hs 11 _ rfl _ _ _ _ _ _ _ _ _ (hX.1) rfl rfl ?_
    refine hs 12 _ rfl _ _ _ _ _ _ _ _ _ (hX.2.1.d) rfl rfl ?_
    refine zw_c (hs 13 _ rfl) (a := [.ref (x + 1 + 5 + 2 * i), .int (Int32.ofInt c.1)]) (st := []) rfl rfl (Nat.le_of_ble_eq_true rfl) ⟨_, _, _, rfl, y1_, rfl⟩ (Nat.zero_le _) (Nat.zero_le _) (sb_restE_M g y1_ rfl y2_ rfl y3_ (by omega) (by omega) ?_)
    show S 29 [some (.ref x), some (.int (Int32.ofInt e)), some (.ref (x + 1 + 5 + 2 * i))] [.int (Int32.ofInt ((c.2.1.getD i 0) % c.1))] _ _ _
    exact hs 14 _ rfl _ _ _ _ _ (rv _) (Nat.zero_le _) (Nat.zero_le _) (hP (by omega))
set_option maxHeartbeats 4000000 in
theorem zc_inv_M {l : Launch} {G : am_G} {X : ck_XT} (g : gM l G X) {x : Nat} {r : Nat → Nat} {jj mm kk : Int} {c : sp_S} {R : Nat → sp_S} {old cnt : Nat} {h : List am_C} (hX : zc_x G h x r jj mm kk c R old cnt) {i : Nat} {e : Int} (he : e = (i : Int)) (hi : i < 6) {mc ms : Nat} {Post : am_O → List am_C → Prop}
    (hJ : c.1 ≤ 0 → Post (.inl (some (.int (Int32.ofInt (-9))))) h) (hP : 0 < c.1 → ∀ v : Int, sm_inv (c.2.1.getD i 0 % c.1).toNat c.1.toNat v → Post (.inl (some (.int (Int32.ofInt v)))) h) :
    am_M l G yX10_inverse (.code yX10_inverse prog_1_method_30_code 3 (some .int)) 7 111 mc ms [.ref x, .int (Int32.ofInt e)] h Post := by
  refine gh_yX10_inverse_X g (Nat.le_of_ble_eq_true rfl) fun S SX hs hr hw hx => ?_
  have rv : ∀ x : Int32, ck_fv 0 (.int x) := fun x => ⟨_, rfl⟩
  have hb_ := hX.2.2.1.1
  by_cases h0_ : c.1 ≤ 0
  · 
    refine hs 0 _ rfl _ _ _ _ _ _ _ rfl ?_
    refine hs 1 _ rfl _ _ _ _ _ _ _ rfl ?_
    refine zw_c (hs 2 _ rfl) (a := [.ref x, .int (Int32.ofInt e)]) (st := []) rfl rfl (Nat.le_of_ble_eq_true rfl) ⟨_, _, _, rfl, hX.1, rfl⟩ (Nat.zero_le _) (Nat.zero_le _) (zc_numAt_M g hX (i := i) he hi ?_)
    show S 5 [some (.ref x), some (.int (Int32.ofInt e)), none] [.ref (x + 1 + 5 + 2 * i)] _ _ _
    refine hs 3 _ rfl _ _ _ _ _ _ _ rfl ?_
    refine hs 4 _ rfl _ _ _ _ _ _ _ rfl ?_
    refine zw_c (hs 5 _ rfl) (a := [.ref x]) (st := []) rfl rfl (Nat.le_of_ble_eq_true rfl) ⟨_, _, _, rfl, hX.1, rfl⟩ (Nat.zero_le _) (Nat.zero_le _) (zc_jam_M g hX (fun _ => ?_) (fun y_ => absurd y_ (by omega)))
    show S 10 [some (.ref x), some (.int (Int32.ofInt e)), some (.ref (x + 1 + 5 + 2 * i))] [.int (Int32.ofInt (1 : Int))] _ _ _
    refine hs 6 _ rfl _ _ _ _ _ _ (fun zq => absurd (hd_c1z (c := 0) (by omega) (by omega) zq) (by omega : ¬ ((1 : Int) = 0))) (fun _ => ?_)
    refine hs 7 _ rfl _ _ _ _ _ _ _ rfl ?_
    refine hs 8 _ rfl _ _ _ _ _ ?_
    exact hs 18 _ rfl _ _ _ _ _ (rv _) (Nat.zero_le _) (Nat.zero_le _) (hJ h0_)
  · obtain ⟨ny_, sy_, ly_, y1_, y2_, y3_⟩ := hX.2.1.n hi
    have r1_ := Int.emod_nonneg (c.2.1.getD i 0) (b := c.1) (by omega)
    have r2_ := Int.emod_lt_of_pos (c.2.1.getD i 0) (b := c.1) (by omega)
    refine hs 0 _ rfl _ _ _ _ _ _ _ rfl ?_
    refine hs 1 _ rfl _ _ _ _ _ _ _ rfl ?_
    refine zw_c (hs 2 _ rfl) (a := [.ref x, .int (Int32.ofInt e)]) (st := []) rfl rfl (Nat.le_of_ble_eq_true rfl) ⟨_, _, _, rfl, hX.1, rfl⟩ (Nat.zero_le _) (Nat.zero_le _) (zc_numAt_M g hX (i := i) he hi ?_)
    show S 5 [some (.ref x), some (.int (Int32.ofInt e)), none] [.ref (x + 1 + 5 + 2 * i)] _ _ _
    refine hs 3 _ rfl _ _ _ _ _ _ _ rfl ?_
    refine hs 4 _ rfl _ _ _ _ _ _ _ rfl ?_
    refine zw_c (hs 5 _ rfl) (a := [.ref x]) (st := []) rfl rfl (Nat.le_of_ble_eq_true rfl) ⟨_, _, _, rfl, hX.1, rfl⟩ (Nat.zero_le _) (Nat.zero_le _) (zc_jam_M g hX (fun y_ => absurd y_ (by omega)) (fun _ => ?_))
    show S 10 [some (.ref x), some (.int (Int32.ofInt e)), some (.ref (x + 1 + 5 + 2 * i))] [.int (Int32.ofInt (0 : Int))] _ _ _
    refine hs 6 _ rfl _ _ _ _ _ _ (fun _ => ?_) (fun zq => absurd (hd_c1t (c := 0) (by omega) (by omega) (by omega : (0 : Int) = 0)) zq)
    refine hs 9 _ rfl _ _ _ _ _ _ _ rfl ?_
    refine hs 10 _ rfl _ _ _ _ _ _ _ rfl ?_
    refine hs 11 _ rfl _ _ _ _ _ _ _ _ _ (hX.1) rfl rfl ?_
    refine hs 12 _ rfl _ _ _ _ _ _ _ _ _ (hX.2.1.d) rfl rfl ?_
    refine zw_c (hs 13 _ rfl) (a := [.ref (x + 1 + 5 + 2 * i), .int (Int32.ofInt c.1)]) (st := []) rfl rfl (Nat.le_of_ble_eq_true rfl) ⟨_, _, _, rfl, y1_, rfl⟩ (Nat.zero_le _) (Nat.zero_le _) (sb_restE_M g y1_ rfl y2_ rfl y3_ (by omega) (by omega) ?_)
    show S 29 [some (.ref x), some (.int (Int32.ofInt e)), some (.ref (x + 1 + 5 + 2 * i))] [.int (Int32.ofInt ((c.2.1.getD i 0) % c.1))] _ _ _
    refine hs 14 _ rfl _ _ _ _ _ _ _ rfl ?_
    refine hs 15 _ rfl _ _ _ _ _ _ _ _ _ (hX.1) rfl rfl ?_
    refine hs 16 _ rfl _ _ _ _ _ _ _ _ _ (hX.2.1.d) rfl rfl ?_
    refine zw_c (hs 17 _ rfl) (a := [.int (Int32.ofInt ((c.2.1.getD i 0) % c.1)), .int (Int32.ofInt c.1)]) (st := []) rfl rfl (Nat.le_of_ble_eq_true rfl) trivial (Nat.zero_le _) (Nat.zero_le _) (sm_invertE_M g r1_ r2_ (by omega) fun v_ hv_ => ?_)
    show S 39 [some (.ref x), some (.int (Int32.ofInt e)), some (.ref (x + 1 + 5 + 2 * i))] [.int (Int32.ofInt v_)] _ _ _
    exact hs 18 _ rfl _ _ _ _ _ (rv _) (Nat.zero_le _) (Nat.zero_le _) (hP (by omega) _ hv_)
set_option maxHeartbeats 4000000 in
theorem zc_pow_M {l : Launch} {G : am_G} {X : ck_XT} (g : gM l G X) {x : Nat} {r : Nat → Nat} {jj mm kk : Int} {c : sp_S} {R : Nat → sp_S} {old cnt : Nat} {h : List am_C} (hX : zc_x G h x r jj mm kk c R old cnt) {i : Nat} {e : Int} (he : e = (i : Int)) (hi : i < 6)  {i2 : Nat} {e2 : Int} (he2 : e2 = (i2 : Int)) (hi2 : i2 < 6) {mc ms : Nat} {Post : am_O → List am_C → Prop}
    (hJ : c.1 ≤ 0 → Post (.inl (some (.int (Int32.ofInt (-9))))) h) (hP : 0 < c.1 → ∀ v : Int, zc_pw (c.2.1.getD i 0 % c.1).toNat c.1.toNat (c.2.1.getD i2 0) v → Post (.inl (some (.int (Int32.ofInt v)))) h) :
    am_M l G yX10_power (.code yX10_power prog_1_method_29_code 5 (some .int)) 7 111 mc ms [.ref x, .int (Int32.ofInt e), .int (Int32.ofInt e2)] h Post := by
  refine gh_yX10_power_X g (Nat.le_of_ble_eq_true rfl) fun S SX hs hr hw hx => ?_
  have rv : ∀ x : Int32, ck_fv 0 (.int x) := fun x => ⟨_, rfl⟩
  have hb_ := hX.2.2.1.1
  by_cases h0_ : c.1 ≤ 0
  · 
    refine hs 0 _ rfl _ _ _ _ _ _ _ rfl ?_
    refine hs 1 _ rfl _ _ _ _ _ _ _ rfl ?_
    refine zw_c (hs 2 _ rfl) (a := [.ref x, .int (Int32.ofInt e)]) (st := []) rfl rfl (Nat.le_of_ble_eq_true rfl) ⟨_, _, _, rfl, hX.1, rfl⟩ (Nat.zero_le _) (Nat.zero_le _) (zc_numAt_M g hX (i := i) he hi ?_)
    show S 5 [some (.ref x), some (.int (Int32.ofInt e)), some (.int (Int32.ofInt e2)), none, none] [.ref (x + 1 + 5 + 2 * i)] _ _ _
    refine hs 3 _ rfl _ _ _ _ _ _ _ rfl ?_
    refine hs 4 _ rfl _ _ _ _ _ _ _ rfl ?_
    refine hs 5 _ rfl _ _ _ _ _ _ _ rfl ?_
    refine zw_c (hs 6 _ rfl) (a := [.ref x, .int (Int32.ofInt e2)]) (st := []) rfl rfl (Nat.le_of_ble_eq_true rfl) ⟨_, _, _, rfl, hX.1, rfl⟩ (Nat.zero_le _) (Nat.zero_le _) (zc_numAt_M g hX (i := i2) he2 hi2 ?_)
    show S 11 [some (.ref x), some (.int (Int32.ofInt e)), some (.int (Int32.ofInt e2)), some (.ref (x + 1 + 5 + 2 * i)), none] [.ref (x + 1 + 5 + 2 * i2)] _ _ _
    refine hs 7 _ rfl _ _ _ _ _ _ _ rfl ?_
    refine hs 8 _ rfl _ _ _ _ _ _ _ rfl ?_
    refine zw_c (hs 9 _ rfl) (a := [.ref x]) (st := []) rfl rfl (Nat.le_of_ble_eq_true rfl) ⟨_, _, _, rfl, hX.1, rfl⟩ (Nat.zero_le _) (Nat.zero_le _) (zc_jam_M g hX (fun _ => ?_) (fun y_ => absurd y_ (by omega)))
    show S 17 [some (.ref x), some (.int (Int32.ofInt e)), some (.int (Int32.ofInt e2)), some (.ref (x + 1 + 5 + 2 * i)), some (.ref (x + 1 + 5 + 2 * i2))] [.int (Int32.ofInt (1 : Int))] _ _ _
    refine hs 10 _ rfl _ _ _ _ _ _ (fun zq => absurd (hd_c1z (c := 0) (by omega) (by omega) zq) (by omega : ¬ ((1 : Int) = 0))) (fun _ => ?_)
    refine hs 11 _ rfl _ _ _ _ _ _ _ rfl ?_
    refine hs 12 _ rfl _ _ _ _ _ ?_
    exact hs 23 _ rfl _ _ _ _ _ (rv _) (Nat.zero_le _) (Nat.zero_le _) (hJ h0_)
  · obtain ⟨ny_, sy_, ly_, y1_, y2_, y3_⟩ := hX.2.1.n hi
    obtain ⟨nw_, sw_, lw_, w1_, w2_, w3_⟩ := hX.2.1.n hi2
    have r1_ := Int.emod_nonneg (c.2.1.getD i 0) (b := c.1) (by omega)
    have r2_ := Int.emod_lt_of_pos (c.2.1.getD i 0) (b := c.1) (by omega)
    refine hs 0 _ rfl _ _ _ _ _ _ _ rfl ?_
    refine hs 1 _ rfl _ _ _ _ _ _ _ rfl ?_
    refine zw_c (hs 2 _ rfl) (a := [.ref x, .int (Int32.ofInt e)]) (st := []) rfl rfl (Nat.le_of_ble_eq_true rfl) ⟨_, _, _, rfl, hX.1, rfl⟩ (Nat.zero_le _) (Nat.zero_le _) (zc_numAt_M g hX (i := i) he hi ?_)
    show S 5 [some (.ref x), some (.int (Int32.ofInt e)), some (.int (Int32.ofInt e2)), none, none] [.ref (x + 1 + 5 + 2 * i)] _ _ _
    refine hs 3 _ rfl _ _ _ _ _ _ _ rfl ?_
    refine hs 4 _ rfl _ _ _ _ _ _ _ rfl ?_
    refine hs 5 _ rfl _ _ _ _ _ _ _ rfl ?_
    refine zw_c (hs 6 _ rfl) (a := [.ref x, .int (Int32.ofInt e2)]) (st := []) rfl rfl (Nat.le_of_ble_eq_true rfl) ⟨_, _, _, rfl, hX.1, rfl⟩ (Nat.zero_le _) (Nat.zero_le _) (zc_numAt_M g hX (i := i2) he2 hi2 ?_)
    show S 11 [some (.ref x), some (.int (Int32.ofInt e)), some (.int (Int32.ofInt e2)), some (.ref (x + 1 + 5 + 2 * i)), none] [.ref (x + 1 + 5 + 2 * i2)] _ _ _
    refine hs 7 _ rfl _ _ _ _ _ _ _ rfl ?_
    refine hs 8 _ rfl _ _ _ _ _ _ _ rfl ?_
    refine zw_c (hs 9 _ rfl) (a := [.ref x]) (st := []) rfl rfl (Nat.le_of_ble_eq_true rfl) ⟨_, _, _, rfl, hX.1, rfl⟩ (Nat.zero_le _) (Nat.zero_le _) (zc_jam_M g hX (fun y_ => absurd y_ (by omega)) (fun _ => ?_))
    show S 17 [some (.ref x), some (.int (Int32.ofInt e)), some (.int (Int32.ofInt e2)), some (.ref (x + 1 + 5 + 2 * i)), some (.ref (x + 1 + 5 + 2 * i2))] [.int (Int32.ofInt (0 : Int))] _ _ _
    refine hs 10 _ rfl _ _ _ _ _ _ (fun _ => ?_) (fun zq => absurd (hd_c1t (c := 0) (by omega) (by omega) (by omega : (0 : Int) = 0)) zq)
    refine hs 13 _ rfl _ _ _ _ _ _ _ rfl ?_
    refine hs 14 _ rfl _ _ _ _ _ _ _ rfl ?_
    refine hs 15 _ rfl _ _ _ _ _ _ _ _ _ (hX.1) rfl rfl ?_
    refine hs 16 _ rfl _ _ _ _ _ _ _ _ _ (hX.2.1.d) rfl rfl ?_
    refine zw_c (hs 17 _ rfl) (a := [.ref (x + 1 + 5 + 2 * i), .int (Int32.ofInt c.1)]) (st := []) rfl rfl (Nat.le_of_ble_eq_true rfl) ⟨_, _, _, rfl, y1_, rfl⟩ (Nat.zero_le _) (Nat.zero_le _) (sb_restE_M g y1_ rfl y2_ rfl y3_ (by omega) (by omega) ?_)
    show S 36 [some (.ref x), some (.int (Int32.ofInt e)), some (.int (Int32.ofInt e2)), some (.ref (x + 1 + 5 + 2 * i)), some (.ref (x + 1 + 5 + 2 * i2))] [.int (Int32.ofInt ((c.2.1.getD i 0) % c.1))] _ _ _
    refine hs 18 _ rfl _ _ _ _ _ _ _ rfl ?_
    refine hs 19 _ rfl _ _ _ _ _ _ _ rfl ?_
    refine hs 20 _ rfl _ _ _ _ _ _ _ _ _ (hX.1) rfl rfl ?_
    refine hs 21 _ rfl _ _ _ _ _ _ _ _ _ (hX.2.1.d) rfl rfl ?_
    refine zw_c (hs 22 _ rfl) (a := [.int (Int32.ofInt ((c.2.1.getD i 0) % c.1)), .ref (x + 1 + 5 + 2 * i2), .int (Int32.ofInt c.1)]) (st := []) rfl rfl (Nat.le_of_ble_eq_true rfl) trivial (Nat.zero_le _) (Nat.zero_le _) (sm_powE_M g r1_ r2_ (by omega) w1_ rfl w2_ rfl w3_ fun v_ hv_ => ?_)
    show S 48 [some (.ref x), some (.int (Int32.ofInt e)), some (.int (Int32.ofInt e2)), some (.ref (x + 1 + 5 + 2 * i)), some (.ref (x + 1 + 5 + 2 * i2))] [.int (Int32.ofInt v_)] _ _ _
    exact hs 23 _ rfl _ _ _ _ _ (rv _) (Nat.zero_le _) (Nat.zero_le _) (hP (by omega) _ hv_)
end
section
/-! THE CALLS OF THE CLASS, TO BE WALKED BY HAND -/
def gt_yX10_dial_X : ck_TB := ([], [], [], [(10, 15, 0), (19, 15, 1), (71, 14, 0)], [(71, 14, 0, 0)], [], [], [], ([(82, 0)], [], [], []), [(13, 0)], [], [], 0)
def ge_yX10_dial_X : ck_E := (gT, [], (([], [], [], 0, []), ((0, []), (0, [])), [], [], ([], [], [], 0, []), ["java/lang/IllegalArgumentException"]), 3, [(0, (0, 3, 1, 0, 1, 0, [])), (1, (0, 0, 0, (-9), 3, 0, [])), (3, (2, 2, 0, 0, 6, 13, [])), (6, (0, 3, 1, 0, 7, 0, [])), (7, (0, 0, 0, 400, 10, 0, [])), (10, (2, 5, 0, 0, 13, 23, [])), (13, (17, 0, 0, 0, 0, 0, [])), (23, (0, 5, 0, 0, 24, 0, [])), (24, (7, 15, 1, 0, 27, 0, [])), (27, (0, 5, 0, 0, 28, 0, [])), (28, (7, 15, 0, 0, 31, 0, [])), (31, (16, 0, 0, 0, 34, 0, [])), (34, (0, 5, 0, 0, 35, 0, [])), (35, (7, 15, 0, 0, 38, 0, [])), (38, (7, 14, 0, 0, 41, 0, [])), (41, (0, 6, 2, 0, 42, 0, [])), (42, (0, 5, 0, 0, 43, 0, [])), (43, (7, 15, 0, 0, 46, 0, [])), (46, (0, 3, 1, 0, 47, 0, [])), (47, (8, 14, 0, 0, 50, 0, [])), (50, (0, 3, 2, 0, 51, 0, [])), (51, (14, 0, 0, 0, 0, 0, []))], [(some 12, 2, [])], [], [], [])
theorem gd_yX10_dial_X : ck_dec prog_1_method_2_code gt_yX10_dial_X ge_yX10_dial_X.2.2.2.2.1 = true := by decide +kernel
theorem gh_yX10_dial_X {l : Launch} {G : am_G} {X : ck_XT} (g : gM l G X) {a : List Value} {h : List am_C} {mc ms : Nat} {Post : am_O → List am_C → Prop} (hay : (am_lay a).length ≤ 3) (H : ∀ (S : ck_SS) (SX : Nat → ck_SX), ck_hs G S SX Post mc ms (ck_cms [am_cm l G yX5_keep (.code yX5_keep prog_7_method_2_code 2 none) 4 102]) ge_yX10_dial_X → (∀ pc, ck_sR G S pc) → ck_hw S → zw_hx SX Post mc ms → S 0 (am_ent a 3) [] h 0 0) : am_M l G yX10_dial (.code yX10_dial prog_1_method_2_code 3 (some .int)) 6 123 mc ms a h Post :=
  zw_handX (E := ge_yX10_dial_X) (tb := gt_yX10_dial_X) (init := false) (cm := (ck_cms [am_cm l G yX5_keep (.code yX5_keep prog_7_method_2_code 2 none) 4 102])) g.1.1 (by decide +kernel) rfl gd_yX10_dial_X ⟨(List.forall_mem_nil _), (List.forall_mem_nil _), (List.forall_mem_nil _), (List.forall_mem_cons.mpr ⟨⟨⟨_, _, _, rfl, Or.inl w353⟩, by decide, _, _, g_fd15_0⟩, (List.forall_mem_cons.mpr ⟨⟨⟨_, _, _, rfl, Or.inl w354⟩, by decide, _, _, g_fd15_1⟩, (List.forall_mem_cons.mpr ⟨⟨⟨_, _, _, rfl, Or.inr (Or.inl ⟨_, w161⟩)⟩, by decide, _, _, g_fd14_0⟩, (List.forall_mem_nil _)⟩)⟩)⟩), (List.forall_mem_nil _), (List.forall_mem_nil _), (List.forall_mem_nil _), (List.forall_mem_nil _)⟩ (List.forall_mem_cons.mpr ⟨⟨⟨_, _, _, rfl, Or.inr (Or.inl ⟨_, w161⟩)⟩, by decide, _, rfl, Or.inl g_fd14_0⟩, (List.forall_mem_nil _)⟩) (fun h => nomatch h) ⟨_, rfl, rfl⟩ (by decide) (by decide) g_oi g_ar
    (fun s hk _ => (List.forall_mem_nil _)) (fun s hk => (List.forall_mem_nil _))
    (List.forall_mem_cons.mpr ⟨(ck_kV g_y_yX5_keep w1222 w1223 w1224 (T := TX5) (N := 3) rfl (by decide) (by decide) (by decide)), (List.forall_mem_nil _)⟩) (List.forall_mem_nil _) (List.forall_mem_nil _) (List.forall_mem_nil _)
    (List.forall_mem_cons.mpr ⟨(fun Ex hE => by
      have hE : (some "java/lang/IllegalArgumentException" : Option String) = some Ex := hE
      cases hE
      exact ck_zS (names := g_sup) (ik := 75) (is := 77) (ic := 79) (by decide +kernel) g_sup_fit w1104 w104 (List.mem_of_getElem? (i := 4) rfl) g_at_1 g_ot_1 (by decide +kernel) (by decide +kernel) (by decide +kernel) (by decide +kernel) (by decide +kernel) (by decide) (by decide)), (List.forall_mem_nil _)⟩) hay H
def gt_yX10_set_X : ck_TB := ([], [], [], [(10, 15, 0), (19, 15, 1)], [], [], [], [], ([(82, 1), (86, 0), (90, 2), (94, 3)], [], [], []), [], [], [], 0)
def ge_yX10_set_X : ck_E := (gT, [], (([], [], [], 0, []), ((0, []), (0, [])), [], [], ([], [], [], 0, []), []), 4, [(0, (0, 5, 0, 0, 1, 0, [])), (1, (0, 3, 1, 0, 2, 0, [])), (2, (16, 0, 0, 0, 5, 0, [])), (5, (0, 8, 3, 0, 6, 0, [])), (6, (0, 5, 0, 0, 7, 0, [])), (7, (7, 15, 1, 0, 10, 0, [])), (10, (0, 5, 0, 0, 11, 0, [])), (11, (7, 15, 0, 0, 14, 0, [])), (14, (16, 1, 0, 0, 17, 0, [])), (17, (0, 5, 3, 0, 18, 0, [])), (18, (0, 3, 2, 0, 19, 0, [])), (19, (0, 19, 0, 0, 20, 0, [])), (20, (16, 2, 0, 0, 23, 0, [])), (23, (0, 5, 3, 0, 24, 0, [])), (24, (16, 3, 0, 0, 27, 0, [])), (27, (14, 0, 0, 0, 0, 0, []))], [(some 15, 2, []), (some 12, 2, []), (some 7, 2, []), (some 7, 1, [])], [], [], [])
theorem gd_yX10_set_X : ck_dec prog_1_method_3_code gt_yX10_set_X ge_yX10_set_X.2.2.2.2.1 = true := by decide +kernel
theorem gh_yX10_set_X {l : Launch} {G : am_G} {X : ck_XT} (g : gM l G X) {a : List Value} {h : List am_C} {mc ms : Nat} {Post : am_O → List am_C → Prop} (hay : (am_lay a).length ≤ 4) (H : ∀ (S : ck_SS) (SX : Nat → ck_SX), ck_hs G S SX Post mc ms (ck_cms [am_cm l G yX10_numberAt (.code yX10_numberAt prog_1_method_62_code 2 (some (.object "Clockhouse$Big"))) 6 90, am_cm l G yX5_keep (.code yX5_keep prog_7_method_2_code 2 none) 4 102, am_cm l G yX0_becomeLong (.code yX0_becomeLong prog_2_method_8_code 6 none) 2 42, am_cm l G yX0_digitCount (.code yX0_digitCount prog_2_method_16_code 4 (some .int)) 2 41]) ge_yX10_set_X → (∀ pc, ck_sR G S pc) → ck_hw S → zw_hx SX Post mc ms → S 0 (am_ent a 4) [] h 0 0) : am_M l G yX10_set (.code yX10_set prog_1_method_3_code 4 (some .int)) 7 123 mc ms a h Post :=
  zw_handX (E := ge_yX10_set_X) (tb := gt_yX10_set_X) (init := false) (cm := (ck_cms [am_cm l G yX10_numberAt (.code yX10_numberAt prog_1_method_62_code 2 (some (.object "Clockhouse$Big"))) 6 90, am_cm l G yX5_keep (.code yX5_keep prog_7_method_2_code 2 none) 4 102, am_cm l G yX0_becomeLong (.code yX0_becomeLong prog_2_method_8_code 6 none) 2 42, am_cm l G yX0_digitCount (.code yX0_digitCount prog_2_method_16_code 4 (some .int)) 2 41])) g.1.1 (by decide +kernel) rfl gd_yX10_set_X ⟨(List.forall_mem_nil _), (List.forall_mem_nil _), (List.forall_mem_nil _), (List.forall_mem_cons.mpr ⟨⟨⟨_, _, _, rfl, Or.inl w353⟩, by decide, _, _, g_fd15_0⟩, (List.forall_mem_cons.mpr ⟨⟨⟨_, _, _, rfl, Or.inl w354⟩, by decide, _, _, g_fd15_1⟩, (List.forall_mem_nil _)⟩)⟩), (List.forall_mem_nil _), (List.forall_mem_nil _), (List.forall_mem_nil _), (List.forall_mem_nil _)⟩ (List.forall_mem_nil _) (fun h => nomatch h) ⟨_, rfl, rfl⟩ (by decide) (by decide) g_oi g_ar
    (fun s hk _ => (List.forall_mem_nil _)) (fun s hk => (List.forall_mem_nil _))
    (List.forall_mem_cons.mpr ⟨(ck_kV g_y_yX5_keep w1222 w1223 w1224 (T := TX5) (N := 3) rfl (by decide) (by decide) (by decide)), (List.forall_mem_cons.mpr ⟨(ck_kV g_y_yX10_numberAt w1040 w1042 w17 (T := TX10) (N := 13) rfl (by decide) (by decide) (by decide)), (List.forall_mem_cons.mpr ⟨(ck_kV g_y_yX0_becomeLong w461 w462 w463 (T := TX0) (N := 3) rfl (by decide) (by decide) (by decide)), (List.forall_mem_cons.mpr ⟨(ck_kV g_y_yX0_digitCount w1057 w1058 w1059 (T := TX0) (N := 3) rfl (by decide) (by decide) (by decide)), (List.forall_mem_nil _)⟩)⟩)⟩)⟩) (List.forall_mem_nil _) (List.forall_mem_nil _) (List.forall_mem_nil _)
    (List.forall_mem_nil _) hay H
def gt_yX10_lengthen_X : ck_TB := ([(98, 1000000000)], [(101, 1000000000)], [], [(26, 15, 5), (30, 15, 6)], [], [], [], [], ([(86, 0), (90, 1), (103, 2), (107, 3), (110, 4)], [], [], []), [(16, 0)], [], [], 0)
def ge_yX10_lengthen_X : ck_E := (gT, [], (([], [], [], 0, []), ((0, []), (0, [])), [], [], ([], [], [], 0, []), ["java/lang/IllegalArgumentException"]), 4, [(0, (0, 5, 0, 0, 1, 0, [])), (1, (0, 3, 1, 0, 2, 0, [])), (2, (16, 0, 0, 0, 5, 0, [])), (5, (0, 8, 3, 0, 6, 0, [])), (6, (0, 3, 2, 0, 7, 0, [])), (7, (1, 2, 0, 0, 10, 16, [])), (10, (0, 3, 2, 0, 11, 0, [])), (11, (0, 0, 0, 1000000000, 13, 0, [])), (13, (2, 2, 0, 0, 16, 26, [])), (16, (17, 0, 0, 0, 0, 0, [])), (26, (0, 5, 0, 0, 27, 0, [])), (27, (7, 15, 6, 0, 30, 0, [])), (30, (0, 1, 0, 1000000000, 33, 0, [])), (33, (16, 1, 0, 0, 36, 0, [])), (36, (0, 5, 0, 0, 37, 0, [])), (37, (7, 15, 5, 0, 40, 0, [])), (40, (0, 5, 3, 0, 41, 0, [])), (41, (0, 5, 0, 0, 42, 0, [])), (42, (7, 15, 6, 0, 45, 0, [])), (45, (16, 2, 0, 0, 48, 0, [])), (48, (0, 5, 0, 0, 49, 0, [])), (49, (7, 15, 6, 0, 52, 0, [])), (52, (0, 3, 2, 0, 53, 0, [])), (53, (0, 19, 0, 0, 54, 0, [])), (54, (16, 1, 0, 0, 57, 0, [])), (57, (0, 5, 0, 0, 58, 0, [])), (58, (7, 15, 5, 0, 61, 0, [])), (61, (0, 5, 0, 0, 62, 0, [])), (62, (7, 15, 5, 0, 65, 0, [])), (65, (0, 5, 0, 0, 66, 0, [])), (66, (7, 15, 6, 0, 69, 0, [])), (69, (16, 3, 0, 0, 72, 0, [])), (72, (0, 5, 0, 0, 73, 0, [])), (73, (0, 5, 3, 0, 74, 0, [])), (74, (0, 5, 0, 0, 75, 0, [])), (75, (7, 15, 5, 0, 78, 0, [])), (78, (16, 4, 0, 0, 81, 0, [])), (81, (14, 0, 0, 0, 0, 0, []))], [(some 15, 2, []), (some 7, 2, []), (some 7, 3, []), (some 7, 3, []), (some 15, 3, [])], [], [], [])
theorem gd_yX10_lengthen_X : ck_dec prog_1_method_4_code gt_yX10_lengthen_X ge_yX10_lengthen_X.2.2.2.2.1 = true := by decide +kernel
theorem gh_yX10_lengthen_X {l : Launch} {G : am_G} {X : ck_XT} (g : gM l G X) {a : List Value} {h : List am_C} {mc ms : Nat} {Post : am_O → List am_C → Prop} (hay : (am_lay a).length ≤ 4) (H : ∀ (S : ck_SS) (SX : Nat → ck_SX), ck_hs G S SX Post mc ms (ck_cms [am_cm l G yX10_numberAt (.code yX10_numberAt prog_1_method_62_code 2 (some (.object "Clockhouse$Big"))) 6 90, am_cm l G yX0_becomeLong (.code yX0_becomeLong prog_2_method_8_code 6 none) 2 42, am_cm l G yX0_becomeProduct (.code yX0_becomeProduct prog_2_method_12_code 9 none) 2 42, am_cm l G yX0_becomeSum (.code yX0_becomeSum prog_2_method_10_code 4 none) 3 68, am_cm l G yX10_putNumber (.code yX10_putNumber prog_1_method_68_code 3 (some .int)) 6 123]) ge_yX10_lengthen_X → (∀ pc, ck_sR G S pc) → ck_hw S → zw_hx SX Post mc ms → S 0 (am_ent a 4) [] h 0 0) : am_M l G yX10_lengthen (.code yX10_lengthen prog_1_method_4_code 4 (some .int)) 7 145 mc ms a h Post :=
  zw_handX (E := ge_yX10_lengthen_X) (tb := gt_yX10_lengthen_X) (init := false) (cm := (ck_cms [am_cm l G yX10_numberAt (.code yX10_numberAt prog_1_method_62_code 2 (some (.object "Clockhouse$Big"))) 6 90, am_cm l G yX0_becomeLong (.code yX0_becomeLong prog_2_method_8_code 6 none) 2 42, am_cm l G yX0_becomeProduct (.code yX0_becomeProduct prog_2_method_12_code 9 none) 2 42, am_cm l G yX0_becomeSum (.code yX0_becomeSum prog_2_method_10_code 4 none) 3 68, am_cm l G yX10_putNumber (.code yX10_putNumber prog_1_method_68_code 3 (some .int)) 6 123])) g.1.1 (by decide +kernel) rfl gd_yX10_lengthen_X ⟨(List.forall_mem_cons.mpr ⟨ck_cst (by decide +kernel) w1248, (List.forall_mem_nil _)⟩), (List.forall_mem_cons.mpr ⟨ck_csl (by decide +kernel) w1250, (List.forall_mem_nil _)⟩), (List.forall_mem_nil _), (List.forall_mem_cons.mpr ⟨⟨⟨_, _, _, rfl, Or.inl w358⟩, by decide, _, _, g_fd15_5⟩, (List.forall_mem_cons.mpr ⟨⟨⟨_, _, _, rfl, Or.inl w359⟩, by decide, _, _, g_fd15_6⟩, (List.forall_mem_nil _)⟩)⟩), (List.forall_mem_nil _), (List.forall_mem_nil _), (List.forall_mem_nil _), (List.forall_mem_nil _)⟩ (List.forall_mem_nil _) (fun h => nomatch h) ⟨_, rfl, rfl⟩ (by decide) (by decide) g_oi g_ar
    (fun s hk _ => (List.forall_mem_nil _)) (fun s hk => (List.forall_mem_nil _))
    (List.forall_mem_cons.mpr ⟨(ck_kV g_y_yX10_numberAt w1040 w1042 w17 (T := TX10) (N := 13) rfl (by decide) (by decide) (by decide)), (List.forall_mem_cons.mpr ⟨(ck_kV g_y_yX0_becomeLong w461 w462 w463 (T := TX0) (N := 3) rfl (by decide) (by decide) (by decide)), (List.forall_mem_cons.mpr ⟨(ck_kV g_y_yX0_becomeProduct w1018 w1019 w1020 (T := TX0) (N := 3) rfl (by decide) (by decide) (by decide)), (List.forall_mem_cons.mpr ⟨(ck_kV g_y_yX0_becomeSum w946 w947 w948 (T := TX0) (N := 3) rfl (by decide) (by decide) (by decide)), (List.forall_mem_cons.mpr ⟨(ck_kV g_y_yX10_putNumber w1251 w1253 w25 (T := TX10) (N := 13) rfl (by decide) (by decide) (by decide)), (List.forall_mem_nil _)⟩)⟩)⟩)⟩)⟩) (List.forall_mem_nil _) (List.forall_mem_nil _) (List.forall_mem_nil _)
    (List.forall_mem_cons.mpr ⟨(fun Ex hE => by
      have hE : (some "java/lang/IllegalArgumentException" : Option String) = some Ex := hE
      cases hE
      exact ck_zS (names := g_sup) (ik := 75) (is := 99) (ic := 79) (by decide +kernel) g_sup_fit w1104 w104 (List.mem_of_getElem? (i := 5) rfl) g_at_1 g_ot_1 (by decide +kernel) (by decide +kernel) (by decide +kernel) (by decide +kernel) (by decide +kernel) (by decide) (by decide)), (List.forall_mem_nil _)⟩) hay H
def gt_yX10_plus_X : ck_TB := ([], [], [], [(26, 15, 5)], [], [], [], [], ([(86, 0), (107, 1), (110, 2)], [], [], []), [], [], [], 0)
def ge_yX10_plus_X : ck_E := (gT, [], (([], [], [], 0, []), ((0, []), (0, [])), [], [], ([], [], [], 0, []), []), 5, [(0, (0, 5, 0, 0, 1, 0, [])), (1, (0, 3, 1, 0, 2, 0, [])), (2, (16, 0, 0, 0, 5, 0, [])), (5, (0, 8, 3, 0, 6, 0, [])), (6, (0, 5, 0, 0, 7, 0, [])), (7, (0, 3, 2, 0, 8, 0, [])), (8, (16, 0, 0, 0, 11, 0, [])), (11, (0, 8, 4, 0, 13, 0, [])), (13, (0, 5, 0, 0, 14, 0, [])), (14, (7, 15, 5, 0, 17, 0, [])), (17, (0, 5, 3, 0, 18, 0, [])), (18, (0, 5, 4, 0, 20, 0, [])), (20, (16, 1, 0, 0, 23, 0, [])), (23, (0, 5, 0, 0, 24, 0, [])), (24, (0, 5, 3, 0, 25, 0, [])), (25, (0, 5, 0, 0, 26, 0, [])), (26, (7, 15, 5, 0, 29, 0, [])), (29, (16, 2, 0, 0, 32, 0, [])), (32, (14, 0, 0, 0, 0, 0, []))], [(some 15, 2, []), (some 7, 3, []), (some 15, 3, [])], [], [], [])
theorem gd_yX10_plus_X : ck_dec prog_1_method_5_code gt_yX10_plus_X ge_yX10_plus_X.2.2.2.2.1 = true := by decide +kernel
theorem gh_yX10_plus_X {l : Launch} {G : am_G} {X : ck_XT} (g : gM l G X) {a : List Value} {h : List am_C} {mc ms : Nat} {Post : am_O → List am_C → Prop} (hay : (am_lay a).length ≤ 5) (H : ∀ (S : ck_SS) (SX : Nat → ck_SX), ck_hs G S SX Post mc ms (ck_cms [am_cm l G yX10_numberAt (.code yX10_numberAt prog_1_method_62_code 2 (some (.object "Clockhouse$Big"))) 6 90, am_cm l G yX0_becomeSum (.code yX0_becomeSum prog_2_method_10_code 4 none) 3 68, am_cm l G yX10_putNumber (.code yX10_putNumber prog_1_method_68_code 3 (some .int)) 6 123]) ge_yX10_plus_X → (∀ pc, ck_sR G S pc) → ck_hw S → zw_hx SX Post mc ms → S 0 (am_ent a 5) [] h 0 0) : am_M l G yX10_plus (.code yX10_plus prog_1_method_5_code 5 (some .int)) 7 145 mc ms a h Post :=
  zw_handX (E := ge_yX10_plus_X) (tb := gt_yX10_plus_X) (init := false) (cm := (ck_cms [am_cm l G yX10_numberAt (.code yX10_numberAt prog_1_method_62_code 2 (some (.object "Clockhouse$Big"))) 6 90, am_cm l G yX0_becomeSum (.code yX0_becomeSum prog_2_method_10_code 4 none) 3 68, am_cm l G yX10_putNumber (.code yX10_putNumber prog_1_method_68_code 3 (some .int)) 6 123])) g.1.1 (by decide +kernel) rfl gd_yX10_plus_X ⟨(List.forall_mem_nil _), (List.forall_mem_nil _), (List.forall_mem_nil _), (List.forall_mem_cons.mpr ⟨⟨⟨_, _, _, rfl, Or.inl w358⟩, by decide, _, _, g_fd15_5⟩, (List.forall_mem_nil _)⟩), (List.forall_mem_nil _), (List.forall_mem_nil _), (List.forall_mem_nil _), (List.forall_mem_nil _)⟩ (List.forall_mem_nil _) (fun h => nomatch h) ⟨_, rfl, rfl⟩ (by decide) (by decide) g_oi g_ar
    (fun s hk _ => (List.forall_mem_nil _)) (fun s hk => (List.forall_mem_nil _))
    (List.forall_mem_cons.mpr ⟨(ck_kV g_y_yX10_numberAt w1040 w1042 w17 (T := TX10) (N := 13) rfl (by decide) (by decide) (by decide)), (List.forall_mem_cons.mpr ⟨(ck_kV g_y_yX0_becomeSum w946 w947 w948 (T := TX0) (N := 3) rfl (by decide) (by decide) (by decide)), (List.forall_mem_cons.mpr ⟨(ck_kV g_y_yX10_putNumber w1251 w1253 w25 (T := TX10) (N := 13) rfl (by decide) (by decide) (by decide)), (List.forall_mem_nil _)⟩)⟩)⟩) (List.forall_mem_nil _) (List.forall_mem_nil _) (List.forall_mem_nil _)
    (List.forall_mem_nil _) hay H
def gt_yX10_times_X : ck_TB := ([], [], [], [(26, 15, 5)], [], [], [], [], ([(86, 0), (103, 1), (110, 2)], [], [], []), [], [], [], 0)
def ge_yX10_times_X : ck_E := (gT, [], (([], [], [], 0, []), ((0, []), (0, [])), [], [], ([], [], [], 0, []), []), 5, [(0, (0, 5, 0, 0, 1, 0, [])), (1, (0, 3, 1, 0, 2, 0, [])), (2, (16, 0, 0, 0, 5, 0, [])), (5, (0, 8, 3, 0, 6, 0, [])), (6, (0, 5, 0, 0, 7, 0, [])), (7, (0, 3, 2, 0, 8, 0, [])), (8, (16, 0, 0, 0, 11, 0, [])), (11, (0, 8, 4, 0, 13, 0, [])), (13, (0, 5, 0, 0, 14, 0, [])), (14, (7, 15, 5, 0, 17, 0, [])), (17, (0, 5, 3, 0, 18, 0, [])), (18, (0, 5, 4, 0, 20, 0, [])), (20, (16, 1, 0, 0, 23, 0, [])), (23, (0, 5, 0, 0, 24, 0, [])), (24, (0, 5, 3, 0, 25, 0, [])), (25, (0, 5, 0, 0, 26, 0, [])), (26, (7, 15, 5, 0, 29, 0, [])), (29, (16, 2, 0, 0, 32, 0, [])), (32, (14, 0, 0, 0, 0, 0, []))], [(some 15, 2, []), (some 7, 3, []), (some 15, 3, [])], [], [], [])
theorem gd_yX10_times_X : ck_dec prog_1_method_6_code gt_yX10_times_X ge_yX10_times_X.2.2.2.2.1 = true := by decide +kernel
theorem gh_yX10_times_X {l : Launch} {G : am_G} {X : ck_XT} (g : gM l G X) {a : List Value} {h : List am_C} {mc ms : Nat} {Post : am_O → List am_C → Prop} (hay : (am_lay a).length ≤ 5) (H : ∀ (S : ck_SS) (SX : Nat → ck_SX), ck_hs G S SX Post mc ms (ck_cms [am_cm l G yX10_numberAt (.code yX10_numberAt prog_1_method_62_code 2 (some (.object "Clockhouse$Big"))) 6 90, am_cm l G yX0_becomeProduct (.code yX0_becomeProduct prog_2_method_12_code 9 none) 2 42, am_cm l G yX10_putNumber (.code yX10_putNumber prog_1_method_68_code 3 (some .int)) 6 123]) ge_yX10_times_X → (∀ pc, ck_sR G S pc) → ck_hw S → zw_hx SX Post mc ms → S 0 (am_ent a 5) [] h 0 0) : am_M l G yX10_times (.code yX10_times prog_1_method_6_code 5 (some .int)) 7 145 mc ms a h Post :=
  zw_handX (E := ge_yX10_times_X) (tb := gt_yX10_times_X) (init := false) (cm := (ck_cms [am_cm l G yX10_numberAt (.code yX10_numberAt prog_1_method_62_code 2 (some (.object "Clockhouse$Big"))) 6 90, am_cm l G yX0_becomeProduct (.code yX0_becomeProduct prog_2_method_12_code 9 none) 2 42, am_cm l G yX10_putNumber (.code yX10_putNumber prog_1_method_68_code 3 (some .int)) 6 123])) g.1.1 (by decide +kernel) rfl gd_yX10_times_X ⟨(List.forall_mem_nil _), (List.forall_mem_nil _), (List.forall_mem_nil _), (List.forall_mem_cons.mpr ⟨⟨⟨_, _, _, rfl, Or.inl w358⟩, by decide, _, _, g_fd15_5⟩, (List.forall_mem_nil _)⟩), (List.forall_mem_nil _), (List.forall_mem_nil _), (List.forall_mem_nil _), (List.forall_mem_nil _)⟩ (List.forall_mem_nil _) (fun h => nomatch h) ⟨_, rfl, rfl⟩ (by decide) (by decide) g_oi g_ar
    (fun s hk _ => (List.forall_mem_nil _)) (fun s hk => (List.forall_mem_nil _))
    (List.forall_mem_cons.mpr ⟨(ck_kV g_y_yX10_numberAt w1040 w1042 w17 (T := TX10) (N := 13) rfl (by decide) (by decide) (by decide)), (List.forall_mem_cons.mpr ⟨(ck_kV g_y_yX0_becomeProduct w1018 w1019 w1020 (T := TX0) (N := 3) rfl (by decide) (by decide) (by decide)), (List.forall_mem_cons.mpr ⟨(ck_kV g_y_yX10_putNumber w1251 w1253 w25 (T := TX10) (N := 13) rfl (by decide) (by decide) (by decide)), (List.forall_mem_nil _)⟩)⟩)⟩) (List.forall_mem_nil _) (List.forall_mem_nil _) (List.forall_mem_nil _)
    (List.forall_mem_nil _) hay H
def gt_yX10_negate_X : ck_TB := ([], [], [], [(10, 15, 0), (19, 15, 1), (114, 7, 2)], [(114, 7, 2, 0)], [], [], [], ([(82, 1), (86, 0)], [], [], []), [], [], [], 0)
def ge_yX10_negate_X : ck_E := (gT, [], (([], [], [], 0, []), ((0, []), (0, [])), [], [], ([], [], [], 0, []), []), 3, [(0, (0, 5, 0, 0, 1, 0, [])), (1, (0, 3, 1, 0, 2, 0, [])), (2, (16, 0, 0, 0, 5, 0, [])), (5, (0, 8, 2, 0, 6, 0, [])), (6, (0, 5, 0, 0, 7, 0, [])), (7, (7, 15, 1, 0, 10, 0, [])), (10, (0, 5, 0, 0, 11, 0, [])), (11, (7, 15, 0, 0, 14, 0, [])), (14, (16, 1, 0, 0, 17, 0, [])), (17, (0, 5, 2, 0, 18, 0, [])), (18, (0, 5, 2, 0, 19, 0, [])), (19, (7, 7, 2, 0, 22, 0, [])), (22, (0, 17, 0, 0, 23, 0, [])), (23, (8, 7, 2, 0, 26, 0, [])), (26, (0, 5, 2, 0, 27, 0, [])), (27, (7, 7, 2, 0, 30, 0, [])), (30, (14, 0, 0, 0, 0, 0, []))], [(some 15, 2, []), (some 12, 2, [])], [], [], [])
theorem gd_yX10_negate_X : ck_dec prog_1_method_7_code gt_yX10_negate_X ge_yX10_negate_X.2.2.2.2.1 = true := by decide +kernel
theorem gh_yX10_negate_X {l : Launch} {G : am_G} {X : ck_XT} (g : gM l G X) {a : List Value} {h : List am_C} {mc ms : Nat} {Post : am_O → List am_C → Prop} (hay : (am_lay a).length ≤ 3) (H : ∀ (S : ck_SS) (SX : Nat → ck_SX), ck_hs G S SX Post mc ms (ck_cms [am_cm l G yX10_numberAt (.code yX10_numberAt prog_1_method_62_code 2 (some (.object "Clockhouse$Big"))) 6 90, am_cm l G yX5_keep (.code yX5_keep prog_7_method_2_code 2 none) 4 102]) ge_yX10_negate_X → (∀ pc, ck_sR G S pc) → ck_hw S → zw_hx SX Post mc ms → S 0 (am_ent a 3) [] h 0 0) : am_M l G yX10_negate (.code yX10_negate prog_1_method_7_code 3 (some .int)) 7 123 mc ms a h Post :=
  zw_handX (E := ge_yX10_negate_X) (tb := gt_yX10_negate_X) (init := false) (cm := (ck_cms [am_cm l G yX10_numberAt (.code yX10_numberAt prog_1_method_62_code 2 (some (.object "Clockhouse$Big"))) 6 90, am_cm l G yX5_keep (.code yX5_keep prog_7_method_2_code 2 none) 4 102])) g.1.1 (by decide +kernel) rfl gd_yX10_negate_X ⟨(List.forall_mem_nil _), (List.forall_mem_nil _), (List.forall_mem_nil _), (List.forall_mem_cons.mpr ⟨⟨⟨_, _, _, rfl, Or.inl w353⟩, by decide, _, _, g_fd15_0⟩, (List.forall_mem_cons.mpr ⟨⟨⟨_, _, _, rfl, Or.inl w354⟩, by decide, _, _, g_fd15_1⟩, (List.forall_mem_cons.mpr ⟨⟨⟨_, _, _, rfl, Or.inr (Or.inl ⟨_, w152⟩)⟩, by decide, _, _, g_fd7_2⟩, (List.forall_mem_nil _)⟩)⟩)⟩), (List.forall_mem_nil _), (List.forall_mem_nil _), (List.forall_mem_nil _), (List.forall_mem_nil _)⟩ (List.forall_mem_cons.mpr ⟨⟨⟨_, _, _, rfl, Or.inr (Or.inl ⟨_, w152⟩)⟩, by decide, _, rfl, Or.inl g_fd7_2⟩, (List.forall_mem_nil _)⟩) (fun h => nomatch h) ⟨_, rfl, rfl⟩ (by decide) (by decide) g_oi g_ar
    (fun s hk _ => (List.forall_mem_nil _)) (fun s hk => (List.forall_mem_nil _))
    (List.forall_mem_cons.mpr ⟨(ck_kV g_y_yX5_keep w1222 w1223 w1224 (T := TX5) (N := 3) rfl (by decide) (by decide) (by decide)), (List.forall_mem_cons.mpr ⟨(ck_kV g_y_yX10_numberAt w1040 w1042 w17 (T := TX10) (N := 13) rfl (by decide) (by decide) (by decide)), (List.forall_mem_nil _)⟩)⟩) (List.forall_mem_nil _) (List.forall_mem_nil _) (List.forall_mem_nil _)
    (List.forall_mem_nil _) hay H
def gt_yX10_reduce_X : ck_TB := ([], [], [], [], [], [], [], [], ([(86, 0), (117, 1), (121, 2)], [], [], []), [], [], [], 0)
def ge_yX10_reduce_X : ck_E := (gT, [], (([], [], [], 0, []), ((0, []), (0, [])), [], [], ([], [], [], 0, []), []), 2, [(0, (0, 5, 0, 0, 1, 0, [])), (1, (0, 5, 0, 0, 2, 0, [])), (2, (0, 3, 1, 0, 3, 0, [])), (3, (16, 0, 0, 0, 6, 0, [])), (6, (0, 5, 0, 0, 7, 0, [])), (7, (0, 3, 1, 0, 8, 0, [])), (8, (16, 1, 0, 0, 11, 0, [])), (11, (16, 2, 0, 0, 14, 0, [])), (14, (14, 0, 0, 0, 0, 0, []))], [(some 15, 2, []), (some 15, 2, []), (some 15, 3, [])], [], [], [])
theorem gd_yX10_reduce_X : ck_dec prog_1_method_8_code gt_yX10_reduce_X ge_yX10_reduce_X.2.2.2.2.1 = true := by decide +kernel
theorem gh_yX10_reduce_X {l : Launch} {G : am_G} {X : ck_XT} (g : gM l G X) {a : List Value} {h : List am_C} {mc ms : Nat} {Post : am_O → List am_C → Prop} (hay : (am_lay a).length ≤ 2) (H : ∀ (S : ck_SS) (SX : Nat → ck_SX), ck_hs G S SX Post mc ms (ck_cms [am_cm l G yX10_numberAt (.code yX10_numberAt prog_1_method_62_code 2 (some (.object "Clockhouse$Big"))) 6 90, am_cm l G yX10_mod (.code yX10_mod prog_1_method_27_code 3 (some .int)) 7 111, am_cm l G yX10_putRound (.code yX10_putRound prog_1_method_69_code 3 (some .int)) 5 123]) ge_yX10_reduce_X → (∀ pc, ck_sR G S pc) → ck_hw S → zw_hx SX Post mc ms → S 0 (am_ent a 2) [] h 0 0) : am_M l G yX10_reduce (.code yX10_reduce prog_1_method_8_code 2 (some .int)) 8 145 mc ms a h Post :=
  zw_handX (E := ge_yX10_reduce_X) (tb := gt_yX10_reduce_X) (init := false) (cm := (ck_cms [am_cm l G yX10_numberAt (.code yX10_numberAt prog_1_method_62_code 2 (some (.object "Clockhouse$Big"))) 6 90, am_cm l G yX10_mod (.code yX10_mod prog_1_method_27_code 3 (some .int)) 7 111, am_cm l G yX10_putRound (.code yX10_putRound prog_1_method_69_code 3 (some .int)) 5 123])) g.1.1 (by decide +kernel) rfl gd_yX10_reduce_X ⟨(List.forall_mem_nil _), (List.forall_mem_nil _), (List.forall_mem_nil _), (List.forall_mem_nil _), (List.forall_mem_nil _), (List.forall_mem_nil _), (List.forall_mem_nil _), (List.forall_mem_nil _)⟩ (List.forall_mem_nil _) (fun h => nomatch h) ⟨_, rfl, rfl⟩ (by decide) (by decide) g_oi g_ar
    (fun s hk _ => (List.forall_mem_nil _)) (fun s hk => (List.forall_mem_nil _))
    (List.forall_mem_cons.mpr ⟨(ck_kV g_y_yX10_numberAt w1040 w1042 w17 (T := TX10) (N := 13) rfl (by decide) (by decide) (by decide)), (List.forall_mem_cons.mpr ⟨(ck_kV g_y_yX10_mod w1061 w1062 w1063 (T := TX10) (N := 13) rfl (by decide) (by decide) (by decide)), (List.forall_mem_cons.mpr ⟨(ck_kV g_y_yX10_putRound w1300 w1302 w26 (T := TX10) (N := 13) rfl (by decide) (by decide) (by decide)), (List.forall_mem_nil _)⟩)⟩)⟩) (List.forall_mem_nil _) (List.forall_mem_nil _) (List.forall_mem_nil _)
    (List.forall_mem_nil _) hay H
def gt_yX10_roundPlus_X : ck_TB := ([], [], [], [(10, 15, 0), (71, 14, 0)], [], [], [], [], ([(86, 0), (121, 2), (125, 1)], [], [], []), [], [], [], 0)
def ge_yX10_roundPlus_X : ck_E := (gT, [], (([], [], [], 0, []), ((0, []), (0, [])), [], [], ([], [], [], 0, []), []), 6, [(0, (0, 5, 0, 0, 1, 0, [])), (1, (0, 3, 1, 0, 2, 0, [])), (2, (16, 0, 0, 0, 5, 0, [])), (5, (0, 8, 3, 0, 6, 0, [])), (6, (0, 5, 0, 0, 7, 0, [])), (7, (0, 3, 2, 0, 8, 0, [])), (8, (16, 0, 0, 0, 11, 0, [])), (11, (0, 8, 4, 0, 13, 0, [])), (13, (0, 5, 0, 0, 14, 0, [])), (14, (7, 15, 0, 0, 17, 0, [])), (17, (7, 14, 0, 0, 20, 0, [])), (20, (0, 6, 5, 0, 22, 0, [])), (22, (0, 5, 0, 0, 23, 0, [])), (23, (0, 5, 3, 0, 24, 0, [])), (24, (0, 3, 5, 0, 26, 0, [])), (26, (1, 4, 0, 0, 29, 34, [])), (29, (0, 0, 0, (-9), 31, 0, [])), (31, (3, 0, 0, 0, 0, 51, [])), (34, (0, 5, 3, 0, 35, 0, [])), (35, (0, 3, 5, 0, 37, 0, [])), (37, (16, 1, 0, 0, 40, 0, [])), (40, (0, 5, 4, 0, 42, 0, [])), (42, (0, 3, 5, 0, 44, 0, [])), (44, (16, 1, 0, 0, 47, 0, [])), (47, (0, 15, 0, 0, 48, 0, [])), (48, (0, 3, 5, 0, 50, 0, [])), (50, (0, 15, 4, 0, 51, 0, [])), (51, (16, 2, 0, 0, 54, 0, [])), (54, (14, 0, 0, 0, 0, 0, []))], [(some 15, 2, []), (some 7, 2, []), (some 15, 3, [])], [], [], [])
theorem gd_yX10_roundPlus_X : ck_dec prog_1_method_9_code gt_yX10_roundPlus_X ge_yX10_roundPlus_X.2.2.2.2.1 = true := by decide +kernel
theorem gh_yX10_roundPlus_X {l : Launch} {G : am_G} {X : ck_XT} (g : gM l G X) {a : List Value} {h : List am_C} {mc ms : Nat} {Post : am_O → List am_C → Prop} (hay : (am_lay a).length ≤ 6) (H : ∀ (S : ck_SS) (SX : Nat → ck_SX), ck_hs G S SX Post mc ms (ck_cms [am_cm l G yX10_numberAt (.code yX10_numberAt prog_1_method_62_code 2 (some (.object "Clockhouse$Big"))) 6 90, am_cm l G yX0_restBy (.code yX0_restBy prog_2_method_15_code 5 (some .int)) 2 41, am_cm l G yX10_putRound (.code yX10_putRound prog_1_method_69_code 3 (some .int)) 5 123]) ge_yX10_roundPlus_X → (∀ pc, ck_sR G S pc) → ck_hw S → zw_hx SX Post mc ms → S 0 (am_ent a 6) [] h 0 0) : am_M l G yX10_roundPlus (.code yX10_roundPlus prog_1_method_9_code 6 (some .int)) 7 145 mc ms a h Post :=
  zw_handX (E := ge_yX10_roundPlus_X) (tb := gt_yX10_roundPlus_X) (init := false) (cm := (ck_cms [am_cm l G yX10_numberAt (.code yX10_numberAt prog_1_method_62_code 2 (some (.object "Clockhouse$Big"))) 6 90, am_cm l G yX0_restBy (.code yX0_restBy prog_2_method_15_code 5 (some .int)) 2 41, am_cm l G yX10_putRound (.code yX10_putRound prog_1_method_69_code 3 (some .int)) 5 123])) g.1.1 (by decide +kernel) rfl gd_yX10_roundPlus_X ⟨(List.forall_mem_nil _), (List.forall_mem_nil _), (List.forall_mem_nil _), (List.forall_mem_cons.mpr ⟨⟨⟨_, _, _, rfl, Or.inl w353⟩, by decide, _, _, g_fd15_0⟩, (List.forall_mem_cons.mpr ⟨⟨⟨_, _, _, rfl, Or.inr (Or.inl ⟨_, w161⟩)⟩, by decide, _, _, g_fd14_0⟩, (List.forall_mem_nil _)⟩)⟩), (List.forall_mem_nil _), (List.forall_mem_nil _), (List.forall_mem_nil _), (List.forall_mem_nil _)⟩ (List.forall_mem_nil _) (fun h => nomatch h) ⟨_, rfl, rfl⟩ (by decide) (by decide) g_oi g_ar
    (fun s hk _ => (List.forall_mem_nil _)) (fun s hk => (List.forall_mem_nil _))
    (List.forall_mem_cons.mpr ⟨(ck_kV g_y_yX10_numberAt w1040 w1042 w17 (T := TX10) (N := 13) rfl (by decide) (by decide) (by decide)), (List.forall_mem_cons.mpr ⟨(ck_kV g_y_yX10_putRound w1300 w1302 w26 (T := TX10) (N := 13) rfl (by decide) (by decide) (by decide)), (List.forall_mem_cons.mpr ⟨(ck_kV g_y_yX0_restBy w892 w893 w894 (T := TX0) (N := 3) rfl (by decide) (by decide) (by decide)), (List.forall_mem_nil _)⟩)⟩)⟩) (List.forall_mem_nil _) (List.forall_mem_nil _) (List.forall_mem_nil _)
    (List.forall_mem_nil _) hay H
def gt_yX10_roundTimes_X : ck_TB := ([], [], [], [(10, 15, 0), (71, 14, 0)], [], [], [], [], ([(86, 0), (121, 2), (125, 1)], [], [], []), [], [], [], 0)
def ge_yX10_roundTimes_X : ck_E := (gT, [], (([], [], [], 0, []), ((0, []), (0, [])), [], [], ([], [], [], 0, []), []), 6, [(0, (0, 5, 0, 0, 1, 0, [])), (1, (0, 3, 1, 0, 2, 0, [])), (2, (16, 0, 0, 0, 5, 0, [])), (5, (0, 8, 3, 0, 6, 0, [])), (6, (0, 5, 0, 0, 7, 0, [])), (7, (0, 3, 2, 0, 8, 0, [])), (8, (16, 0, 0, 0, 11, 0, [])), (11, (0, 8, 4, 0, 13, 0, [])), (13, (0, 5, 0, 0, 14, 0, [])), (14, (7, 15, 0, 0, 17, 0, [])), (17, (7, 14, 0, 0, 20, 0, [])), (20, (0, 6, 5, 0, 22, 0, [])), (22, (0, 5, 0, 0, 23, 0, [])), (23, (0, 5, 3, 0, 24, 0, [])), (24, (0, 3, 5, 0, 26, 0, [])), (26, (1, 4, 0, 0, 29, 34, [])), (29, (0, 0, 0, (-9), 31, 0, [])), (31, (3, 0, 0, 0, 0, 51, [])), (34, (0, 5, 3, 0, 35, 0, [])), (35, (0, 3, 5, 0, 37, 0, [])), (37, (16, 1, 0, 0, 40, 0, [])), (40, (0, 5, 4, 0, 42, 0, [])), (42, (0, 3, 5, 0, 44, 0, [])), (44, (16, 1, 0, 0, 47, 0, [])), (47, (0, 15, 2, 0, 48, 0, [])), (48, (0, 3, 5, 0, 50, 0, [])), (50, (0, 15, 4, 0, 51, 0, [])), (51, (16, 2, 0, 0, 54, 0, [])), (54, (14, 0, 0, 0, 0, 0, []))], [(some 15, 2, []), (some 7, 2, []), (some 15, 3, [])], [], [], [])
theorem gd_yX10_roundTimes_X : ck_dec prog_1_method_10_code gt_yX10_roundTimes_X ge_yX10_roundTimes_X.2.2.2.2.1 = true := by decide +kernel
theorem gh_yX10_roundTimes_X {l : Launch} {G : am_G} {X : ck_XT} (g : gM l G X) {a : List Value} {h : List am_C} {mc ms : Nat} {Post : am_O → List am_C → Prop} (hay : (am_lay a).length ≤ 6) (H : ∀ (S : ck_SS) (SX : Nat → ck_SX), ck_hs G S SX Post mc ms (ck_cms [am_cm l G yX10_numberAt (.code yX10_numberAt prog_1_method_62_code 2 (some (.object "Clockhouse$Big"))) 6 90, am_cm l G yX0_restBy (.code yX0_restBy prog_2_method_15_code 5 (some .int)) 2 41, am_cm l G yX10_putRound (.code yX10_putRound prog_1_method_69_code 3 (some .int)) 5 123]) ge_yX10_roundTimes_X → (∀ pc, ck_sR G S pc) → ck_hw S → zw_hx SX Post mc ms → S 0 (am_ent a 6) [] h 0 0) : am_M l G yX10_roundTimes (.code yX10_roundTimes prog_1_method_10_code 6 (some .int)) 7 145 mc ms a h Post :=
  zw_handX (E := ge_yX10_roundTimes_X) (tb := gt_yX10_roundTimes_X) (init := false) (cm := (ck_cms [am_cm l G yX10_numberAt (.code yX10_numberAt prog_1_method_62_code 2 (some (.object "Clockhouse$Big"))) 6 90, am_cm l G yX0_restBy (.code yX0_restBy prog_2_method_15_code 5 (some .int)) 2 41, am_cm l G yX10_putRound (.code yX10_putRound prog_1_method_69_code 3 (some .int)) 5 123])) g.1.1 (by decide +kernel) rfl gd_yX10_roundTimes_X ⟨(List.forall_mem_nil _), (List.forall_mem_nil _), (List.forall_mem_nil _), (List.forall_mem_cons.mpr ⟨⟨⟨_, _, _, rfl, Or.inl w353⟩, by decide, _, _, g_fd15_0⟩, (List.forall_mem_cons.mpr ⟨⟨⟨_, _, _, rfl, Or.inr (Or.inl ⟨_, w161⟩)⟩, by decide, _, _, g_fd14_0⟩, (List.forall_mem_nil _)⟩)⟩), (List.forall_mem_nil _), (List.forall_mem_nil _), (List.forall_mem_nil _), (List.forall_mem_nil _)⟩ (List.forall_mem_nil _) (fun h => nomatch h) ⟨_, rfl, rfl⟩ (by decide) (by decide) g_oi g_ar
    (fun s hk _ => (List.forall_mem_nil _)) (fun s hk => (List.forall_mem_nil _))
    (List.forall_mem_cons.mpr ⟨(ck_kV g_y_yX10_numberAt w1040 w1042 w17 (T := TX10) (N := 13) rfl (by decide) (by decide) (by decide)), (List.forall_mem_cons.mpr ⟨(ck_kV g_y_yX10_putRound w1300 w1302 w26 (T := TX10) (N := 13) rfl (by decide) (by decide) (by decide)), (List.forall_mem_cons.mpr ⟨(ck_kV g_y_yX0_restBy w892 w893 w894 (T := TX0) (N := 3) rfl (by decide) (by decide) (by decide)), (List.forall_mem_nil _)⟩)⟩)⟩) (List.forall_mem_nil _) (List.forall_mem_nil _) (List.forall_mem_nil _)
    (List.forall_mem_nil _) hay H
def gt_yX10_roundPower_X : ck_TB := ([], [], [], [], [], [], [], [], ([(86, 0), (121, 2), (128, 1)], [], [], []), [], [], [], 0)
def ge_yX10_roundPower_X : ck_E := (gT, [], (([], [], [], 0, []), ((0, []), (0, [])), [], [], ([], [], [], 0, []), []), 3, [(0, (0, 5, 0, 0, 1, 0, [])), (1, (0, 5, 0, 0, 2, 0, [])), (2, (0, 3, 1, 0, 3, 0, [])), (3, (16, 0, 0, 0, 6, 0, [])), (6, (0, 5, 0, 0, 7, 0, [])), (7, (0, 3, 1, 0, 8, 0, [])), (8, (0, 3, 2, 0, 9, 0, [])), (9, (16, 1, 0, 0, 12, 0, [])), (12, (16, 2, 0, 0, 15, 0, [])), (15, (14, 0, 0, 0, 0, 0, []))], [(some 15, 2, []), (some 15, 3, []), (some 15, 3, [])], [], [], [])
theorem gd_yX10_roundPower_X : ck_dec prog_1_method_11_code gt_yX10_roundPower_X ge_yX10_roundPower_X.2.2.2.2.1 = true := by decide +kernel
theorem gh_yX10_roundPower_X {l : Launch} {G : am_G} {X : ck_XT} (g : gM l G X) {a : List Value} {h : List am_C} {mc ms : Nat} {Post : am_O → List am_C → Prop} (hay : (am_lay a).length ≤ 3) (H : ∀ (S : ck_SS) (SX : Nat → ck_SX), ck_hs G S SX Post mc ms (ck_cms [am_cm l G yX10_numberAt (.code yX10_numberAt prog_1_method_62_code 2 (some (.object "Clockhouse$Big"))) 6 90, am_cm l G yX10_power (.code yX10_power prog_1_method_29_code 5 (some .int)) 7 111, am_cm l G yX10_putRound (.code yX10_putRound prog_1_method_69_code 3 (some .int)) 5 123]) ge_yX10_roundPower_X → (∀ pc, ck_sR G S pc) → ck_hw S → zw_hx SX Post mc ms → S 0 (am_ent a 3) [] h 0 0) : am_M l G yX10_roundPower (.code yX10_roundPower prog_1_method_11_code 3 (some .int)) 8 145 mc ms a h Post :=
  zw_handX (E := ge_yX10_roundPower_X) (tb := gt_yX10_roundPower_X) (init := false) (cm := (ck_cms [am_cm l G yX10_numberAt (.code yX10_numberAt prog_1_method_62_code 2 (some (.object "Clockhouse$Big"))) 6 90, am_cm l G yX10_power (.code yX10_power prog_1_method_29_code 5 (some .int)) 7 111, am_cm l G yX10_putRound (.code yX10_putRound prog_1_method_69_code 3 (some .int)) 5 123])) g.1.1 (by decide +kernel) rfl gd_yX10_roundPower_X ⟨(List.forall_mem_nil _), (List.forall_mem_nil _), (List.forall_mem_nil _), (List.forall_mem_nil _), (List.forall_mem_nil _), (List.forall_mem_nil _), (List.forall_mem_nil _), (List.forall_mem_nil _)⟩ (List.forall_mem_nil _) (fun h => nomatch h) ⟨_, rfl, rfl⟩ (by decide) (by decide) g_oi g_ar
    (fun s hk _ => (List.forall_mem_nil _)) (fun s hk => (List.forall_mem_nil _))
    (List.forall_mem_cons.mpr ⟨(ck_kV g_y_yX10_numberAt w1040 w1042 w17 (T := TX10) (N := 13) rfl (by decide) (by decide) (by decide)), (List.forall_mem_cons.mpr ⟨(ck_kV g_y_yX10_putRound w1300 w1302 w26 (T := TX10) (N := 13) rfl (by decide) (by decide) (by decide)), (List.forall_mem_cons.mpr ⟨(ck_kV g_y_yX10_power w1075 w1076 w1077 (T := TX10) (N := 13) rfl (by decide) (by decide) (by decide)), (List.forall_mem_nil _)⟩)⟩)⟩) (List.forall_mem_nil _) (List.forall_mem_nil _) (List.forall_mem_nil _)
    (List.forall_mem_nil _) hay H
def gt_yX10_roundInverse_X : ck_TB := ([], [], [], [], [], [], [], [], ([(86, 0), (121, 2), (132, 1)], [], [], []), [], [], [], 0)
def ge_yX10_roundInverse_X : ck_E := (gT, [], (([], [], [], 0, []), ((0, []), (0, [])), [], [], ([], [], [], 0, []), []), 2, [(0, (0, 5, 0, 0, 1, 0, [])), (1, (0, 5, 0, 0, 2, 0, [])), (2, (0, 3, 1, 0, 3, 0, [])), (3, (16, 0, 0, 0, 6, 0, [])), (6, (0, 5, 0, 0, 7, 0, [])), (7, (0, 3, 1, 0, 8, 0, [])), (8, (16, 1, 0, 0, 11, 0, [])), (11, (16, 2, 0, 0, 14, 0, [])), (14, (14, 0, 0, 0, 0, 0, []))], [(some 15, 2, []), (some 15, 2, []), (some 15, 3, [])], [], [], [])
theorem gd_yX10_roundInverse_X : ck_dec prog_1_method_12_code gt_yX10_roundInverse_X ge_yX10_roundInverse_X.2.2.2.2.1 = true := by decide +kernel
theorem gh_yX10_roundInverse_X {l : Launch} {G : am_G} {X : ck_XT} (g : gM l G X) {a : List Value} {h : List am_C} {mc ms : Nat} {Post : am_O → List am_C → Prop} (hay : (am_lay a).length ≤ 2) (H : ∀ (S : ck_SS) (SX : Nat → ck_SX), ck_hs G S SX Post mc ms (ck_cms [am_cm l G yX10_numberAt (.code yX10_numberAt prog_1_method_62_code 2 (some (.object "Clockhouse$Big"))) 6 90, am_cm l G yX10_inverse (.code yX10_inverse prog_1_method_30_code 3 (some .int)) 7 111, am_cm l G yX10_putRound (.code yX10_putRound prog_1_method_69_code 3 (some .int)) 5 123]) ge_yX10_roundInverse_X → (∀ pc, ck_sR G S pc) → ck_hw S → zw_hx SX Post mc ms → S 0 (am_ent a 2) [] h 0 0) : am_M l G yX10_roundInverse (.code yX10_roundInverse prog_1_method_12_code 2 (some .int)) 8 145 mc ms a h Post :=
  zw_handX (E := ge_yX10_roundInverse_X) (tb := gt_yX10_roundInverse_X) (init := false) (cm := (ck_cms [am_cm l G yX10_numberAt (.code yX10_numberAt prog_1_method_62_code 2 (some (.object "Clockhouse$Big"))) 6 90, am_cm l G yX10_inverse (.code yX10_inverse prog_1_method_30_code 3 (some .int)) 7 111, am_cm l G yX10_putRound (.code yX10_putRound prog_1_method_69_code 3 (some .int)) 5 123])) g.1.1 (by decide +kernel) rfl gd_yX10_roundInverse_X ⟨(List.forall_mem_nil _), (List.forall_mem_nil _), (List.forall_mem_nil _), (List.forall_mem_nil _), (List.forall_mem_nil _), (List.forall_mem_nil _), (List.forall_mem_nil _), (List.forall_mem_nil _)⟩ (List.forall_mem_nil _) (fun h => nomatch h) ⟨_, rfl, rfl⟩ (by decide) (by decide) g_oi g_ar
    (fun s hk _ => (List.forall_mem_nil _)) (fun s hk => (List.forall_mem_nil _))
    (List.forall_mem_cons.mpr ⟨(ck_kV g_y_yX10_numberAt w1040 w1042 w17 (T := TX10) (N := 13) rfl (by decide) (by decide) (by decide)), (List.forall_mem_cons.mpr ⟨(ck_kV g_y_yX10_putRound w1300 w1302 w26 (T := TX10) (N := 13) rfl (by decide) (by decide) (by decide)), (List.forall_mem_cons.mpr ⟨(ck_kV g_y_yX10_inverse w1070 w1071 w1072 (T := TX10) (N := 13) rfl (by decide) (by decide) (by decide)), (List.forall_mem_nil _)⟩)⟩)⟩) (List.forall_mem_nil _) (List.forall_mem_nil _) (List.forall_mem_nil _)
    (List.forall_mem_nil _) hay H
def gt_yX10_tell_X : ck_TB := ([], [], [], [], [], [], [], [], ([(139, 1), (142, 2)], [], [(135, 0)], []), [], [], [], 0)
def ge_yX10_tell_X : ck_E := (gT, [], (([], [], [], 0, []), ((0, []), (0, [])), [], [], ([], [], [], 0, []), []), 3, [(0, (0, 3, 1, 0, 1, 0, [])), (1, (0, 3, 2, 0, 2, 0, [])), (2, (16, 0, 0, 0, 5, 0, [])), (5, (0, 5, 0, 0, 6, 0, [])), (6, (16, 1, 0, 0, 9, 0, [])), (9, (0, 5, 0, 0, 10, 0, [])), (10, (0, 3, 1, 0, 11, 0, [])), (11, (0, 3, 2, 0, 12, 0, [])), (12, (16, 2, 0, 0, 15, 0, [])), (15, (14, 0, 0, 0, 0, 0, []))], [(none, 2, []), (some 15, 1, []), (some 15, 3, [])], [], [], [])
theorem gd_yX10_tell_X : ck_dec prog_1_method_13_code gt_yX10_tell_X ge_yX10_tell_X.2.2.2.2.1 = true := by decide +kernel
theorem gh_yX10_tell_X {l : Launch} {G : am_G} {X : ck_XT} (g : gM l G X) {a : List Value} {h : List am_C} {mc ms : Nat} {Post : am_O → List am_C → Prop} (hay : (am_lay a).length ≤ 3) (H : ∀ (S : ck_SS) (SX : Nat → ck_SX), ck_hs G S SX Post mc ms (ck_cms [am_cm l G yX10_needCongruence (.code yX10_needCongruence prog_1_method_65_code 2 none) 6 90, am_cm l G yX10_needFreeRow (.code yX10_needFreeRow prog_1_method_66_code 1 none) 6 90, am_cm l G yX10_addRow (.code yX10_addRow prog_1_method_70_code 3 (some .int)) 5 123]) ge_yX10_tell_X → (∀ pc, ck_sR G S pc) → ck_hw S → zw_hx SX Post mc ms → S 0 (am_ent a 3) [] h 0 0) : am_M l G yX10_tell (.code yX10_tell prog_1_method_13_code 3 (some .int)) 7 145 mc ms a h Post :=
  zw_handX (E := ge_yX10_tell_X) (tb := gt_yX10_tell_X) (init := false) (cm := (ck_cms [am_cm l G yX10_needCongruence (.code yX10_needCongruence prog_1_method_65_code 2 none) 6 90, am_cm l G yX10_needFreeRow (.code yX10_needFreeRow prog_1_method_66_code 1 none) 6 90, am_cm l G yX10_addRow (.code yX10_addRow prog_1_method_70_code 3 (some .int)) 5 123])) g.1.1 (by decide +kernel) rfl gd_yX10_tell_X ⟨(List.forall_mem_nil _), (List.forall_mem_nil _), (List.forall_mem_nil _), (List.forall_mem_nil _), (List.forall_mem_nil _), (List.forall_mem_nil _), (List.forall_mem_nil _), (List.forall_mem_nil _)⟩ (List.forall_mem_nil _) (fun h => nomatch h) ⟨_, rfl, rfl⟩ (by decide) (by decide) g_oi g_ar
    (fun s hk _ => (List.forall_mem_nil _)) (fun s hk => (List.forall_mem_nil _))
    (List.forall_mem_cons.mpr ⟨(ck_kV g_y_yX10_needFreeRow w1344 w1346 w27 (T := TX10) (N := 13) rfl (by decide) (by decide) (by decide)), (List.forall_mem_cons.mpr ⟨(ck_kV g_y_yX10_addRow w1349 w1351 w28 (T := TX10) (N := 13) rfl (by decide) (by decide) (by decide)), (List.forall_mem_nil _)⟩)⟩) (List.forall_mem_nil _) (List.forall_mem_cons.mpr ⟨(ck_kS g_y_yX10_needCongruence w1339 w1340 (by decide) (by decide)), (List.forall_mem_nil _)⟩) (List.forall_mem_nil _)
    (List.forall_mem_nil _) hay H
def gt_yX10_drop_X : ck_TB := ([], [], [], [(10, 15, 0), (19, 15, 1), (159, 14, 2)], [], [], [], [], ([(82, 1), (152, 0), (156, 2)], [], [], []), [], [], [], 0)
def ge_yX10_drop_X : ck_E := (gT, [], (([], [], [], 0, []), ((0, []), (0, [])), [], [], ([], [], [], 0, []), []), 2, [(0, (0, 5, 0, 0, 1, 0, [])), (1, (0, 3, 1, 0, 2, 0, [])), (2, (16, 0, 0, 0, 5, 0, [])), (5, (0, 5, 0, 0, 6, 0, [])), (6, (7, 15, 1, 0, 9, 0, [])), (9, (0, 5, 0, 0, 10, 0, [])), (10, (7, 15, 0, 0, 13, 0, [])), (13, (16, 1, 0, 0, 16, 0, [])), (16, (0, 5, 0, 0, 17, 0, [])), (17, (7, 15, 0, 0, 20, 0, [])), (20, (0, 3, 1, 0, 21, 0, [])), (21, (16, 2, 0, 0, 24, 0, [])), (24, (0, 5, 0, 0, 25, 0, [])), (25, (7, 15, 0, 0, 28, 0, [])), (28, (7, 14, 2, 0, 31, 0, [])), (31, (14, 0, 0, 0, 0, 0, []))], [(some 15, 2, []), (some 12, 2, []), (some 14, 2, [])], [], [], [])
theorem gd_yX10_drop_X : ck_dec prog_1_method_15_code gt_yX10_drop_X ge_yX10_drop_X.2.2.2.2.1 = true := by decide +kernel
theorem gh_yX10_drop_X {l : Launch} {G : am_G} {X : ck_XT} (g : gM l G X) {a : List Value} {h : List am_C} {mc ms : Nat} {Post : am_O → List am_C → Prop} (hay : (am_lay a).length ≤ 2) (H : ∀ (S : ck_SS) (SX : Nat → ck_SX), ck_hs G S SX Post mc ms (ck_cms [am_cm l G yX10_needRow (.code yX10_needRow prog_1_method_67_code 2 none) 6 90, am_cm l G yX5_keep (.code yX5_keep prog_7_method_2_code 2 none) 4 102, am_cm l G yX9_removeRow (.code yX9_removeRow prog_11_method_4_code 3 none) 1 20]) ge_yX10_drop_X → (∀ pc, ck_sR G S pc) → ck_hw S → zw_hx SX Post mc ms → S 0 (am_ent a 2) [] h 0 0) : am_M l G yX10_drop (.code yX10_drop prog_1_method_15_code 2 (some .int)) 7 123 mc ms a h Post :=
  zw_handX (E := ge_yX10_drop_X) (tb := gt_yX10_drop_X) (init := false) (cm := (ck_cms [am_cm l G yX10_needRow (.code yX10_needRow prog_1_method_67_code 2 none) 6 90, am_cm l G yX5_keep (.code yX5_keep prog_7_method_2_code 2 none) 4 102, am_cm l G yX9_removeRow (.code yX9_removeRow prog_11_method_4_code 3 none) 1 20])) g.1.1 (by decide +kernel) rfl gd_yX10_drop_X ⟨(List.forall_mem_nil _), (List.forall_mem_nil _), (List.forall_mem_nil _), (List.forall_mem_cons.mpr ⟨⟨⟨_, _, _, rfl, Or.inl w353⟩, by decide, _, _, g_fd15_0⟩, (List.forall_mem_cons.mpr ⟨⟨⟨_, _, _, rfl, Or.inl w354⟩, by decide, _, _, g_fd15_1⟩, (List.forall_mem_cons.mpr ⟨⟨⟨_, _, _, rfl, Or.inr (Or.inl ⟨_, w166⟩)⟩, by decide, _, _, g_fd14_2⟩, (List.forall_mem_nil _)⟩)⟩)⟩), (List.forall_mem_nil _), (List.forall_mem_nil _), (List.forall_mem_nil _), (List.forall_mem_nil _)⟩ (List.forall_mem_nil _) (fun h => nomatch h) ⟨_, rfl, rfl⟩ (by decide) (by decide) g_oi g_ar
    (fun s hk _ => (List.forall_mem_nil _)) (fun s hk => (List.forall_mem_nil _))
    (List.forall_mem_cons.mpr ⟨(ck_kV g_y_yX5_keep w1222 w1223 w1224 (T := TX5) (N := 3) rfl (by decide) (by decide) (by decide)), (List.forall_mem_cons.mpr ⟨(ck_kV g_y_yX10_needRow w1373 w1375 w29 (T := TX10) (N := 13) rfl (by decide) (by decide) (by decide)), (List.forall_mem_cons.mpr ⟨(ck_kV g_y_yX9_removeRow w1378 w1379 w1380 (T := TX9) (N := 7) rfl (by decide) (by decide) (by decide)), (List.forall_mem_nil _)⟩)⟩)⟩) (List.forall_mem_nil _) (List.forall_mem_nil _) (List.forall_mem_nil _)
    (List.forall_mem_nil _) hay H
def gt_yX10_base_X : ck_TB := ([], [], [], [(10, 15, 0), (19, 15, 1), (176, 14, 5)], [], [], [], [], ([(82, 1), (164, 0), (173, 2)], [], [], []), [(12, 0), (33, 1)], [], [], 0)
def ge_yX10_base_X : ck_E := (gT, [], (([], [], [], 0, []), ((0, []), (0, [])), [], [], ([], [], [], 0, []), ["java/lang/IllegalArgumentException", "java/lang/IllegalStateException"]), 2, [(0, (0, 3, 1, 0, 1, 0, [])), (1, (0, 0, 0, 2, 2, 0, [])), (2, (2, 2, 0, 0, 5, 12, [])), (5, (0, 3, 1, 0, 6, 0, [])), (6, (0, 0, 0, 999, 9, 0, [])), (9, (2, 5, 0, 0, 12, 22, [])), (12, (17, 0, 0, 0, 0, 0, [])), (22, (0, 5, 0, 0, 23, 0, [])), (23, (7, 15, 0, 0, 26, 0, [])), (26, (0, 3, 1, 0, 27, 0, [])), (27, (16, 0, 0, 0, 30, 0, [])), (30, (1, 1, 0, 0, 33, 43, [])), (33, (17, 1, 0, 0, 0, 0, [])), (43, (0, 5, 0, 0, 44, 0, [])), (44, (7, 15, 1, 0, 47, 0, [])), (47, (0, 5, 0, 0, 48, 0, [])), (48, (7, 15, 0, 0, 51, 0, [])), (51, (16, 1, 0, 0, 54, 0, [])), (54, (0, 5, 0, 0, 55, 0, [])), (55, (7, 15, 0, 0, 58, 0, [])), (58, (0, 3, 1, 0, 59, 0, [])), (59, (16, 2, 0, 0, 62, 0, [])), (62, (0, 5, 0, 0, 63, 0, [])), (63, (7, 15, 0, 0, 66, 0, [])), (66, (7, 14, 5, 0, 69, 0, [])), (69, (0, 0, 0, 1, 70, 0, [])), (70, (0, 15, 1, 0, 71, 0, [])), (71, (14, 0, 0, 0, 0, 0, []))], [(some 14, 2, []), (some 12, 2, []), (some 14, 2, [])], [], [], [])
theorem gd_yX10_base_X : ck_dec prog_1_method_16_code gt_yX10_base_X ge_yX10_base_X.2.2.2.2.1 = true := by decide +kernel
theorem gh_yX10_base_X {l : Launch} {G : am_G} {X : ck_XT} (g : gM l G X) {a : List Value} {h : List am_C} {mc ms : Nat} {Post : am_O → List am_C → Prop} (hay : (am_lay a).length ≤ 2) (H : ∀ (S : ck_SS) (SX : Nat → ck_SX), ck_hs G S SX Post mc ms (ck_cms [am_cm l G yX9_takesBase (.code yX9_takesBase prog_11_method_6_code 3 (some .boolean)) 2 45, am_cm l G yX5_keep (.code yX5_keep prog_7_method_2_code 2 none) 4 102, am_cm l G yX9_addBase (.code yX9_addBase prog_11_method_7_code 2 none) 1 20]) ge_yX10_base_X → (∀ pc, ck_sR G S pc) → ck_hw S → zw_hx SX Post mc ms → S 0 (am_ent a 2) [] h 0 0) : am_M l G yX10_base (.code yX10_base prog_1_method_16_code 2 (some .int)) 6 123 mc ms a h Post :=
  zw_handX (E := ge_yX10_base_X) (tb := gt_yX10_base_X) (init := false) (cm := (ck_cms [am_cm l G yX9_takesBase (.code yX9_takesBase prog_11_method_6_code 3 (some .boolean)) 2 45, am_cm l G yX5_keep (.code yX5_keep prog_7_method_2_code 2 none) 4 102, am_cm l G yX9_addBase (.code yX9_addBase prog_11_method_7_code 2 none) 1 20])) g.1.1 (by decide +kernel) rfl gd_yX10_base_X ⟨(List.forall_mem_nil _), (List.forall_mem_nil _), (List.forall_mem_nil _), (List.forall_mem_cons.mpr ⟨⟨⟨_, _, _, rfl, Or.inl w353⟩, by decide, _, _, g_fd15_0⟩, (List.forall_mem_cons.mpr ⟨⟨⟨_, _, _, rfl, Or.inl w354⟩, by decide, _, _, g_fd15_1⟩, (List.forall_mem_cons.mpr ⟨⟨⟨_, _, _, rfl, Or.inr (Or.inl ⟨_, w172⟩)⟩, by decide, _, _, g_fd14_5⟩, (List.forall_mem_nil _)⟩)⟩)⟩), (List.forall_mem_nil _), (List.forall_mem_nil _), (List.forall_mem_nil _), (List.forall_mem_nil _)⟩ (List.forall_mem_nil _) (fun h => nomatch h) ⟨_, rfl, rfl⟩ (by decide) (by decide) g_oi g_ar
    (fun s hk _ => (List.forall_mem_nil _)) (fun s hk => (List.forall_mem_nil _))
    (List.forall_mem_cons.mpr ⟨(ck_kV g_y_yX5_keep w1222 w1223 w1224 (T := TX5) (N := 3) rfl (by decide) (by decide) (by decide)), (List.forall_mem_cons.mpr ⟨(ck_kV g_y_yX9_takesBase w1390 w1391 w1392 (T := TX9) (N := 7) rfl (by decide) (by decide) (by decide)), (List.forall_mem_cons.mpr ⟨(ck_kV g_y_yX9_addBase w1395 w1396 w1397 (T := TX9) (N := 7) rfl (by decide) (by decide) (by decide)), (List.forall_mem_nil _)⟩)⟩)⟩) (List.forall_mem_nil _) (List.forall_mem_nil _) (List.forall_mem_nil _)
    (List.forall_mem_cons.mpr ⟨(fun Ex hE => by
      have hE : (some "java/lang/IllegalArgumentException" : Option String) = some Ex := hE
      cases hE
      exact ck_zS (names := g_sup) (ik := 75) (is := 162) (ic := 79) (by decide +kernel) g_sup_fit w1104 w104 (List.mem_of_getElem? (i := 11) rfl) g_at_1 g_ot_1 (by decide +kernel) (by decide +kernel) (by decide +kernel) (by decide +kernel) (by decide +kernel) (by decide) (by decide)), (List.forall_mem_cons.mpr ⟨(fun Ex hE => by
      have hE : (some "java/lang/IllegalStateException" : Option String) = some Ex := hE
      cases hE
      exact ck_zS (names := g_sup) (ik := 168) (is := 170) (ic := 172) (by decide +kernel) g_sup_fit w1255 w116 (List.mem_of_getElem? (i := 12) rfl) g_at_2 g_ot_2 (by decide +kernel) (by decide +kernel) (by decide +kernel) (by decide +kernel) (by decide +kernel) (by decide) (by decide)), (List.forall_mem_nil _)⟩)⟩) hay H
def gt_yX10_unbase_X : ck_TB := ([], [], [], [(10, 15, 0), (19, 15, 1), (176, 14, 5)], [], [], [], [], ([(82, 0), (181, 1)], [], [], []), [(10, 0)], [], [], 0)
def ge_yX10_unbase_X : ck_E := (gT, [], (([], [], [], 0, []), ((0, []), (0, [])), [], [], ([], [], [], 0, []), ["java/lang/IllegalStateException"]), 1, [(0, (0, 5, 0, 0, 1, 0, [])), (1, (7, 15, 0, 0, 4, 0, [])), (4, (7, 14, 5, 0, 7, 0, [])), (7, (1, 1, 0, 0, 10, 20, [])), (10, (17, 0, 0, 0, 0, 0, [])), (20, (0, 5, 0, 0, 21, 0, [])), (21, (7, 15, 1, 0, 24, 0, [])), (24, (0, 5, 0, 0, 25, 0, [])), (25, (7, 15, 0, 0, 28, 0, [])), (28, (16, 0, 0, 0, 31, 0, [])), (31, (0, 5, 0, 0, 32, 0, [])), (32, (7, 15, 0, 0, 35, 0, [])), (35, (16, 1, 0, 0, 38, 0, [])), (38, (14, 0, 0, 0, 0, 0, []))], [(some 12, 2, []), (some 14, 1, [])], [], [], [])
theorem gd_yX10_unbase_X : ck_dec prog_1_method_17_code gt_yX10_unbase_X ge_yX10_unbase_X.2.2.2.2.1 = true := by decide +kernel
theorem gh_yX10_unbase_X {l : Launch} {G : am_G} {X : ck_XT} (g : gM l G X) {a : List Value} {h : List am_C} {mc ms : Nat} {Post : am_O → List am_C → Prop} (hay : (am_lay a).length ≤ 1) (H : ∀ (S : ck_SS) (SX : Nat → ck_SX), ck_hs G S SX Post mc ms (ck_cms [am_cm l G yX5_keep (.code yX5_keep prog_7_method_2_code 2 none) 4 102, am_cm l G yX9_removeBase (.code yX9_removeBase prog_11_method_8_code 1 (some .int)) 1 20]) ge_yX10_unbase_X → (∀ pc, ck_sR G S pc) → ck_hw S → zw_hx SX Post mc ms → S 0 (am_ent a 1) [] h 0 0) : am_M l G yX10_unbase (.code yX10_unbase prog_1_method_17_code 1 (some .int)) 6 123 mc ms a h Post :=
  zw_handX (E := ge_yX10_unbase_X) (tb := gt_yX10_unbase_X) (init := false) (cm := (ck_cms [am_cm l G yX5_keep (.code yX5_keep prog_7_method_2_code 2 none) 4 102, am_cm l G yX9_removeBase (.code yX9_removeBase prog_11_method_8_code 1 (some .int)) 1 20])) g.1.1 (by decide +kernel) rfl gd_yX10_unbase_X ⟨(List.forall_mem_nil _), (List.forall_mem_nil _), (List.forall_mem_nil _), (List.forall_mem_cons.mpr ⟨⟨⟨_, _, _, rfl, Or.inl w353⟩, by decide, _, _, g_fd15_0⟩, (List.forall_mem_cons.mpr ⟨⟨⟨_, _, _, rfl, Or.inl w354⟩, by decide, _, _, g_fd15_1⟩, (List.forall_mem_cons.mpr ⟨⟨⟨_, _, _, rfl, Or.inr (Or.inl ⟨_, w172⟩)⟩, by decide, _, _, g_fd14_5⟩, (List.forall_mem_nil _)⟩)⟩)⟩), (List.forall_mem_nil _), (List.forall_mem_nil _), (List.forall_mem_nil _), (List.forall_mem_nil _)⟩ (List.forall_mem_nil _) (fun h => nomatch h) ⟨_, rfl, rfl⟩ (by decide) (by decide) g_oi g_ar
    (fun s hk _ => (List.forall_mem_nil _)) (fun s hk => (List.forall_mem_nil _))
    (List.forall_mem_cons.mpr ⟨(ck_kV g_y_yX5_keep w1222 w1223 w1224 (T := TX5) (N := 3) rfl (by decide) (by decide) (by decide)), (List.forall_mem_cons.mpr ⟨(ck_kV g_y_yX9_removeBase w1407 w1408 w1409 (T := TX9) (N := 7) rfl (by decide) (by decide) (by decide)), (List.forall_mem_nil _)⟩)⟩) (List.forall_mem_nil _) (List.forall_mem_nil _) (List.forall_mem_nil _)
    (List.forall_mem_cons.mpr ⟨(fun Ex hE => by
      have hE : (some "java/lang/IllegalStateException" : Option String) = some Ex := hE
      cases hE
      exact ck_zS (names := g_sup) (ik := 168) (is := 179) (ic := 172) (by decide +kernel) g_sup_fit w1255 w116 (List.mem_of_getElem? (i := 13) rfl) g_at_2 g_ot_2 (by decide +kernel) (by decide +kernel) (by decide +kernel) (by decide +kernel) (by decide +kernel) (by decide) (by decide)), (List.forall_mem_nil _)⟩) hay H
def gt_yX10_undo_X : ck_TB := ([], [], [], [(10, 15, 0), (19, 15, 1), (184, 12, 2)], [], [], [], [], ([(189, 0)], [], [], []), [(10, 0)], [], [], 0)
def ge_yX10_undo_X : ck_E := (gT, [], (([], [], [], 0, []), ((0, []), (0, [])), [], [], ([], [], [], 0, []), ["java/lang/IllegalStateException"]), 1, [(0, (0, 5, 0, 0, 1, 0, [])), (1, (7, 15, 1, 0, 4, 0, [])), (4, (7, 12, 2, 0, 7, 0, [])), (7, (1, 1, 0, 0, 10, 20, [])), (10, (17, 0, 0, 0, 0, 0, [])), (20, (0, 5, 0, 0, 21, 0, [])), (21, (7, 15, 1, 0, 24, 0, [])), (24, (0, 5, 0, 0, 25, 0, [])), (25, (7, 15, 0, 0, 28, 0, [])), (28, (16, 0, 0, 0, 31, 0, [])), (31, (0, 5, 0, 0, 32, 0, [])), (32, (7, 15, 1, 0, 35, 0, [])), (35, (7, 12, 2, 0, 38, 0, [])), (38, (14, 0, 0, 0, 0, 0, []))], [(some 12, 2, [])], [], [], [])
theorem gd_yX10_undo_X : ck_dec prog_1_method_18_code gt_yX10_undo_X ge_yX10_undo_X.2.2.2.2.1 = true := by decide +kernel
theorem gh_yX10_undo_X {l : Launch} {G : am_G} {X : ck_XT} (g : gM l G X) {a : List Value} {h : List am_C} {mc ms : Nat} {Post : am_O → List am_C → Prop} (hay : (am_lay a).length ≤ 1) (H : ∀ (S : ck_SS) (SX : Nat → ck_SX), ck_hs G S SX Post mc ms (ck_cms [am_cm l G yX5_bringBack (.code yX5_bringBack prog_7_method_3_code 2 none) 4 102]) ge_yX10_undo_X → (∀ pc, ck_sR G S pc) → ck_hw S → zw_hx SX Post mc ms → S 0 (am_ent a 1) [] h 0 0) : am_M l G yX10_undo (.code yX10_undo prog_1_method_18_code 1 (some .int)) 6 123 mc ms a h Post :=
  zw_handX (E := ge_yX10_undo_X) (tb := gt_yX10_undo_X) (init := false) (cm := (ck_cms [am_cm l G yX5_bringBack (.code yX5_bringBack prog_7_method_3_code 2 none) 4 102])) g.1.1 (by decide +kernel) rfl gd_yX10_undo_X ⟨(List.forall_mem_nil _), (List.forall_mem_nil _), (List.forall_mem_nil _), (List.forall_mem_cons.mpr ⟨⟨⟨_, _, _, rfl, Or.inl w353⟩, by decide, _, _, g_fd15_0⟩, (List.forall_mem_cons.mpr ⟨⟨⟨_, _, _, rfl, Or.inl w354⟩, by decide, _, _, g_fd15_1⟩, (List.forall_mem_cons.mpr ⟨⟨⟨_, _, _, rfl, Or.inr (Or.inl ⟨_, w202⟩)⟩, by decide, _, _, g_fd12_2⟩, (List.forall_mem_nil _)⟩)⟩)⟩), (List.forall_mem_nil _), (List.forall_mem_nil _), (List.forall_mem_nil _), (List.forall_mem_nil _)⟩ (List.forall_mem_nil _) (fun h => nomatch h) ⟨_, rfl, rfl⟩ (by decide) (by decide) g_oi g_ar
    (fun s hk _ => (List.forall_mem_nil _)) (fun s hk => (List.forall_mem_nil _))
    (List.forall_mem_cons.mpr ⟨(ck_kV g_y_yX5_bringBack w1419 w1420 w1421 (T := TX5) (N := 3) rfl (by decide) (by decide) (by decide)), (List.forall_mem_nil _)⟩) (List.forall_mem_nil _) (List.forall_mem_nil _) (List.forall_mem_nil _)
    (List.forall_mem_cons.mpr ⟨(fun Ex hE => by
      have hE : (some "java/lang/IllegalStateException" : Option String) = some Ex := hE
      cases hE
      exact ck_zS (names := g_sup) (ik := 168) (is := 187) (ic := 172) (by decide +kernel) g_sup_fit w1255 w116 (List.mem_of_getElem? (i := 14) rfl) g_at_2 g_ot_2 (by decide +kernel) (by decide +kernel) (by decide +kernel) (by decide +kernel) (by decide +kernel) (by decide) (by decide)), (List.forall_mem_nil _)⟩) hay H
end
section
/-! NUMBERS ARE PUT -/
theorem sb_top {n : Nat} {ls : List Int} (hd : sb_d ls) (hn : hd_pl ls n) (h0 : 0 < n) : 1000000000 ^ (n - 1) ≤ sb_v ls := by
  obtain ⟨x_, x1_, x2_⟩ := hn.2.2 h0
  have hb_ := hd.at x1_
  have e1_ := sb_take x1_
  rw [show n - 1 + 1 = n by omega, sb_take_all hn (Nat.le_refl _)] at e1_
  have h4_ := sb_a.nn (ls := ls.take (n - 1)) fun z hz => hd.2 z (List.mem_of_mem_take hz)
  have p0_ : (0 : Int) ≤ 1000000000 ^ (n - 1) := Int.pow_nonneg (by decide)
  have f1_ : 1 * 1000000000 ^ (n - 1) ≤ x_ * 1000000000 ^ (n - 1) := Int.mul_le_mul_of_nonneg_right (by omega) p0_
  rw [Int.one_mul] at f1_
  rw [e1_]
  generalize (1000000000 : Int) ^ (n - 1) = a_ at *
  generalize x_ * a_ = b_ at *
  omega
theorem sb_is.abs {n : Nat} {sg z : Int} {ls : List Int} (h : sb_is n sg ls z) : (z.natAbs : Int) = sb_v ls := by
  obtain ⟨hd_, -, rfl, hs_, h0_⟩ := h
  have hn_ := sb_a.nn hd_.2
  rcases hs_ with c_ | c_ | c_
  · rw [c_]; omega
  · rw [c_, h0_.mp c_]; rfl
  · rw [c_]; omega
theorem sb_pw (k : Nat) {n : Nat} (h : k ≤ n) : (1000000000 : Int) ^ k ≤ 1000000000 ^ n := by
  have := Nat.pow_le_pow_right (show 0 < 1000000000 by decide) h
  have e_ : ((1000000000 ^ k : Nat) : Int) ≤ ((1000000000 ^ n : Nat) : Int) := Int.ofNat_le.mpr this
  rw [Int.natCast_pow, Int.natCast_pow] at e_
  exact e_
/-- how long a number is -/
theorem sb_is.le {n k : Nat} {sg z : Int} {ls : List Int} (h : sb_is n sg ls z) (hz : (z.natAbs : Int) < 1000000000 ^ k) : n ≤ k := by
  rw [h.abs] at hz
  apply Nat.not_lt.mp
  intro y_
  have e1_ := sb_top h.1 h.2.1 (by omega)
  have e2_ := sb_pw k (show k ≤ n - 1 by omega)
  omega
theorem sb_is.lt {n : Nat} {sg z : Int} {ls : List Int} (h : sb_is n sg ls z) : (z.natAbs : Int) < 1000000000 ^ n := by
  rw [h.abs, ← sb_take_all h.2.1 (Nat.le_refl n)]
  have := sb_lt (ls := ls.take n) fun y hy => h.1.2 y (List.mem_of_mem_take hy)
  rw [List.length_take, Nat.min_eq_left h.2.1.1] at this
  exact this
theorem sb_p4 : (1000000000 : Int) ^ 4 = 1000000000000000000000000000000000000 := by decide
theorem sb_p10 : (1000000000 : Int) ^ 10 = 1000000000000000000000000000000000000000000000000000000000000000000000000000000000000000000 := by decide
theorem sb_is.four {n : Nat} {sg z : Int} {ls : List Int} (h : sb_is n sg ls z) (h1 : -1000000000000000000000000000000000000 < z) (h2 : z < 1000000000000000000000000000000000000) : n ≤ 4 := h.le (by rw [sb_p4]; omega)
theorem sb_is.far {n : Nat} {sg z : Int} {ls : List Int} (h : sb_is n sg ls z) (h1 : n ≤ 4) : -1000000000000000000000000000000000000 < z ∧ z < 1000000000000000000000000000000000000 := by
  have e1_ := h.lt
  have e2_ := sb_pw n h1
  rw [sb_p4] at e2_
  omega
theorem sb_longE_M {l : Launch} {G : am_G} {X : ck_XT} (g : gM l G X) {q p t n : Nat} {sg v : Int} {h : List am_C} (hg : am_g G h q = some (sb_c t p (n : Int) sg)) (ht : t % 100 = 7) (hn : n ≤ 10) (hv : (if 4 < n then 1 else 0 : Int) = v) {mc ms : Nat} {Post : am_O → List am_C → Prop} (hP : Post (.inl (some (.int (Int32.ofInt v)))) h) :
    am_M l G yX0_isTooLong (.code yX0_isTooLong prog_2_method_4_code 1 (some .boolean)) 1 20 mc ms [.ref q] h Post := by
  subst hv
  exact sb_long_M g hg ht hn hP
set_option maxHeartbeats 4000000 in
theorem zc_putNum_M {l : Launch} {G : am_G} {X : ck_XT} (g : gM l G X) {x : Nat} {r : Nat → Nat} {jj mm kk : Int} {c : sp_S} {R : Nat → sp_S} {old cnt : Nat} {h : List am_C} (hX : zc_x G h x r jj mm kk c R old cnt) {n : Nat} {sg z : Int} {ls : List Int} (hw1 : am_g G h (x + 224) = some (sb_c 1007 (x + 225) (n : Int) sg)) (hw2 : am_g G h (x + 225) = some (1050, hd_r ls)) (hwi : sb_is n sg ls z) {i : Nat} (hi : i < 6) {mc ms : Nat} {Post : am_O → List am_C → Prop} (hmc : 1 ≤ mc) (hms : 6 ≤ ms)
    (hP : (-1000000000000000000000000000000000000 < z ∧ z < 1000000000000000000000000000000000000) → ∀ (h' : List am_C) (d : Nat), zc_fr G h h' x r → zc_X G h' x r jj mm kk (c.1, c.2.1.set i z, c.2.2) (sp_keep (zc_l R old cnt) c) → zc_dg (z.natAbs : Int) d → Post (.inl (some (.int (Int32.ofInt (d : Int))))) h')
    (hX2 : ¬ (-1000000000000000000000000000000000000 < z ∧ z < 1000000000000000000000000000000000000) → Post (.inr "java/lang/IllegalStateException") (h ++ [(99, [])])) :
    am_M l G yX10_putNumber (.code yX10_putNumber prog_1_method_68_code 3 (some .int)) 6 123 mc ms [.ref x, .ref (x + 1 + 5 + 2 * i), .ref (x + 224)] h Post := by
  refine gh_yX10_putNumber_X g (Nat.le_of_ble_eq_true rfl) fun S SX hs hr hw hx => ?_
  have rv : ∀ x : Int32, ck_fv 0 (.int x) := fun x => ⟨_, rfl⟩
  have hx9_ := hX.2.2.2.2.2.2.2
  have hn10_ := zc_nb hwi
  by_cases h4_ : 4 < n
  · have hfar_ : ¬ (-1000000000000000000000000000000000000 < z ∧ z < 1000000000000000000000000000000000000) := fun y_ => by have := hwi.four y_.1 y_.2; omega
    refine hs 0 _ rfl _ _ _ _ _ _ _ rfl ?_
    refine zw_c (hs 1 _ rfl) (a := [.ref (x + 224)]) (st := []) rfl rfl (Nat.le_of_ble_eq_true rfl) ⟨_, _, _, rfl, hw1, rfl⟩ (Nat.zero_le _) (Nat.zero_le _) (sb_longE_M g hw1 rfl hn10_ (if_pos h4_) ?_)
    show S 4 [some (.ref x), some (.ref (x + 1 + 5 + 2 * i)), some (.ref (x + 224))] [.int (Int32.ofInt (1 : Int))] _ _ _
    refine hs 2 _ rfl _ _ _ _ _ _ (fun zq => absurd (hd_c1z (c := 0) (by omega) (by omega) zq) (by omega : ¬ ((1 : Int) = 0))) (fun _ => ?_)
    exact hs 3 _ rfl _ _ _ _ _ rfl (Nat.le_of_ble_eq_true rfl) (by omega) (by omega) (hX2 hfar_)
  · have hz_ := hwi.far (by omega)
    refine hs 0 _ rfl _ _ _ _ _ _ _ rfl ?_
    refine zw_c (hs 1 _ rfl) (a := [.ref (x + 224)]) (st := []) rfl rfl (Nat.le_of_ble_eq_true rfl) ⟨_, _, _, rfl, hw1, rfl⟩ (Nat.zero_le _) (Nat.zero_le _) (sb_longE_M g hw1 rfl hn10_ (if_neg h4_) ?_)
    show S 4 [some (.ref x), some (.ref (x + 1 + 5 + 2 * i)), some (.ref (x + 224))] [.int (Int32.ofInt (0 : Int))] _ _ _
    refine hs 2 _ rfl _ _ _ _ _ _ (fun _ => ?_) (fun zq => absurd (hd_c1t (c := 0) (by omega) (by omega) (by omega : (0 : Int) = 0)) zq)
    refine hs 4 _ rfl _ _ _ _ _ _ _ rfl ?_
    refine hs 5 _ rfl _ _ _ _ _ _ _ _ _ (hX.1) rfl rfl ?_
    refine hs 6 _ rfl _ _ _ _ _ _ _ rfl ?_
    refine hs 7 _ rfl _ _ _ _ _ _ _ _ _ (hX.1) rfl rfl ?_
    refine zw_c (hs 8 _ rfl) (a := [.ref (x + 18), .ref (x + 1)]) (st := []) rfl rfl (Nat.le_of_ble_eq_true rfl) ⟨_, _, _, rfl, hX.2.2.2.1.1, rfl⟩ (Nat.zero_le _) (Nat.zero_le _) (zc_keep_M g (p := x + 18) (s := x + 1) (by omega) (by omega) hX.2.2.2.1 hX.2.1 hX.2.2.1 fun hk3_ ok3_ ck3_ fk3_ pk3_ e13_ e23_ => ?_)
    have xk3_ := hX.past fk3_ pk3_
    have lk3_ := zc_l_keep (R := R) (c := c) hX.2.2.2.1.2.2.2.1 hX.2.2.2.1.2.2.2.2 e13_ e23_
    show S 29 [some (.ref x), some (.ref (x + 1 + 5 + 2 * i)), some (.ref (x + 224))] [] _ _ _
    obtain ⟨ny_, sy_, ly_, y1_, y2_, y3_⟩ := xk3_.2.1.n hi
    have v1_ := (fk3_.2 _ (by omega)).trans hw1
    have v2_ := (fk3_.2 _ (by omega)).trans hw2
    refine hs 9 _ rfl _ _ _ _ _ _ _ rfl ?_
    refine hs 10 _ rfl _ _ _ _ _ _ _ rfl ?_
    refine zw_c (hs 11 _ rfl) (a := [.ref (x + 1 + 5 + 2 * i), .ref (x + 224)]) (st := []) rfl rfl (Nat.le_of_ble_eq_true rfl) ⟨_, _, _, rfl, y1_, rfl⟩ (Nat.zero_le _) (Nat.zero_le _) (sb_become_M g (by omega) (by omega) (by omega) y1_ rfl y2_ rfl y3_.1.1 v1_ rfl v2_ rfl hwi.1.1 (by omega) (by omega) fun hb_ wb_ => ?_)
    show S 34 [some (.ref x), some (.ref (x + 1 + 5 + 2 * i)), some (.ref (x + 224))] [] _ _ _
    refine hs 12 _ rfl _ _ _ _ _ _ _ rfl ?_
    refine zw_c (hs 13 _ rfl) (a := [.ref (x + 1 + 5 + 2 * i)]) (st := []) rfl rfl (Nat.le_of_ble_eq_true rfl) ⟨_, _, _, rfl, wb_.q, rfl⟩ (Nat.zero_le _) (Nat.zero_le _) (sb_dig_M g (by omega) (by omega) (by omega) wb_.q rfl (wb_.p (by omega)) rfl hwi.1 hwi.2.1 fun d_ hd_ => ?_)
    show S 38 [some (.ref x), some (.ref (x + 1 + 5 + 2 * i)), some (.ref (x + 224))] [.int (Int32.ofInt (d_ : Int))] _ _ _
    obtain ⟨xb_, fb_⟩ := xk3_.num hi wb_ hwi hz_.1 hz_.2
    rw [← hwi.abs] at hd_
    exact hs 14 _ rfl _ _ _ _ _ (rv _) (Nat.zero_le _) (Nat.zero_le _) (hP hz_ _ d_ ((zc_fr.of fk3_ (by omega) (by omega)).tr (zc_fr.of fb_ (by omega) (by omega))) (zc_X.mk xb_ lk3_) hd_)
end
section
/-! THE CALLS OF THE CLASS -/
theorem zc_s.dial {G : am_G} {h h' : List am_C} {s : Nat} {c : sp_S} {e : Int} (a : zc_s G h s c) (w : hd_w G h h' s (zc_sc s e (c.2.2.1.length : Int) (c.2.2.2.length : Int))) : zc_s G h' s (e, c.2) := by
  obtain ⟨rs_, zs_, bs_, a1_, a2_, a3_, a4_, a5_, a6_, a7_⟩ := a
  exact ⟨rs_, zs_, bs_, w.at, (w.ne (by omega)).trans a2_, (w.ne (by omega)).trans a3_, (w.ne (by omega)).trans a4_, (w.ne (by omega)).trans a5_, a6_, fun i hi => (a7_ i hi).keep (w.ne (by omega)) (w.ne (by omega))⟩
set_option maxHeartbeats 4000000 in
theorem zc_dial_M {l : Launch} {G : am_G} {X : ck_XT} (g : gM l G X) {x : Nat} {r : Nat → Nat} {jj mm kk : Int} {c : sp_S} {R : Nat → sp_S} {old cnt : Nat} {h : List am_C} (hX : zc_x G h x r jj mm kk c R old cnt) {e : Int} (he1 : -2147483648 ≤ e) (he2 : e ≤ 2147483647) {mc ms : Nat} {Post : am_O → List am_C → Prop} (hmc : 1 ≤ mc) (hms : 6 ≤ ms)
    (hP : (-9 ≤ e ∧ e ≤ 400) → ∀ h', zc_fr G h h' x r → zc_X G h' x r jj mm kk (e, c.2) (sp_keep (zc_l R old cnt) c) → Post (.inl (some (.int (Int32.ofInt c.1)))) h')
    (hX2 : ¬ (-9 ≤ e ∧ e ≤ 400) → Post (.inr "java/lang/IllegalArgumentException") (h ++ [(99, [])])) :
    am_M l G yX10_dial (.code yX10_dial prog_1_method_2_code 3 (some .int)) 6 123 mc ms [.ref x, .int (Int32.ofInt e)] h Post := by
  refine gh_yX10_dial_X g (Nat.le_of_ble_eq_true rfl) fun S SX hs hr hw hx => ?_
  have rv : ∀ x : Int32, ck_fv 0 (.int x) := fun x => ⟨_, rfl⟩
  have hx9_ := hX.2.2.2.2.2.2.2
  by_cases c1_ : e < -9
  · 
    refine hs 0 _ rfl _ _ _ _ _ _ _ rfl ?_
    refine hs 1 _ rfl _ _ _ _ _ _ _ rfl ?_
    refine hs 2 _ rfl _ _ _ _ _ _ _ (fun _ => ?_) (fun zq => absurd (hd_c2t (c := 2) (by omega) (by omega) (by omega) (by omega) (by omega : (e - (-9 : Int)) < 0)) zq)
    exact hs 6 _ rfl _ _ _ _ _ rfl (Nat.le_of_ble_eq_true rfl) (by omega) (by omega) (hX2 (by omega))
  · by_cases c2_ : 400 < e
    · 
      refine hs 0 _ rfl _ _ _ _ _ _ _ rfl ?_
      refine hs 1 _ rfl _ _ _ _ _ _ _ rfl ?_
      refine hs 2 _ rfl _ _ _ _ _ _ _ (fun zq => absurd (hd_c2z (c := 2) (by omega) (by omega) (by omega) (by omega) zq) (by omega : ¬ ((e - (-9 : Int)) < 0))) (fun _ => ?_)
      refine hs 3 _ rfl _ _ _ _ _ _ _ rfl ?_
      refine hs 4 _ rfl _ _ _ _ _ _ _ rfl ?_
      refine hs 5 _ rfl _ _ _ _ _ _ _ (fun zq => absurd (hd_c2z (c := 5) (by omega) (by omega) (by omega) (by omega) zq) (by omega : ¬ ((e - (400 : Int)) ≤ 0))) (fun _ => ?_)
      exact hs 6 _ rfl _ _ _ _ _ rfl (Nat.le_of_ble_eq_true rfl) (by omega) (by omega) (hX2 (by omega))
    · 
      refine hs 0 _ rfl _ _ _ _ _ _ _ rfl ?_
      refine hs 1 _ rfl _ _ _ _ _ _ _ rfl ?_
      refine hs 2 _ rfl _ _ _ _ _ _ _ (fun zq => absurd (hd_c2z (c := 2) (by omega) (by omega) (by omega) (by omega) zq) (by omega : ¬ ((e - (-9 : Int)) < 0))) (fun _ => ?_)
      refine hs 3 _ rfl _ _ _ _ _ _ _ rfl ?_
      refine hs 4 _ rfl _ _ _ _ _ _ _ rfl ?_
      refine hs 5 _ rfl _ _ _ _ _ _ _ (fun _ => ?_) (fun zq => absurd (hd_c2t (c := 5) (by omega) (by omega) (by omega) (by omega) (by omega : (e - (400 : Int)) ≤ 0)) zq)
      refine hs 7 _ rfl _ _ _ _ _ _ _ rfl ?_
      refine hs 8 _ rfl _ _ _ _ _ _ _ _ _ (hX.1) rfl rfl ?_
      refine hs 9 _ rfl _ _ _ _ _ _ _ rfl ?_
      refine hs 10 _ rfl _ _ _ _ _ _ _ _ _ (hX.1) rfl rfl ?_
      refine zw_c (hs 11 _ rfl) (a := [.ref (x + 18), .ref (x + 1)]) (st := []) rfl rfl (Nat.le_of_ble_eq_true rfl) ⟨_, _, _, rfl, hX.2.2.2.1.1, rfl⟩ (Nat.zero_le _) (Nat.zero_le _) (zc_keep_M g (p := x + 18) (s := x + 1) (by omega) (by omega) hX.2.2.2.1 hX.2.1 hX.2.2.1 fun hk4_ ok4_ ck4_ fk4_ pk4_ e14_ e24_ => ?_)
      have xk4_ := hX.past fk4_ pk4_
      have lk4_ := zc_l_keep (R := R) (c := c) hX.2.2.2.1.2.2.2.1 hX.2.2.2.1.2.2.2.2 e14_ e24_
      show S 34 [some (.ref x), some (.int (Int32.ofInt e)), none] [] _ _ _
      refine hs 12 _ rfl _ _ _ _ _ _ _ rfl ?_
      refine hs 13 _ rfl _ _ _ _ _ _ _ _ _ (xk4_.1) rfl rfl ?_
      refine hs 14 _ rfl _ _ _ _ _ _ _ _ _ (xk4_.2.1.d) rfl rfl ?_
      refine hs 15 _ rfl _ _ _ _ _ _ _ rfl ?_
      refine hs 16 _ rfl _ _ _ _ _ _ _ rfl ?_
      refine hs 17 _ rfl _ _ _ _ _ _ _ _ _ (xk4_.1) rfl rfl ?_
      refine hs 18 _ rfl _ _ _ _ _ _ _ rfl ?_
      refine zw_U (hs 19 _ rfl) (by omega) (xk4_.2.1.d) rfl ⟨_, rfl⟩ fun hz75 wz76 => ?_
      have wz76 : hd_w G hk4_ hz75 (x + 1) (1014, [.int (Int32.ofInt e), .ref (x + 1 + 1), .int (Int32.ofInt (c.2.2.1.length : Int)), .ref (x + 1 + 2), .ref (x + 1 + 3), .int (Int32.ofInt (c.2.2.2.length : Int)), .ref (x + 1 + 4)]) := wz76
      refine hs 20 _ rfl _ _ _ _ _ _ _ rfl ?_
      have xd_ := xk4_.st (zw_f.w (lo := x + 1) (n := 17) wz76 (by omega) (by omega)) (xk4_.2.1.dial wz76) (c2 := (e, c.2)) ⟨⟨by show -9 ≤ e; omega, by show e ≤ 400; omega⟩, xk4_.2.2.1.2⟩
      exact hs 21 _ rfl _ _ _ _ _ (rv _) (Nat.zero_le _) (Nat.zero_le _) (hP (by omega) _ ((zc_fr.of fk4_ (by omega) (by omega)).tr (zc_fr.of (zw_f.w (lo := x + 1) (n := 17) wz76 (by omega) (by omega)) (by omega) (by omega))) (zc_X.mk xd_ lk4_))
set_option maxHeartbeats 4000000 in
theorem zc_set_M {l : Launch} {G : am_G} {X : ck_XT} (g : gM l G X) {x : Nat} {r : Nat → Nat} {jj mm kk : Int} {c : sp_S} {R : Nat → sp_S} {old cnt : Nat} {h : List am_C} (hX : zc_x G h x r jj mm kk c R old cnt) {e : Int} (he1 : -2147483648 ≤ e) (he2 : e ≤ 2147483647) {e2 : Int} (hf1 : -2147483648 ≤ e2) (hf2 : e2 ≤ 2147483647) {mc ms : Nat} {Post : am_O → List am_C → Prop} (hmc : 1 ≤ mc) (hms : 6 ≤ ms)
    (hP : (0 ≤ e ∧ e < 6) → ∀ (h' : List am_C) (d : Nat), zc_fr G h h' x r → zc_X G h' x r jj mm kk (c.1, c.2.1.set e.toNat e2, c.2.2) (sp_keep (zc_l R old cnt) c) → zc_dg (e2.natAbs : Int) d → Post (.inl (some (.int (Int32.ofInt (d : Int))))) h')
    (hX2 : ¬ (0 ≤ e ∧ e < 6) → Post (.inr "java/lang/IndexOutOfBoundsException") (h ++ [(99, [])])) :
    am_M l G yX10_set (.code yX10_set prog_1_method_3_code 4 (some .int)) 7 123 mc ms [.ref x, .int (Int32.ofInt e), .int (Int32.ofInt e2)] h Post := by
  refine gh_yX10_set_X g (Nat.le_of_ble_eq_true rfl) fun S SX hs hr hw hx => ?_
  have rv : ∀ x : Int32, ck_fv 0 (.int x) := fun x => ⟨_, rfl⟩
  have hx9_ := hX.2.2.2.2.2.2.2
  by_cases c1_ : 0 ≤ e ∧ e < 6
  rotate_left
  · 
    refine hs 0 _ rfl _ _ _ _ _ _ _ rfl ?_
    refine hs 1 _ rfl _ _ _ _ _ _ _ rfl ?_
    exact zw_cm (hs 2 _ rfl) (a := [.ref x, .int (Int32.ofInt e)]) (st := []) 1 6 rfl rfl (Nat.le_of_ble_eq_true rfl) ⟨_, _, _, rfl, (hX.1), rfl⟩ (by omega) (by omega) (zc_numAtX_M g hX he1 he2 (by omega) (by decide) (by decide) (hx _ _ _ _ _ _ (by omega) (by omega) (hX2 c1_)))
  · have hP := hP c1_
    obtain ⟨i, rfl⟩ : ∃ i : Nat, e = (i : Int) := ⟨e.toNat, by omega⟩
    have hi : i < 6 := by omega
    refine hs 0 _ rfl _ _ _ _ _ _ _ rfl ?_
    refine hs 1 _ rfl _ _ _ _ _ _ _ rfl ?_
    refine zw_c (hs 2 _ rfl) (a := [.ref x, .int (Int32.ofInt (i : Int))]) (st := []) rfl rfl (Nat.le_of_ble_eq_true rfl) ⟨_, _, _, rfl, hX.1, rfl⟩ (Nat.zero_le _) (Nat.zero_le _) (zc_numAt_M g hX (i := i) rfl hi ?_)
    show S 5 [some (.ref x), some (.int (Int32.ofInt (i : Int))), some (.int (Int32.ofInt e2)), none] [.ref (x + 1 + 5 + 2 * i)] _ _ _
    refine hs 3 _ rfl _ _ _ _ _ _ _ rfl ?_
    refine hs 4 _ rfl _ _ _ _ _ _ _ rfl ?_
    refine hs 5 _ rfl _ _ _ _ _ _ _ _ _ (hX.1) rfl rfl ?_
    refine hs 6 _ rfl _ _ _ _ _ _ _ rfl ?_
    refine hs 7 _ rfl _ _ _ _ _ _ _ _ _ (hX.1) rfl rfl ?_
    refine zw_c (hs 8 _ rfl) (a := [.ref (x + 18), .ref (x + 1)]) (st := []) rfl rfl (Nat.le_of_ble_eq_true rfl) ⟨_, _, _, rfl, hX.2.2.2.1.1, rfl⟩ (Nat.zero_le _) (Nat.zero_le _) (zc_keep_M g (p := x + 18) (s := x + 1) (by omega) (by omega) hX.2.2.2.1 hX.2.1 hX.2.2.1 fun hk5_ ok5_ ck5_ fk5_ pk5_ e15_ e25_ => ?_)
    have xk5_ := hX.past fk5_ pk5_
    have lk5_ := zc_l_keep (R := R) (c := c) hX.2.2.2.1.2.2.2.1 hX.2.2.2.1.2.2.2.2 e15_ e25_
    show S 17 [some (.ref x), some (.int (Int32.ofInt (i : Int))), some (.int (Int32.ofInt e2)), some (.ref (x + 1 + 5 + 2 * i))] [] _ _ _
    obtain ⟨ny_, sy_, ly_, y1_, y2_, y3_⟩ := xk5_.2.1.n hi
    refine hs 9 _ rfl _ _ _ _ _ _ _ rfl ?_
    refine hs 10 _ rfl _ _ _ _ _ _ _ rfl ?_
    refine hs 11 _ rfl _ _ _ _ _ _ _ (hd_i2l (by omega) (by omega)) ?_
    refine zw_c (hs 12 _ rfl) (a := [.ref (x + 1 + 5 + 2 * i), .long (Int64.ofInt e2)]) (st := []) rfl rfl (Nat.le_of_ble_eq_true rfl) ⟨_, _, _, rfl, y1_, rfl⟩ (Nat.zero_le _) (Nat.zero_le _) (sb_blong_M g (by omega) (by omega) (by omega) y1_ rfl y2_ rfl y3_.1.1 (by omega) (by omega) fun hb_ nb_ sb1_ lb_ wb_ ib_ => ?_)
    show S 23 [some (.ref x), some (.int (Int32.ofInt (i : Int))), some (.int (Int32.ofInt e2)), some (.ref (x + 1 + 5 + 2 * i))] [] _ _ _
    refine hs 13 _ rfl _ _ _ _ _ _ _ rfl ?_
    refine zw_c (hs 14 _ rfl) (a := [.ref (x + 1 + 5 + 2 * i)]) (st := []) rfl rfl (Nat.le_of_ble_eq_true rfl) ⟨_, _, _, rfl, wb_.q, rfl⟩ (Nat.zero_le _) (Nat.zero_le _) (sb_dig_M g (by omega) (by omega) (by omega) wb_.q rfl (wb_.p (by omega)) rfl ib_.1 ib_.2.1 fun d_ hd_ => ?_)
    show S 27 [some (.ref x), some (.int (Int32.ofInt (i : Int))), some (.int (Int32.ofInt e2)), some (.ref (x + 1 + 5 + 2 * i))] [.int (Int32.ofInt (d_ : Int))] _ _ _
    obtain ⟨xb_, fb_⟩ := xk5_.num hi wb_ ib_ (by omega) (by omega)
    rw [← ib_.abs] at hd_
    exact hs 15 _ rfl _ _ _ _ _ (rv _) (Nat.zero_le _) (Nat.zero_le _) (hP _ d_ ((zc_fr.of fk5_ (by omega) (by omega)).tr (zc_fr.of fb_ (by omega) (by omega))) (zc_X.mk xb_ lk5_) hd_)
set_option maxHeartbeats 4000000 in
theorem zc_plus_M {l : Launch} {G : am_G} {X : ck_XT} (g : gM l G X) {x : Nat} {r : Nat → Nat} {jj mm kk : Int} {c : sp_S} {R : Nat → sp_S} {old cnt : Nat} {h : List am_C} (hX : zc_x G h x r jj mm kk c R old cnt) {e : Int} (he1 : -2147483648 ≤ e) (he2 : e ≤ 2147483647) {e2 : Int} (hf1 : -2147483648 ≤ e2) (hf2 : e2 ≤ 2147483647) {mc ms : Nat} {Post : am_O → List am_C → Prop} (hmc : 1 ≤ mc) (hms : 6 ≤ ms)
    (hP : (0 ≤ e ∧ e < 6 ∧ 0 ≤ e2 ∧ e2 < 6) → (-1000000000000000000000000000000000000 < c.2.1.getD e.toNat 0 + c.2.1.getD e2.toNat 0 ∧ c.2.1.getD e.toNat 0 + c.2.1.getD e2.toNat 0 < 1000000000000000000000000000000000000) → ∀ (h' : List am_C) (d : Nat), zc_fr G h h' x r → zc_X G h' x r jj mm kk (c.1, c.2.1.set e.toNat (c.2.1.getD e.toNat 0 + c.2.1.getD e2.toNat 0), c.2.2) (sp_keep (zc_l R old cnt) c) → zc_dg ((c.2.1.getD e.toNat 0 + c.2.1.getD e2.toNat 0).natAbs : Int) d → Post (.inl (some (.int (Int32.ofInt (d : Int))))) h')
    (hX3 : (0 ≤ e ∧ e < 6 ∧ 0 ≤ e2 ∧ e2 < 6) → ¬ (-1000000000000000000000000000000000000 < c.2.1.getD e.toNat 0 + c.2.1.getD e2.toNat 0 ∧ c.2.1.getD e.toNat 0 + c.2.1.getD e2.toNat 0 < 1000000000000000000000000000000000000) → ∀ h', zc_fr G h h' x r → zc_x G h' x r jj mm kk c R old cnt → Post (.inr "java/lang/IllegalStateException") (h' ++ [(99, [])]))
    (hX2 : ¬ (0 ≤ e ∧ e < 6 ∧ 0 ≤ e2 ∧ e2 < 6) → Post (.inr "java/lang/IndexOutOfBoundsException") (h ++ [(99, [])])) :
    am_M l G yX10_plus (.code yX10_plus prog_1_method_5_code 5 (some .int)) 7 145 mc ms [.ref x, .int (Int32.ofInt e), .int (Int32.ofInt e2)] h Post := by
  refine gh_yX10_plus_X g (Nat.le_of_ble_eq_true rfl) fun S SX hs hr hw hx => ?_
  have rv : ∀ x : Int32, ck_fv 0 (.int x) := fun x => ⟨_, rfl⟩
  have hx9_ := hX.2.2.2.2.2.2.2
  by_cases c1_ : 0 ≤ e ∧ e < 6
  rotate_left
  · 
    refine hs 0 _ rfl _ _ _ _ _ _ _ rfl ?_
    refine hs 1 _ rfl _ _ _ _ _ _ _ rfl ?_
    exact zw_cm (hs 2 _ rfl) (a := [.ref x, .int (Int32.ofInt e)]) (st := []) 1 6 rfl rfl (Nat.le_of_ble_eq_true rfl) ⟨_, _, _, rfl, (hX.1), rfl⟩ (by omega) (by omega) (zc_numAtX_M g hX he1 he2 (by omega) (by decide) (by decide) (hx _ _ _ _ _ _ (by omega) (by omega) (hX2 (fun y_ => c1_ ⟨y_.1, y_.2.1⟩))))
  · by_cases c2_ : 0 ≤ e2 ∧ e2 < 6
    rotate_left
    · obtain ⟨i, rfl⟩ : ∃ i : Nat, e = (i : Int) := ⟨e.toNat, by omega⟩
      have hi : i < 6 := by omega
      refine hs 0 _ rfl _ _ _ _ _ _ _ rfl ?_
      refine hs 1 _ rfl _ _ _ _ _ _ _ rfl ?_
      refine zw_c (hs 2 _ rfl) (a := [.ref x, .int (Int32.ofInt (i : Int))]) (st := []) rfl rfl (Nat.le_of_ble_eq_true rfl) ⟨_, _, _, rfl, hX.1, rfl⟩ (Nat.zero_le _) (Nat.zero_le _) (zc_numAt_M g hX (i := i) rfl hi ?_)
      show S 5 [some (.ref x), some (.int (Int32.ofInt (i : Int))), some (.int (Int32.ofInt e2)), none, none] [.ref (x + 1 + 5 + 2 * i)] _ _ _
      refine hs 3 _ rfl _ _ _ _ _ _ _ rfl ?_
      refine hs 4 _ rfl _ _ _ _ _ _ _ rfl ?_
      refine hs 5 _ rfl _ _ _ _ _ _ _ rfl ?_
      exact zw_cm (hs 6 _ rfl) (a := [.ref x, .int (Int32.ofInt e2)]) (st := []) 1 6 rfl rfl (Nat.le_of_ble_eq_true rfl) ⟨_, _, _, rfl, (hX.1), rfl⟩ (by omega) (by omega) (zc_numAtX_M g hX hf1 hf2 (by omega) (by decide) (by decide) (hx _ _ _ _ _ _ (by omega) (by omega) (hX2 (fun y_ => c2_ y_.2.2))))
    · have hP := hP ⟨c1_.1, c1_.2, c2_⟩
      have hX3 := hX3 ⟨c1_.1, c1_.2, c2_⟩
      obtain ⟨i, rfl⟩ : ∃ i : Nat, e = (i : Int) := ⟨e.toNat, by omega⟩
      have hi : i < 6 := by omega
      obtain ⟨i2, rfl⟩ : ∃ i2 : Nat, e2 = (i2 : Int) := ⟨e2.toNat, by omega⟩
      have hi2 : i2 < 6 := by omega
      obtain ⟨ny_, sy_, ly_, y1_, y2_, y3_⟩ := hX.2.1.n hi
      obtain ⟨nv_, sv_, lv_, v1_, v2_, v3_⟩ := hX.2.1.n hi2
      obtain ⟨nk_, sk_, lk_, k1_, k2_, k3_, k4_⟩ := hX.2.2.2.2.1.1
      have by_ := hX.2.2.1.get hi
      have bv_ := hX.2.2.1.get hi2
      have fy_ := y3_.four by_.1 by_.2
      have fv_ := v3_.four bv_.1 bv_.2
      have hv_ : sb_v ly_ + sb_v lv_ < 1000000000 ^ 10 := by
        rw [← y3_.abs, ← v3_.abs, sb_p10]
        omega
      refine hs 0 _ rfl _ _ _ _ _ _ _ rfl ?_
      refine hs 1 _ rfl _ _ _ _ _ _ _ rfl ?_
      refine zw_c (hs 2 _ rfl) (a := [.ref x, .int (Int32.ofInt (i : Int))]) (st := []) rfl rfl (Nat.le_of_ble_eq_true rfl) ⟨_, _, _, rfl, hX.1, rfl⟩ (Nat.zero_le _) (Nat.zero_le _) (zc_numAt_M g hX (i := i) rfl hi ?_)
      show S 5 [some (.ref x), some (.int (Int32.ofInt (i : Int))), some (.int (Int32.ofInt (i2 : Int))), none, none] [.ref (x + 1 + 5 + 2 * i)] _ _ _
      refine hs 3 _ rfl _ _ _ _ _ _ _ rfl ?_
      refine hs 4 _ rfl _ _ _ _ _ _ _ rfl ?_
      refine hs 5 _ rfl _ _ _ _ _ _ _ rfl ?_
      refine zw_c (hs 6 _ rfl) (a := [.ref x, .int (Int32.ofInt (i2 : Int))]) (st := []) rfl rfl (Nat.le_of_ble_eq_true rfl) ⟨_, _, _, rfl, hX.1, rfl⟩ (Nat.zero_le _) (Nat.zero_le _) (zc_numAt_M g hX (i := i2) rfl hi2 ?_)
      show S 11 [some (.ref x), some (.int (Int32.ofInt (i : Int))), some (.int (Int32.ofInt (i2 : Int))), some (.ref (x + 1 + 5 + 2 * i)), none] [.ref (x + 1 + 5 + 2 * i2)] _ _ _
      refine hs 7 _ rfl _ _ _ _ _ _ _ rfl ?_
      refine hs 8 _ rfl _ _ _ _ _ _ _ rfl ?_
      refine hs 9 _ rfl _ _ _ _ _ _ _ _ _ (hX.1) rfl rfl ?_
      refine hs 10 _ rfl _ _ _ _ _ _ _ rfl ?_
      refine hs 11 _ rfl _ _ _ _ _ _ _ rfl ?_
      refine zw_c (hs 12 _ rfl) (a := [.ref (x + 224), .ref (x + 1 + 5 + 2 * i), .ref (x + 1 + 5 + 2 * i2)]) (st := []) rfl rfl (Nat.le_of_ble_eq_true rfl) ⟨_, _, _, rfl, k1_, rfl⟩ (Nat.zero_le _) (Nat.zero_le _) (sb_sum_M g (q := x + 224) (p := x + 225) (by omega) (by omega) (by omega) k1_ rfl k2_ rfl k3_.1 y1_ rfl y2_ rfl y3_ (fun z_ => absurd z_ (by omega)) (by omega) v1_ rfl v2_ rfl v3_ (fun z_ => absurd z_ (by omega)) (by omega) hv_ fun hb_ nb_ sb1_ lb_ wb_ ib_ => ?_)
      show S 23 [some (.ref x), some (.int (Int32.ofInt (i : Int))), some (.int (Int32.ofInt (i2 : Int))), some (.ref (x + 1 + 5 + 2 * i)), some (.ref (x + 1 + 5 + 2 * i2))] [] _ _ _
      have fw_ : zw_f G h hb_ (x + 224) 4 := zw_f.w2 wb_ (by omega) (by omega) (by omega) (by omega)
      have xw_ := hX.work fw_ ⟨_, _, _, wb_.q, wb_.p (by omega), ib_.1, zc_nb ib_⟩ (hX.2.2.2.2.1.2.fr (zw_f.w2 (lo := x + 224) (n := 2) wb_ (by omega) (by omega) (by omega) (by omega)) (by omega))
      refine hs 13 _ rfl _ _ _ _ _ _ _ rfl ?_
      refine hs 14 _ rfl _ _ _ _ _ _ _ rfl ?_
      refine hs 15 _ rfl _ _ _ _ _ _ _ rfl ?_
      refine hs 16 _ rfl _ _ _ _ _ _ _ _ _ (xw_.1) rfl rfl ?_
      refine zw_cm (hs 17 _ rfl) (a := [.ref x, .ref (x + 1 + 5 + 2 * i), .ref (x + 224)]) (st := []) 1 6 rfl rfl (Nat.le_of_ble_eq_true rfl) ⟨_, _, _, rfl, xw_.1, rfl⟩ (by omega) (by omega) (zc_putNum_M g xw_ wb_.q (wb_.p (by omega)) ib_ hi (by decide) (by decide) (fun y_ h9_ d_ f1_ f2_ f3_ => ?_) (fun y_ => ?_))
      · show S 32 _ [.int (Int32.ofInt (d_ : Int))] _ _ _
        exact hs 18 _ rfl _ _ _ _ _ (rv _) (by omega) (by omega) (hP y_ _ d_ ((zc_fr.of fw_ (by omega) (by omega)).tr f1_) f2_ f3_)
      · exact hx _ _ _ _ _ _ (by omega) (by omega) (hX3 y_ _ (zc_fr.of fw_ (by omega) (by omega)) xw_)
set_option maxHeartbeats 4000000 in
theorem zc_times_M {l : Launch} {G : am_G} {X : ck_XT} (g : gM l G X) {x : Nat} {r : Nat → Nat} {jj mm kk : Int} {c : sp_S} {R : Nat → sp_S} {old cnt : Nat} {h : List am_C} (hX : zc_x G h x r jj mm kk c R old cnt) {e : Int} (he1 : -2147483648 ≤ e) (he2 : e ≤ 2147483647) {e2 : Int} (hf1 : -2147483648 ≤ e2) (hf2 : e2 ≤ 2147483647) {mc ms : Nat} {Post : am_O → List am_C → Prop} (hmc : 1 ≤ mc) (hms : 6 ≤ ms)
    (hP : (0 ≤ e ∧ e < 6 ∧ 0 ≤ e2 ∧ e2 < 6) → (-1000000000000000000000000000000000000 < c.2.1.getD e.toNat 0 * c.2.1.getD e2.toNat 0 ∧ c.2.1.getD e.toNat 0 * c.2.1.getD e2.toNat 0 < 1000000000000000000000000000000000000) → ∀ (h' : List am_C) (d : Nat), zc_fr G h h' x r → zc_X G h' x r jj mm kk (c.1, c.2.1.set e.toNat (c.2.1.getD e.toNat 0 * c.2.1.getD e2.toNat 0), c.2.2) (sp_keep (zc_l R old cnt) c) → zc_dg ((c.2.1.getD e.toNat 0 * c.2.1.getD e2.toNat 0).natAbs : Int) d → Post (.inl (some (.int (Int32.ofInt (d : Int))))) h')
    (hX3 : (0 ≤ e ∧ e < 6 ∧ 0 ≤ e2 ∧ e2 < 6) → ¬ (-1000000000000000000000000000000000000 < c.2.1.getD e.toNat 0 * c.2.1.getD e2.toNat 0 ∧ c.2.1.getD e.toNat 0 * c.2.1.getD e2.toNat 0 < 1000000000000000000000000000000000000) → ∀ h', zc_fr G h h' x r → zc_x G h' x r jj mm kk c R old cnt → Post (.inr "java/lang/IllegalStateException") (h' ++ [(99, [])]))
    (hX2 : ¬ (0 ≤ e ∧ e < 6 ∧ 0 ≤ e2 ∧ e2 < 6) → Post (.inr "java/lang/IndexOutOfBoundsException") (h ++ [(99, [])])) :
    am_M l G yX10_times (.code yX10_times prog_1_method_6_code 5 (some .int)) 7 145 mc ms [.ref x, .int (Int32.ofInt e), .int (Int32.ofInt e2)] h Post := by
  refine gh_yX10_times_X g (Nat.le_of_ble_eq_true rfl) fun S SX hs hr hw hx => ?_
  have rv : ∀ x : Int32, ck_fv 0 (.int x) := fun x => ⟨_, rfl⟩
  have hx9_ := hX.2.2.2.2.2.2.2
  by_cases c1_ : 0 ≤ e ∧ e < 6
  rotate_left
  · 
    refine hs 0 _ rfl _ _ _ _ _ _ _ rfl ?_
    refine hs 1 _ rfl _ _ _ _ _ _ _ rfl ?_
    exact zw_cm (hs 2 _ rfl) (a := [.ref x, .int (Int32.ofInt e)]) (st := []) 1 6 rfl rfl (Nat.le_of_ble_eq_true rfl) ⟨_, _, _, rfl, (hX.1), rfl⟩ (by omega) (by omega) (zc_numAtX_M g hX he1 he2 (by omega) (by decide) (by decide) (hx _ _ _ _ _ _ (by omega) (by omega) (hX2 (fun y_ => c1_ ⟨y_.1, y_.2.1⟩))))
  · by_cases c2_ : 0 ≤ e2 ∧ e2 < 6
    rotate_left
    · obtain ⟨i, rfl⟩ : ∃ i : Nat, e = (i : Int) := ⟨e.toNat, by omega⟩
      have hi : i < 6 := by omega
      refine hs 0 _ rfl _ _ _ _ _ _ _ rfl ?_
      refine hs 1 _ rfl _ _ _ _ _ _ _ rfl ?_
      refine zw_c (hs 2 _ rfl) (a := [.ref x, .int (Int32.ofInt (i : Int))]) (st := []) rfl rfl (Nat.le_of_ble_eq_true rfl) ⟨_, _, _, rfl, hX.1, rfl⟩ (Nat.zero_le _) (Nat.zero_le _) (zc_numAt_M g hX (i := i) rfl hi ?_)
      show S 5 [some (.ref x), some (.int (Int32.ofInt (i : Int))), some (.int (Int32.ofInt e2)), none, none] [.ref (x + 1 + 5 + 2 * i)] _ _ _
      refine hs 3 _ rfl _ _ _ _ _ _ _ rfl ?_
      refine hs 4 _ rfl _ _ _ _ _ _ _ rfl ?_
      refine hs 5 _ rfl _ _ _ _ _ _ _ rfl ?_
      exact zw_cm (hs 6 _ rfl) (a := [.ref x, .int (Int32.ofInt e2)]) (st := []) 1 6 rfl rfl (Nat.le_of_ble_eq_true rfl) ⟨_, _, _, rfl, (hX.1), rfl⟩ (by omega) (by omega) (zc_numAtX_M g hX hf1 hf2 (by omega) (by decide) (by decide) (hx _ _ _ _ _ _ (by omega) (by omega) (hX2 (fun y_ => c2_ y_.2.2))))
    · have hP := hP ⟨c1_.1, c1_.2, c2_⟩
      have hX3 := hX3 ⟨c1_.1, c1_.2, c2_⟩
      obtain ⟨i, rfl⟩ : ∃ i : Nat, e = (i : Int) := ⟨e.toNat, by omega⟩
      have hi : i < 6 := by omega
      obtain ⟨i2, rfl⟩ : ∃ i2 : Nat, e2 = (i2 : Int) := ⟨e2.toNat, by omega⟩
      have hi2 : i2 < 6 := by omega
      obtain ⟨ny_, sy_, ly_, y1_, y2_, y3_⟩ := hX.2.1.n hi
      obtain ⟨nv_, sv_, lv_, v1_, v2_, v3_⟩ := hX.2.1.n hi2
      obtain ⟨nk_, sk_, lk_, k1_, k2_, k3_, k4_⟩ := hX.2.2.2.2.1.1
      have by_ := hX.2.2.1.get hi
      have bv_ := hX.2.2.1.get hi2
      have fy_ := y3_.four by_.1 by_.2
      have fv_ := v3_.four bv_.1 bv_.2
      refine hs 0 _ rfl _ _ _ _ _ _ _ rfl ?_
      refine hs 1 _ rfl _ _ _ _ _ _ _ rfl ?_
      refine zw_c (hs 2 _ rfl) (a := [.ref x, .int (Int32.ofInt (i : Int))]) (st := []) rfl rfl (Nat.le_of_ble_eq_true rfl) ⟨_, _, _, rfl, hX.1, rfl⟩ (Nat.zero_le _) (Nat.zero_le _) (zc_numAt_M g hX (i := i) rfl hi ?_)
      show S 5 [some (.ref x), some (.int (Int32.ofInt (i : Int))), some (.int (Int32.ofInt (i2 : Int))), none, none] [.ref (x + 1 + 5 + 2 * i)] _ _ _
      refine hs 3 _ rfl _ _ _ _ _ _ _ rfl ?_
      refine hs 4 _ rfl _ _ _ _ _ _ _ rfl ?_
      refine hs 5 _ rfl _ _ _ _ _ _ _ rfl ?_
      refine zw_c (hs 6 _ rfl) (a := [.ref x, .int (Int32.ofInt (i2 : Int))]) (st := []) rfl rfl (Nat.le_of_ble_eq_true rfl) ⟨_, _, _, rfl, hX.1, rfl⟩ (Nat.zero_le _) (Nat.zero_le _) (zc_numAt_M g hX (i := i2) rfl hi2 ?_)
      show S 11 [some (.ref x), some (.int (Int32.ofInt (i : Int))), some (.int (Int32.ofInt (i2 : Int))), some (.ref (x + 1 + 5 + 2 * i)), none] [.ref (x + 1 + 5 + 2 * i2)] _ _ _
      refine hs 7 _ rfl _ _ _ _ _ _ _ rfl ?_
      refine hs 8 _ rfl _ _ _ _ _ _ _ rfl ?_
      refine hs 9 _ rfl _ _ _ _ _ _ _ _ _ (hX.1) rfl rfl ?_
      refine hs 10 _ rfl _ _ _ _ _ _ _ rfl ?_
      refine hs 11 _ rfl _ _ _ _ _ _ _ rfl ?_
      refine zw_c (hs 12 _ rfl) (a := [.ref (x + 224), .ref (x + 1 + 5 + 2 * i), .ref (x + 1 + 5 + 2 * i2)]) (st := []) rfl rfl (Nat.le_of_ble_eq_true rfl) ⟨_, _, _, rfl, k1_, rfl⟩ (Nat.zero_le _) (Nat.zero_le _) (sb_prod_M g (q := x + 224) (p := x + 225) (by omega) (by omega) (by omega) k1_ rfl k2_ rfl k3_.1 y1_ rfl y2_ rfl y3_ ⟨by omega, by omega, by omega, by omega⟩ v1_ rfl v2_ rfl v3_ ⟨by omega, by omega, by omega, by omega⟩ (by omega) fun hb_ nb_ sb1_ lb_ wb_ ib_ => ?_)
      show S 23 [some (.ref x), some (.int (Int32.ofInt (i : Int))), some (.int (Int32.ofInt (i2 : Int))), some (.ref (x + 1 + 5 + 2 * i)), some (.ref (x + 1 + 5 + 2 * i2))] [] _ _ _
      have fw_ : zw_f G h hb_ (x + 224) 4 := zw_f.w2 wb_ (by omega) (by omega) (by omega) (by omega)
      have xw_ := hX.work fw_ ⟨_, _, _, wb_.q, wb_.p (by omega), ib_.1, zc_nb ib_⟩ (hX.2.2.2.2.1.2.fr (zw_f.w2 (lo := x + 224) (n := 2) wb_ (by omega) (by omega) (by omega) (by omega)) (by omega))
      refine hs 13 _ rfl _ _ _ _ _ _ _ rfl ?_
      refine hs 14 _ rfl _ _ _ _ _ _ _ rfl ?_
      refine hs 15 _ rfl _ _ _ _ _ _ _ rfl ?_
      refine hs 16 _ rfl _ _ _ _ _ _ _ _ _ (xw_.1) rfl rfl ?_
      refine zw_cm (hs 17 _ rfl) (a := [.ref x, .ref (x + 1 + 5 + 2 * i), .ref (x + 224)]) (st := []) 1 6 rfl rfl (Nat.le_of_ble_eq_true rfl) ⟨_, _, _, rfl, xw_.1, rfl⟩ (by omega) (by omega) (zc_putNum_M g xw_ wb_.q (wb_.p (by omega)) ib_ hi (by decide) (by decide) (fun y_ h9_ d_ f1_ f2_ f3_ => ?_) (fun y_ => ?_))
      · show S 32 _ [.int (Int32.ofInt (d_ : Int))] _ _ _
        exact hs 18 _ rfl _ _ _ _ _ (rv _) (by omega) (by omega) (hP y_ _ d_ ((zc_fr.of fw_ (by omega) (by omega)).tr f1_) f2_ f3_)
      · exact hx _ _ _ _ _ _ (by omega) (by omega) (hX3 y_ _ (zc_fr.of fw_ (by omega) (by omega)) xw_)
end
section
/-! MORE CALLS OF THE CLASS -/
set_option maxHeartbeats 4000000 in
theorem zc_lengthen_M {l : Launch} {G : am_G} {X : ck_XT} (g : gM l G X) {x : Nat} {r : Nat → Nat} {jj mm kk : Int} {c : sp_S} {R : Nat → sp_S} {old cnt : Nat} {h : List am_C} (hX : zc_x G h x r jj mm kk c R old cnt) {e : Int} (he1 : -2147483648 ≤ e) (he2 : e ≤ 2147483647) {e2 : Int} (hf1 : -2147483648 ≤ e2) (hf2 : e2 ≤ 2147483647) {mc ms : Nat} {Post : am_O → List am_C → Prop} (hmc : 1 ≤ mc) (hms : 6 ≤ ms)
    (hP : (0 ≤ e ∧ e < 6) → (0 ≤ e2 ∧ e2 < 1000000000) → (-1000000000000000000000000000000000000 < c.2.1.getD e.toNat 0 * 1000000000 + e2 ∧ c.2.1.getD e.toNat 0 * 1000000000 + e2 < 1000000000000000000000000000000000000) → ∀ (h' : List am_C) (d : Nat), zc_fr G h h' x r → zc_X G h' x r jj mm kk (c.1, c.2.1.set e.toNat (c.2.1.getD e.toNat 0 * 1000000000 + e2), c.2.2) (sp_keep (zc_l R old cnt) c) → zc_dg ((c.2.1.getD e.toNat 0 * 1000000000 + e2).natAbs : Int) d → Post (.inl (some (.int (Int32.ofInt (d : Int))))) h')
    (hX3 : (0 ≤ e ∧ e < 6) → (0 ≤ e2 ∧ e2 < 1000000000) → ¬ (-1000000000000000000000000000000000000 < c.2.1.getD e.toNat 0 * 1000000000 + e2 ∧ c.2.1.getD e.toNat 0 * 1000000000 + e2 < 1000000000000000000000000000000000000) → ∀ h', zc_fr G h h' x r → zc_x G h' x r jj mm kk c R old cnt → Post (.inr "java/lang/IllegalStateException") (h' ++ [(99, [])]))
    (hX4 : (0 ≤ e ∧ e < 6) → ¬ (0 ≤ e2 ∧ e2 < 1000000000) → Post (.inr "java/lang/IllegalArgumentException") (h ++ [(99, [])]))
    (hX2 : ¬ (0 ≤ e ∧ e < 6) → Post (.inr "java/lang/IndexOutOfBoundsException") (h ++ [(99, [])])) :
    am_M l G yX10_lengthen (.code yX10_lengthen prog_1_method_4_code 4 (some .int)) 7 145 mc ms [.ref x, .int (Int32.ofInt e), .int (Int32.ofInt e2)] h Post := by
  refine gh_yX10_lengthen_X g (Nat.le_of_ble_eq_true rfl) fun S SX hs hr hw hx => ?_
  have rv : ∀ x : Int32, ck_fv 0 (.int x) := fun x => ⟨_, rfl⟩
  have hx9_ := hX.2.2.2.2.2.2.2
  by_cases c1_ : 0 ≤ e ∧ e < 6
  rotate_left
  · 
    refine hs 0 _ rfl _ _ _ _ _ _ _ rfl ?_
    refine hs 1 _ rfl _ _ _ _ _ _ _ rfl ?_
    exact zw_cm (hs 2 _ rfl) (a := [.ref x, .int (Int32.ofInt e)]) (st := []) 1 6 rfl rfl (Nat.le_of_ble_eq_true rfl) ⟨_, _, _, rfl, (hX.1), rfl⟩ (by omega) (by omega) (zc_numAtX_M g hX he1 he2 (by omega) (by decide) (by decide) (hx _ _ _ _ _ _ (by omega) (by omega) (hX2 c1_)))
  · by_cases c2_ : 0 ≤ e2 ∧ e2 < 1000000000
    rotate_left
    · 
      obtain ⟨i, rfl⟩ : ∃ i : Nat, e = (i : Int) := ⟨e.toNat, by omega⟩
      have hi : i < 6 := by omega
      by_cases c3_ : e2 < 0
      · 
        refine hs 0 _ rfl _ _ _ _ _ _ _ rfl ?_
        refine hs 1 _ rfl _ _ _ _ _ _ _ rfl ?_
        refine zw_c (hs 2 _ rfl) (a := [.ref x, .int (Int32.ofInt (i : Int))]) (st := []) rfl rfl (Nat.le_of_ble_eq_true rfl) ⟨_, _, _, rfl, hX.1, rfl⟩ (Nat.zero_le _) (Nat.zero_le _) (zc_numAt_M g hX (i := i) rfl hi ?_)
        show S 5 [some (.ref x), some (.int (Int32.ofInt (i : Int))), some (.int (Int32.ofInt e2)), none] [.ref (x + 1 + 5 + 2 * i)] _ _ _
        refine hs 3 _ rfl _ _ _ _ _ _ _ rfl ?_
        refine hs 4 _ rfl _ _ _ _ _ _ _ rfl ?_
        refine hs 5 _ rfl _ _ _ _ _ _ (fun _ => ?_) (fun zq => absurd (hd_c1t (c := 2) (by omega) (by omega) (by omega : e2 < 0)) zq)
        exact hs 9 _ rfl _ _ _ _ _ rfl (Nat.le_of_ble_eq_true rfl) (by omega) (by omega) (hX4 ⟨by omega, by omega⟩ c2_)
      · 
        refine hs 0 _ rfl _ _ _ _ _ _ _ rfl ?_
        refine hs 1 _ rfl _ _ _ _ _ _ _ rfl ?_
        refine zw_c (hs 2 _ rfl) (a := [.ref x, .int (Int32.ofInt (i : Int))]) (st := []) rfl rfl (Nat.le_of_ble_eq_true rfl) ⟨_, _, _, rfl, hX.1, rfl⟩ (Nat.zero_le _) (Nat.zero_le _) (zc_numAt_M g hX (i := i) rfl hi ?_)
        show S 5 [some (.ref x), some (.int (Int32.ofInt (i : Int))), some (.int (Int32.ofInt e2)), none] [.ref (x + 1 + 5 + 2 * i)] _ _ _
        refine hs 3 _ rfl _ _ _ _ _ _ _ rfl ?_
        refine hs 4 _ rfl _ _ _ _ _ _ _ rfl ?_
        refine hs 5 _ rfl _ _ _ _ _ _ (fun zq => absurd (hd_c1z (c := 2) (by omega) (by omega) zq) (by omega : ¬ (e2 < 0))) (fun _ => ?_)
        refine hs 6 _ rfl _ _ _ _ _ _ _ rfl ?_
        refine hs 7 _ rfl _ _ _ _ _ _ _ rfl ?_
        refine hs 8 _ rfl _ _ _ _ _ _ _ (fun zq => absurd (hd_c2z (c := 2) (by omega) (by omega) (by omega) (by omega) zq) (by omega : ¬ ((e2 - (1000000000 : Int)) < 0))) (fun _ => ?_)
        exact hs 9 _ rfl _ _ _ _ _ rfl (Nat.le_of_ble_eq_true rfl) (by omega) (by omega) (hX4 ⟨by omega, by omega⟩ c2_)
    · have hP := hP c1_ c2_
      have hX3 := hX3 c1_ c2_
      obtain ⟨i, rfl⟩ : ∃ i : Nat, e = (i : Int) := ⟨e.toNat, by omega⟩
      have hi : i < 6 := by omega
      obtain ⟨ny_, sy_, ly_, y1_, y2_, y3_⟩ := hX.2.1.n hi
      obtain ⟨nk_, sk_, lk_, k1_, k2_, k3_, k4_⟩ := hX.2.2.2.2.1.1
      obtain ⟨nm_, sm_, lm_, m1_, m2_, m3_, m4_⟩ := hX.2.2.2.2.1.2
      have by_ := hX.2.2.1.get hi
      have fy_ := y3_.four by_.1 by_.2
      refine hs 0 _ rfl _ _ _ _ _ _ _ rfl ?_
      refine hs 1 _ rfl _ _ _ _ _ _ _ rfl ?_
      refine zw_c (hs 2 _ rfl) (a := [.ref x, .int (Int32.ofInt (i : Int))]) (st := []) rfl rfl (Nat.le_of_ble_eq_true rfl) ⟨_, _, _, rfl, hX.1, rfl⟩ (Nat.zero_le _) (Nat.zero_le _) (zc_numAt_M g hX (i := i) rfl hi ?_)
      show S 5 [some (.ref x), some (.int (Int32.ofInt (i : Int))), some (.int (Int32.ofInt e2)), none] [.ref (x + 1 + 5 + 2 * i)] _ _ _
      refine hs 3 _ rfl _ _ _ _ _ _ _ rfl ?_
      refine hs 4 _ rfl _ _ _ _ _ _ _ rfl ?_
      refine hs 5 _ rfl _ _ _ _ _ _ (fun zq => absurd (hd_c1z (c := 2) (by omega) (by omega) zq) (by omega : ¬ (e2 < 0))) (fun _ => ?_)
      refine hs 6 _ rfl _ _ _ _ _ _ _ rfl ?_
      refine hs 7 _ rfl _ _ _ _ _ _ _ rfl ?_
      refine hs 8 _ rfl _ _ _ _ _ _ _ (fun _ => ?_) (fun zq => absurd (hd_c2t (c := 2) (by omega) (by omega) (by omega) (by omega) (by omega : (e2 - (1000000000 : Int)) < 0)) zq)
      refine hs 10 _ rfl _ _ _ _ _ _ _ rfl ?_
      refine hs 11 _ rfl _ _ _ _ _ _ _ _ _ (hX.1) rfl rfl ?_
      refine hs 12 _ rfl _ _ _ _ _ _ _ rfl ?_
      refine zw_c (hs 13 _ rfl) (a := [.ref (x + 226), .long (Int64.ofInt (1000000000 : Int))]) (st := []) rfl rfl (Nat.le_of_ble_eq_true rfl) ⟨_, _, _, rfl, m1_, rfl⟩ (Nat.zero_le _) (Nat.zero_le _) (sb_blong_M g (q := x + 226) (p := x + 227) (by omega) (by omega) (by omega) m1_ rfl m2_ rfl m3_.1 (by omega) (by omega) fun hb1_ nb1_ sb1_ lb1_ wb1_ ib1_ => ?_)
      show S 36 [some (.ref x), some (.int (Int32.ofInt (i : Int))), some (.int (Int32.ofInt e2)), some (.ref (x + 1 + 5 + 2 * i))] [] _ _ _
      have a1_ := (wb1_.ne (x := (x + 1 + 5 + 2 * i)) (by omega) (by omega)).trans y1_
      have a2_ := (wb1_.ne (x := x + 1 + 5 + 2 * i + 1) (by omega) (by omega)).trans y2_
      have p1_ := (wb1_.ne (x := x + 224) (by omega) (by omega)).trans k1_
      have p2_ := (wb1_.ne (x := x + 224 + 1) (by omega) (by omega)).trans k2_
      have fb1_ : nb1_ ≤ 2 := ib1_.le (by decide)
      refine hs 14 _ rfl _ _ _ _ _ _ _ rfl ?_
      refine hs 15 _ rfl _ _ _ _ _ _ _ _ _ (((wb1_.ne (by omega) (by omega))).trans hX.1) rfl rfl ?_
      refine hs 16 _ rfl _ _ _ _ _ _ _ rfl ?_
      refine hs 17 _ rfl _ _ _ _ _ _ _ rfl ?_
      refine hs 18 _ rfl _ _ _ _ _ _ _ _ _ (((wb1_.ne (by omega) (by omega))).trans hX.1) rfl rfl ?_
      refine zw_c (hs 19 _ rfl) (a := [.ref (x + 224), .ref (x + 1 + 5 + 2 * i), .ref (x + 226)]) (st := []) rfl rfl (Nat.le_of_ble_eq_true rfl) ⟨_, _, _, rfl, p1_, rfl⟩ (Nat.zero_le _) (Nat.zero_le _) (sb_prod_M g (q := x + 224) (p := x + 225) (by omega) (by omega) (by omega) p1_ rfl p2_ rfl k3_.1 a1_ rfl a2_ rfl y3_ ⟨by omega, by omega, by omega, by omega⟩ wb1_.q rfl (wb1_.p (by omega)) rfl ib1_ ⟨by omega, by omega, by omega, by omega⟩ (by omega) fun hb2_ nb2_ sb2_ lb2_ wb2_ ib2_ => ?_)
      show S 48 [some (.ref x), some (.int (Int32.ofInt (i : Int))), some (.int (Int32.ofInt e2)), some (.ref (x + 1 + 5 + 2 * i))] [] _ _ _
      have q1_ := (wb2_.ne (x := x + 226) (by omega) (by omega)).trans wb1_.q
      have q2_ := (wb2_.ne (x := x + 227) (by omega) (by omega)).trans (wb1_.p (by omega))
      refine hs 20 _ rfl _ _ _ _ _ _ _ rfl ?_
      refine hs 21 _ rfl _ _ _ _ _ _ _ _ _ (((wb2_.ne (by omega) (by omega))).trans (((wb1_.ne (by omega) (by omega))).trans hX.1)) rfl rfl ?_
      refine hs 22 _ rfl _ _ _ _ _ _ _ rfl ?_
      refine hs 23 _ rfl _ _ _ _ _ _ _ (hd_i2l (by omega) (by omega)) ?_
      refine zw_c (hs 24 _ rfl) (a := [.ref (x + 226), .long (Int64.ofInt e2)]) (st := []) rfl rfl (Nat.le_of_ble_eq_true rfl) ⟨_, _, _, rfl, q1_, rfl⟩ (Nat.zero_le _) (Nat.zero_le _) (sb_blong_M g (q := x + 226) (p := x + 227) (by omega) (by omega) (by omega) q1_ rfl q2_ rfl ib1_.1.1 (by omega) (by omega) fun hb3_ nb3_ sb3_ lb3_ wb3_ ib3_ => ?_)
      show S 57 [some (.ref x), some (.int (Int32.ofInt (i : Int))), some (.int (Int32.ofInt e2)), some (.ref (x + 1 + 5 + 2 * i))] [] _ _ _
      have r1_ := (wb3_.ne (x := x + 224) (by omega) (by omega)).trans wb2_.q
      have r2_ := (wb3_.ne (x := x + 225) (by omega) (by omega)).trans (wb2_.p (by omega))
      have hv_ : sb_v lb2_ + sb_v lb3_ < 1000000000 ^ 10 := by rw [← ib2_.abs, ← ib3_.abs, sb_p10]; omega
      refine hs 25 _ rfl _ _ _ _ _ _ _ rfl ?_
      refine hs 26 _ rfl _ _ _ _ _ _ _ _ _ (((wb3_.ne (by omega) (by omega))).trans (((wb2_.ne (by omega) (by omega))).trans (((wb1_.ne (by omega) (by omega))).trans hX.1))) rfl rfl ?_
      refine hs 27 _ rfl _ _ _ _ _ _ _ rfl ?_
      refine hs 28 _ rfl _ _ _ _ _ _ _ _ _ (((wb3_.ne (by omega) (by omega))).trans (((wb2_.ne (by omega) (by omega))).trans (((wb1_.ne (by omega) (by omega))).trans hX.1))) rfl rfl ?_
      refine hs 29 _ rfl _ _ _ _ _ _ _ rfl ?_
      refine hs 30 _ rfl _ _ _ _ _ _ _ _ _ (((wb3_.ne (by omega) (by omega))).trans (((wb2_.ne (by omega) (by omega))).trans (((wb1_.ne (by omega) (by omega))).trans hX.1))) rfl rfl ?_
      refine zw_c (hs 31 _ rfl) (a := [.ref (x + 224), .ref (x + 224), .ref (x + 226)]) (st := []) rfl rfl (Nat.le_of_ble_eq_true rfl) ⟨_, _, _, rfl, r1_, rfl⟩ (Nat.zero_le _) (Nat.zero_le _) (sb_sum_M g (q := x + 224) (p := x + 225) (by omega) (by omega) (by omega) r1_ rfl r2_ rfl ib2_.1.1 r1_ rfl r2_ rfl ib2_ (fun _ => rfl) (by omega) wb3_.q rfl (wb3_.p (by omega)) rfl ib3_ (fun z_ => absurd z_ (by omega)) (by omega) hv_ fun hb4_ nb4_ sb4_ lb4_ wb4_ ib4_ => ?_)
      show S 72 [some (.ref x), some (.int (Int32.ofInt (i : Int))), some (.int (Int32.ofInt e2)), some (.ref (x + 1 + 5 + 2 * i))] [] _ _ _
      have fw_ : zw_f G h hb4_ (x + 224) 4 := (((zw_f.w2 wb1_ (by omega) (by omega) (by omega) (by omega)).tr (zw_f.w2 wb2_ (by omega) (by omega) (by omega) (by omega))).tr (zw_f.w2 wb3_ (by omega) (by omega) (by omega) (by omega))).tr (zw_f.w2 wb4_ (by omega) (by omega) (by omega) (by omega))
      have xw_ := hX.work fw_ ⟨_, _, _, wb4_.q, wb4_.p (by omega), ib4_.1, zc_nb ib4_⟩ ⟨_, _, _, (wb4_.ne (x := x + 226) (by omega) (by omega)).trans wb3_.q, (wb4_.ne (x := x + 226 + 1) (by omega) (by omega)).trans (wb3_.p (by omega)), ib3_.1, zc_nb ib3_⟩
      refine hs 32 _ rfl _ _ _ _ _ _ _ rfl ?_
      refine hs 33 _ rfl _ _ _ _ _ _ _ rfl ?_
      refine hs 34 _ rfl _ _ _ _ _ _ _ rfl ?_
      refine hs 35 _ rfl _ _ _ _ _ _ _ _ _ (xw_.1) rfl rfl ?_
      refine zw_cm (hs 36 _ rfl) (a := [.ref x, .ref (x + 1 + 5 + 2 * i), .ref (x + 224)]) (st := []) 1 6 rfl rfl (Nat.le_of_ble_eq_true rfl) ⟨_, _, _, rfl, xw_.1, rfl⟩ (by omega) (by omega) (zc_putNum_M g xw_ wb4_.q (wb4_.p (by omega)) ib4_ hi (by decide) (by decide) (fun y_ h9_ d_ f1_ f2_ f3_ => ?_) (fun y_ => ?_))
      · show S 81 _ [.int (Int32.ofInt (d_ : Int))] _ _ _
        exact hs 37 _ rfl _ _ _ _ _ (rv _) (by omega) (by omega) (hP y_ _ d_ ((zc_fr.of fw_ (by omega) (by omega)).tr f1_) f2_ f3_)
      · exact hx _ _ _ _ _ _ (by omega) (by omega) (hX3 y_ _ (zc_fr.of fw_ (by omega) (by omega)) xw_)
theorem sb_is.sg {n : Nat} {sg z : Int} {ls : List Int} (h : sb_is n sg ls z) : sg = z.sign := by
  obtain ⟨hd_, -, rfl, hs_, h0_⟩ := h
  have hn_ := sb_a.nn hd_.2
  rcases hs_ with c_ | c_ | c_
  · have : 0 < sb_v ls := by
      by_cases y_ : sb_v ls = 0
      · have := h0_.mpr y_; omega
      · omega
    rw [c_, Int.sign_eq_neg_one_of_neg (by omega)]
  · rw [c_, Int.zero_mul]; rfl
  · have : 0 < sb_v ls := by
      by_cases y_ : sb_v ls = 0
      · have := h0_.mpr y_; omega
      · omega
    rw [c_, Int.one_mul, Int.sign_eq_one_of_pos this]
theorem sb_is.neg {n : Nat} {sg z : Int} {ls : List Int} (h : sb_is n sg ls z) : sb_is n (-sg) ls (-z) := by
  obtain ⟨hd_, hn_, rfl, hs_, h0_⟩ := h
  exact ⟨hd_, hn_, by rw [Int.neg_mul], by omega, by rw [← h0_]; omega⟩
set_option maxHeartbeats 4000000 in
theorem zc_negate_M {l : Launch} {G : am_G} {X : ck_XT} (g : gM l G X) {x : Nat} {r : Nat → Nat} {jj mm kk : Int} {c : sp_S} {R : Nat → sp_S} {old cnt : Nat} {h : List am_C} (hX : zc_x G h x r jj mm kk c R old cnt) {e : Int} (he1 : -2147483648 ≤ e) (he2 : e ≤ 2147483647) {mc ms : Nat} {Post : am_O → List am_C → Prop} (hmc : 1 ≤ mc) (hms : 6 ≤ ms)
    (hP : (0 ≤ e ∧ e < 6) → ∀ (h' : List am_C), zc_fr G h h' x r → zc_X G h' x r jj mm kk (c.1, c.2.1.set e.toNat (-(c.2.1.getD e.toNat 0)), c.2.2) (sp_keep (zc_l R old cnt) c) → Post (.inl (some (.int (Int32.ofInt (-(c.2.1.getD e.toNat 0).sign))))) h')
    (hX2 : ¬ (0 ≤ e ∧ e < 6) → Post (.inr "java/lang/IndexOutOfBoundsException") (h ++ [(99, [])])) :
    am_M l G yX10_negate (.code yX10_negate prog_1_method_7_code 3 (some .int)) 7 123 mc ms [.ref x, .int (Int32.ofInt e)] h Post := by
  refine gh_yX10_negate_X g (Nat.le_of_ble_eq_true rfl) fun S SX hs hr hw hx => ?_
  have rv : ∀ x : Int32, ck_fv 0 (.int x) := fun x => ⟨_, rfl⟩
  have hx9_ := hX.2.2.2.2.2.2.2
  by_cases c1_ : 0 ≤ e ∧ e < 6
  rotate_left
  · 
    refine hs 0 _ rfl _ _ _ _ _ _ _ rfl ?_
    refine hs 1 _ rfl _ _ _ _ _ _ _ rfl ?_
    exact zw_cm (hs 2 _ rfl) (a := [.ref x, .int (Int32.ofInt e)]) (st := []) 1 6 rfl rfl (Nat.le_of_ble_eq_true rfl) ⟨_, _, _, rfl, (hX.1), rfl⟩ (by omega) (by omega) (zc_numAtX_M g hX he1 he2 (by omega) (by decide) (by decide) (hx _ _ _ _ _ _ (by omega) (by omega) (hX2 c1_)))
  · have hP := hP c1_
    obtain ⟨i, rfl⟩ : ∃ i : Nat, e = (i : Int) := ⟨e.toNat, by omega⟩
    have hi : i < 6 := by omega
    refine hs 0 _ rfl _ _ _ _ _ _ _ rfl ?_
    refine hs 1 _ rfl _ _ _ _ _ _ _ rfl ?_
    refine zw_c (hs 2 _ rfl) (a := [.ref x, .int (Int32.ofInt (i : Int))]) (st := []) rfl rfl (Nat.le_of_ble_eq_true rfl) ⟨_, _, _, rfl, hX.1, rfl⟩ (Nat.zero_le _) (Nat.zero_le _) (zc_numAt_M g hX (i := i) rfl hi ?_)
    show S 5 [some (.ref x), some (.int (Int32.ofInt (i : Int))), none] [.ref (x + 1 + 5 + 2 * i)] _ _ _
    refine hs 3 _ rfl _ _ _ _ _ _ _ rfl ?_
    refine hs 4 _ rfl _ _ _ _ _ _ _ rfl ?_
    refine hs 5 _ rfl _ _ _ _ _ _ _ _ _ (hX.1) rfl rfl ?_
    refine hs 6 _ rfl _ _ _ _ _ _ _ rfl ?_
    refine hs 7 _ rfl _ _ _ _ _ _ _ _ _ (hX.1) rfl rfl ?_
    refine zw_c (hs 8 _ rfl) (a := [.ref (x + 18), .ref (x + 1)]) (st := []) rfl rfl (Nat.le_of_ble_eq_true rfl) ⟨_, _, _, rfl, hX.2.2.2.1.1, rfl⟩ (Nat.zero_le _) (Nat.zero_le _) (zc_keep_M g (p := x + 18) (s := x + 1) (by omega) (by omega) hX.2.2.2.1 hX.2.1 hX.2.2.1 fun hk6_ ok6_ ck6_ fk6_ pk6_ e16_ e26_ => ?_)
    have xk6_ := hX.past fk6_ pk6_
    have lk6_ := zc_l_keep (R := R) (c := c) hX.2.2.2.1.2.2.2.1 hX.2.2.2.1.2.2.2.2 e16_ e26_
    show S 17 [some (.ref x), some (.int (Int32.ofInt (i : Int))), some (.ref (x + 1 + 5 + 2 * i))] [] _ _ _
    obtain ⟨ny_, sy_, ly_, y1_, y2_, y3_⟩ := xk6_.2.1.n hi
    refine hs 9 _ rfl _ _ _ _ _ _ _ rfl ?_
    refine hs 10 _ rfl _ _ _ _ _ _ _ rfl ?_
    refine hs 11 _ rfl _ _ _ _ _ _ _ _ _ (y1_) rfl rfl ?_
    refine hs 12 _ rfl _ _ _ _ _ _ _ zw_neg ?_
    refine zw_U (hs 13 _ rfl) (by omega) (y1_) rfl ⟨_, rfl⟩ fun hz77 wz78 => ?_
    have wz78 : hd_w G hk6_ hz77 (x + 1 + 5 + 2 * i) (1407, [.ref (x + 1 + 5 + 2 * i + 1), .int (Int32.ofInt (ny_ : Int)), .int (Int32.ofInt (-sy_))]) := wz78
    refine hs 14 _ rfl _ _ _ _ _ _ _ rfl ?_
    refine hs 15 _ rfl _ _ _ _ _ _ _ _ _ (wz78.at) rfl rfl ?_
    have by_ := hX.2.2.1.get hi
    have ws_ : sb_w G hk6_ hz77 (x + 1 + 5 + 2 * i) (sb_c 1407 (x + 1 + 5 + 2 * i + 1) (ny_ : Int) (-sy_)) (x + 1 + 5 + 2 * i + 1) (1450, hd_r ly_) := sb_w.of (hd_w.rf y2_) wz78
    obtain ⟨xb_, fb_⟩ := xk6_.num hi ws_ y3_.neg (by omega) (by omega)
    refine hs 16 _ rfl _ _ _ _ _ (rv _) (Nat.zero_le _) (Nat.zero_le _) ?_
    have hq_ := hP _ ((zc_fr.of fk6_ (by omega) (by omega)).tr (zc_fr.of fb_ (by omega) (by omega))) (zc_X.mk xb_ lk6_)
    rw [y3_.sg]
    exact hq_
set_option maxHeartbeats 4000000 in
theorem zc_reduce_M {l : Launch} {G : am_G} {X : ck_XT} (g : gM l G X) {x : Nat} {r : Nat → Nat} {jj mm kk : Int} {c : sp_S} {R : Nat → sp_S} {old cnt : Nat} {h : List am_C} (hX : zc_x G h x r jj mm kk c R old cnt) {e : Int} (he1 : -2147483648 ≤ e) (he2 : e ≤ 2147483647) {mc ms : Nat} {Post : am_O → List am_C → Prop} (hmc : 1 ≤ mc) (hms : 6 ≤ ms)
    (hJ : (0 ≤ e ∧ e < 6) → c.1 ≤ 0 → ∀ h', zc_fr G h h' x r → zc_x G h' x r (jj + 1) mm kk c R old cnt → Post (.inl (some (.int (Int32.ofInt (-9))))) h')
    (hP : (0 ≤ e ∧ e < 6) → 0 < c.1 → ∀ h', zc_fr G h h' x r → zc_X G h' x r jj mm kk (c.1, c.2.1.set e.toNat (c.2.1.getD e.toNat 0 % c.1), c.2.2) (sp_keep (zc_l R old cnt) c) → Post (.inl (some (.int (Int32.ofInt (c.2.1.getD e.toNat 0 % c.1))))) h')
    (hX2 : ¬ (0 ≤ e ∧ e < 6) → Post (.inr "java/lang/IndexOutOfBoundsException") (h ++ [(99, [])])) :
    am_M l G yX10_reduce (.code yX10_reduce prog_1_method_8_code 2 (some .int)) 8 145 mc ms [.ref x, .int (Int32.ofInt e)] h Post := by
  refine gh_yX10_reduce_X g (Nat.le_of_ble_eq_true rfl) fun S SX hs hr hw hx => ?_
  have rv : ∀ x : Int32, ck_fv 0 (.int x) := fun x => ⟨_, rfl⟩
  have hx9_ := hX.2.2.2.2.2.2.2
  have hb_ := hX.2.2.1.1
  by_cases c1_ : 0 ≤ e ∧ e < 6
  rotate_left
  · 
    refine hs 0 _ rfl _ _ _ _ _ _ _ rfl ?_
    refine hs 1 _ rfl _ _ _ _ _ _ _ rfl ?_
    refine hs 2 _ rfl _ _ _ _ _ _ _ rfl ?_
    exact zw_cm (hs 3 _ rfl) (a := [.ref x, .int (Int32.ofInt e)]) (st := [.ref x]) 1 6 rfl rfl (Nat.le_of_ble_eq_true rfl) ⟨_, _, _, rfl, (hX.1), rfl⟩ (by omega) (by omega) (zc_numAtX_M g hX he1 he2 (by omega) (by decide) (by decide) (hx _ _ _ _ _ _ (by omega) (by omega) (hX2 c1_)))
  · have hP := hP c1_
    have hJ_ := hJ c1_
    by_cases c2_ : c.1 ≤ 0
    · 
      obtain ⟨i, rfl⟩ : ∃ i : Nat, e = (i : Int) := ⟨e.toNat, by omega⟩
      have hi : i < 6 := by omega
      refine hs 0 _ rfl _ _ _ _ _ _ _ rfl ?_
      refine hs 1 _ rfl _ _ _ _ _ _ _ rfl ?_
      refine hs 2 _ rfl _ _ _ _ _ _ _ rfl ?_
      refine zw_c (hs 3 _ rfl) (a := [.ref x, .int (Int32.ofInt (i : Int))]) (st := [.ref x]) rfl rfl (Nat.le_of_ble_eq_true rfl) ⟨_, _, _, rfl, hX.1, rfl⟩ (Nat.zero_le _) (Nat.zero_le _) (zc_numAt_M g hX (i := i) rfl hi ?_)
      show S 6 [some (.ref x), some (.int (Int32.ofInt (i : Int)))] [.ref (x + 1 + 5 + 2 * i), .ref x] _ _ _
      refine hs 4 _ rfl _ _ _ _ _ _ _ rfl ?_
      refine hs 5 _ rfl _ _ _ _ _ _ _ rfl ?_
      refine zw_c (hs 6 _ rfl) (a := [.ref x, .int (Int32.ofInt (i : Int))]) (st := [.ref (x + 1 + 5 + 2 * i), .ref x]) rfl rfl (Nat.le_of_ble_eq_true rfl) ⟨_, _, _, rfl, hX.1, rfl⟩ (Nat.zero_le _) (Nat.zero_le _) (zc_mod_M g hX (i := i) rfl hi (fun _ => ?_) (fun y_ => absurd y_ (by omega)))
      show S 11 [some (.ref x), some (.int (Int32.ofInt (i : Int)))] [.int (Int32.ofInt (-9 : Int)), .ref (x + 1 + 5 + 2 * i), .ref x] _ _ _
      refine zw_c (hs 7 _ rfl) (a := [.ref x, .ref (x + 1 + 5 + 2 * i), .int (Int32.ofInt (-9 : Int))]) (st := []) rfl rfl (Nat.le_of_ble_eq_true rfl) ⟨_, _, _, rfl, hX.1, rfl⟩ (Nat.zero_le _) (Nat.zero_le _) (zc_putRound_M g hX hi (Or.inl rfl) (by decide) (fun _ h9_ f1_ f2_ => ?_) (fun y_ => absurd y_ (by decide)) (fun y_ => absurd y_ (by decide)))
      show S 14 _ [.int (Int32.ofInt (-9 : Int))] _ _ _
      exact hs 8 _ rfl _ _ _ _ _ (rv _) (Nat.zero_le _) (Nat.zero_le _) (hJ_ c2_ _ f1_ f2_)
    · 
      obtain ⟨i, rfl⟩ : ∃ i : Nat, e = (i : Int) := ⟨e.toNat, by omega⟩
      have hi : i < 6 := by omega
      have r1_ := Int.emod_nonneg (c.2.1.getD i 0) (b := c.1) (by omega)
      have r2_ := Int.emod_lt_of_pos (c.2.1.getD i 0) (b := c.1) (by omega)
      refine hs 0 _ rfl _ _ _ _ _ _ _ rfl ?_
      refine hs 1 _ rfl _ _ _ _ _ _ _ rfl ?_
      refine hs 2 _ rfl _ _ _ _ _ _ _ rfl ?_
      refine zw_c (hs 3 _ rfl) (a := [.ref x, .int (Int32.ofInt (i : Int))]) (st := [.ref x]) rfl rfl (Nat.le_of_ble_eq_true rfl) ⟨_, _, _, rfl, hX.1, rfl⟩ (Nat.zero_le _) (Nat.zero_le _) (zc_numAt_M g hX (i := i) rfl hi ?_)
      show S 6 [some (.ref x), some (.int (Int32.ofInt (i : Int)))] [.ref (x + 1 + 5 + 2 * i), .ref x] _ _ _
      refine hs 4 _ rfl _ _ _ _ _ _ _ rfl ?_
      refine hs 5 _ rfl _ _ _ _ _ _ _ rfl ?_
      refine zw_c (hs 6 _ rfl) (a := [.ref x, .int (Int32.ofInt (i : Int))]) (st := [.ref (x + 1 + 5 + 2 * i), .ref x]) rfl rfl (Nat.le_of_ble_eq_true rfl) ⟨_, _, _, rfl, hX.1, rfl⟩ (Nat.zero_le _) (Nat.zero_le _) (zc_mod_M g hX (i := i) rfl hi (fun y_ => absurd y_ (by omega)) (fun _ => ?_))
      show S 11 [some (.ref x), some (.int (Int32.ofInt (i : Int)))] [.int (Int32.ofInt (c.2.1.getD i 0 % c.1)), .ref (x + 1 + 5 + 2 * i), .ref x] _ _ _
      refine zw_c (hs 7 _ rfl) (a := [.ref x, .ref (x + 1 + 5 + 2 * i), .int (Int32.ofInt (c.2.1.getD i 0 % c.1))]) (st := []) rfl rfl (Nat.le_of_ble_eq_true rfl) ⟨_, _, _, rfl, hX.1, rfl⟩ (Nat.zero_le _) (Nat.zero_le _) (zc_putRound_M g hX hi (Or.inr (Or.inr r1_)) (by omega) (fun y_ => absurd y_ (by omega)) (fun y_ => absurd y_ (by omega)) (fun _ h9_ f1_ f2_ => ?_))
      show S 14 _ [.int (Int32.ofInt (c.2.1.getD i 0 % c.1))] _ _ _
      exact hs 8 _ rfl _ _ _ _ _ (rv _) (Nat.zero_le _) (Nat.zero_le _) (hP (by omega) _ f1_ f2_)
theorem sm_inv.cases {a m : Nat} {v : Int} (h : sm_inv a m v) : v = -8 ∨ (0 ≤ v ∧ v < m) := by
  rcases h with ⟨-, h1_⟩ | ⟨-, h1_, h2_, -⟩
  · exact Or.inl h1_
  · exact Or.inr ⟨h1_, h2_⟩
theorem zc_pw.cases {a m : Nat} {e v : Int} (h : zc_pw a m e v) : v = -8 ∨ (0 ≤ v ∧ v < m) := by
  rcases h with ⟨-, -, h1_⟩ | ⟨-, f_, h1_, -, -, h2_⟩
  · exact Or.inl h1_
  · have := Nat.mod_lt (f_ ^ e.natAbs) (show 0 < m by omega)
    exact Or.inr ⟨by omega, by omega⟩
set_option maxHeartbeats 4000000 in
theorem zc_roundInverse_M {l : Launch} {G : am_G} {X : ck_XT} (g : gM l G X) {x : Nat} {r : Nat → Nat} {jj mm kk : Int} {c : sp_S} {R : Nat → sp_S} {old cnt : Nat} {h : List am_C} (hX : zc_x G h x r jj mm kk c R old cnt) {e : Int} (he1 : -2147483648 ≤ e) (he2 : e ≤ 2147483647) {mc ms : Nat} {Post : am_O → List am_C → Prop} (hmc : 1 ≤ mc) (hms : 6 ≤ ms)
    (hJ : (0 ≤ e ∧ e < 6) → c.1 ≤ 0 → ∀ h', zc_fr G h h' x r → zc_x G h' x r (jj + 1) mm kk c R old cnt → Post (.inl (some (.int (Int32.ofInt (-9))))) h')
    (hM : (0 ≤ e ∧ e < 6) → 0 < c.1 → sm_inv (c.2.1.getD e.toNat 0 % c.1).toNat c.1.toNat (-8) → ∀ h', zc_fr G h h' x r → zc_x G h' x r jj (mm + 1) kk c R old cnt → Post (.inl (some (.int (Int32.ofInt (-8))))) h')
    (hP : (0 ≤ e ∧ e < 6) → 0 < c.1 → ∀ v : Int, sm_inv (c.2.1.getD e.toNat 0 % c.1).toNat c.1.toNat v → 0 ≤ v → v < c.1 → ∀ h', zc_fr G h h' x r → zc_X G h' x r jj mm kk (c.1, c.2.1.set e.toNat (v), c.2.2) (sp_keep (zc_l R old cnt) c) → Post (.inl (some (.int (Int32.ofInt v)))) h')
    (hX2 : ¬ (0 ≤ e ∧ e < 6) → Post (.inr "java/lang/IndexOutOfBoundsException") (h ++ [(99, [])])) :
    am_M l G yX10_roundInverse (.code yX10_roundInverse prog_1_method_12_code 2 (some .int)) 8 145 mc ms [.ref x, .int (Int32.ofInt e)] h Post := by
  refine gh_yX10_roundInverse_X g (Nat.le_of_ble_eq_true rfl) fun S SX hs hr hw hx => ?_
  have rv : ∀ x : Int32, ck_fv 0 (.int x) := fun x => ⟨_, rfl⟩
  have hx9_ := hX.2.2.2.2.2.2.2
  have hb_ := hX.2.2.1.1
  by_cases c1_ : 0 ≤ e ∧ e < 6
  rotate_left
  · 
    refine hs 0 _ rfl _ _ _ _ _ _ _ rfl ?_
    refine hs 1 _ rfl _ _ _ _ _ _ _ rfl ?_
    refine hs 2 _ rfl _ _ _ _ _ _ _ rfl ?_
    exact zw_cm (hs 3 _ rfl) (a := [.ref x, .int (Int32.ofInt e)]) (st := [.ref x]) 1 6 rfl rfl (Nat.le_of_ble_eq_true rfl) ⟨_, _, _, rfl, (hX.1), rfl⟩ (by omega) (by omega) (zc_numAtX_M g hX he1 he2 (by omega) (by decide) (by decide) (hx _ _ _ _ _ _ (by omega) (by omega) (hX2 c1_)))
  · have cc_ := c1_
    have hP := hP c1_
    have hJ_ := hJ cc_
    have hM_ := hM cc_
    by_cases c3_ : c.1 ≤ 0
    · 
      obtain ⟨i, rfl⟩ : ∃ i : Nat, e = (i : Int) := ⟨e.toNat, by omega⟩
      have hi : i < 6 := by omega
      refine hs 0 _ rfl _ _ _ _ _ _ _ rfl ?_
      refine hs 1 _ rfl _ _ _ _ _ _ _ rfl ?_
      refine hs 2 _ rfl _ _ _ _ _ _ _ rfl ?_
      refine zw_c (hs 3 _ rfl) (a := [.ref x, .int (Int32.ofInt (i : Int))]) (st := [.ref x]) rfl rfl (Nat.le_of_ble_eq_true rfl) ⟨_, _, _, rfl, hX.1, rfl⟩ (Nat.zero_le _) (Nat.zero_le _) (zc_numAt_M g hX (i := i) rfl hi ?_)
      show S 6 [some (.ref x), some (.int (Int32.ofInt (i : Int)))] [.ref (x + 1 + 5 + 2 * i), .ref x] _ _ _
      refine hs 4 _ rfl _ _ _ _ _ _ _ rfl ?_
      refine hs 5 _ rfl _ _ _ _ _ _ _ rfl ?_
      refine zw_c (hs 6 _ rfl) (a := [.ref x, .int (Int32.ofInt (i : Int))]) (st := [.ref (x + 1 + 5 + 2 * i), .ref x]) rfl rfl (Nat.le_of_ble_eq_true rfl) ⟨_, _, _, rfl, hX.1, rfl⟩ (Nat.zero_le _) (Nat.zero_le _) (zc_inv_M g hX (i := i) rfl hi (fun _ => ?_) (fun y_ => absurd y_ (by omega)))
      show S 11 [some (.ref x), some (.int (Int32.ofInt (i : Int)))] [.int (Int32.ofInt (-9 : Int)), .ref (x + 1 + 5 + 2 * i), .ref x] _ _ _
      refine zw_c (hs 7 _ rfl) (a := [.ref x, .ref (x + 1 + 5 + 2 * i), .int (Int32.ofInt (-9 : Int))]) (st := []) rfl rfl (Nat.le_of_ble_eq_true rfl) ⟨_, _, _, rfl, hX.1, rfl⟩ (Nat.zero_le _) (Nat.zero_le _) (zc_putRound_M g hX hi (Or.inl rfl) (by decide) (fun _ h9_ f1_ f2_ => ?_) (fun y_ => absurd y_ (by decide)) (fun y_ => absurd y_ (by decide)))
      show S 14 _ [.int (Int32.ofInt (-9 : Int))] _ _ _
      exact hs 8 _ rfl _ _ _ _ _ (rv _) (Nat.zero_le _) (Nat.zero_le _) (hJ_ c3_ _ f1_ f2_)
    · 
      obtain ⟨i, rfl⟩ : ∃ i : Nat, e = (i : Int) := ⟨e.toNat, by omega⟩
      have hi : i < 6 := by omega
      refine hs 0 _ rfl _ _ _ _ _ _ _ rfl ?_
      refine hs 1 _ rfl _ _ _ _ _ _ _ rfl ?_
      refine hs 2 _ rfl _ _ _ _ _ _ _ rfl ?_
      refine zw_c (hs 3 _ rfl) (a := [.ref x, .int (Int32.ofInt (i : Int))]) (st := [.ref x]) rfl rfl (Nat.le_of_ble_eq_true rfl) ⟨_, _, _, rfl, hX.1, rfl⟩ (Nat.zero_le _) (Nat.zero_le _) (zc_numAt_M g hX (i := i) rfl hi ?_)
      show S 6 [some (.ref x), some (.int (Int32.ofInt (i : Int)))] [.ref (x + 1 + 5 + 2 * i), .ref x] _ _ _
      refine hs 4 _ rfl _ _ _ _ _ _ _ rfl ?_
      refine hs 5 _ rfl _ _ _ _ _ _ _ rfl ?_
      refine zw_c (hs 6 _ rfl) (a := [.ref x, .int (Int32.ofInt (i : Int))]) (st := [.ref (x + 1 + 5 + 2 * i), .ref x]) rfl rfl (Nat.le_of_ble_eq_true rfl) ⟨_, _, _, rfl, hX.1, rfl⟩ (Nat.zero_le _) (Nat.zero_le _) (zc_inv_M g hX (i := i) rfl hi (fun y_ => absurd y_ (by omega)) (fun _ v_ hv_ => ?_))
      show S 11 [some (.ref x), some (.int (Int32.ofInt (i : Int)))] [.int (Int32.ofInt v_), .ref (x + 1 + 5 + 2 * i), .ref x] _ _ _
      rcases hv_.cases with vb_ | ⟨vb1_, vb2_⟩
      · subst vb_
        refine zw_c (hs 7 _ rfl) (a := [.ref x, .ref (x + 1 + 5 + 2 * i), .int (Int32.ofInt (-8 : Int))]) (st := []) rfl rfl (Nat.le_of_ble_eq_true rfl) ⟨_, _, _, rfl, hX.1, rfl⟩ (Nat.zero_le _) (Nat.zero_le _) (zc_putRound_M g hX hi (Or.inr (Or.inl rfl)) (by decide) (fun y_ => absurd y_ (by decide)) (fun _ h9_ f1_ f2_ => ?_) (fun y_ => absurd y_ (by decide)))
        show S 14 _ [.int (Int32.ofInt (-8 : Int))] _ _ _
        exact hs 8 _ rfl _ _ _ _ _ (rv _) (Nat.zero_le _) (Nat.zero_le _) (hM_ (by omega) hv_ _ f1_ f2_)
      · rw [show (c.1.toNat : Int) = c.1 by omega] at vb2_
        refine zw_c (hs 7 _ rfl) (a := [.ref x, .ref (x + 1 + 5 + 2 * i), .int (Int32.ofInt v_)]) (st := []) rfl rfl (Nat.le_of_ble_eq_true rfl) ⟨_, _, _, rfl, hX.1, rfl⟩ (Nat.zero_le _) (Nat.zero_le _) (zc_putRound_M g hX hi (Or.inr (Or.inr vb1_)) (by omega) (fun y_ => absurd y_ (by omega)) (fun y_ => absurd y_ (by omega)) (fun _ h9_ f1_ f2_ => ?_))
        show S 14 _ [.int (Int32.ofInt v_)] _ _ _
        exact hs 8 _ rfl _ _ _ _ _ (rv _) (Nat.zero_le _) (Nat.zero_le _) (hP (by omega) v_ hv_ vb1_ vb2_ _ f1_ f2_)
set_option maxHeartbeats 4000000 in
theorem zc_powX_M {l : Launch} {G : am_G} {X : ck_XT} (g : gM l G X) {x : Nat} {r : Nat → Nat} {jj mm kk : Int} {c : sp_S} {R : Nat → sp_S} {old cnt : Nat} {h : List am_C} (hX : zc_x G h x r jj mm kk c R old cnt) {i : Nat} {e : Int} (he : e = (i : Int)) (hi : i < 6) {e2 : Int} (hf1 : -2147483648 ≤ e2) (hf2 : e2 ≤ 2147483647) (hc : e2 < 0 ∨ 6 ≤ e2) {mc ms : Nat} {Post : am_O → List am_C → Prop} (hmc : 1 ≤ mc) (hms : 6 ≤ ms)
    (hX2 : Post (.inr "java/lang/IndexOutOfBoundsException") (h ++ [(99, [])])) :
    am_M l G yX10_power (.code yX10_power prog_1_method_29_code 5 (some .int)) 7 111 mc ms [.ref x, .int (Int32.ofInt e), .int (Int32.ofInt e2)] h Post := by
  refine gh_yX10_power_X g (Nat.le_of_ble_eq_true rfl) fun S SX hs hr hw hx => ?_
  have rv : ∀ x : Int32, ck_fv 0 (.int x) := fun x => ⟨_, rfl⟩
  subst he
  refine hs 0 _ rfl _ _ _ _ _ _ _ rfl ?_
  refine hs 1 _ rfl _ _ _ _ _ _ _ rfl ?_
  refine zw_c (hs 2 _ rfl) (a := [.ref x, .int (Int32.ofInt (i : Int))]) (st := []) rfl rfl (Nat.le_of_ble_eq_true rfl) ⟨_, _, _, rfl, hX.1, rfl⟩ (Nat.zero_le _) (Nat.zero_le _) (zc_numAt_M g hX (i := i) rfl hi ?_)
  show S 5 [some (.ref x), some (.int (Int32.ofInt (i : Int))), some (.int (Int32.ofInt e2)), none, none] [.ref (x + 1 + 5 + 2 * i)] _ _ _
  refine hs 3 _ rfl _ _ _ _ _ _ _ rfl ?_
  refine hs 4 _ rfl _ _ _ _ _ _ _ rfl ?_
  refine hs 5 _ rfl _ _ _ _ _ _ _ rfl ?_
  exact zw_cm (hs 6 _ rfl) (a := [.ref x, .int (Int32.ofInt e2)]) (st := []) 1 6 rfl rfl (Nat.le_of_ble_eq_true rfl) ⟨_, _, _, rfl, (hX.1), rfl⟩ (by omega) (by omega) (zc_numAtX_M g hX hf1 hf2 (by omega) (by decide) (by decide) (hx _ _ _ _ _ _ (by omega) (by omega) hX2))
set_option maxHeartbeats 4000000 in
theorem zc_roundPower_M {l : Launch} {G : am_G} {X : ck_XT} (g : gM l G X) {x : Nat} {r : Nat → Nat} {jj mm kk : Int} {c : sp_S} {R : Nat → sp_S} {old cnt : Nat} {h : List am_C} (hX : zc_x G h x r jj mm kk c R old cnt) {e : Int} (he1 : -2147483648 ≤ e) (he2 : e ≤ 2147483647) {e2 : Int} (hf1 : -2147483648 ≤ e2) (hf2 : e2 ≤ 2147483647) {mc ms : Nat} {Post : am_O → List am_C → Prop} (hmc : 1 ≤ mc) (hms : 6 ≤ ms)
    (hJ : (0 ≤ e ∧ e < 6 ∧ 0 ≤ e2 ∧ e2 < 6) → c.1 ≤ 0 → ∀ h', zc_fr G h h' x r → zc_x G h' x r (jj + 1) mm kk c R old cnt → Post (.inl (some (.int (Int32.ofInt (-9))))) h')
    (hM : (0 ≤ e ∧ e < 6 ∧ 0 ≤ e2 ∧ e2 < 6) → 0 < c.1 → zc_pw (c.2.1.getD e.toNat 0 % c.1).toNat c.1.toNat (c.2.1.getD e2.toNat 0) (-8) → ∀ h', zc_fr G h h' x r → zc_x G h' x r jj (mm + 1) kk c R old cnt → Post (.inl (some (.int (Int32.ofInt (-8))))) h')
    (hP : (0 ≤ e ∧ e < 6 ∧ 0 ≤ e2 ∧ e2 < 6) → 0 < c.1 → ∀ v : Int, zc_pw (c.2.1.getD e.toNat 0 % c.1).toNat c.1.toNat (c.2.1.getD e2.toNat 0) v → 0 ≤ v → v < c.1 → ∀ h', zc_fr G h h' x r → zc_X G h' x r jj mm kk (c.1, c.2.1.set e.toNat (v), c.2.2) (sp_keep (zc_l R old cnt) c) → Post (.inl (some (.int (Int32.ofInt v)))) h')
    (hX2 : ¬ (0 ≤ e ∧ e < 6 ∧ 0 ≤ e2 ∧ e2 < 6) → Post (.inr "java/lang/IndexOutOfBoundsException") (h ++ [(99, [])])) :
    am_M l G yX10_roundPower (.code yX10_roundPower prog_1_method_11_code 3 (some .int)) 8 145 mc ms [.ref x, .int (Int32.ofInt e), .int (Int32.ofInt e2)] h Post := by
  refine gh_yX10_roundPower_X g (Nat.le_of_ble_eq_true rfl) fun S SX hs hr hw hx => ?_
  have rv : ∀ x : Int32, ck_fv 0 (.int x) := fun x => ⟨_, rfl⟩
  have hx9_ := hX.2.2.2.2.2.2.2
  have hb_ := hX.2.2.1.1
  by_cases c1_ : 0 ≤ e ∧ e < 6
  rotate_left
  · 
    refine hs 0 _ rfl _ _ _ _ _ _ _ rfl ?_
    refine hs 1 _ rfl _ _ _ _ _ _ _ rfl ?_
    refine hs 2 _ rfl _ _ _ _ _ _ _ rfl ?_
    exact zw_cm (hs 3 _ rfl) (a := [.ref x, .int (Int32.ofInt e)]) (st := [.ref x]) 1 6 rfl rfl (Nat.le_of_ble_eq_true rfl) ⟨_, _, _, rfl, (hX.1), rfl⟩ (by omega) (by omega) (zc_numAtX_M g hX he1 he2 (by omega) (by decide) (by decide) (hx _ _ _ _ _ _ (by omega) (by omega) (hX2 (fun y_ => c1_ ⟨y_.1, y_.2.1⟩))))
  · by_cases c2_ : 0 ≤ e2 ∧ e2 < 6
    rotate_left
    · 
      obtain ⟨i, rfl⟩ : ∃ i : Nat, e = (i : Int) := ⟨e.toNat, by omega⟩
      have hi : i < 6 := by omega
      refine hs 0 _ rfl _ _ _ _ _ _ _ rfl ?_
      refine hs 1 _ rfl _ _ _ _ _ _ _ rfl ?_
      refine hs 2 _ rfl _ _ _ _ _ _ _ rfl ?_
      refine zw_c (hs 3 _ rfl) (a := [.ref x, .int (Int32.ofInt (i : Int))]) (st := [.ref x]) rfl rfl (Nat.le_of_ble_eq_true rfl) ⟨_, _, _, rfl, hX.1, rfl⟩ (Nat.zero_le _) (Nat.zero_le _) (zc_numAt_M g hX (i := i) rfl hi ?_)
      show S 6 [some (.ref x), some (.int (Int32.ofInt (i : Int))), some (.int (Int32.ofInt e2))] [.ref (x + 1 + 5 + 2 * i), .ref x] _ _ _
      refine hs 4 _ rfl _ _ _ _ _ _ _ rfl ?_
      refine hs 5 _ rfl _ _ _ _ _ _ _ rfl ?_
      refine hs 6 _ rfl _ _ _ _ _ _ _ rfl ?_
      exact zw_cm (hs 7 _ rfl) (a := [.ref x, .int (Int32.ofInt (i : Int)), .int (Int32.ofInt e2)]) (st := [.ref (x + 1 + 5 + 2 * i), .ref x]) 1 6 rfl rfl (Nat.le_of_ble_eq_true rfl) ⟨_, _, _, rfl, (hX.1), rfl⟩ (by omega) (by omega) (zc_powX_M g hX (i := i) rfl hi hf1 hf2 (by omega) (by decide) (by decide) (hx _ _ _ _ _ _ (by omega) (by omega) (hX2 (fun y_ => c2_ y_.2.2))))
    have cc_ : 0 ≤ e ∧ e < 6 ∧ 0 ≤ e2 ∧ e2 < 6 := ⟨c1_.1, c1_.2, c2_⟩
    have hP := hP cc_
    have hJ_ := hJ cc_
    have hM_ := hM cc_
    by_cases c3_ : c.1 ≤ 0
    · 
      obtain ⟨i, rfl⟩ : ∃ i : Nat, e = (i : Int) := ⟨e.toNat, by omega⟩
      have hi : i < 6 := by omega
      obtain ⟨i2, rfl⟩ : ∃ i2 : Nat, e2 = (i2 : Int) := ⟨e2.toNat, by omega⟩
      have hi2 : i2 < 6 := by omega
      refine hs 0 _ rfl _ _ _ _ _ _ _ rfl ?_
      refine hs 1 _ rfl _ _ _ _ _ _ _ rfl ?_
      refine hs 2 _ rfl _ _ _ _ _ _ _ rfl ?_
      refine zw_c (hs 3 _ rfl) (a := [.ref x, .int (Int32.ofInt (i : Int))]) (st := [.ref x]) rfl rfl (Nat.le_of_ble_eq_true rfl) ⟨_, _, _, rfl, hX.1, rfl⟩ (Nat.zero_le _) (Nat.zero_le _) (zc_numAt_M g hX (i := i) rfl hi ?_)
      show S 6 [some (.ref x), some (.int (Int32.ofInt (i : Int))), some (.int (Int32.ofInt (i2 : Int)))] [.ref (x + 1 + 5 + 2 * i), .ref x] _ _ _
      refine hs 4 _ rfl _ _ _ _ _ _ _ rfl ?_
      refine hs 5 _ rfl _ _ _ _ _ _ _ rfl ?_
      refine hs 6 _ rfl _ _ _ _ _ _ _ rfl ?_
      refine zw_c (hs 7 _ rfl) (a := [.ref x, .int (Int32.ofInt (i : Int)), .int (Int32.ofInt (i2 : Int))]) (st := [.ref (x + 1 + 5 + 2 * i), .ref x]) rfl rfl (Nat.le_of_ble_eq_true rfl) ⟨_, _, _, rfl, hX.1, rfl⟩ (Nat.zero_le _) (Nat.zero_le _) (zc_pow_M g hX (i := i) rfl hi (i2 := i2) rfl hi2 (fun _ => ?_) (fun y_ => absurd y_ (by omega)))
      show S 12 [some (.ref x), some (.int (Int32.ofInt (i : Int))), some (.int (Int32.ofInt (i2 : Int)))] [.int (Int32.ofInt (-9 : Int)), .ref (x + 1 + 5 + 2 * i), .ref x] _ _ _
      refine zw_c (hs 8 _ rfl) (a := [.ref x, .ref (x + 1 + 5 + 2 * i), .int (Int32.ofInt (-9 : Int))]) (st := []) rfl rfl (Nat.le_of_ble_eq_true rfl) ⟨_, _, _, rfl, hX.1, rfl⟩ (Nat.zero_le _) (Nat.zero_le _) (zc_putRound_M g hX hi (Or.inl rfl) (by decide) (fun _ h9_ f1_ f2_ => ?_) (fun y_ => absurd y_ (by decide)) (fun y_ => absurd y_ (by decide)))
      show S 15 _ [.int (Int32.ofInt (-9 : Int))] _ _ _
      exact hs 9 _ rfl _ _ _ _ _ (rv _) (Nat.zero_le _) (Nat.zero_le _) (hJ_ c3_ _ f1_ f2_)
    · 
      obtain ⟨i, rfl⟩ : ∃ i : Nat, e = (i : Int) := ⟨e.toNat, by omega⟩
      have hi : i < 6 := by omega
      obtain ⟨i2, rfl⟩ : ∃ i2 : Nat, e2 = (i2 : Int) := ⟨e2.toNat, by omega⟩
      have hi2 : i2 < 6 := by omega
      refine hs 0 _ rfl _ _ _ _ _ _ _ rfl ?_
      refine hs 1 _ rfl _ _ _ _ _ _ _ rfl ?_
      refine hs 2 _ rfl _ _ _ _ _ _ _ rfl ?_
      refine zw_c (hs 3 _ rfl) (a := [.ref x, .int (Int32.ofInt (i : Int))]) (st := [.ref x]) rfl rfl (Nat.le_of_ble_eq_true rfl) ⟨_, _, _, rfl, hX.1, rfl⟩ (Nat.zero_le _) (Nat.zero_le _) (zc_numAt_M g hX (i := i) rfl hi ?_)
      show S 6 [some (.ref x), some (.int (Int32.ofInt (i : Int))), some (.int (Int32.ofInt (i2 : Int)))] [.ref (x + 1 + 5 + 2 * i), .ref x] _ _ _
      refine hs 4 _ rfl _ _ _ _ _ _ _ rfl ?_
      refine hs 5 _ rfl _ _ _ _ _ _ _ rfl ?_
      refine hs 6 _ rfl _ _ _ _ _ _ _ rfl ?_
      refine zw_c (hs 7 _ rfl) (a := [.ref x, .int (Int32.ofInt (i : Int)), .int (Int32.ofInt (i2 : Int))]) (st := [.ref (x + 1 + 5 + 2 * i), .ref x]) rfl rfl (Nat.le_of_ble_eq_true rfl) ⟨_, _, _, rfl, hX.1, rfl⟩ (Nat.zero_le _) (Nat.zero_le _) (zc_pow_M g hX (i := i) rfl hi (i2 := i2) rfl hi2 (fun y_ => absurd y_ (by omega)) (fun _ v_ hv_ => ?_))
      show S 12 [some (.ref x), some (.int (Int32.ofInt (i : Int))), some (.int (Int32.ofInt (i2 : Int)))] [.int (Int32.ofInt v_), .ref (x + 1 + 5 + 2 * i), .ref x] _ _ _
      rcases hv_.cases with vb_ | ⟨vb1_, vb2_⟩
      · subst vb_
        refine zw_c (hs 8 _ rfl) (a := [.ref x, .ref (x + 1 + 5 + 2 * i), .int (Int32.ofInt (-8 : Int))]) (st := []) rfl rfl (Nat.le_of_ble_eq_true rfl) ⟨_, _, _, rfl, hX.1, rfl⟩ (Nat.zero_le _) (Nat.zero_le _) (zc_putRound_M g hX hi (Or.inr (Or.inl rfl)) (by decide) (fun y_ => absurd y_ (by decide)) (fun _ h9_ f1_ f2_ => ?_) (fun y_ => absurd y_ (by decide)))
        show S 15 _ [.int (Int32.ofInt (-8 : Int))] _ _ _
        exact hs 9 _ rfl _ _ _ _ _ (rv _) (Nat.zero_le _) (Nat.zero_le _) (hM_ (by omega) hv_ _ f1_ f2_)
      · rw [show (c.1.toNat : Int) = c.1 by omega] at vb2_
        refine zw_c (hs 8 _ rfl) (a := [.ref x, .ref (x + 1 + 5 + 2 * i), .int (Int32.ofInt v_)]) (st := []) rfl rfl (Nat.le_of_ble_eq_true rfl) ⟨_, _, _, rfl, hX.1, rfl⟩ (Nat.zero_le _) (Nat.zero_le _) (zc_putRound_M g hX hi (Or.inr (Or.inr vb1_)) (by omega) (fun y_ => absurd y_ (by omega)) (fun y_ => absurd y_ (by omega)) (fun _ h9_ f1_ f2_ => ?_))
        show S 15 _ [.int (Int32.ofInt v_)] _ _ _
        exact hs 9 _ rfl _ _ _ _ _ (rv _) (Nat.zero_le _) (Nat.zero_le _) (hP (by omega) v_ hv_ vb1_ vb2_ _ f1_ f2_)
set_option maxHeartbeats 4000000 in
theorem zc_roundPlus_M {l : Launch} {G : am_G} {X : ck_XT} (g : gM l G X) {x : Nat} {r : Nat → Nat} {jj mm kk : Int} {c : sp_S} {R : Nat → sp_S} {old cnt : Nat} {h : List am_C} (hX : zc_x G h x r jj mm kk c R old cnt) {e : Int} (he1 : -2147483648 ≤ e) (he2 : e ≤ 2147483647) {e2 : Int} (hf1 : -2147483648 ≤ e2) (hf2 : e2 ≤ 2147483647) {mc ms : Nat} {Post : am_O → List am_C → Prop} (hmc : 1 ≤ mc) (hms : 6 ≤ ms)
    (hJ : (0 ≤ e ∧ e < 6 ∧ 0 ≤ e2 ∧ e2 < 6) → c.1 ≤ 0 → ∀ h', zc_fr G h h' x r → zc_x G h' x r (jj + 1) mm kk c R old cnt → Post (.inl (some (.int (Int32.ofInt (-9))))) h')
    (hP : (0 ≤ e ∧ e < 6 ∧ 0 ≤ e2 ∧ e2 < 6) → 0 < c.1 → ∀ h', zc_fr G h h' x r → zc_X G h' x r jj mm kk (c.1, c.2.1.set e.toNat (((c.2.1.getD e.toNat 0 % c.1) + (c.2.1.getD e2.toNat 0 % c.1)) % c.1), c.2.2) (sp_keep (zc_l R old cnt) c) → Post (.inl (some (.int (Int32.ofInt (((c.2.1.getD e.toNat 0 % c.1) + (c.2.1.getD e2.toNat 0 % c.1)) % c.1))))) h')
    (hX2 : ¬ (0 ≤ e ∧ e < 6 ∧ 0 ≤ e2 ∧ e2 < 6) → Post (.inr "java/lang/IndexOutOfBoundsException") (h ++ [(99, [])])) :
    am_M l G yX10_roundPlus (.code yX10_roundPlus prog_1_method_9_code 6 (some .int)) 7 145 mc ms [.ref x, .int (Int32.ofInt e), .int (Int32.ofInt e2)] h Post := by
  refine gh_yX10_roundPlus_X g (Nat.le_of_ble_eq_true rfl) fun S SX hs hr hw hx => ?_
  have rv : ∀ x : Int32, ck_fv 0 (.int x) := fun x => ⟨_, rfl⟩
  have hx9_ := hX.2.2.2.2.2.2.2
  have hb_ := hX.2.2.1.1
  by_cases c1_ : 0 ≤ e ∧ e < 6
  rotate_left
  · 
    refine hs 0 _ rfl _ _ _ _ _ _ _ rfl ?_
    refine hs 1 _ rfl _ _ _ _ _ _ _ rfl ?_
    exact zw_cm (hs 2 _ rfl) (a := [.ref x, .int (Int32.ofInt e)]) (st := []) 1 6 rfl rfl (Nat.le_of_ble_eq_true rfl) ⟨_, _, _, rfl, (hX.1), rfl⟩ (by omega) (by omega) (zc_numAtX_M g hX he1 he2 (by omega) (by decide) (by decide) (hx _ _ _ _ _ _ (by omega) (by omega) (hX2 (fun y_ => c1_ ⟨y_.1, y_.2.1⟩))))
  · by_cases c2_ : 0 ≤ e2 ∧ e2 < 6
    rotate_left
    · 
      obtain ⟨i, rfl⟩ : ∃ i : Nat, e = (i : Int) := ⟨e.toNat, by omega⟩
      have hi : i < 6 := by omega
      refine hs 0 _ rfl _ _ _ _ _ _ _ rfl ?_
      refine hs 1 _ rfl _ _ _ _ _ _ _ rfl ?_
      refine zw_c (hs 2 _ rfl) (a := [.ref x, .int (Int32.ofInt (i : Int))]) (st := []) rfl rfl (Nat.le_of_ble_eq_true rfl) ⟨_, _, _, rfl, hX.1, rfl⟩ (Nat.zero_le _) (Nat.zero_le _) (zc_numAt_M g hX (i := i) rfl hi ?_)
      show S 5 [some (.ref x), some (.int (Int32.ofInt (i : Int))), some (.int (Int32.ofInt e2)), none, none, none] [.ref (x + 1 + 5 + 2 * i)] _ _ _
      refine hs 3 _ rfl _ _ _ _ _ _ _ rfl ?_
      refine hs 4 _ rfl _ _ _ _ _ _ _ rfl ?_
      refine hs 5 _ rfl _ _ _ _ _ _ _ rfl ?_
      exact zw_cm (hs 6 _ rfl) (a := [.ref x, .int (Int32.ofInt e2)]) (st := []) 1 6 rfl rfl (Nat.le_of_ble_eq_true rfl) ⟨_, _, _, rfl, (hX.1), rfl⟩ (by omega) (by omega) (zc_numAtX_M g hX hf1 hf2 (by omega) (by decide) (by decide) (hx _ _ _ _ _ _ (by omega) (by omega) (hX2 (fun y_ => c2_ y_.2.2))))
    have cc_ : 0 ≤ e ∧ e < 6 ∧ 0 ≤ e2 ∧ e2 < 6 := ⟨c1_.1, c1_.2, c2_⟩
    have hP := hP cc_
    have hJ_ := hJ cc_
    by_cases c3_ : c.1 ≤ 0
    · 
      obtain ⟨i, rfl⟩ : ∃ i : Nat, e = (i : Int) := ⟨e.toNat, by omega⟩
      have hi : i < 6 := by omega
      obtain ⟨i2, rfl⟩ : ∃ i2 : Nat, e2 = (i2 : Int) := ⟨e2.toNat, by omega⟩
      have hi2 : i2 < 6 := by omega
      refine hs 0 _ rfl _ _ _ _ _ _ _ rfl ?_
      refine hs 1 _ rfl _ _ _ _ _ _ _ rfl ?_
      refine zw_c (hs 2 _ rfl) (a := [.ref x, .int (Int32.ofInt (i : Int))]) (st := []) rfl rfl (Nat.le_of_ble_eq_true rfl) ⟨_, _, _, rfl, hX.1, rfl⟩ (Nat.zero_le _) (Nat.zero_le _) (zc_numAt_M g hX (i := i) rfl hi ?_)
      show S 5 [some (.ref x), some (.int (Int32.ofInt (i : Int))), some (.int (Int32.ofInt (i2 : Int))), none, none, none] [.ref (x + 1 + 5 + 2 * i)] _ _ _
      refine hs 3 _ rfl _ _ _ _ _ _ _ rfl ?_
      refine hs 4 _ rfl _ _ _ _ _ _ _ rfl ?_
      refine hs 5 _ rfl _ _ _ _ _ _ _ rfl ?_
      refine zw_c (hs 6 _ rfl) (a := [.ref x, .int (Int32.ofInt (i2 : Int))]) (st := []) rfl rfl (Nat.le_of_ble_eq_true rfl) ⟨_, _, _, rfl, hX.1, rfl⟩ (Nat.zero_le _) (Nat.zero_le _) (zc_numAt_M g hX (i := i2) rfl hi2 ?_)
      show S 11 [some (.ref x), some (.int (Int32.ofInt (i : Int))), some (.int (Int32.ofInt (i2 : Int))), some (.ref (x + 1 + 5 + 2 * i)), none, none] [.ref (x + 1 + 5 + 2 * i2)] _ _ _
      refine hs 7 _ rfl _ _ _ _ _ _ _ rfl ?_
      refine hs 8 _ rfl _ _ _ _ _ _ _ rfl ?_
      refine hs 9 _ rfl _ _ _ _ _ _ _ _ _ (hX.1) rfl rfl ?_
      refine hs 10 _ rfl _ _ _ _ _ _ _ _ _ (hX.2.1.d) rfl rfl ?_
      refine hs 11 _ rfl _ _ _ _ _ _ _ rfl ?_
      refine hs 12 _ rfl _ _ _ _ _ _ _ rfl ?_
      refine hs 13 _ rfl _ _ _ _ _ _ _ rfl ?_
      refine hs 14 _ rfl _ _ _ _ _ _ _ rfl ?_
      refine hs 15 _ rfl _ _ _ _ _ _ (fun zq => absurd (hd_c1z (c := 4) (by omega) (by omega) zq) (by omega : ¬ (0 < c.1))) (fun _ => ?_)
      refine hs 16 _ rfl _ _ _ _ _ _ _ rfl ?_
      refine hs 17 _ rfl _ _ _ _ _ ?_
      refine zw_c (hs 27 _ rfl) (a := [.ref x, .ref (x + 1 + 5 + 2 * i), .int (Int32.ofInt (-9 : Int))]) (st := []) rfl rfl (Nat.le_of_ble_eq_true rfl) ⟨_, _, _, rfl, hX.1, rfl⟩ (Nat.zero_le _) (Nat.zero_le _) (zc_putRound_M g hX hi (Or.inl rfl) (by decide) (fun _ h9_ f1_ f2_ => ?_) (fun y_ => absurd y_ (by decide)) (fun y_ => absurd y_ (by decide)))
      show S 54 _ [.int (Int32.ofInt (-9 : Int))] _ _ _
      exact hs 28 _ rfl _ _ _ _ _ (rv _) (Nat.zero_le _) (Nat.zero_le _) (hJ_ c3_ _ f1_ f2_)
    · 
      obtain ⟨i, rfl⟩ : ∃ i : Nat, e = (i : Int) := ⟨e.toNat, by omega⟩
      have hi : i < 6 := by omega
      obtain ⟨i2, rfl⟩ : ∃ i2 : Nat, e2 = (i2 : Int) := ⟨e2.toNat, by omega⟩
      have hi2 : i2 < 6 := by omega
      obtain ⟨ny_, sy_, ly_, y1_, y2_, y3_⟩ := hX.2.1.n hi
      obtain ⟨nv_, sv_, lv_, v1_, v2_, v3_⟩ := hX.2.1.n hi2
      have r1_ := Int.emod_nonneg (c.2.1.getD i 0) (b := c.1) (by omega)
      have r2_ := Int.emod_lt_of_pos (c.2.1.getD i 0) (b := c.1) (by omega)
      have s1_ := Int.emod_nonneg (c.2.1.getD i2 0) (b := c.1) (by omega)
      have s2_ := Int.emod_lt_of_pos (c.2.1.getD i2 0) (b := c.1) (by omega)
      have u1_ : 0 ≤ (c.2.1.getD i 0 % c.1) + (c.2.1.getD i2 0 % c.1) ∧ (c.2.1.getD i 0 % c.1) + (c.2.1.getD i2 0 % c.1) ≤ 400 * 400 := ⟨by omega, by omega⟩
      have t1_ := Int.emod_nonneg ((c.2.1.getD i 0 % c.1) + (c.2.1.getD i2 0 % c.1)) (b := c.1) (by omega)
      have t2_ := Int.emod_lt_of_pos ((c.2.1.getD i 0 % c.1) + (c.2.1.getD i2 0 % c.1)) (b := c.1) (by omega)
      refine hs 0 _ rfl _ _ _ _ _ _ _ rfl ?_
      refine hs 1 _ rfl _ _ _ _ _ _ _ rfl ?_
      refine zw_c (hs 2 _ rfl) (a := [.ref x, .int (Int32.ofInt (i : Int))]) (st := []) rfl rfl (Nat.le_of_ble_eq_true rfl) ⟨_, _, _, rfl, hX.1, rfl⟩ (Nat.zero_le _) (Nat.zero_le _) (zc_numAt_M g hX (i := i) rfl hi ?_)
      show S 5 [some (.ref x), some (.int (Int32.ofInt (i : Int))), some (.int (Int32.ofInt (i2 : Int))), none, none, none] [.ref (x + 1 + 5 + 2 * i)] _ _ _
      refine hs 3 _ rfl _ _ _ _ _ _ _ rfl ?_
      refine hs 4 _ rfl _ _ _ _ _ _ _ rfl ?_
      refine hs 5 _ rfl _ _ _ _ _ _ _ rfl ?_
      refine zw_c (hs 6 _ rfl) (a := [.ref x, .int (Int32.ofInt (i2 : Int))]) (st := []) rfl rfl (Nat.le_of_ble_eq_true rfl) ⟨_, _, _, rfl, hX.1, rfl⟩ (Nat.zero_le _) (Nat.zero_le _) (zc_numAt_M g hX (i := i2) rfl hi2 ?_)
      show S 11 [some (.ref x), some (.int (Int32.ofInt (i : Int))), some (.int (Int32.ofInt (i2 : Int))), some (.ref (x + 1 + 5 + 2 * i)), none, none] [.ref (x + 1 + 5 + 2 * i2)] _ _ _
      refine hs 7 _ rfl _ _ _ _ _ _ _ rfl ?_
      refine hs 8 _ rfl _ _ _ _ _ _ _ rfl ?_
      refine hs 9 _ rfl _ _ _ _ _ _ _ _ _ (hX.1) rfl rfl ?_
      refine hs 10 _ rfl _ _ _ _ _ _ _ _ _ (hX.2.1.d) rfl rfl ?_
      refine hs 11 _ rfl _ _ _ _ _ _ _ rfl ?_
      refine hs 12 _ rfl _ _ _ _ _ _ _ rfl ?_
      refine hs 13 _ rfl _ _ _ _ _ _ _ rfl ?_
      refine hs 14 _ rfl _ _ _ _ _ _ _ rfl ?_
      refine hs 15 _ rfl _ _ _ _ _ _ (fun _ => ?_) (fun zq => absurd (hd_c1t (c := 4) (by omega) (by omega) (by omega : 0 < c.1)) zq)
      refine hs 18 _ rfl _ _ _ _ _ _ _ rfl ?_
      refine hs 19 _ rfl _ _ _ _ _ _ _ rfl ?_
      refine zw_c (hs 20 _ rfl) (a := [.ref (x + 1 + 5 + 2 * i), .int (Int32.ofInt c.1)]) (st := [.ref (x + 1 + 5 + 2 * i), .ref x]) rfl rfl (Nat.le_of_ble_eq_true rfl) ⟨_, _, _, rfl, y1_, rfl⟩ (Nat.zero_le _) (Nat.zero_le _) (sb_restE_M g y1_ rfl y2_ rfl y3_ (by omega) (by omega) ?_)
      show S 40 [some (.ref x), some (.int (Int32.ofInt (i : Int))), some (.int (Int32.ofInt (i2 : Int))), some (.ref (x + 1 + 5 + 2 * i)), some (.ref (x + 1 + 5 + 2 * i2)), some (.int (Int32.ofInt c.1))] [.int (Int32.ofInt (c.2.1.getD i 0 % c.1)), .ref (x + 1 + 5 + 2 * i), .ref x] _ _ _
      refine hs 21 _ rfl _ _ _ _ _ _ _ rfl ?_
      refine hs 22 _ rfl _ _ _ _ _ _ _ rfl ?_
      refine zw_c (hs 23 _ rfl) (a := [.ref (x + 1 + 5 + 2 * i2), .int (Int32.ofInt c.1)]) (st := [.int (Int32.ofInt (c.2.1.getD i 0 % c.1)), .ref (x + 1 + 5 + 2 * i), .ref x]) rfl rfl (Nat.le_of_ble_eq_true rfl) ⟨_, _, _, rfl, v1_, rfl⟩ (Nat.zero_le _) (Nat.zero_le _) (sb_restE_M g v1_ rfl v2_ rfl v3_ (by omega) (by omega) ?_)
      show S 47 [some (.ref x), some (.int (Int32.ofInt (i : Int))), some (.int (Int32.ofInt (i2 : Int))), some (.ref (x + 1 + 5 + 2 * i)), some (.ref (x + 1 + 5 + 2 * i2)), some (.int (Int32.ofInt c.1))] [.int (Int32.ofInt (c.2.1.getD i2 0 % c.1)), .int (Int32.ofInt (c.2.1.getD i 0 % c.1)), .ref (x + 1 + 5 + 2 * i), .ref x] _ _ _
      refine hs 24 _ rfl _ _ _ _ _ _ _ hd_add ?_
      refine hs 25 _ rfl _ _ _ _ _ _ _ rfl ?_
      refine hs 26 _ rfl _ _ _ _ _ _ _ (hd_rem (by omega) (by omega) (by omega) (by omega)) ?_
      refine zw_c (hs 27 _ rfl) (a := [.ref x, .ref (x + 1 + 5 + 2 * i), .int (Int32.ofInt (((c.2.1.getD i 0 % c.1) + (c.2.1.getD i2 0 % c.1)) % c.1))]) (st := []) rfl rfl (Nat.le_of_ble_eq_true rfl) ⟨_, _, _, rfl, hX.1, rfl⟩ (Nat.zero_le _) (Nat.zero_le _) (zc_putRound_M g hX hi (Or.inr (Or.inr t1_)) (by omega) (fun y_ => absurd y_ (by omega)) (fun y_ => absurd y_ (by omega)) (fun _ h9_ f1_ f2_ => ?_))
      show S 54 _ [.int (Int32.ofInt (((c.2.1.getD i 0 % c.1) + (c.2.1.getD i2 0 % c.1)) % c.1))] _ _ _
      exact hs 28 _ rfl _ _ _ _ _ (rv _) (Nat.zero_le _) (Nat.zero_le _) (hP (by omega) _ f1_ f2_)
set_option maxHeartbeats 4000000 in
theorem zc_roundTimes_M {l : Launch} {G : am_G} {X : ck_XT} (g : gM l G X) {x : Nat} {r : Nat → Nat} {jj mm kk : Int} {c : sp_S} {R : Nat → sp_S} {old cnt : Nat} {h : List am_C} (hX : zc_x G h x r jj mm kk c R old cnt) {e : Int} (he1 : -2147483648 ≤ e) (he2 : e ≤ 2147483647) {e2 : Int} (hf1 : -2147483648 ≤ e2) (hf2 : e2 ≤ 2147483647) {mc ms : Nat} {Post : am_O → List am_C → Prop} (hmc : 1 ≤ mc) (hms : 6 ≤ ms)
    (hJ : (0 ≤ e ∧ e < 6 ∧ 0 ≤ e2 ∧ e2 < 6) → c.1 ≤ 0 → ∀ h', zc_fr G h h' x r → zc_x G h' x r (jj + 1) mm kk c R old cnt → Post (.inl (some (.int (Int32.ofInt (-9))))) h')
    (hP : (0 ≤ e ∧ e < 6 ∧ 0 ≤ e2 ∧ e2 < 6) → 0 < c.1 → ∀ h', zc_fr G h h' x r → zc_X G h' x r jj mm kk (c.1, c.2.1.set e.toNat (((c.2.1.getD e.toNat 0 % c.1) * (c.2.1.getD e2.toNat 0 % c.1)) % c.1), c.2.2) (sp_keep (zc_l R old cnt) c) → Post (.inl (some (.int (Int32.ofInt (((c.2.1.getD e.toNat 0 % c.1) * (c.2.1.getD e2.toNat 0 % c.1)) % c.1))))) h')
    (hX2 : ¬ (0 ≤ e ∧ e < 6 ∧ 0 ≤ e2 ∧ e2 < 6) → Post (.inr "java/lang/IndexOutOfBoundsException") (h ++ [(99, [])])) :
    am_M l G yX10_roundTimes (.code yX10_roundTimes prog_1_method_10_code 6 (some .int)) 7 145 mc ms [.ref x, .int (Int32.ofInt e), .int (Int32.ofInt e2)] h Post := by
  refine gh_yX10_roundTimes_X g (Nat.le_of_ble_eq_true rfl) fun S SX hs hr hw hx => ?_
  have rv : ∀ x : Int32, ck_fv 0 (.int x) := fun x => ⟨_, rfl⟩
  have hx9_ := hX.2.2.2.2.2.2.2
  have hb_ := hX.2.2.1.1
  by_cases c1_ : 0 ≤ e ∧ e < 6
  rotate_left
  · 
    refine hs 0 _ rfl _ _ _ _ _ _ _ rfl ?_
    refine hs 1 _ rfl _ _ _ _ _ _ _ rfl ?_
    exact zw_cm (hs 2 _ rfl) (a := [.ref x, .int (Int32.ofInt e)]) (st := []) 1 6 rfl rfl (Nat.le_of_ble_eq_true rfl) ⟨_, _, _, rfl, (hX.1), rfl⟩ (by omega) (by omega) (zc_numAtX_M g hX he1 he2 (by omega) (by decide) (by decide) (hx _ _ _ _ _ _ (by omega) (by omega) (hX2 (fun y_ => c1_ ⟨y_.1, y_.2.1⟩))))
  · by_cases c2_ : 0 ≤ e2 ∧ e2 < 6
    rotate_left
    · 
      obtain ⟨i, rfl⟩ : ∃ i : Nat, e = (i : Int) := ⟨e.toNat, by omega⟩
      have hi : i < 6 := by omega
      refine hs 0 _ rfl _ _ _ _ _ _ _ rfl ?_
      refine hs 1 _ rfl _ _ _ _ _ _ _ rfl ?_
      refine zw_c (hs 2 _ rfl) (a := [.ref x, .int (Int32.ofInt (i : Int))]) (st := []) rfl rfl (Nat.le_of_ble_eq_true rfl) ⟨_, _, _, rfl, hX.1, rfl⟩ (Nat.zero_le _) (Nat.zero_le _) (zc_numAt_M g hX (i := i) rfl hi ?_)
      show S 5 [some (.ref x), some (.int (Int32.ofInt (i : Int))), some (.int (Int32.ofInt e2)), none, none, none] [.ref (x + 1 + 5 + 2 * i)] _ _ _
      refine hs 3 _ rfl _ _ _ _ _ _ _ rfl ?_
      refine hs 4 _ rfl _ _ _ _ _ _ _ rfl ?_
      refine hs 5 _ rfl _ _ _ _ _ _ _ rfl ?_
      exact zw_cm (hs 6 _ rfl) (a := [.ref x, .int (Int32.ofInt e2)]) (st := []) 1 6 rfl rfl (Nat.le_of_ble_eq_true rfl) ⟨_, _, _, rfl, (hX.1), rfl⟩ (by omega) (by omega) (zc_numAtX_M g hX hf1 hf2 (by omega) (by decide) (by decide) (hx _ _ _ _ _ _ (by omega) (by omega) (hX2 (fun y_ => c2_ y_.2.2))))
    have cc_ : 0 ≤ e ∧ e < 6 ∧ 0 ≤ e2 ∧ e2 < 6 := ⟨c1_.1, c1_.2, c2_⟩
    have hP := hP cc_
    have hJ_ := hJ cc_
    by_cases c3_ : c.1 ≤ 0
    · 
      obtain ⟨i, rfl⟩ : ∃ i : Nat, e = (i : Int) := ⟨e.toNat, by omega⟩
      have hi : i < 6 := by omega
      obtain ⟨i2, rfl⟩ : ∃ i2 : Nat, e2 = (i2 : Int) := ⟨e2.toNat, by omega⟩
      have hi2 : i2 < 6 := by omega
      refine hs 0 _ rfl _ _ _ _ _ _ _ rfl ?_
      refine hs 1 _ rfl _ _ _ _ _ _ _ rfl ?_
      refine zw_c (hs 2 _ rfl) (a := [.ref x, .int (Int32.ofInt (i : Int))]) (st := []) rfl rfl (Nat.le_of_ble_eq_true rfl) ⟨_, _, _, rfl, hX.1, rfl⟩ (Nat.zero_le _) (Nat.zero_le _) (zc_numAt_M g hX (i := i) rfl hi ?_)
      show S 5 [some (.ref x), some (.int (Int32.ofInt (i : Int))), some (.int (Int32.ofInt (i2 : Int))), none, none, none] [.ref (x + 1 + 5 + 2 * i)] _ _ _
      refine hs 3 _ rfl _ _ _ _ _ _ _ rfl ?_
      refine hs 4 _ rfl _ _ _ _ _ _ _ rfl ?_
      refine hs 5 _ rfl _ _ _ _ _ _ _ rfl ?_
      refine zw_c (hs 6 _ rfl) (a := [.ref x, .int (Int32.ofInt (i2 : Int))]) (st := []) rfl rfl (Nat.le_of_ble_eq_true rfl) ⟨_, _, _, rfl, hX.1, rfl⟩ (Nat.zero_le _) (Nat.zero_le _) (zc_numAt_M g hX (i := i2) rfl hi2 ?_)
      show S 11 [some (.ref x), some (.int (Int32.ofInt (i : Int))), some (.int (Int32.ofInt (i2 : Int))), some (.ref (x + 1 + 5 + 2 * i)), none, none] [.ref (x + 1 + 5 + 2 * i2)] _ _ _
      refine hs 7 _ rfl _ _ _ _ _ _ _ rfl ?_
      refine hs 8 _ rfl _ _ _ _ _ _ _ rfl ?_
      refine hs 9 _ rfl _ _ _ _ _ _ _ _ _ (hX.1) rfl rfl ?_
      refine hs 10 _ rfl _ _ _ _ _ _ _ _ _ (hX.2.1.d) rfl rfl ?_
      refine hs 11 _ rfl _ _ _ _ _ _ _ rfl ?_
      refine hs 12 _ rfl _ _ _ _ _ _ _ rfl ?_
      refine hs 13 _ rfl _ _ _ _ _ _ _ rfl ?_
      refine hs 14 _ rfl _ _ _ _ _ _ _ rfl ?_
      refine hs 15 _ rfl _ _ _ _ _ _ (fun zq => absurd (hd_c1z (c := 4) (by omega) (by omega) zq) (by omega : ¬ (0 < c.1))) (fun _ => ?_)
      refine hs 16 _ rfl _ _ _ _ _ _ _ rfl ?_
      refine hs 17 _ rfl _ _ _ _ _ ?_
      refine zw_c (hs 27 _ rfl) (a := [.ref x, .ref (x + 1 + 5 + 2 * i), .int (Int32.ofInt (-9 : Int))]) (st := []) rfl rfl (Nat.le_of_ble_eq_true rfl) ⟨_, _, _, rfl, hX.1, rfl⟩ (Nat.zero_le _) (Nat.zero_le _) (zc_putRound_M g hX hi (Or.inl rfl) (by decide) (fun _ h9_ f1_ f2_ => ?_) (fun y_ => absurd y_ (by decide)) (fun y_ => absurd y_ (by decide)))
      show S 54 _ [.int (Int32.ofInt (-9 : Int))] _ _ _
      exact hs 28 _ rfl _ _ _ _ _ (rv _) (Nat.zero_le _) (Nat.zero_le _) (hJ_ c3_ _ f1_ f2_)
    · 
      obtain ⟨i, rfl⟩ : ∃ i : Nat, e = (i : Int) := ⟨e.toNat, by omega⟩
      have hi : i < 6 := by omega
      obtain ⟨i2, rfl⟩ : ∃ i2 : Nat, e2 = (i2 : Int) := ⟨e2.toNat, by omega⟩
      have hi2 : i2 < 6 := by omega
      obtain ⟨ny_, sy_, ly_, y1_, y2_, y3_⟩ := hX.2.1.n hi
      obtain ⟨nv_, sv_, lv_, v1_, v2_, v3_⟩ := hX.2.1.n hi2
      have r1_ := Int.emod_nonneg (c.2.1.getD i 0) (b := c.1) (by omega)
      have r2_ := Int.emod_lt_of_pos (c.2.1.getD i 0) (b := c.1) (by omega)
      have s1_ := Int.emod_nonneg (c.2.1.getD i2 0) (b := c.1) (by omega)
      have s2_ := Int.emod_lt_of_pos (c.2.1.getD i2 0) (b := c.1) (by omega)
      have u1_ : 0 ≤ (c.2.1.getD i 0 % c.1) * (c.2.1.getD i2 0 % c.1) ∧ (c.2.1.getD i 0 % c.1) * (c.2.1.getD i2 0 % c.1) ≤ 400 * 400 := ⟨Int.mul_nonneg r1_ s1_, Int.mul_le_mul (by omega) (by omega) s1_ (by decide)⟩
      have t1_ := Int.emod_nonneg ((c.2.1.getD i 0 % c.1) * (c.2.1.getD i2 0 % c.1)) (b := c.1) (by omega)
      have t2_ := Int.emod_lt_of_pos ((c.2.1.getD i 0 % c.1) * (c.2.1.getD i2 0 % c.1)) (b := c.1) (by omega)
      refine hs 0 _ rfl _ _ _ _ _ _ _ rfl ?_
      refine hs 1 _ rfl _ _ _ _ _ _ _ rfl ?_
      refine zw_c (hs 2 _ rfl) (a := [.ref x, .int (Int32.ofInt (i : Int))]) (st := []) rfl rfl (Nat.le_of_ble_eq_true rfl) ⟨_, _, _, rfl, hX.1, rfl⟩ (Nat.zero_le _) (Nat.zero_le _) (zc_numAt_M g hX (i := i) rfl hi ?_)
      show S 5 [some (.ref x), some (.int (Int32.ofInt (i : Int))), some (.int (Int32.ofInt (i2 : Int))), none, none, none] [.ref (x + 1 + 5 + 2 * i)] _ _ _
      refine hs 3 _ rfl _ _ _ _ _ _ _ rfl ?_
      refine hs 4 _ rfl _ _ _ _ _ _ _ rfl ?_
      refine hs 5 _ rfl _ _ _ _ _ _ _ rfl ?_
      refine zw_c (hs 6 _ rfl) (a := [.ref x, .int (Int32.ofInt (i2 : Int))]) (st := []) rfl rfl (Nat.le_of_ble_eq_true rfl) ⟨_, _, _, rfl, hX.1, rfl⟩ (Nat.zero_le _) (Nat.zero_le _) (zc_numAt_M g hX (i := i2) rfl hi2 ?_)
      show S 11 [some (.ref x), some (.int (Int32.ofInt (i : Int))), some (.int (Int32.ofInt (i2 : Int))), some (.ref (x + 1 + 5 + 2 * i)), none, none] [.ref (x + 1 + 5 + 2 * i2)] _ _ _
      refine hs 7 _ rfl _ _ _ _ _ _ _ rfl ?_
      refine hs 8 _ rfl _ _ _ _ _ _ _ rfl ?_
      refine hs 9 _ rfl _ _ _ _ _ _ _ _ _ (hX.1) rfl rfl ?_
      refine hs 10 _ rfl _ _ _ _ _ _ _ _ _ (hX.2.1.d) rfl rfl ?_
      refine hs 11 _ rfl _ _ _ _ _ _ _ rfl ?_
      refine hs 12 _ rfl _ _ _ _ _ _ _ rfl ?_
      refine hs 13 _ rfl _ _ _ _ _ _ _ rfl ?_
      refine hs 14 _ rfl _ _ _ _ _ _ _ rfl ?_
      refine hs 15 _ rfl _ _ _ _ _ _ (fun _ => ?_) (fun zq => absurd (hd_c1t (c := 4) (by omega) (by omega) (by omega : 0 < c.1)) zq)
      refine hs 18 _ rfl _ _ _ _ _ _ _ rfl ?_
      refine hs 19 _ rfl _ _ _ _ _ _ _ rfl ?_
      refine zw_c (hs 20 _ rfl) (a := [.ref (x + 1 + 5 + 2 * i), .int (Int32.ofInt c.1)]) (st := [.ref (x + 1 + 5 + 2 * i), .ref x]) rfl rfl (Nat.le_of_ble_eq_true rfl) ⟨_, _, _, rfl, y1_, rfl⟩ (Nat.zero_le _) (Nat.zero_le _) (sb_restE_M g y1_ rfl y2_ rfl y3_ (by omega) (by omega) ?_)
      show S 40 [some (.ref x), some (.int (Int32.ofInt (i : Int))), some (.int (Int32.ofInt (i2 : Int))), some (.ref (x + 1 + 5 + 2 * i)), some (.ref (x + 1 + 5 + 2 * i2)), some (.int (Int32.ofInt c.1))] [.int (Int32.ofInt (c.2.1.getD i 0 % c.1)), .ref (x + 1 + 5 + 2 * i), .ref x] _ _ _
      refine hs 21 _ rfl _ _ _ _ _ _ _ rfl ?_
      refine hs 22 _ rfl _ _ _ _ _ _ _ rfl ?_
      refine zw_c (hs 23 _ rfl) (a := [.ref (x + 1 + 5 + 2 * i2), .int (Int32.ofInt c.1)]) (st := [.int (Int32.ofInt (c.2.1.getD i 0 % c.1)), .ref (x + 1 + 5 + 2 * i), .ref x]) rfl rfl (Nat.le_of_ble_eq_true rfl) ⟨_, _, _, rfl, v1_, rfl⟩ (Nat.zero_le _) (Nat.zero_le _) (sb_restE_M g v1_ rfl v2_ rfl v3_ (by omega) (by omega) ?_)
      show S 47 [some (.ref x), some (.int (Int32.ofInt (i : Int))), some (.int (Int32.ofInt (i2 : Int))), some (.ref (x + 1 + 5 + 2 * i)), some (.ref (x + 1 + 5 + 2 * i2)), some (.int (Int32.ofInt c.1))] [.int (Int32.ofInt (c.2.1.getD i2 0 % c.1)), .int (Int32.ofInt (c.2.1.getD i 0 % c.1)), .ref (x + 1 + 5 + 2 * i), .ref x] _ _ _
      refine hs 24 _ rfl _ _ _ _ _ _ _ hd_mul ?_
      refine hs 25 _ rfl _ _ _ _ _ _ _ rfl ?_
      refine hs 26 _ rfl _ _ _ _ _ _ _ (hd_rem (by omega) (by omega) (by omega) (by omega)) ?_
      refine zw_c (hs 27 _ rfl) (a := [.ref x, .ref (x + 1 + 5 + 2 * i), .int (Int32.ofInt (((c.2.1.getD i 0 % c.1) * (c.2.1.getD i2 0 % c.1)) % c.1))]) (st := []) rfl rfl (Nat.le_of_ble_eq_true rfl) ⟨_, _, _, rfl, hX.1, rfl⟩ (Nat.zero_le _) (Nat.zero_le _) (zc_putRound_M g hX hi (Or.inr (Or.inr t1_)) (by omega) (fun y_ => absurd y_ (by omega)) (fun y_ => absurd y_ (by omega)) (fun _ h9_ f1_ f2_ => ?_))
      show S 54 _ [.int (Int32.ofInt (((c.2.1.getD i 0 % c.1) * (c.2.1.getD i2 0 % c.1)) % c.1))] _ _ _
      exact hs 28 _ rfl _ _ _ _ _ (rv _) (Nat.zero_le _) (Nat.zero_le _) (hP (by omega) _ f1_ f2_)
end
