/-! MAKING A CLOCKHOUSE -/
theorem g_y_yJ5_init_d00df : ck_y yJ5_init_d00df prog_18_method_2_code 2 1 none := ⟨w327, w90, by decide +kernel, by decide +kernel, by decide +kernel⟩
theorem g_in1 : ∀ w ∈ u_ws RJ4 TJ4 4, w ∈ lw_gw := by
  intro w hw
  obtain ⟨i, hi, rfl⟩ := List.mem_map.mp hw
  rw [List.mem_range] at hi
  match i, hi with
  | 0, _ => exact w343
  | 1, _ => exact w345
  | 2, _ => exact w347
  | 3, _ => exact w349
theorem g_fd1_0 : am_fd 1 0 false (.array .byte) := ⟨RJ4, TJ4, 4, tyJ4, rfl, by decide, g_in1, tyJ4_ok, nmJ4, rfl, by decide +kernel⟩
theorem g_fd1_1 : am_fd 1 1 false .byte := ⟨RJ4, TJ4, 4, tyJ4, rfl, by decide, g_in1, tyJ4_ok, nmJ4, rfl, by decide +kernel⟩
theorem g_fd1_2 : am_fd 1 2 false .boolean := ⟨RJ4, TJ4, 4, tyJ4, rfl, by decide, g_in1, tyJ4_ok, nmJ4, rfl, by decide +kernel⟩
theorem g_fd1_3 : am_fd 1 3 false .int := ⟨RJ4, TJ4, 4, tyJ4, rfl, by decide, g_in1, tyJ4_ok, nmJ4, rfl, by decide +kernel⟩
def gc_yJ5_init_d00df_a : ck_KK := (([(16, 16)], [], [(2, 0, 0, 1, (0, 0, (4, []))), (3, 0, 0, 1, (4, 0, (0, []))), (3, 0, 1, 1, (1, 0, (0, []))), (3, 0, 2, 1, (1, 0, (0, []))), (3, 0, 3, 1, (1, 0, (0, [])))], 1, [(3, 0, (0, [])), (1, 0, (0, [(1, 0)]))]), ((1, []), (0, [(1, 0)])), [], [1], ([], [], [(2, 0, 0, 1001, (0, 0, (4, [])))], 0, []), [])
def gt_yJ5_init_d00df_a : ck_TB := ([], [], [], [], [(15, 1, 0, 4), (22, 1, 1, 2)], [], [], [], ([], [], [], []), [], [3], [(18, 0, 1)], 9)
def ge_yJ5_init_d00df_a : ck_E := (gT, [], gc_yJ5_init_d00df_a, 2, [(0, (0, 5, 0, 0, 1, 0, [])), (1, (18, 0, 0, 0, 4, 0, [])), (4, (0, 0, 0, 1, 7, 0, [])), (7, (1, 0, 0, 0, 10, 25, [])), (10, (0, 5, 0, 0, 11, 0, [])), (11, (0, 3, 1, 0, 12, 0, [])), (12, (10, 51, 1051, 0, 14, 0, [])), (14, (8, 1, 0, 4, 17, 0, [])), (17, (0, 5, 0, 0, 18, 0, [])), (18, (0, 0, 0, 0, 19, 0, [])), (19, (8, 1, 1, 2, 22, 0, [])), (22, (3, 0, 0, 0, 0, 38, [])), (38, (15, 0, 0, 0, 0, 0, []))], [], [], [(38, [(1, 0, [], 1001, [])])], [])
theorem gk_yJ5_init_d00df_a : ck_chk ge_yJ5_init_d00df_a 19 = true := by decide +kernel
theorem gd_yJ5_init_d00df_a : ck_dec prog_18_method_2_code gt_yJ5_init_d00df_a ge_yJ5_init_d00df_a.2.2.2.2.1 = true := by decide +kernel
theorem gm_yJ5_init_d00df_a {l : Launch} {G : am_G} {X : ck_XT} (g : gE l G X) : ck_Con (am_cm l G yJ5_init_d00df (.code yJ5_init_d00df prog_18_method_2_code 2 none) 1 20) G X gT gc_yJ5_init_d00df_a :=
  ck_meth (E := ge_yJ5_init_d00df_a) (tb := gt_yJ5_init_d00df_a) (init := true) (cm := ck_cms []) g.1 g.2.1 g.2.2.1 g.2.2.2 gT_w (by decide +kernel) rfl rfl rfl (by decide) gk_yJ5_init_d00df_a gd_yJ5_init_d00df_a ⟨(List.forall_mem_nil _), (List.forall_mem_nil _), (List.forall_mem_nil _), (List.forall_mem_nil _), (List.forall_mem_nil _), (List.forall_mem_nil _), (List.forall_mem_cons.mpr ⟨w328, (List.forall_mem_nil _)⟩), (List.forall_mem_cons.mpr ⟨⟨_, List.mem_of_getElem? (i := 0) rfl, w329, Or.inl ⟨rfl, rfl⟩⟩, (List.forall_mem_nil _)⟩)⟩ (List.forall_mem_cons.mpr ⟨⟨⟨_, _, _, rfl, Or.inl w338⟩, by decide, _, Or.inr ⟨_, rfl⟩, Or.inl g_fd1_0⟩, (List.forall_mem_cons.mpr ⟨⟨⟨_, _, _, rfl, Or.inl w339⟩, by decide, _, rfl, Or.inl g_fd1_1⟩, (List.forall_mem_nil _)⟩)⟩) (fun _ => rfl) rfl (by decide) (by decide) g_oi g_ar
    (fun s hk _ => (List.forall_mem_nil _)) (fun s hk => (List.forall_mem_nil _)) (ck_cms_ok trivial)
    (List.forall_mem_nil _) (List.forall_mem_nil _) (List.forall_mem_nil _) (List.forall_mem_nil _)
    (List.forall_mem_nil _)
    (ck_no5 rfl)
theorem g_y_yJ4_init_da8c8 : ck_y yJ4_init_da8c8 prog_36_method_1_code 1 0 none := ⟨w324, w91, by decide +kernel, by decide +kernel, by decide +kernel⟩
def gc_yJ4_init_da8c8_a : ck_KK := (([], [], [(2, 0, 0, 1, (0, 0, (4, []))), (3, 0, 0, 1, (4, 0, (0, []))), (3, 0, 1, 1, (1, 0, (0, []))), (3, 0, 2, 1, (1, 0, (0, []))), (3, 0, 3, 1, (1, 0, (0, [])))], 1, [(3, 0, (0, []))]), ((1, []), (16, [])), [], [1], ([], [], [(2, 0, 0, 1001, (0, 0, (4, [])))], 0, []), [])
def gt_yJ4_init_da8c8_a : ck_TB := ([], [], [], [], [], [], [], [], ([], [(1, 0)], [], []), [], [], [], 9)
def ge_yJ4_init_da8c8_a : ck_E := (gT, [], gc_yJ4_init_da8c8_a, 1, [(0, (0, 5, 0, 0, 1, 0, [])), (1, (0, 0, 0, 16, 3, 0, [])), (3, (16, 0, 0, 0, 6, 0, [])), (6, (15, 0, 0, 0, 0, 0, []))], [(some 1, 2, [gc_yJ5_init_d00df_a])], [], [], [])
theorem gk_yJ4_init_da8c8_a : ck_chk ge_yJ4_init_da8c8_a 9 = true := by decide +kernel
theorem gd_yJ4_init_da8c8_a : ck_dec prog_36_method_1_code gt_yJ4_init_da8c8_a ge_yJ4_init_da8c8_a.2.2.2.2.1 = true := by decide +kernel
theorem gm_yJ4_init_da8c8_a {l : Launch} {G : am_G} {X : ck_XT} (g : gE l G X) : ck_Con (am_cm l G yJ4_init_da8c8 (.code yJ4_init_da8c8 prog_36_method_1_code 1 none) 2 41) G X gT gc_yJ4_init_da8c8_a :=
  ck_meth (E := ge_yJ4_init_da8c8_a) (tb := gt_yJ4_init_da8c8_a) (init := true) (cm := ck_cms [am_cn l G yJ5_init_d00df (.code yJ5_init_d00df prog_18_method_2_code 2 none) 1 20]) g.1 g.2.1 g.2.2.1 g.2.2.2 gT_w (by decide +kernel) rfl rfl rfl (by decide) gk_yJ4_init_da8c8_a gd_yJ4_init_da8c8_a ⟨(List.forall_mem_nil _), (List.forall_mem_nil _), (List.forall_mem_nil _), (List.forall_mem_nil _), (List.forall_mem_nil _), (List.forall_mem_nil _), (List.forall_mem_nil _), (List.forall_mem_nil _)⟩ (List.forall_mem_nil _) (fun _ => rfl) rfl (by decide) (by decide) g_oi g_ar
    (fun s hk _ => (List.forall_mem_nil _)) (fun s hk => (List.forall_mem_nil _)) (ck_cms_ok ⟨(List.forall_mem_cons.mpr ⟨(am_cn_ok (gm_yJ5_init_d00df_a g) rfl), (List.forall_mem_nil _)⟩), trivial⟩)
    (List.forall_mem_nil _) (List.forall_mem_cons.mpr ⟨(ck_kI g_y_yJ5_init_d00df w325 w326 rfl (by decide) (by decide)), (List.forall_mem_nil _)⟩) (List.forall_mem_nil _) (List.forall_mem_nil _)
    (List.forall_mem_nil _)
    (ck_no5 rfl)
theorem g_y_yX10_init : ck_y yX10_init prog_1_method_1_code 1 0 none := ⟨w127, w81, by decide +kernel, by decide +kernel, by decide +kernel⟩
theorem g_nw12 : am_nw 12 3 ([2, 0, 0].map ck_d0) := ⟨RX5, TX5, tyX5, rfl, g_in12, tyX5_ok, w191, w84, rfl, fun j hj => by
  match j, hj with
  | 0, _ => rfl
  | 1, _ => rfl
  | 2, _ => rfl
⟩
theorem g_nw8 : am_nw 8 7 ([2, 2, 2, 2, 2, 2, 2].map ck_d0) := ⟨RX1, TX1, tyX1, rfl, g_in8, tyX1_ok, w213, w85, rfl, fun j hj => by
  match j, hj with
  | 0, _ => rfl
  | 1, _ => rfl
  | 2, _ => rfl
  | 3, _ => rfl
  | 4, _ => rfl
  | 5, _ => rfl
  | 6, _ => rfl
⟩
theorem g_nw13 : am_nw 13 4 ([2, 2, 0, 0].map ck_d0) := ⟨RX6, TX6, tyX6, rfl, g_in13, tyX6_ok, w264, w87, rfl, fun j hj => by
  match j, hj with
  | 0, _ => rfl
  | 1, _ => rfl
  | 2, _ => rfl
  | 3, _ => rfl
⟩
theorem g_nw10 : am_nw 10 4 ([2, 0, 0, 0].map ck_d0) := ⟨RX3, TX3, tyX3, rfl, g_in10, tyX3_ok, w283, w88, rfl, fun j hj => by
  match j, hj with
  | 0, _ => rfl
  | 1, _ => rfl
  | 2, _ => rfl
  | 3, _ => rfl
⟩
theorem g_nw11 : am_nw 11 3 ([0, 1, 1].map ck_d0) := ⟨RX4, TX4, tyX4, rfl, g_in11, tyX4_ok, w302, w89, rfl, fun j hj => by
  match j, hj with
  | 0, _ => rfl
  | 1, _ => rfl
  | 2, _ => rfl
⟩
theorem g_nw1 : am_nw 1 4 ([2, 0, 0, 0].map ck_d0) := ⟨RJ4, TJ4, tyJ4, rfl, g_in1, tyJ4_ok, w321, w91, rfl, fun j hj => by
  match j, hj with
  | 0, _ => rfl
  | 1, _ => rfl
  | 2, _ => rfl
  | 3, _ => rfl
⟩
def gc_yX10_init_a : ck_KK := (([], [], [(2, 0, 0, 15, (0, 0, (13, []))), (3, 0, 0, 15, (4, 0, (0, []))), (3, 0, 1, 15, (4, 0, (0, []))), (3, 0, 2, 15, (1, 0, (0, []))), (3, 0, 3, 15, (1, 0, (0, []))), (3, 0, 4, 15, (1, 0, (0, []))), (3, 0, 5, 15, (4, 0, (0, []))), (3, 0, 6, 15, (4, 0, (0, []))), (3, 0, 7, 15, (4, 0, (0, []))), (3, 0, 8, 15, (4, 0, (0, []))), (3, 0, 9, 15, (4, 0, (0, []))), (3, 0, 10, 15, (4, 0, (0, []))), (3, 0, 11, 15, (4, 0, (0, []))), (3, 0, 12, 15, (4, 0, (0, [])))], 1, [(3, 0, (0, []))]), ((257, []), (2420, [])), [], [15], ([], [], [(2, 0, 0, 1015, (0, 0, (13, [])))], 0, []), [])
def gt_yX10_init_a : ck_TB := ([], [], [], [(10, 15, 0)], [(10, 15, 0, 4), (19, 15, 1, 4), (26, 15, 5, 4), (30, 15, 6, 4), (33, 15, 7, 4), (39, 15, 8, 4), (46, 15, 9, 4), (53, 15, 10, 4), (60, 15, 11, 4), (67, 15, 12, 4), (71, 14, 0, 0)], [(7, 14, [0, 2, 0, 2, 2, 0, 2]), (16, 12, [2, 0, 0]), (23, 7, [2, 0, 0]), (36, 8, [2, 2, 2, 2, 2, 2, 2]), (43, 13, [2, 2, 0, 0]), (50, 10, [2, 0, 0, 0]), (57, 11, [0, 1, 1]), (64, 1, [2, 0, 0, 0])], [], [], ([], [(9, 0), (18, 1), (25, 2), (38, 3), (45, 4), (52, 5), (59, 6), (66, 7)], [], []), [], [1], [], 9)
def ge_yX10_init_a : ck_E := (gT, [], gc_yX10_init_a, 1, [(0, (0, 5, 0, 0, 1, 0, [])), (1, (18, 0, 0, 0, 4, 0, [])), (4, (0, 5, 0, 0, 5, 0, [])), (5, (9, 14, 14, 0, 8, 0, [(0, 0), (0, 2), (0, 0), (0, 2), (0, 2), (0, 0), (0, 2)])), (8, (0, 12, 0, 0, 9, 0, [])), (9, (16, 0, 0, 0, 12, 0, [])), (12, (8, 15, 0, 4, 15, 0, [])), (15, (0, 5, 0, 0, 16, 0, [])), (16, (9, 12, 12, 0, 19, 0, [(0, 2), (0, 0), (0, 0)])), (19, (0, 12, 0, 0, 20, 0, [])), (20, (16, 1, 0, 0, 23, 0, [])), (23, (8, 15, 1, 4, 26, 0, [])), (26, (0, 5, 0, 0, 27, 0, [])), (27, (9, 7, 7, 0, 30, 0, [(0, 2), (0, 0), (0, 0)])), (30, (0, 12, 0, 0, 31, 0, [])), (31, (16, 2, 0, 0, 34, 0, [])), (34, (8, 15, 5, 4, 37, 0, [])), (37, (0, 5, 0, 0, 38, 0, [])), (38, (9, 7, 7, 0, 41, 0, [(0, 2), (0, 0), (0, 0)])), (41, (0, 12, 0, 0, 42, 0, [])), (42, (16, 2, 0, 0, 45, 0, [])), (45, (8, 15, 6, 4, 48, 0, [])), (48, (0, 5, 0, 0, 49, 0, [])), (49, (9, 7, 7, 0, 52, 0, [(0, 2), (0, 0), (0, 0)])), (52, (0, 12, 0, 0, 53, 0, [])), (53, (16, 2, 0, 0, 56, 0, [])), (56, (8, 15, 7, 4, 59, 0, [])), (59, (0, 5, 0, 0, 60, 0, [])), (60, (9, 8, 8, 0, 63, 0, [(0, 2), (0, 2), (0, 2), (0, 2), (0, 2), (0, 2), (0, 2)])), (63, (0, 12, 0, 0, 64, 0, [])), (64, (16, 3, 0, 0, 67, 0, [])), (67, (8, 15, 8, 4, 70, 0, [])), (70, (0, 5, 0, 0, 71, 0, [])), (71, (9, 13, 13, 0, 74, 0, [(0, 2), (0, 2), (0, 0), (0, 0)])), (74, (0, 12, 0, 0, 75, 0, [])), (75, (16, 4, 0, 0, 78, 0, [])), (78, (8, 15, 9, 4, 81, 0, [])), (81, (0, 5, 0, 0, 82, 0, [])), (82, (9, 10, 10, 0, 85, 0, [(0, 2), (0, 0), (0, 0), (0, 0)])), (85, (0, 12, 0, 0, 86, 0, [])), (86, (16, 5, 0, 0, 89, 0, [])), (89, (8, 15, 10, 4, 92, 0, [])), (92, (0, 5, 0, 0, 93, 0, [])), (93, (9, 11, 11, 0, 96, 0, [(0, 0), (0, 1), (0, 1)])), (96, (0, 12, 0, 0, 97, 0, [])), (97, (16, 6, 0, 0, 100, 0, [])), (100, (8, 15, 11, 4, 103, 0, [])), (103, (0, 5, 0, 0, 104, 0, [])), (104, (9, 1, 1, 0, 107, 0, [(0, 2), (0, 0), (0, 0), (0, 0)])), (107, (0, 12, 0, 0, 108, 0, [])), (108, (16, 7, 0, 0, 111, 0, [])), (111, (8, 15, 12, 4, 114, 0, [])), (114, (0, 5, 0, 0, 115, 0, [])), (115, (7, 15, 0, 0, 118, 0, [])), (118, (0, 0, 0, 12, 120, 0, [])), (120, (8, 14, 0, 0, 123, 0, [])), (123, (15, 0, 0, 0, 0, 0, []))], [(some 14, 1, [gc_yX9_init_a]), (some 12, 1, [gc_yX5_init_a]), (some 7, 1, [gc_yX0_init_a]), (some 8, 1, [gc_yX1_init_a]), (some 13, 1, [gc_yX6_init_a]), (some 10, 1, [gc_yX3_init_a]), (some 11, 1, [gc_yX4_init_a]), (some 1, 1, [gc_yJ4_init_da8c8_a])], [], [(123, [(1, 0, [], 1015, [])])], [])
theorem gk_yX10_init_a : ck_chk ge_yX10_init_a 63 = true := by decide +kernel
theorem gd_yX10_init_a : ck_dec prog_1_method_1_code gt_yX10_init_a ge_yX10_init_a.2.2.2.2.1 = true := by decide +kernel
theorem gm_yX10_init_a {l : Launch} {G : am_G} {X : ck_XT} (g : gE l G X) : ck_Con (am_cm l G yX10_init (.code yX10_init prog_1_method_1_code 1 none) 4 82) G X gT gc_yX10_init_a :=
  ck_meth (E := ge_yX10_init_a) (tb := gt_yX10_init_a) (init := true) (cm := ck_cms [am_cn l G yX9_init (.code yX9_init prog_11_method_1_code 2 none) 2 40, am_cn l G yX5_init (.code yX5_init prog_7_method_1_code 2 none) 3 61, am_cn l G yX0_init (.code yX0_init prog_2_method_1_code 1 none) 1 20, am_cn l G yX1_init (.code yX1_init prog_3_method_1_code 1 none) 3 60, am_cn l G yX6_init (.code yX6_init prog_8_method_1_code 1 none) 1 20, am_cn l G yX3_init (.code yX3_init prog_5_method_1_code 1 none) 1 20, am_cn l G yX4_init (.code yX4_init prog_6_method_1_code 1 none) 1 20, am_cn l G yJ4_init_da8c8 (.code yJ4_init_da8c8 prog_36_method_1_code 1 none) 2 41]) g.1 g.2.1 g.2.2.1 g.2.2.2 gT_w (by decide +kernel) rfl rfl rfl (by decide) gk_yX10_init_a gd_yX10_init_a ⟨(List.forall_mem_nil _), (List.forall_mem_nil _), (List.forall_mem_nil _), (List.forall_mem_cons.mpr ⟨⟨⟨_, _, _, rfl, Or.inl w353⟩, by decide, _, _, g_fd15_0⟩, (List.forall_mem_nil _)⟩), (List.forall_mem_cons.mpr ⟨⟨_, _, _, g_nw14, rfl, w131, by decide⟩, (List.forall_mem_cons.mpr ⟨⟨_, _, _, g_nw12, rfl, w190, by decide⟩, (List.forall_mem_cons.mpr ⟨⟨_, _, _, g_nw7, rfl, w210, by decide⟩, (List.forall_mem_cons.mpr ⟨⟨_, _, _, g_nw8, rfl, w212, by decide⟩, (List.forall_mem_cons.mpr ⟨⟨_, _, _, g_nw13, rfl, w263, by decide⟩, (List.forall_mem_cons.mpr ⟨⟨_, _, _, g_nw10, rfl, w282, by decide⟩, (List.forall_mem_cons.mpr ⟨⟨_, _, _, g_nw11, rfl, w301, by decide⟩, (List.forall_mem_cons.mpr ⟨⟨_, _, _, g_nw1, rfl, w320, by decide⟩, (List.forall_mem_nil _)⟩)⟩)⟩)⟩)⟩)⟩)⟩)⟩), (List.forall_mem_nil _), (List.forall_mem_cons.mpr ⟨w128, (List.forall_mem_nil _)⟩), (List.forall_mem_nil _)⟩ (List.forall_mem_cons.mpr ⟨⟨⟨_, _, _, rfl, Or.inl w353⟩, by decide, _, Or.inl ⟨_, rfl⟩, Or.inr ⟨g_fd15_0, rfl, fun r hr => by cases hr; rfl⟩⟩, (List.forall_mem_cons.mpr ⟨⟨⟨_, _, _, rfl, Or.inl w354⟩, by decide, _, Or.inl ⟨_, rfl⟩, Or.inr ⟨g_fd15_1, rfl, fun r hr => by cases hr; rfl⟩⟩, (List.forall_mem_cons.mpr ⟨⟨⟨_, _, _, rfl, Or.inl w358⟩, by decide, _, Or.inl ⟨_, rfl⟩, Or.inr ⟨g_fd15_5, rfl, fun r hr => by cases hr; rfl⟩⟩, (List.forall_mem_cons.mpr ⟨⟨⟨_, _, _, rfl, Or.inl w359⟩, by decide, _, Or.inl ⟨_, rfl⟩, Or.inr ⟨g_fd15_6, rfl, fun r hr => by cases hr; rfl⟩⟩, (List.forall_mem_cons.mpr ⟨⟨⟨_, _, _, rfl, Or.inl w360⟩, by decide, _, Or.inl ⟨_, rfl⟩, Or.inr ⟨g_fd15_7, rfl, fun r hr => by cases hr; rfl⟩⟩, (List.forall_mem_cons.mpr ⟨⟨⟨_, _, _, rfl, Or.inl w361⟩, by decide, _, Or.inl ⟨_, rfl⟩, Or.inr ⟨g_fd15_8, rfl, fun r hr => by cases hr; rfl⟩⟩, (List.forall_mem_cons.mpr ⟨⟨⟨_, _, _, rfl, Or.inl w362⟩, by decide, _, Or.inl ⟨_, rfl⟩, Or.inr ⟨g_fd15_9, rfl, fun r hr => by cases hr; rfl⟩⟩, (List.forall_mem_cons.mpr ⟨⟨⟨_, _, _, rfl, Or.inl w363⟩, by decide, _, Or.inl ⟨_, rfl⟩, Or.inr ⟨g_fd15_10, rfl, fun r hr => by cases hr; rfl⟩⟩, (List.forall_mem_cons.mpr ⟨⟨⟨_, _, _, rfl, Or.inl w364⟩, by decide, _, Or.inl ⟨_, rfl⟩, Or.inr ⟨g_fd15_11, rfl, fun r hr => by cases hr; rfl⟩⟩, (List.forall_mem_cons.mpr ⟨⟨⟨_, _, _, rfl, Or.inl w365⟩, by decide, _, Or.inl ⟨_, rfl⟩, Or.inr ⟨g_fd15_12, rfl, fun r hr => by cases hr; rfl⟩⟩, (List.forall_mem_cons.mpr ⟨⟨⟨_, _, _, rfl, Or.inr (Or.inl ⟨_, w161⟩)⟩, by decide, _, rfl, Or.inl g_fd14_0⟩, (List.forall_mem_nil _)⟩)⟩)⟩)⟩)⟩)⟩)⟩)⟩)⟩)⟩)⟩) (fun _ => rfl) rfl (by decide) (by decide) g_oi g_ar
    (fun s hk _ => (List.forall_mem_nil _)) (fun s hk => (List.forall_mem_nil _)) (ck_cms_ok ⟨(List.forall_mem_cons.mpr ⟨(am_cn_ok (gm_yX9_init_a g) rfl), (List.forall_mem_nil _)⟩), (List.forall_mem_cons.mpr ⟨(am_cn_ok (gm_yX5_init_a g) rfl), (List.forall_mem_nil _)⟩), (List.forall_mem_cons.mpr ⟨(am_cn_ok (gm_yX0_init_a g) rfl), (List.forall_mem_nil _)⟩), (List.forall_mem_cons.mpr ⟨(am_cn_ok (gm_yX1_init_a g) rfl), (List.forall_mem_nil _)⟩), (List.forall_mem_cons.mpr ⟨(am_cn_ok (gm_yX6_init_a g) rfl), (List.forall_mem_nil _)⟩), (List.forall_mem_cons.mpr ⟨(am_cn_ok (gm_yX3_init_a g) rfl), (List.forall_mem_nil _)⟩), (List.forall_mem_cons.mpr ⟨(am_cn_ok (gm_yX4_init_a g) rfl), (List.forall_mem_nil _)⟩), (List.forall_mem_cons.mpr ⟨(am_cn_ok (gm_yJ4_init_da8c8_a g) rfl), (List.forall_mem_nil _)⟩), trivial⟩)
    (List.forall_mem_nil _) (List.forall_mem_cons.mpr ⟨(ck_kI g_y_yX9_init w133 w134 rfl (by decide) (by decide)), (List.forall_mem_cons.mpr ⟨(ck_kI g_y_yX5_init w192 w193 rfl (by decide) (by decide)), (List.forall_mem_cons.mpr ⟨(ck_kIN g_y_yX0_init w211 w141 rfl (by decide) (by decide)), (List.forall_mem_cons.mpr ⟨(ck_kIN g_y_yX1_init w214 w215 rfl (by decide) (by decide)), (List.forall_mem_cons.mpr ⟨(ck_kIN g_y_yX6_init w265 w266 rfl (by decide) (by decide)), (List.forall_mem_cons.mpr ⟨(ck_kIN g_y_yX3_init w284 w285 rfl (by decide) (by decide)), (List.forall_mem_cons.mpr ⟨(ck_kIN g_y_yX4_init w303 w304 rfl (by decide) (by decide)), (List.forall_mem_cons.mpr ⟨(ck_kI g_y_yJ4_init_da8c8 w322 w323 rfl (by decide) (by decide)), (List.forall_mem_nil _)⟩)⟩)⟩)⟩)⟩)⟩)⟩)⟩) (List.forall_mem_nil _) (List.forall_mem_nil _)
    (List.forall_mem_nil _)
    (ck_no5 rfl)
theorem g_y_yX10_knock : ck_y yX10_knock prog_1_method_19_code 1 0 (some .int) := ⟨w396, w81, by decide +kernel, by decide +kernel, by decide +kernel⟩
def gc_yX10_knock_a : ck_KK := (([(0, 1000)], [], [(2, 0, 0, 1015, (0, 0, (13, []))), (3, 0, 4, 1015, (1, 0, (0, [(1, 0)])))], 1, [(3, 0, (0, []))]), ((0, []), (0, [])), [(1015, 4)], [], ([], [], [(3, 0, 4, 1015, (1, 0, (1, [(1, 0)])))], 0, [(1, 0, (1, [(1, 0)]))]), [])
def gt_yX10_knock_a : ck_TB := ([], [], [], [(192, 15, 4)], [(192, 15, 4, 0)], [], [], [], ([], [], [], []), [], [], [], 0)
def ge_yX10_knock_a : ck_E := (gT, [], gc_yX10_knock_a, 1, [(0, (0, 5, 0, 0, 1, 0, [])), (1, (0, 12, 0, 0, 2, 0, [])), (2, (7, 15, 4, 0, 5, 0, [])), (5, (0, 0, 0, 1, 6, 0, [])), (6, (0, 15, 0, 0, 7, 0, [])), (7, (8, 15, 4, 0, 10, 0, [])), (10, (0, 5, 0, 0, 11, 0, [])), (11, (7, 15, 4, 0, 14, 0, [])), (14, (14, 0, 0, 0, 0, 0, []))], [], [], [], [])
theorem gk_yX10_knock_a : ck_chk ge_yX10_knock_a 14 = true := by decide +kernel
theorem gd_yX10_knock_a : ck_dec prog_1_method_19_code gt_yX10_knock_a ge_yX10_knock_a.2.2.2.2.1 = true := by decide +kernel
theorem gm_yX10_knock_a {l : Launch} {G : am_G} {X : ck_XT} (g : gE l G X) : ck_Con (am_cm l G yX10_knock (.code yX10_knock prog_1_method_19_code 1 (some .int)) 1 20) G X gT gc_yX10_knock_a :=
  ck_meth (E := ge_yX10_knock_a) (tb := gt_yX10_knock_a) (init := false) (cm := ck_cms []) g.1 g.2.1 g.2.2.1 g.2.2.2 gT_w (by decide +kernel) rfl rfl rfl (by decide) gk_yX10_knock_a gd_yX10_knock_a ⟨(List.forall_mem_nil _), (List.forall_mem_nil _), (List.forall_mem_nil _), (List.forall_mem_cons.mpr ⟨⟨⟨_, _, _, rfl, Or.inl w357⟩, by decide, _, _, g_fd15_4⟩, (List.forall_mem_nil _)⟩), (List.forall_mem_nil _), (List.forall_mem_nil _), (List.forall_mem_nil _), (List.forall_mem_nil _)⟩ (List.forall_mem_cons.mpr ⟨⟨⟨_, _, _, rfl, Or.inl w357⟩, by decide, _, rfl, Or.inl g_fd15_4⟩, (List.forall_mem_nil _)⟩) (fun h => nomatch h) ⟨_, rfl, rfl⟩ (by decide) (by decide) g_oi g_ar
    (fun s hk _ => (List.forall_mem_nil _)) (fun s hk => (List.forall_mem_nil _)) (ck_cms_ok trivial)
    (List.forall_mem_nil _) (List.forall_mem_nil _) (List.forall_mem_nil _) (List.forall_mem_nil _)
    (List.forall_mem_nil _)
    (ck_no5 rfl)
