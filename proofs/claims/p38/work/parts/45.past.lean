/-! PAST -/
theorem g_y_yX5_init : ck_y yX5_init prog_7_method_1_code 2 0 none := ⟨w194, w84, by decide +kernel, by decide +kernel, by decide +kernel⟩
theorem g_in12 : ∀ w ∈ u_ws RX5 TX5 3, w ∈ lw_gw := by
  intro w hw
  obtain ⟨i, hi, rfl⟩ := List.mem_map.mp hw
  rw [List.mem_range] at hi
  match i, hi with
  | 0, _ => exact w203
  | 1, _ => exact w205
  | 2, _ => exact w207
theorem g_fd12_0 : am_fd 12 0 true (.array (.object "Clockhouse$State")) := ⟨RX5, TX5, 3, tyX5, rfl, by decide, g_in12, tyX5_ok, nmX5, rfl, by decide +kernel⟩
theorem g_fd12_1 : am_fd 12 1 false .int := ⟨RX5, TX5, 3, tyX5, rfl, by decide, g_in12, tyX5_ok, nmX5, rfl, by decide +kernel⟩
theorem g_fd12_2 : am_fd 12 2 false .int := ⟨RX5, TX5, 3, tyX5, rfl, by decide, g_in12, tyX5_ok, nmX5, rfl, by decide +kernel⟩
theorem g_nw14 : am_nw 14 7 ([0, 2, 0, 2, 2, 0, 2].map ck_d0) := ⟨RX9, TX9, tyX9, rfl, g_in14, tyX9_ok, w132, w82, rfl, fun j hj => by
  match j, hj with
  | 0, _ => rfl
  | 1, _ => rfl
  | 2, _ => rfl
  | 3, _ => rfl
  | 4, _ => rfl
  | 5, _ => rfl
  | 6, _ => rfl
⟩
def gc_yX5_init_a : ck_KK := (([], [], [(2, 0, 0, 12, (0, 0, (3, []))), (3, 0, 0, 12, (4, 0, (0, []))), (3, 0, 1, 12, (1, 0, (0, []))), (3, 0, 2, 12, (1, 0, (0, [])))], 1, [(3, 0, (0, []))]), ((205, []), (1308, [])), [], [12], ([], [], [(2, 0, 0, 1012, (0, 0, (3, [])))], 0, []), [])
def gt_yX5_init_a : ck_TB := ([], [], [], [(11, 12, 0)], [(11, 12, 0, 4)], [(9, 14, [0, 2, 0, 2, 2, 0, 2])], [(9, 54)], [], ([], [(17, 0)], [], []), [], [3], [], 9)
def ge_yX5_init_a : ck_E := (gT, [(54, 14)], gc_yX5_init_a, 2, [(0, (0, 5, 0, 0, 1, 0, [])), (1, (18, 0, 0, 0, 4, 0, [])), (4, (0, 5, 0, 0, 5, 0, [])), (5, (0, 0, 0, 12, 7, 0, [])), (7, (10, 54, 54, 2, 10, 0, [])), (10, (8, 12, 0, 4, 13, 0, [])), (13, (0, 0, 0, 0, 14, 0, [])), (14, (0, 6, 1, 0, 15, 0, [])), (15, (0, 3, 1, 0, 16, 0, [])), (16, (0, 0, 0, 12, 18, 0, [])), (18, (2, 3, 0, 0, 21, 40, [])), (21, (0, 5, 0, 0, 22, 0, [])), (22, (7, 12, 0, 0, 25, 0, [])), (25, (0, 3, 1, 0, 26, 0, [])), (26, (9, 14, 14, 0, 29, 0, [(0, 0), (0, 2), (0, 0), (0, 2), (0, 2), (0, 0), (0, 2)])), (29, (0, 12, 0, 0, 30, 0, [])), (30, (16, 0, 0, 0, 33, 0, [])), (33, (13, 53, 57, 0, 34, 0, [])), (34, (0, 9, 1, 1, 37, 0, [])), (37, (3, 0, 0, 0, 0, 15, [])), (40, (15, 0, 0, 0, 0, 0, []))], [(some 14, 1, [gc_yX9_init_a])], [], [(40, [(1, 0, [0], 1054, []), (1, 0, [], 1012, [])])], [])
theorem gk_yX5_init_a : ck_chk ge_yX5_init_a 163 = true := by decide +kernel
theorem gd_yX5_init_a : ck_dec prog_7_method_1_code gt_yX5_init_a ge_yX5_init_a.2.2.2.2.1 = true := by decide +kernel
theorem gm_yX5_init_a {l : Launch} {G : am_G} {X : ck_XT} (g : gE l G X) : ck_Con (am_cm l G yX5_init (.code yX5_init prog_7_method_1_code 2 none) 3 61) G X gT gc_yX5_init_a :=
  ck_meth (E := ge_yX5_init_a) (tb := gt_yX5_init_a) (init := true) (cm := ck_cms [am_cn l G yX9_init (.code yX9_init prog_11_method_1_code 2 none) 2 40]) g.1 g.2.1 g.2.2.1 g.2.2.2 gT_w (by decide +kernel) rfl rfl rfl (by decide) gk_yX5_init_a gd_yX5_init_a ⟨(List.forall_mem_nil _), (List.forall_mem_nil _), (List.forall_mem_nil _), (List.forall_mem_cons.mpr ⟨⟨⟨_, _, _, rfl, Or.inl w199⟩, by decide, _, _, g_fd12_0⟩, (List.forall_mem_nil _)⟩), (List.forall_mem_cons.mpr ⟨⟨_, _, _, g_nw14, rfl, w196, by decide⟩, (List.forall_mem_nil _)⟩), (List.forall_mem_cons.mpr ⟨Or.inl ⟨_, rfl, by decide, by decide, w196, w197⟩, (List.forall_mem_nil _)⟩), (List.forall_mem_cons.mpr ⟨w195, (List.forall_mem_nil _)⟩), (List.forall_mem_nil _)⟩ (List.forall_mem_cons.mpr ⟨⟨⟨_, _, _, rfl, Or.inl w199⟩, by decide, _, Or.inr ⟨_, rfl⟩, Or.inr ⟨g_fd12_0, rfl, fun r hr => by cases hr; rfl⟩⟩, (List.forall_mem_nil _)⟩) (fun _ => rfl) rfl (by decide) (by decide) g_oi g_ar
    (fun s hk _ => (List.forall_mem_cons.mpr ⟨⟨by decide, by decide, am_asg_own hk (T := TX9) (N := 7) (by decide) (by decide) rfl rfl (by decide)⟩, (List.forall_mem_nil _)⟩)) (fun s hk => (List.forall_mem_nil _)) (ck_cms_ok ⟨(List.forall_mem_cons.mpr ⟨(am_cn_ok (gm_yX9_init_a g) rfl), (List.forall_mem_nil _)⟩), trivial⟩)
    (List.forall_mem_nil _) (List.forall_mem_cons.mpr ⟨(ck_kI g_y_yX9_init w198 w134 rfl (by decide) (by decide)), (List.forall_mem_nil _)⟩) (List.forall_mem_nil _) (List.forall_mem_nil _)
    (List.forall_mem_nil _)
    (ck_no5 rfl)
theorem g_y_yX5_keep : ck_y yX5_keep prog_7_method_2_code 2 1 none := ⟨w1225, w84, by decide +kernel, by decide +kernel, by decide +kernel⟩
def gc_yX5_keep_a : ck_KK := (([], [], [(2, 0, 0, 1012, (0, 0, (3, []))), (2, 1, 0, 1014, (0, 0, (7, [])))], 2, [(3, 0, (0, [])), (3, 1, (0, []))]), ((0, []), (0, [])), [(1012, 1), (1012, 2), (1014, 0), (1014, 2), (1014, 5), (1150, 1000), (1250, 1000), (1350, 1000), (1407, 1), (1407, 2), (1450, 1000)], [], ([], [], [], 0, []), [])
def gt_yX5_keep_a : ck_TB := ([], [], [], [(11, 12, 0), (18, 12, 1), (22, 12, 2)], [(18, 12, 1, 0), (22, 12, 2, 0)], [], [], [], ([(25, 0)], [], [], []), [], [], [], 9)
def ge_yX5_keep_a : ck_E := (gT, [], gc_yX5_keep_a, 2, [(0, (0, 5, 0, 0, 1, 0, [])), (1, (7, 12, 0, 0, 4, 0, [])), (4, (0, 5, 0, 0, 5, 0, [])), (5, (7, 12, 1, 0, 8, 0, [])), (8, (0, 5, 0, 0, 9, 0, [])), (9, (7, 12, 2, 0, 12, 0, [])), (12, (0, 15, 0, 0, 13, 0, [])), (13, (0, 0, 0, 12, 15, 0, [])), (15, (0, 15, 4, 0, 16, 0, [])), (16, (12, 53, 58, 0, 17, 0, [])), (17, (0, 5, 1, 0, 18, 0, [])), (18, (16, 0, 0, 0, 21, 0, [])), (21, (0, 5, 0, 0, 22, 0, [])), (22, (7, 12, 2, 0, 25, 0, [])), (25, (0, 0, 0, 12, 27, 0, [])), (27, (2, 3, 0, 0, 30, 43, [])), (30, (0, 5, 0, 0, 31, 0, [])), (31, (0, 12, 0, 0, 32, 0, [])), (32, (7, 12, 2, 0, 35, 0, [])), (35, (0, 0, 0, 1, 36, 0, [])), (36, (0, 15, 0, 0, 37, 0, [])), (37, (8, 12, 2, 0, 40, 0, [])), (40, (3, 0, 0, 0, 0, 56, [])), (43, (0, 5, 0, 0, 44, 0, [])), (44, (0, 5, 0, 0, 45, 0, [])), (45, (7, 12, 1, 0, 48, 0, [])), (48, (0, 0, 0, 1, 49, 0, [])), (49, (0, 15, 0, 0, 50, 0, [])), (50, (0, 0, 0, 12, 52, 0, [])), (52, (0, 15, 4, 0, 53, 0, [])), (53, (8, 12, 1, 0, 56, 0, [])), (56, (15, 0, 0, 0, 0, 0, []))], [(some 14, 2, [gc_yX9_become_a])], [], [], [])
theorem gk_yX5_keep_a : ck_chk ge_yX5_keep_a 38 = true := by decide +kernel
theorem gd_yX5_keep_a : ck_dec prog_7_method_2_code gt_yX5_keep_a ge_yX5_keep_a.2.2.2.2.1 = true := by decide +kernel
theorem gm_yX5_keep_a {l : Launch} {G : am_G} {X : ck_XT} (g : gE l G X) : ck_Con (am_cm l G yX5_keep (.code yX5_keep prog_7_method_2_code 2 none) 4 102) G X gT gc_yX5_keep_a :=
  ck_meth (E := ge_yX5_keep_a) (tb := gt_yX5_keep_a) (init := false) (cm := ck_cms [am_cm l G yX9_become (.code yX9_become prog_11_method_2_code 3 none) 3 80]) g.1 g.2.1 g.2.2.1 g.2.2.2 gT_w (by decide +kernel) rfl rfl rfl (by decide) gk_yX5_keep_a gd_yX5_keep_a ⟨(List.forall_mem_nil _), (List.forall_mem_nil _), (List.forall_mem_nil _), (List.forall_mem_cons.mpr ⟨⟨⟨_, _, _, rfl, Or.inl w199⟩, by decide, _, _, g_fd12_0⟩, (List.forall_mem_cons.mpr ⟨⟨⟨_, _, _, rfl, Or.inl w200⟩, by decide, _, _, g_fd12_1⟩, (List.forall_mem_cons.mpr ⟨⟨⟨_, _, _, rfl, Or.inl w201⟩, by decide, _, _, g_fd12_2⟩, (List.forall_mem_nil _)⟩)⟩)⟩), (List.forall_mem_nil _), (List.forall_mem_nil _), (List.forall_mem_nil _), (List.forall_mem_nil _)⟩ (List.forall_mem_cons.mpr ⟨⟨⟨_, _, _, rfl, Or.inl w200⟩, by decide, _, rfl, Or.inl g_fd12_1⟩, (List.forall_mem_cons.mpr ⟨⟨⟨_, _, _, rfl, Or.inl w201⟩, by decide, _, rfl, Or.inl g_fd12_2⟩, (List.forall_mem_nil _)⟩)⟩) (fun h => nomatch h) rfl (by decide) (by decide) g_oi g_ar
    (fun s hk _ => (List.forall_mem_nil _)) (fun s hk => (List.forall_mem_nil _)) (ck_cms_ok ⟨(List.forall_mem_cons.mpr ⟨((gm_yX9_become_a g)), (List.forall_mem_nil _)⟩), trivial⟩)
    (List.forall_mem_cons.mpr ⟨(ck_kV g_y_yX9_become w1226 w1227 w1228 (T := TX9) (N := 7) rfl (by decide) (by decide) (by decide)), (List.forall_mem_nil _)⟩) (List.forall_mem_nil _) (List.forall_mem_nil _) (List.forall_mem_nil _)
    (List.forall_mem_nil _)
    (ck_no5 rfl)
theorem g_y_yX5_bringBack : ck_y yX5_bringBack prog_7_method_3_code 2 1 none := ⟨w1422, w84, by decide +kernel, by decide +kernel, by decide +kernel⟩
def gc_yX5_bringBack_a : ck_KK := (([], [], [(2, 0, 0, 1012, (0, 0, (3, []))), (2, 1, 0, 1014, (0, 0, (7, [])))], 2, [(3, 0, (0, [])), (3, 1, (0, []))]), ((0, []), (0, [])), [(1012, 2), (1014, 0), (1014, 2), (1014, 5), (1150, 1000), (1250, 1000), (1350, 1000), (1407, 1), (1407, 2), (1450, 1000)], [], ([], [], [], 0, []), [])
def gt_yX5_bringBack_a : ck_TB := ([], [], [], [(11, 12, 0), (18, 12, 1), (22, 12, 2)], [(22, 12, 2, 0)], [], [], [], ([(25, 0)], [], [], []), [], [], [], 9)
def ge_yX5_bringBack_a : ck_E := (gT, [], gc_yX5_bringBack_a, 2, [(0, (0, 5, 0, 0, 1, 0, [])), (1, (7, 12, 2, 0, 4, 0, [])), (4, (1, 5, 0, 0, 7, 38, [])), (7, (0, 5, 0, 0, 8, 0, [])), (8, (0, 12, 0, 0, 9, 0, [])), (9, (7, 12, 2, 0, 12, 0, [])), (12, (0, 0, 0, 1, 13, 0, [])), (13, (0, 15, 1, 0, 14, 0, [])), (14, (8, 12, 2, 0, 17, 0, [])), (17, (0, 5, 1, 0, 18, 0, [])), (18, (0, 5, 0, 0, 19, 0, [])), (19, (7, 12, 0, 0, 22, 0, [])), (22, (0, 5, 0, 0, 23, 0, [])), (23, (7, 12, 1, 0, 26, 0, [])), (26, (0, 5, 0, 0, 27, 0, [])), (27, (7, 12, 2, 0, 30, 0, [])), (30, (0, 15, 0, 0, 31, 0, [])), (31, (0, 0, 0, 12, 33, 0, [])), (33, (0, 15, 4, 0, 34, 0, [])), (34, (12, 53, 58, 0, 35, 0, [])), (35, (16, 0, 0, 0, 38, 0, [])), (38, (15, 0, 0, 0, 0, 0, []))], [(some 14, 2, [gc_yX9_become_a])], [], [], [])
theorem gk_yX5_bringBack_a : ck_chk ge_yX5_bringBack_a 28 = true := by decide +kernel
theorem gd_yX5_bringBack_a : ck_dec prog_7_method_3_code gt_yX5_bringBack_a ge_yX5_bringBack_a.2.2.2.2.1 = true := by decide +kernel
theorem gm_yX5_bringBack_a {l : Launch} {G : am_G} {X : ck_XT} (g : gE l G X) : ck_Con (am_cm l G yX5_bringBack (.code yX5_bringBack prog_7_method_3_code 2 none) 4 102) G X gT gc_yX5_bringBack_a :=
  ck_meth (E := ge_yX5_bringBack_a) (tb := gt_yX5_bringBack_a) (init := false) (cm := ck_cms [am_cm l G yX9_become (.code yX9_become prog_11_method_2_code 3 none) 3 80]) g.1 g.2.1 g.2.2.1 g.2.2.2 gT_w (by decide +kernel) rfl rfl rfl (by decide) gk_yX5_bringBack_a gd_yX5_bringBack_a ⟨(List.forall_mem_nil _), (List.forall_mem_nil _), (List.forall_mem_nil _), (List.forall_mem_cons.mpr ⟨⟨⟨_, _, _, rfl, Or.inl w199⟩, by decide, _, _, g_fd12_0⟩, (List.forall_mem_cons.mpr ⟨⟨⟨_, _, _, rfl, Or.inl w200⟩, by decide, _, _, g_fd12_1⟩, (List.forall_mem_cons.mpr ⟨⟨⟨_, _, _, rfl, Or.inl w201⟩, by decide, _, _, g_fd12_2⟩, (List.forall_mem_nil _)⟩)⟩)⟩), (List.forall_mem_nil _), (List.forall_mem_nil _), (List.forall_mem_nil _), (List.forall_mem_nil _)⟩ (List.forall_mem_cons.mpr ⟨⟨⟨_, _, _, rfl, Or.inl w201⟩, by decide, _, rfl, Or.inl g_fd12_2⟩, (List.forall_mem_nil _)⟩) (fun h => nomatch h) rfl (by decide) (by decide) g_oi g_ar
    (fun s hk _ => (List.forall_mem_nil _)) (fun s hk => (List.forall_mem_nil _)) (ck_cms_ok ⟨(List.forall_mem_cons.mpr ⟨((gm_yX9_become_a g)), (List.forall_mem_nil _)⟩), trivial⟩)
    (List.forall_mem_cons.mpr ⟨(ck_kV g_y_yX9_become w1226 w1227 w1228 (T := TX9) (N := 7) rfl (by decide) (by decide) (by decide)), (List.forall_mem_nil _)⟩) (List.forall_mem_nil _) (List.forall_mem_nil _) (List.forall_mem_nil _)
    (List.forall_mem_nil _)
    (ck_no5 rfl)
