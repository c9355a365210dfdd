section
/-! CALLS OF THE CLASS FROM THE LAW -/
theorem g_y_yL_dial : ck_yW yL_dial method_2_code 4 3 (some .int) [(0, 10, 13, 19)] := ⟨w1215, w80, by decide +kernel, by decide +kernel, by decide +kernel⟩
theorem g_in16 : ∀ w ∈ u_ws RX11 TX11 2, w ∈ lw_gw := by
  intro w hw
  obtain ⟨i, hi, rfl⟩ := List.mem_map.mp hw
  rw [List.mem_range] at hi
  match i, hi with
  | 0, _ => exact w1208
  | 1, _ => exact w1210
theorem g_fd16_0 : am_fd 16 0 false .long := ⟨RX11, TX11, 2, tyX11, rfl, by decide, g_in16, tyX11_ok, nmX11, rfl, by decide +kernel⟩
theorem g_fd16_1 : am_fd 16 1 false (.object "java/lang/String") := ⟨RX11, TX11, 2, tyX11, rfl, by decide, g_in16, tyX11_ok, nmX11, rfl, by decide +kernel⟩
def gc_yL_dial_a : ck_KK := (([((-2147483648), 2147483647)], [], [(2, 0, 0, 1015, (0, 0, (13, []))), (2, 1, 0, 1016, (0, 0, (2, [])))], 2, [(3, 0, (0, [])), (1, 0, (0, [(1, 0)])), (3, 1, (0, []))]), ((1, []), (6, [])), [(1012, 1), (1012, 2), (1014, 0), (1014, 2), (1014, 5), (1016, 0), (1150, 1000), (1250, 1000), (1350, 1000), (1407, 1), (1407, 2), (1450, 1000)], [], ([(0, 1)], [], [], 0, [(1, 0, (0, [(1, 1)]))]), [])
def gt_yL_dial_a : ck_TB := ([], [], [], [], [(13, 16, 0, 3)], [], [], [], ([(7, 0)], [], [], []), [], [], [], 0)
def ge_yL_dial_a : ck_E := (gT, [], gc_yL_dial_a, 4, [(0, (0, 5, 2, 0, 1, 0, [])), (1, (0, 5, 0, 0, 2, 0, [])), (2, (0, 3, 1, 0, 3, 0, [])), (3, (16, 0, 0, 0, 6, 0, [])), (6, (0, 19, 0, 0, 7, 0, [])), (7, (8, 16, 0, 3, 10, 0, [])), (10, (3, 0, 0, 0, 0, 16, [])), (14, (0, 0, 0, 1, 15, 0, [])), (15, (14, 0, 0, 0, 0, 0, [])), (16, (0, 0, 0, 0, 17, 0, [])), (17, (14, 0, 0, 0, 0, 0, []))], [(some 15, 2, [gc_yX10_dial_a])], [(3, [("java/lang/IllegalArgumentException", 14)])], [], [])
theorem gk_yL_dial_a : ck_chk ge_yL_dial_a 16 = true := by decide +kernel
theorem gd_yL_dial_a : ck_dec method_2_code gt_yL_dial_a ge_yL_dial_a.2.2.2.2.1 = true := by decide +kernel
theorem gm_yL_dial_a {l : Launch} {G : am_G} {X : ck_XT} (g : gE l G X) : ck_Con (am_cm l G yL_dial (.codeWith yL_dial method_2_code 4 (some .int) [(0, 10, 13, 19)]) 7 145) G X gT gc_yL_dial_a :=
  ck_methH (E := ge_yL_dial_a) (tb := gt_yL_dial_a) (init := false) (cm := ck_cms [am_cm l G yX10_dial (.code yX10_dial prog_1_method_2_code 3 (some .int)) 6 123]) g.1 g.2.1 g.2.2.1 g.2.2.2 gT_w (by decide +kernel) rfl rfl (ck_at1 (List.forall_mem_cons.mpr ⟨⟨[], _, _, _, rfl, (List.forall_mem_nil _), by decide, by decide, w1216, w676, by decide, Or.inr ⟨3, rfl, rfl, rfl⟩⟩, (List.forall_mem_nil _)⟩)) rfl (by decide) gk_yL_dial_a gd_yL_dial_a ⟨(List.forall_mem_nil _), (List.forall_mem_nil _), (List.forall_mem_nil _), (List.forall_mem_nil _), (List.forall_mem_nil _), (List.forall_mem_nil _), (List.forall_mem_nil _), (List.forall_mem_nil _)⟩ (List.forall_mem_cons.mpr ⟨⟨⟨_, _, _, rfl, Or.inr (Or.inl ⟨_, w1206⟩)⟩, by decide, _, rfl, Or.inl g_fd16_0⟩, (List.forall_mem_nil _)⟩) rfl ⟨_, rfl, rfl⟩ (by decide) (by decide) g_oi g_ar
    (fun s hk _ => (List.forall_mem_nil _)) (fun s hk => (List.forall_mem_nil _)) (ck_cms_ok ⟨(List.forall_mem_cons.mpr ⟨((gm_yX10_dial_a g)), (List.forall_mem_nil _)⟩), trivial⟩)
    (List.forall_mem_cons.mpr ⟨(ck_kV g_y_yX10_dial w1217 w1218 w1219 (T := TX10) (N := 13) rfl (by decide) (by decide) (by decide)), (List.forall_mem_nil _)⟩) (List.forall_mem_nil _) (List.forall_mem_nil _) (List.forall_mem_nil _)
    rfl (ck_no5 rfl)
theorem g_y_yL_set : ck_yW yL_set method_3_code 5 4 (some .int) [(0, 11, 14, 25)] := ⟨w1234, w80, by decide +kernel, by decide +kernel, by decide +kernel⟩
def gc_yL_set_a : ck_KK := (([((-2147483648), 2147483647), ((-2147483648), 2147483647)], [], [(2, 0, 0, 1015, (0, 0, (13, []))), (2, 1, 0, 1016, (0, 0, (2, [])))], 2, [(3, 0, (0, [])), (1, 0, (0, [(1, 0)])), (1, 0, (0, [(1, 1)])), (3, 1, (0, []))]), ((1, []), (6, [])), [(1012, 1), (1012, 2), (1014, 0), (1014, 2), (1014, 5), (1016, 0), (1150, 1000), (1250, 1000), (1350, 1000), (1407, 1), (1407, 2), (1450, 1000)], [], ([(0, 1)], [], [], 0, [(1, 0, (0, [(1, 2)]))]), [])
def gt_yL_set_a : ck_TB := ([], [], [], [], [(13, 16, 0, 3)], [], [], [], ([(21, 0)], [], [], []), [], [], [], 0)
def ge_yL_set_a : ck_E := (gT, [], gc_yL_set_a, 5, [(0, (0, 5, 3, 0, 1, 0, [])), (1, (0, 5, 0, 0, 2, 0, [])), (2, (0, 3, 1, 0, 3, 0, [])), (3, (0, 3, 2, 0, 4, 0, [])), (4, (16, 0, 0, 0, 7, 0, [])), (7, (0, 19, 0, 0, 8, 0, [])), (8, (8, 16, 0, 3, 11, 0, [])), (11, (3, 0, 0, 0, 0, 18, [])), (16, (0, 0, 0, 1, 17, 0, [])), (17, (14, 0, 0, 0, 0, 0, [])), (18, (0, 0, 0, 0, 19, 0, [])), (19, (14, 0, 0, 0, 0, 0, []))], [(some 15, 3, [gc_yX10_set_a])], [(4, [("java/lang/IndexOutOfBoundsException", 16)])], [], [])
theorem gk_yL_set_a : ck_chk ge_yL_set_a 17 = true := by decide +kernel
theorem gd_yL_set_a : ck_dec method_3_code gt_yL_set_a ge_yL_set_a.2.2.2.2.1 = true := by decide +kernel
theorem gm_yL_set_a {l : Launch} {G : am_G} {X : ck_XT} (g : gE l G X) : ck_Con (am_cm l G yL_set (.codeWith yL_set method_3_code 5 (some .int) [(0, 11, 14, 25)]) 8 146) G X gT gc_yL_set_a :=
  ck_methH (E := ge_yL_set_a) (tb := gt_yL_set_a) (init := false) (cm := ck_cms [am_cm l G yX10_set (.code yX10_set prog_1_method_3_code 4 (some .int)) 7 123]) g.1 g.2.1 g.2.2.1 g.2.2.2 gT_w (by decide +kernel) rfl rfl (ck_at1 (List.forall_mem_cons.mpr ⟨⟨[], _, _, _, rfl, (List.forall_mem_nil _), by decide, by decide, w1235, w1046, by decide, Or.inl ⟨rfl, rfl⟩⟩, (List.forall_mem_nil _)⟩)) rfl (by decide) gk_yL_set_a gd_yL_set_a ⟨(List.forall_mem_nil _), (List.forall_mem_nil _), (List.forall_mem_nil _), (List.forall_mem_nil _), (List.forall_mem_nil _), (List.forall_mem_nil _), (List.forall_mem_nil _), (List.forall_mem_nil _)⟩ (List.forall_mem_cons.mpr ⟨⟨⟨_, _, _, rfl, Or.inr (Or.inl ⟨_, w1206⟩)⟩, by decide, _, rfl, Or.inl g_fd16_0⟩, (List.forall_mem_nil _)⟩) rfl ⟨_, rfl, rfl⟩ (by decide) (by decide) g_oi g_ar
    (fun s hk _ => (List.forall_mem_nil _)) (fun s hk => (List.forall_mem_nil _)) (ck_cms_ok ⟨(List.forall_mem_cons.mpr ⟨((gm_yX10_set_a g)), (List.forall_mem_nil _)⟩), trivial⟩)
    (List.forall_mem_cons.mpr ⟨(ck_kV g_y_yX10_set w1236 w1237 w1238 (T := TX10) (N := 13) rfl (by decide) (by decide) (by decide)), (List.forall_mem_nil _)⟩) (List.forall_mem_nil _) (List.forall_mem_nil _) (List.forall_mem_nil _)
    rfl (ck_no5 rfl)
theorem g_y_yL_lengthen : ck_yW yL_lengthen method_4_code 5 4 (some .int) [(0, 11, 14, 25), (0, 11, 18, 19), (0, 11, 22, 30)] := ⟨w1242, w80, by decide +kernel, by decide +kernel, by decide +kernel⟩
def gc_yL_lengthen_a : ck_KK := (([((-2147483648), 2147483647), ((-2147483648), 2147483647)], [], [(2, 0, 0, 1015, (0, 0, (13, []))), (2, 1, 0, 1016, (0, 0, (2, [])))], 2, [(3, 0, (0, [])), (1, 0, (0, [(1, 0)])), (1, 0, (0, [(1, 1)])), (3, 1, (0, []))]), ((2, []), (12, [])), [(1007, 1), (1007, 2), (1012, 1), (1012, 2), (1014, 0), (1014, 2), (1014, 5), (1016, 0), (1050, 0), (1050, 1000), (1150, 1000), (1250, 1000), (1350, 1000), (1407, 1), (1407, 2), (1450, 1000)], [], ([(0, 3)], [], [], 0, [(1, 0, (0, [(1, 2)]))]), [])
def gt_yL_lengthen_a : ck_TB := ([], [], [], [], [(13, 16, 0, 3)], [], [], [], ([(27, 0)], [], [], []), [], [], [], 0)
def ge_yL_lengthen_a : ck_E := (gT, [], gc_yL_lengthen_a, 5, [(0, (0, 5, 3, 0, 1, 0, [])), (1, (0, 5, 0, 0, 2, 0, [])), (2, (0, 3, 1, 0, 3, 0, [])), (3, (0, 3, 2, 0, 4, 0, [])), (4, (16, 0, 0, 0, 7, 0, [])), (7, (0, 19, 0, 0, 8, 0, [])), (8, (8, 16, 0, 3, 11, 0, [])), (11, (3, 0, 0, 0, 0, 26, [])), (16, (0, 0, 0, 1, 17, 0, [])), (17, (14, 0, 0, 0, 0, 0, [])), (20, (0, 0, 0, 2, 21, 0, [])), (21, (14, 0, 0, 0, 0, 0, [])), (24, (0, 0, 0, 3, 25, 0, [])), (25, (14, 0, 0, 0, 0, 0, [])), (26, (0, 0, 0, 0, 27, 0, [])), (27, (14, 0, 0, 0, 0, 0, []))], [(some 15, 3, [gc_yX10_lengthen_a])], [(4, [("java/lang/IndexOutOfBoundsException", 16), ("java/lang/IllegalArgumentException", 20), ("java/lang/IllegalStateException", 24)])], [], [])
theorem gk_yL_lengthen_a : ck_chk ge_yL_lengthen_a 21 = true := by decide +kernel
theorem gd_yL_lengthen_a : ck_dec method_4_code gt_yL_lengthen_a ge_yL_lengthen_a.2.2.2.2.1 = true := by decide +kernel
theorem gm_yL_lengthen_a {l : Launch} {G : am_G} {X : ck_XT} (g : gE l G X) : ck_Con (am_cm l G yL_lengthen (.codeWith yL_lengthen method_4_code 5 (some .int) [(0, 11, 14, 25), (0, 11, 18, 19), (0, 11, 22, 30)]) 8 168) G X gT gc_yL_lengthen_a :=
  ck_methH (E := ge_yL_lengthen_a) (tb := gt_yL_lengthen_a) (init := false) (cm := ck_cms [am_cm l G yX10_lengthen (.code yX10_lengthen prog_1_method_4_code 4 (some .int)) 7 145]) g.1 g.2.1 g.2.2.1 g.2.2.2 gT_w (by decide +kernel) rfl rfl (ck_at1 (List.forall_mem_cons.mpr ⟨⟨[], _, _, _, rfl, (List.forall_mem_nil _), by decide, by decide, w1235, w1046, by decide, Or.inl ⟨rfl, rfl⟩⟩, (List.forall_mem_cons.mpr ⟨⟨[(0, 11, 14, 25)], _, _, _, rfl, (List.forall_mem_cons.mpr ⟨⟨by decide, _, w1235, w77⟩, (List.forall_mem_nil _)⟩), by decide, by decide, w1216, w676, by decide, Or.inl ⟨rfl, rfl⟩⟩, (List.forall_mem_cons.mpr ⟨⟨[(0, 11, 14, 25), (0, 11, 18, 19)], _, _, _, rfl, (List.forall_mem_cons.mpr ⟨⟨by decide, _, w1235, w78⟩, (List.forall_mem_cons.mpr ⟨⟨by decide, _, w1216, w79⟩, (List.forall_mem_nil _)⟩)⟩), by decide, by decide, w1243, w1257, by decide, Or.inl ⟨rfl, rfl⟩⟩, (List.forall_mem_nil _)⟩)⟩)⟩)) rfl (by decide) gk_yL_lengthen_a gd_yL_lengthen_a ⟨(List.forall_mem_nil _), (List.forall_mem_nil _), (List.forall_mem_nil _), (List.forall_mem_nil _), (List.forall_mem_nil _), (List.forall_mem_nil _), (List.forall_mem_nil _), (List.forall_mem_nil _)⟩ (List.forall_mem_cons.mpr ⟨⟨⟨_, _, _, rfl, Or.inr (Or.inl ⟨_, w1206⟩)⟩, by decide, _, rfl, Or.inl g_fd16_0⟩, (List.forall_mem_nil _)⟩) rfl ⟨_, rfl, rfl⟩ (by decide) (by decide) g_oi g_ar
    (fun s hk _ => (List.forall_mem_nil _)) (fun s hk => (List.forall_mem_nil _)) (ck_cms_ok ⟨(List.forall_mem_cons.mpr ⟨((gm_yX10_lengthen_a g)), (List.forall_mem_nil _)⟩), trivial⟩)
    (List.forall_mem_cons.mpr ⟨(ck_kV g_y_yX10_lengthen w1244 w1245 w1246 (T := TX10) (N := 13) rfl (by decide) (by decide) (by decide)), (List.forall_mem_nil _)⟩) (List.forall_mem_nil _) (List.forall_mem_nil _) (List.forall_mem_nil _)
    rfl (ck_no5 rfl)
theorem g_y_yL_plus : ck_yW yL_plus method_5_code 5 4 (some .int) [(0, 11, 14, 25), (0, 11, 18, 30)] := ⟨w1274, w80, by decide +kernel, by decide +kernel, by decide +kernel⟩
def gc_yL_plus_a : ck_KK := (([((-2147483648), 2147483647), ((-2147483648), 2147483647)], [], [(2, 0, 0, 1015, (0, 0, (13, []))), (2, 1, 0, 1016, (0, 0, (2, [])))], 2, [(3, 0, (0, [])), (1, 0, (0, [(1, 0)])), (1, 0, (0, [(1, 1)])), (3, 1, (0, []))]), ((3, []), (18, [])), [(1007, 1), (1007, 2), (1012, 1), (1012, 2), (1014, 0), (1014, 2), (1014, 5), (1016, 0), (1050, 0), (1050, 1000), (1150, 1000), (1250, 1000), (1350, 1000), (1407, 1), (1407, 2), (1450, 1000)], [], ([(0, 2)], [], [], 0, [(1, 0, (0, [(1, 2)]))]), [])
def gt_yL_plus_a : ck_TB := ([], [], [], [], [(13, 16, 0, 3)], [], [], [], ([(32, 0)], [], [], []), [], [], [], 0)
def ge_yL_plus_a : ck_E := (gT, [], gc_yL_plus_a, 5, [(0, (0, 5, 3, 0, 1, 0, [])), (1, (0, 5, 0, 0, 2, 0, [])), (2, (0, 3, 1, 0, 3, 0, [])), (3, (0, 3, 2, 0, 4, 0, [])), (4, (16, 0, 0, 0, 7, 0, [])), (7, (0, 19, 0, 0, 8, 0, [])), (8, (8, 16, 0, 3, 11, 0, [])), (11, (3, 0, 0, 0, 0, 22, [])), (16, (0, 0, 0, 1, 17, 0, [])), (17, (14, 0, 0, 0, 0, 0, [])), (20, (0, 0, 0, 2, 21, 0, [])), (21, (14, 0, 0, 0, 0, 0, [])), (22, (0, 0, 0, 0, 23, 0, [])), (23, (14, 0, 0, 0, 0, 0, []))], [(some 15, 3, [gc_yX10_plus_a])], [(4, [("java/lang/IndexOutOfBoundsException", 16), ("java/lang/IllegalStateException", 20)])], [], [])
theorem gk_yL_plus_a : ck_chk ge_yL_plus_a 19 = true := by decide +kernel
theorem gd_yL_plus_a : ck_dec method_5_code gt_yL_plus_a ge_yL_plus_a.2.2.2.2.1 = true := by decide +kernel
theorem gm_yL_plus_a {l : Launch} {G : am_G} {X : ck_XT} (g : gE l G X) : ck_Con (am_cm l G yL_plus (.codeWith yL_plus method_5_code 5 (some .int) [(0, 11, 14, 25), (0, 11, 18, 30)]) 8 169) G X gT gc_yL_plus_a :=
  ck_methH (E := ge_yL_plus_a) (tb := gt_yL_plus_a) (init := false) (cm := ck_cms [am_cm l G yX10_plus (.code yX10_plus prog_1_method_5_code 5 (some .int)) 7 145]) g.1 g.2.1 g.2.2.1 g.2.2.2 gT_w (by decide +kernel) rfl rfl (ck_at1 (List.forall_mem_cons.mpr ⟨⟨[], _, _, _, rfl, (List.forall_mem_nil _), by decide, by decide, w1235, w1046, by decide, Or.inl ⟨rfl, rfl⟩⟩, (List.forall_mem_cons.mpr ⟨⟨[(0, 11, 14, 25)], _, _, _, rfl, (List.forall_mem_cons.mpr ⟨⟨by decide, _, w1235, w78⟩, (List.forall_mem_nil _)⟩), by decide, by decide, w1243, w1257, by decide, Or.inl ⟨rfl, rfl⟩⟩, (List.forall_mem_nil _)⟩)⟩)) rfl (by decide) gk_yL_plus_a gd_yL_plus_a ⟨(List.forall_mem_nil _), (List.forall_mem_nil _), (List.forall_mem_nil _), (List.forall_mem_nil _), (List.forall_mem_nil _), (List.forall_mem_nil _), (List.forall_mem_nil _), (List.forall_mem_nil _)⟩ (List.forall_mem_cons.mpr ⟨⟨⟨_, _, _, rfl, Or.inr (Or.inl ⟨_, w1206⟩)⟩, by decide, _, rfl, Or.inl g_fd16_0⟩, (List.forall_mem_nil _)⟩) rfl ⟨_, rfl, rfl⟩ (by decide) (by decide) g_oi g_ar
    (fun s hk _ => (List.forall_mem_nil _)) (fun s hk => (List.forall_mem_nil _)) (ck_cms_ok ⟨(List.forall_mem_cons.mpr ⟨((gm_yX10_plus_a g)), (List.forall_mem_nil _)⟩), trivial⟩)
    (List.forall_mem_cons.mpr ⟨(ck_kV g_y_yX10_plus w1275 w1276 w1277 (T := TX10) (N := 13) rfl (by decide) (by decide) (by decide)), (List.forall_mem_nil _)⟩) (List.forall_mem_nil _) (List.forall_mem_nil _) (List.forall_mem_nil _)
    rfl (ck_no5 rfl)
theorem g_y_yL_times : ck_yW yL_times method_6_code 5 4 (some .int) [(0, 11, 14, 25), (0, 11, 18, 30)] := ⟨w1281, w80, by decide +kernel, by decide +kernel, by decide +kernel⟩
def gc_yL_times_a : ck_KK := (([((-2147483648), 2147483647), ((-2147483648), 2147483647)], [], [(2, 0, 0, 1015, (0, 0, (13, []))), (2, 1, 0, 1016, (0, 0, (2, [])))], 2, [(3, 0, (0, [])), (1, 0, (0, [(1, 0)])), (1, 0, (0, [(1, 1)])), (3, 1, (0, []))]), ((3, []), (18, [])), [(1007, 1), (1007, 2), (1012, 1), (1012, 2), (1014, 0), (1014, 2), (1014, 5), (1016, 0), (1050, 0), (1050, 1000), (1150, 1000), (1250, 1000), (1350, 1000), (1407, 1), (1407, 2), (1450, 1000)], [], ([(0, 2)], [], [], 0, [(1, 0, (0, [(1, 2)]))]), [])
def gt_yL_times_a : ck_TB := ([], [], [], [], [(13, 16, 0, 3)], [], [], [], ([(35, 0)], [], [], []), [], [], [], 0)
def ge_yL_times_a : ck_E := (gT, [], gc_yL_times_a, 5, [(0, (0, 5, 3, 0, 1, 0, [])), (1, (0, 5, 0, 0, 2, 0, [])), (2, (0, 3, 1, 0, 3, 0, [])), (3, (0, 3, 2, 0, 4, 0, [])), (4, (16, 0, 0, 0, 7, 0, [])), (7, (0, 19, 0, 0, 8, 0, [])), (8, (8, 16, 0, 3, 11, 0, [])), (11, (3, 0, 0, 0, 0, 22, [])), (16, (0, 0, 0, 1, 17, 0, [])), (17, (14, 0, 0, 0, 0, 0, [])), (20, (0, 0, 0, 2, 21, 0, [])), (21, (14, 0, 0, 0, 0, 0, [])), (22, (0, 0, 0, 0, 23, 0, [])), (23, (14, 0, 0, 0, 0, 0, []))], [(some 15, 3, [gc_yX10_times_a])], [(4, [("java/lang/IndexOutOfBoundsException", 16), ("java/lang/IllegalStateException", 20)])], [], [])
theorem gk_yL_times_a : ck_chk ge_yL_times_a 19 = true := by decide +kernel
theorem gd_yL_times_a : ck_dec method_6_code gt_yL_times_a ge_yL_times_a.2.2.2.2.1 = true := by decide +kernel
theorem gm_yL_times_a {l : Launch} {G : am_G} {X : ck_XT} (g : gE l G X) : ck_Con (am_cm l G yL_times (.codeWith yL_times method_6_code 5 (some .int) [(0, 11, 14, 25), (0, 11, 18, 30)]) 8 169) G X gT gc_yL_times_a :=
  ck_methH (E := ge_yL_times_a) (tb := gt_yL_times_a) (init := false) (cm := ck_cms [am_cm l G yX10_times (.code yX10_times prog_1_method_6_code 5 (some .int)) 7 145]) g.1 g.2.1 g.2.2.1 g.2.2.2 gT_w (by decide +kernel) rfl rfl (ck_at1 (List.forall_mem_cons.mpr ⟨⟨[], _, _, _, rfl, (List.forall_mem_nil _), by decide, by decide, w1235, w1046, by decide, Or.inl ⟨rfl, rfl⟩⟩, (List.forall_mem_cons.mpr ⟨⟨[(0, 11, 14, 25)], _, _, _, rfl, (List.forall_mem_cons.mpr ⟨⟨by decide, _, w1235, w78⟩, (List.forall_mem_nil _)⟩), by decide, by decide, w1243, w1257, by decide, Or.inl ⟨rfl, rfl⟩⟩, (List.forall_mem_nil _)⟩)⟩)) rfl (by decide) gk_yL_times_a gd_yL_times_a ⟨(List.forall_mem_nil _), (List.forall_mem_nil _), (List.forall_mem_nil _), (List.forall_mem_nil _), (List.forall_mem_nil _), (List.forall_mem_nil _), (List.forall_mem_nil _), (List.forall_mem_nil _)⟩ (List.forall_mem_cons.mpr ⟨⟨⟨_, _, _, rfl, Or.inr (Or.inl ⟨_, w1206⟩)⟩, by decide, _, rfl, Or.inl g_fd16_0⟩, (List.forall_mem_nil _)⟩) rfl ⟨_, rfl, rfl⟩ (by decide) (by decide) g_oi g_ar
    (fun s hk _ => (List.forall_mem_nil _)) (fun s hk => (List.forall_mem_nil _)) (ck_cms_ok ⟨(List.forall_mem_cons.mpr ⟨((gm_yX10_times_a g)), (List.forall_mem_nil _)⟩), trivial⟩)
    (List.forall_mem_cons.mpr ⟨(ck_kV g_y_yX10_times w1282 w1283 w1284 (T := TX10) (N := 13) rfl (by decide) (by decide) (by decide)), (List.forall_mem_nil _)⟩) (List.forall_mem_nil _) (List.forall_mem_nil _) (List.forall_mem_nil _)
    rfl (ck_no5 rfl)
theorem g_y_yL_negate : ck_yW yL_negate method_7_code 4 3 (some .int) [(0, 10, 13, 25)] := ⟨w1288, w80, by decide +kernel, by decide +kernel, by decide +kernel⟩
def gc_yL_negate_a : ck_KK := (([((-2147483648), 2147483647)], [], [(2, 0, 0, 1015, (0, 0, (13, []))), (2, 1, 0, 1016, (0, 0, (2, [])))], 2, [(3, 0, (0, [])), (1, 0, (0, [(1, 0)])), (3, 1, (0, []))]), ((1, []), (6, [])), [(1012, 1), (1012, 2), (1014, 0), (1014, 2), (1014, 5), (1016, 0), (1150, 1000), (1250, 1000), (1350, 1000), (1407, 1), (1407, 2), (1450, 1000)], [], ([(0, 1)], [], [], 0, [(1, 0, (0, [(1, 1)]))]), [])
def gt_yL_negate_a : ck_TB := ([], [], [], [], [(13, 16, 0, 3)], [], [], [], ([(38, 0)], [], [], []), [], [], [], 0)
def ge_yL_negate_a : ck_E := (gT, [], gc_yL_negate_a, 4, [(0, (0, 5, 2, 0, 1, 0, [])), (1, (0, 5, 0, 0, 2, 0, [])), (2, (0, 3, 1, 0, 3, 0, [])), (3, (16, 0, 0, 0, 6, 0, [])), (6, (0, 19, 0, 0, 7, 0, [])), (7, (8, 16, 0, 3, 10, 0, [])), (10, (3, 0, 0, 0, 0, 16, [])), (14, (0, 0, 0, 1, 15, 0, [])), (15, (14, 0, 0, 0, 0, 0, [])), (16, (0, 0, 0, 0, 17, 0, [])), (17, (14, 0, 0, 0, 0, 0, []))], [(some 15, 2, [gc_yX10_negate_a])], [(3, [("java/lang/IndexOutOfBoundsException", 14)])], [], [])
theorem gk_yL_negate_a : ck_chk ge_yL_negate_a 16 = true := by decide +kernel
theorem gd_yL_negate_a : ck_dec method_7_code gt_yL_negate_a ge_yL_negate_a.2.2.2.2.1 = true := by decide +kernel
theorem gm_yL_negate_a {l : Launch} {G : am_G} {X : ck_XT} (g : gE l G X) : ck_Con (am_cm l G yL_negate (.codeWith yL_negate method_7_code 4 (some .int) [(0, 10, 13, 25)]) 8 145) G X gT gc_yL_negate_a :=
  ck_methH (E := ge_yL_negate_a) (tb := gt_yL_negate_a) (init := false) (cm := ck_cms [am_cm l G yX10_negate (.code yX10_negate prog_1_method_7_code 3 (some .int)) 7 123]) g.1 g.2.1 g.2.2.1 g.2.2.2 gT_w (by decide +kernel) rfl rfl (ck_at1 (List.forall_mem_cons.mpr ⟨⟨[], _, _, _, rfl, (List.forall_mem_nil _), by decide, by decide, w1235, w1046, by decide, Or.inr ⟨3, rfl, rfl, rfl⟩⟩, (List.forall_mem_nil _)⟩)) rfl (by decide) gk_yL_negate_a gd_yL_negate_a ⟨(List.forall_mem_nil _), (List.forall_mem_nil _), (List.forall_mem_nil _), (List.forall_mem_nil _), (List.forall_mem_nil _), (List.forall_mem_nil _), (List.forall_mem_nil _), (List.forall_mem_nil _)⟩ (List.forall_mem_cons.mpr ⟨⟨⟨_, _, _, rfl, Or.inr (Or.inl ⟨_, w1206⟩)⟩, by decide, _, rfl, Or.inl g_fd16_0⟩, (List.forall_mem_nil _)⟩) rfl ⟨_, rfl, rfl⟩ (by decide) (by decide) g_oi g_ar
    (fun s hk _ => (List.forall_mem_nil _)) (fun s hk => (List.forall_mem_nil _)) (ck_cms_ok ⟨(List.forall_mem_cons.mpr ⟨((gm_yX10_negate_a g)), (List.forall_mem_nil _)⟩), trivial⟩)
    (List.forall_mem_cons.mpr ⟨(ck_kV g_y_yX10_negate w1289 w1290 w1291 (T := TX10) (N := 13) rfl (by decide) (by decide) (by decide)), (List.forall_mem_nil _)⟩) (List.forall_mem_nil _) (List.forall_mem_nil _) (List.forall_mem_nil _)
    rfl (ck_no5 rfl)
theorem g_y_yL_reduce : ck_yW yL_reduce method_8_code 4 3 (some .int) [(0, 10, 13, 25)] := ⟨w1295, w80, by decide +kernel, by decide +kernel, by decide +kernel⟩
def gc_yL_reduce_a : ck_KK := (([((-2147483648), 2147483647)], [], [(2, 0, 0, 1015, (0, 0, (13, []))), (2, 1, 0, 1016, (0, 0, (2, [])))], 2, [(3, 0, (0, [])), (1, 0, (0, [(1, 0)])), (3, 1, (0, []))]), ((2, []), (12, [])), [(1012, 1), (1012, 2), (1014, 0), (1014, 2), (1014, 5), (1015, 2), (1015, 3), (1016, 0), (1150, 1000), (1250, 1000), (1350, 1000), (1407, 1), (1407, 2), (1450, 1000)], [], ([(0, 1)], [], [], 0, [(1, 0, (0, [(1, 1)]))]), [])
def gt_yL_reduce_a : ck_TB := ([], [], [], [], [(13, 16, 0, 3)], [], [], [], ([(41, 0)], [], [], []), [], [], [], 0)
def ge_yL_reduce_a : ck_E := (gT, [], gc_yL_reduce_a, 4, [(0, (0, 5, 2, 0, 1, 0, [])), (1, (0, 5, 0, 0, 2, 0, [])), (2, (0, 3, 1, 0, 3, 0, [])), (3, (16, 0, 0, 0, 6, 0, [])), (6, (0, 19, 0, 0, 7, 0, [])), (7, (8, 16, 0, 3, 10, 0, [])), (10, (3, 0, 0, 0, 0, 16, [])), (14, (0, 0, 0, 1, 15, 0, [])), (15, (14, 0, 0, 0, 0, 0, [])), (16, (0, 0, 0, 0, 17, 0, [])), (17, (14, 0, 0, 0, 0, 0, []))], [(some 15, 2, [gc_yX10_reduce_a])], [(3, [("java/lang/IndexOutOfBoundsException", 14)])], [], [])
theorem gk_yL_reduce_a : ck_chk ge_yL_reduce_a 16 = true := by decide +kernel
theorem gd_yL_reduce_a : ck_dec method_8_code gt_yL_reduce_a ge_yL_reduce_a.2.2.2.2.1 = true := by decide +kernel
theorem gm_yL_reduce_a {l : Launch} {G : am_G} {X : ck_XT} (g : gE l G X) : ck_Con (am_cm l G yL_reduce (.codeWith yL_reduce method_8_code 4 (some .int) [(0, 10, 13, 25)]) 9 166) G X gT gc_yL_reduce_a :=
  ck_methH (E := ge_yL_reduce_a) (tb := gt_yL_reduce_a) (init := false) (cm := ck_cms [am_cm l G yX10_reduce (.code yX10_reduce prog_1_method_8_code 2 (some .int)) 8 145]) g.1 g.2.1 g.2.2.1 g.2.2.2 gT_w (by decide +kernel) rfl rfl (ck_at1 (List.forall_mem_cons.mpr ⟨⟨[], _, _, _, rfl, (List.forall_mem_nil _), by decide, by decide, w1235, w1046, by decide, Or.inr ⟨3, rfl, rfl, rfl⟩⟩, (List.forall_mem_nil _)⟩)) rfl (by decide) gk_yL_reduce_a gd_yL_reduce_a ⟨(List.forall_mem_nil _), (List.forall_mem_nil _), (List.forall_mem_nil _), (List.forall_mem_nil _), (List.forall_mem_nil _), (List.forall_mem_nil _), (List.forall_mem_nil _), (List.forall_mem_nil _)⟩ (List.forall_mem_cons.mpr ⟨⟨⟨_, _, _, rfl, Or.inr (Or.inl ⟨_, w1206⟩)⟩, by decide, _, rfl, Or.inl g_fd16_0⟩, (List.forall_mem_nil _)⟩) rfl ⟨_, rfl, rfl⟩ (by decide) (by decide) g_oi g_ar
    (fun s hk _ => (List.forall_mem_nil _)) (fun s hk => (List.forall_mem_nil _)) (ck_cms_ok ⟨(List.forall_mem_cons.mpr ⟨((gm_yX10_reduce_a g)), (List.forall_mem_nil _)⟩), trivial⟩)
    (List.forall_mem_cons.mpr ⟨(ck_kV g_y_yX10_reduce w1296 w1297 w1298 (T := TX10) (N := 13) rfl (by decide) (by decide) (by decide)), (List.forall_mem_nil _)⟩) (List.forall_mem_nil _) (List.forall_mem_nil _) (List.forall_mem_nil _)
    rfl (ck_no5 rfl)
theorem g_y_yL_roundPlus : ck_yW yL_roundPlus method_9_code 5 4 (some .int) [(0, 11, 14, 25)] := ⟨w1306, w80, by decide +kernel, by decide +kernel, by decide +kernel⟩
def gc_yL_roundPlus_a : ck_KK := (([((-2147483648), 2147483647), ((-2147483648), 2147483647)], [], [(2, 0, 0, 1015, (0, 0, (13, []))), (2, 1, 0, 1016, (0, 0, (2, [])))], 2, [(3, 0, (0, [])), (1, 0, (0, [(1, 0)])), (1, 0, (0, [(1, 1)])), (3, 1, (0, []))]), ((2, []), (12, [])), [(1012, 1), (1012, 2), (1014, 0), (1014, 2), (1014, 5), (1015, 2), (1015, 3), (1016, 0), (1150, 1000), (1250, 1000), (1350, 1000), (1407, 1), (1407, 2), (1450, 1000)], [], ([(0, 1)], [], [], 0, [(1, 0, (0, [(1, 2)]))]), [])
def gt_yL_roundPlus_a : ck_TB := ([], [], [], [], [(13, 16, 0, 3)], [], [], [], ([(44, 0)], [], [], []), [], [], [], 0)
def ge_yL_roundPlus_a : ck_E := (gT, [], gc_yL_roundPlus_a, 5, [(0, (0, 5, 3, 0, 1, 0, [])), (1, (0, 5, 0, 0, 2, 0, [])), (2, (0, 3, 1, 0, 3, 0, [])), (3, (0, 3, 2, 0, 4, 0, [])), (4, (16, 0, 0, 0, 7, 0, [])), (7, (0, 19, 0, 0, 8, 0, [])), (8, (8, 16, 0, 3, 11, 0, [])), (11, (3, 0, 0, 0, 0, 18, [])), (16, (0, 0, 0, 1, 17, 0, [])), (17, (14, 0, 0, 0, 0, 0, [])), (18, (0, 0, 0, 0, 19, 0, [])), (19, (14, 0, 0, 0, 0, 0, []))], [(some 15, 3, [gc_yX10_roundPlus_a])], [(4, [("java/lang/IndexOutOfBoundsException", 16)])], [], [])
theorem gk_yL_roundPlus_a : ck_chk ge_yL_roundPlus_a 17 = true := by decide +kernel
theorem gd_yL_roundPlus_a : ck_dec method_9_code gt_yL_roundPlus_a ge_yL_roundPlus_a.2.2.2.2.1 = true := by decide +kernel
theorem gm_yL_roundPlus_a {l : Launch} {G : am_G} {X : ck_XT} (g : gE l G X) : ck_Con (am_cm l G yL_roundPlus (.codeWith yL_roundPlus method_9_code 5 (some .int) [(0, 11, 14, 25)]) 8 170) G X gT gc_yL_roundPlus_a :=
  ck_methH (E := ge_yL_roundPlus_a) (tb := gt_yL_roundPlus_a) (init := false) (cm := ck_cms [am_cm l G yX10_roundPlus (.code yX10_roundPlus prog_1_method_9_code 6 (some .int)) 7 145]) g.1 g.2.1 g.2.2.1 g.2.2.2 gT_w (by decide +kernel) rfl rfl (ck_at1 (List.forall_mem_cons.mpr ⟨⟨[], _, _, _, rfl, (List.forall_mem_nil _), by decide, by decide, w1235, w1046, by decide, Or.inl ⟨rfl, rfl⟩⟩, (List.forall_mem_nil _)⟩)) rfl (by decide) gk_yL_roundPlus_a gd_yL_roundPlus_a ⟨(List.forall_mem_nil _), (List.forall_mem_nil _), (List.forall_mem_nil _), (List.forall_mem_nil _), (List.forall_mem_nil _), (List.forall_mem_nil _), (List.forall_mem_nil _), (List.forall_mem_nil _)⟩ (List.forall_mem_cons.mpr ⟨⟨⟨_, _, _, rfl, Or.inr (Or.inl ⟨_, w1206⟩)⟩, by decide, _, rfl, Or.inl g_fd16_0⟩, (List.forall_mem_nil _)⟩) rfl ⟨_, rfl, rfl⟩ (by decide) (by decide) g_oi g_ar
    (fun s hk _ => (List.forall_mem_nil _)) (fun s hk => (List.forall_mem_nil _)) (ck_cms_ok ⟨(List.forall_mem_cons.mpr ⟨((gm_yX10_roundPlus_a g)), (List.forall_mem_nil _)⟩), trivial⟩)
    (List.forall_mem_cons.mpr ⟨(ck_kV g_y_yX10_roundPlus w1307 w1308 w1309 (T := TX10) (N := 13) rfl (by decide) (by decide) (by decide)), (List.forall_mem_nil _)⟩) (List.forall_mem_nil _) (List.forall_mem_nil _) (List.forall_mem_nil _)
    rfl (ck_no5 rfl)
theorem g_y_yL_roundTimes : ck_yW yL_roundTimes method_10_code 5 4 (some .int) [(0, 11, 14, 25)] := ⟨w1313, w80, by decide +kernel, by decide +kernel, by decide +kernel⟩
def gc_yL_roundTimes_a : ck_KK := (([((-2147483648), 2147483647), ((-2147483648), 2147483647)], [], [(2, 0, 0, 1015, (0, 0, (13, []))), (2, 1, 0, 1016, (0, 0, (2, [])))], 2, [(3, 0, (0, [])), (1, 0, (0, [(1, 0)])), (1, 0, (0, [(1, 1)])), (3, 1, (0, []))]), ((2, []), (12, [])), [(1012, 1), (1012, 2), (1014, 0), (1014, 2), (1014, 5), (1015, 2), (1015, 3), (1016, 0), (1150, 1000), (1250, 1000), (1350, 1000), (1407, 1), (1407, 2), (1450, 1000)], [], ([(0, 1)], [], [], 0, [(1, 0, (0, [(1, 2)]))]), [])
def gt_yL_roundTimes_a : ck_TB := ([], [], [], [], [(13, 16, 0, 3)], [], [], [], ([(47, 0)], [], [], []), [], [], [], 0)
def ge_yL_roundTimes_a : ck_E := (gT, [], gc_yL_roundTimes_a, 5, [(0, (0, 5, 3, 0, 1, 0, [])), (1, (0, 5, 0, 0, 2, 0, [])), (2, (0, 3, 1, 0, 3, 0, [])), (3, (0, 3, 2, 0, 4, 0, [])), (4, (16, 0, 0, 0, 7, 0, [])), (7, (0, 19, 0, 0, 8, 0, [])), (8, (8, 16, 0, 3, 11, 0, [])), (11, (3, 0, 0, 0, 0, 18, [])), (16, (0, 0, 0, 1, 17, 0, [])), (17, (14, 0, 0, 0, 0, 0, [])), (18, (0, 0, 0, 0, 19, 0, [])), (19, (14, 0, 0, 0, 0, 0, []))], [(some 15, 3, [gc_yX10_roundTimes_a])], [(4, [("java/lang/IndexOutOfBoundsException", 16)])], [], [])
theorem gk_yL_roundTimes_a : ck_chk ge_yL_roundTimes_a 17 = true := by decide +kernel
theorem gd_yL_roundTimes_a : ck_dec method_10_code gt_yL_roundTimes_a ge_yL_roundTimes_a.2.2.2.2.1 = true := by decide +kernel
theorem gm_yL_roundTimes_a {l : Launch} {G : am_G} {X : ck_XT} (g : gE l G X) : ck_Con (am_cm l G yL_roundTimes (.codeWith yL_roundTimes method_10_code 5 (some .int) [(0, 11, 14, 25)]) 8 170) G X gT gc_yL_roundTimes_a :=
  ck_methH (E := ge_yL_roundTimes_a) (tb := gt_yL_roundTimes_a) (init := false) (cm := ck_cms [am_cm l G yX10_roundTimes (.code yX10_roundTimes prog_1_method_10_code 6 (some .int)) 7 145]) g.1 g.2.1 g.2.2.1 g.2.2.2 gT_w (by decide +kernel) rfl rfl (ck_at1 (List.forall_mem_cons.mpr ⟨⟨[], _, _, _, rfl, (List.forall_mem_nil _), by decide, by decide, w1235, w1046, by decide, Or.inl ⟨rfl, rfl⟩⟩, (List.forall_mem_nil _)⟩)) rfl (by decide) gk_yL_roundTimes_a gd_yL_roundTimes_a ⟨(List.forall_mem_nil _), (List.forall_mem_nil _), (List.forall_mem_nil _), (List.forall_mem_nil _), (List.forall_mem_nil _), (List.forall_mem_nil _), (List.forall_mem_nil _), (List.forall_mem_nil _)⟩ (List.forall_mem_cons.mpr ⟨⟨⟨_, _, _, rfl, Or.inr (Or.inl ⟨_, w1206⟩)⟩, by decide, _, rfl, Or.inl g_fd16_0⟩, (List.forall_mem_nil _)⟩) rfl ⟨_, rfl, rfl⟩ (by decide) (by decide) g_oi g_ar
    (fun s hk _ => (List.forall_mem_nil _)) (fun s hk => (List.forall_mem_nil _)) (ck_cms_ok ⟨(List.forall_mem_cons.mpr ⟨((gm_yX10_roundTimes_a g)), (List.forall_mem_nil _)⟩), trivial⟩)
    (List.forall_mem_cons.mpr ⟨(ck_kV g_y_yX10_roundTimes w1314 w1315 w1316 (T := TX10) (N := 13) rfl (by decide) (by decide) (by decide)), (List.forall_mem_nil _)⟩) (List.forall_mem_nil _) (List.forall_mem_nil _) (List.forall_mem_nil _)
    rfl (ck_no5 rfl)
theorem g_y_yL_roundPower : ck_yW yL_roundPower method_11_code 5 4 (some .int) [(0, 11, 14, 25)] := ⟨w1320, w80, by decide +kernel, by decide +kernel, by decide +kernel⟩
def gc_yL_roundPower_a : ck_KK := (([((-2147483648), 2147483647), ((-2147483648), 2147483647)], [], [(2, 0, 0, 1015, (0, 0, (13, []))), (2, 1, 0, 1016, (0, 0, (2, [])))], 2, [(3, 0, (0, [])), (1, 0, (0, [(1, 0)])), (1, 0, (0, [(1, 1)])), (3, 1, (0, []))]), ((3, []), (18, [])), [(1012, 1), (1012, 2), (1014, 0), (1014, 2), (1014, 5), (1015, 2), (1015, 3), (1016, 0), (1150, 1000), (1250, 1000), (1350, 1000), (1407, 1), (1407, 2), (1450, 1000)], [], ([(0, 1)], [], [], 0, [(1, 0, (0, [(1, 2)]))]), [])
def gt_yL_roundPower_a : ck_TB := ([], [], [], [], [(13, 16, 0, 3)], [], [], [], ([(50, 0)], [], [], []), [], [], [], 0)
def ge_yL_roundPower_a : ck_E := (gT, [], gc_yL_roundPower_a, 5, [(0, (0, 5, 3, 0, 1, 0, [])), (1, (0, 5, 0, 0, 2, 0, [])), (2, (0, 3, 1, 0, 3, 0, [])), (3, (0, 3, 2, 0, 4, 0, [])), (4, (16, 0, 0, 0, 7, 0, [])), (7, (0, 19, 0, 0, 8, 0, [])), (8, (8, 16, 0, 3, 11, 0, [])), (11, (3, 0, 0, 0, 0, 18, [])), (16, (0, 0, 0, 1, 17, 0, [])), (17, (14, 0, 0, 0, 0, 0, [])), (18, (0, 0, 0, 0, 19, 0, [])), (19, (14, 0, 0, 0, 0, 0, []))], [(some 15, 3, [gc_yX10_roundPower_a])], [(4, [("java/lang/IndexOutOfBoundsException", 16)])], [], [])
theorem gk_yL_roundPower_a : ck_chk ge_yL_roundPower_a 17 = true := by decide +kernel
theorem gd_yL_roundPower_a : ck_dec method_11_code gt_yL_roundPower_a ge_yL_roundPower_a.2.2.2.2.1 = true := by decide +kernel
theorem gm_yL_roundPower_a {l : Launch} {G : am_G} {X : ck_XT} (g : gE l G X) : ck_Con (am_cm l G yL_roundPower (.codeWith yL_roundPower method_11_code 5 (some .int) [(0, 11, 14, 25)]) 9 167) G X gT gc_yL_roundPower_a :=
  ck_methH (E := ge_yL_roundPower_a) (tb := gt_yL_roundPower_a) (init := false) (cm := ck_cms [am_cm l G yX10_roundPower (.code yX10_roundPower prog_1_method_11_code 3 (some .int)) 8 145]) g.1 g.2.1 g.2.2.1 g.2.2.2 gT_w (by decide +kernel) rfl rfl (ck_at1 (List.forall_mem_cons.mpr ⟨⟨[], _, _, _, rfl, (List.forall_mem_nil _), by decide, by decide, w1235, w1046, by decide, Or.inl ⟨rfl, rfl⟩⟩, (List.forall_mem_nil _)⟩)) rfl (by decide) gk_yL_roundPower_a gd_yL_roundPower_a ⟨(List.forall_mem_nil _), (List.forall_mem_nil _), (List.forall_mem_nil _), (List.forall_mem_nil _), (List.forall_mem_nil _), (List.forall_mem_nil _), (List.forall_mem_nil _), (List.forall_mem_nil _)⟩ (List.forall_mem_cons.mpr ⟨⟨⟨_, _, _, rfl, Or.inr (Or.inl ⟨_, w1206⟩)⟩, by decide, _, rfl, Or.inl g_fd16_0⟩, (List.forall_mem_nil _)⟩) rfl ⟨_, rfl, rfl⟩ (by decide) (by decide) g_oi g_ar
    (fun s hk _ => (List.forall_mem_nil _)) (fun s hk => (List.forall_mem_nil _)) (ck_cms_ok ⟨(List.forall_mem_cons.mpr ⟨((gm_yX10_roundPower_a g)), (List.forall_mem_nil _)⟩), trivial⟩)
    (List.forall_mem_cons.mpr ⟨(ck_kV g_y_yX10_roundPower w1321 w1322 w1323 (T := TX10) (N := 13) rfl (by decide) (by decide) (by decide)), (List.forall_mem_nil _)⟩) (List.forall_mem_nil _) (List.forall_mem_nil _) (List.forall_mem_nil _)
    rfl (ck_no5 rfl)
theorem g_y_yL_roundInverse : ck_yW yL_roundInverse method_12_code 4 3 (some .int) [(0, 10, 13, 25)] := ⟨w1327, w80, by decide +kernel, by decide +kernel, by decide +kernel⟩
def gc_yL_roundInverse_a : ck_KK := (([((-2147483648), 2147483647)], [], [(2, 0, 0, 1015, (0, 0, (13, []))), (2, 1, 0, 1016, (0, 0, (2, [])))], 2, [(3, 0, (0, [])), (1, 0, (0, [(1, 0)])), (3, 1, (0, []))]), ((2, []), (12, [])), [(1012, 1), (1012, 2), (1014, 0), (1014, 2), (1014, 5), (1015, 2), (1015, 3), (1016, 0), (1150, 1000), (1250, 1000), (1350, 1000), (1407, 1), (1407, 2), (1450, 1000)], [], ([(0, 1)], [], [], 0, [(1, 0, (0, [(1, 1)]))]), [])
def gt_yL_roundInverse_a : ck_TB := ([], [], [], [], [(13, 16, 0, 3)], [], [], [], ([(53, 0)], [], [], []), [], [], [], 0)
def ge_yL_roundInverse_a : ck_E := (gT, [], gc_yL_roundInverse_a, 4, [(0, (0, 5, 2, 0, 1, 0, [])), (1, (0, 5, 0, 0, 2, 0, [])), (2, (0, 3, 1, 0, 3, 0, [])), (3, (16, 0, 0, 0, 6, 0, [])), (6, (0, 19, 0, 0, 7, 0, [])), (7, (8, 16, 0, 3, 10, 0, [])), (10, (3, 0, 0, 0, 0, 16, [])), (14, (0, 0, 0, 1, 15, 0, [])), (15, (14, 0, 0, 0, 0, 0, [])), (16, (0, 0, 0, 0, 17, 0, [])), (17, (14, 0, 0, 0, 0, 0, []))], [(some 15, 2, [gc_yX10_roundInverse_a])], [(3, [("java/lang/IndexOutOfBoundsException", 14)])], [], [])
theorem gk_yL_roundInverse_a : ck_chk ge_yL_roundInverse_a 16 = true := by decide +kernel
theorem gd_yL_roundInverse_a : ck_dec method_12_code gt_yL_roundInverse_a ge_yL_roundInverse_a.2.2.2.2.1 = true := by decide +kernel
theorem gm_yL_roundInverse_a {l : Launch} {G : am_G} {X : ck_XT} (g : gE l G X) : ck_Con (am_cm l G yL_roundInverse (.codeWith yL_roundInverse method_12_code 4 (some .int) [(0, 10, 13, 25)]) 9 166) G X gT gc_yL_roundInverse_a :=
  ck_methH (E := ge_yL_roundInverse_a) (tb := gt_yL_roundInverse_a) (init := false) (cm := ck_cms [am_cm l G yX10_roundInverse (.code yX10_roundInverse prog_1_method_12_code 2 (some .int)) 8 145]) g.1 g.2.1 g.2.2.1 g.2.2.2 gT_w (by decide +kernel) rfl rfl (ck_at1 (List.forall_mem_cons.mpr ⟨⟨[], _, _, _, rfl, (List.forall_mem_nil _), by decide, by decide, w1235, w1046, by decide, Or.inr ⟨3, rfl, rfl, rfl⟩⟩, (List.forall_mem_nil _)⟩)) rfl (by decide) gk_yL_roundInverse_a gd_yL_roundInverse_a ⟨(List.forall_mem_nil _), (List.forall_mem_nil _), (List.forall_mem_nil _), (List.forall_mem_nil _), (List.forall_mem_nil _), (List.forall_mem_nil _), (List.forall_mem_nil _), (List.forall_mem_nil _)⟩ (List.forall_mem_cons.mpr ⟨⟨⟨_, _, _, rfl, Or.inr (Or.inl ⟨_, w1206⟩)⟩, by decide, _, rfl, Or.inl g_fd16_0⟩, (List.forall_mem_nil _)⟩) rfl ⟨_, rfl, rfl⟩ (by decide) (by decide) g_oi g_ar
    (fun s hk _ => (List.forall_mem_nil _)) (fun s hk => (List.forall_mem_nil _)) (ck_cms_ok ⟨(List.forall_mem_cons.mpr ⟨((gm_yX10_roundInverse_a g)), (List.forall_mem_nil _)⟩), trivial⟩)
    (List.forall_mem_cons.mpr ⟨(ck_kV g_y_yX10_roundInverse w1328 w1329 w1330 (T := TX10) (N := 13) rfl (by decide) (by decide) (by decide)), (List.forall_mem_nil _)⟩) (List.forall_mem_nil _) (List.forall_mem_nil _) (List.forall_mem_nil _)
    rfl (ck_no5 rfl)
theorem g_y_yL_tell : ck_yW yL_tell method_13_code 5 4 (some .int) [(0, 11, 14, 19), (0, 11, 18, 30)] := ⟨w1334, w80, by decide +kernel, by decide +kernel, by decide +kernel⟩
def gc_yL_tell_a : ck_KK := (([((-2147483648), 2147483647), ((-2147483648), 2147483647)], [], [(2, 0, 0, 1015, (0, 0, (13, []))), (2, 1, 0, 1016, (0, 0, (2, [])))], 2, [(3, 0, (0, [])), (1, 0, (0, [(1, 0)])), (1, 0, (0, [(1, 1)])), (3, 1, (0, []))]), ((2, []), (12, [])), [(1012, 1), (1012, 2), (1014, 0), (1014, 2), (1014, 5), (1016, 0), (1150, 1000), (1250, 1000), (1350, 1000), (1407, 1), (1407, 2), (1450, 1000)], [], ([(0, 2)], [], [], 0, [(1, 0, (0, [(1, 2)]))]), [])
def gt_yL_tell_a : ck_TB := ([], [], [], [], [(13, 16, 0, 3)], [], [], [], ([(56, 0)], [], [], []), [], [], [], 0)
def ge_yL_tell_a : ck_E := (gT, [], gc_yL_tell_a, 5, [(0, (0, 5, 3, 0, 1, 0, [])), (1, (0, 5, 0, 0, 2, 0, [])), (2, (0, 3, 1, 0, 3, 0, [])), (3, (0, 3, 2, 0, 4, 0, [])), (4, (16, 0, 0, 0, 7, 0, [])), (7, (0, 19, 0, 0, 8, 0, [])), (8, (8, 16, 0, 3, 11, 0, [])), (11, (3, 0, 0, 0, 0, 22, [])), (16, (0, 0, 0, 1, 17, 0, [])), (17, (14, 0, 0, 0, 0, 0, [])), (20, (0, 0, 0, 2, 21, 0, [])), (21, (14, 0, 0, 0, 0, 0, [])), (22, (0, 0, 0, 0, 23, 0, [])), (23, (14, 0, 0, 0, 0, 0, []))], [(some 15, 3, [gc_yX10_tell_a])], [(4, [("java/lang/IllegalArgumentException", 16), ("java/lang/IllegalStateException", 20)])], [], [])
theorem gk_yL_tell_a : ck_chk ge_yL_tell_a 19 = true := by decide +kernel
theorem gd_yL_tell_a : ck_dec method_13_code gt_yL_tell_a ge_yL_tell_a.2.2.2.2.1 = true := by decide +kernel
theorem gm_yL_tell_a {l : Launch} {G : am_G} {X : ck_XT} (g : gE l G X) : ck_Con (am_cm l G yL_tell (.codeWith yL_tell method_13_code 5 (some .int) [(0, 11, 14, 19), (0, 11, 18, 30)]) 8 167) G X gT gc_yL_tell_a :=
  ck_methH (E := ge_yL_tell_a) (tb := gt_yL_tell_a) (init := false) (cm := ck_cms [am_cm l G yX10_tell (.code yX10_tell prog_1_method_13_code 3 (some .int)) 7 145]) g.1 g.2.1 g.2.2.1 g.2.2.2 gT_w (by decide +kernel) rfl rfl (ck_at1 (List.forall_mem_cons.mpr ⟨⟨[], _, _, _, rfl, (List.forall_mem_nil _), by decide, by decide, w1216, w676, by decide, Or.inl ⟨rfl, rfl⟩⟩, (List.forall_mem_cons.mpr ⟨⟨[(0, 11, 14, 19)], _, _, _, rfl, (List.forall_mem_cons.mpr ⟨⟨by decide, _, w1216, w79⟩, (List.forall_mem_nil _)⟩), by decide, by decide, w1243, w1257, by decide, Or.inl ⟨rfl, rfl⟩⟩, (List.forall_mem_nil _)⟩)⟩)) rfl (by decide) gk_yL_tell_a gd_yL_tell_a ⟨(List.forall_mem_nil _), (List.forall_mem_nil _), (List.forall_mem_nil _), (List.forall_mem_nil _), (List.forall_mem_nil _), (List.forall_mem_nil _), (List.forall_mem_nil _), (List.forall_mem_nil _)⟩ (List.forall_mem_cons.mpr ⟨⟨⟨_, _, _, rfl, Or.inr (Or.inl ⟨_, w1206⟩)⟩, by decide, _, rfl, Or.inl g_fd16_0⟩, (List.forall_mem_nil _)⟩) rfl ⟨_, rfl, rfl⟩ (by decide) (by decide) g_oi g_ar
    (fun s hk _ => (List.forall_mem_nil _)) (fun s hk => (List.forall_mem_nil _)) (ck_cms_ok ⟨(List.forall_mem_cons.mpr ⟨((gm_yX10_tell_a g)), (List.forall_mem_nil _)⟩), trivial⟩)
    (List.forall_mem_cons.mpr ⟨(ck_kV g_y_yX10_tell w1335 w1336 w1337 (T := TX10) (N := 13) rfl (by decide) (by decide) (by decide)), (List.forall_mem_nil _)⟩) (List.forall_mem_nil _) (List.forall_mem_nil _) (List.forall_mem_nil _)
    rfl (ck_no5 rfl)
theorem g_y_yL_tellIf : ck_yW yL_tellIf method_14_code 5 4 (some .int) [(0, 18, 21, 19), (0, 18, 25, 30)] := ⟨w1360, w80, by decide +kernel, by decide +kernel, by decide +kernel⟩
def gc_yL_tellIf_a : ck_KK := (([((-2147483648), 2147483647), ((-2147483648), 2147483647)], [], [(2, 0, 0, 1015, (0, 0, (13, []))), (2, 1, 0, 1016, (0, 0, (2, [])))], 2, [(3, 0, (0, [])), (1, 0, (0, [(1, 0)])), (1, 0, (0, [(1, 1)])), (3, 1, (0, []))]), ((2, []), (12, [])), [(1011, 0), (1011, 1), (1011, 2), (1012, 1), (1012, 2), (1014, 0), (1014, 2), (1014, 5), (1016, 0), (1150, 1000), (1250, 1000), (1350, 1000), (1407, 1), (1407, 2), (1450, 1000)], [], ([(0, 2)], [], [], 0, [(1, 0, (0, [(1, 2)]))]), [])
def gt_yL_tellIf_a : ck_TB := ([], [], [], [], [(13, 16, 0, 3)], [], [], [], ([(59, 0)], [], [], []), [], [], [], 0)
def ge_yL_tellIf_a : ck_E := (gT, [], gc_yL_tellIf_a, 5, [(0, (0, 5, 3, 0, 1, 0, [])), (1, (0, 5, 0, 0, 2, 0, [])), (2, (0, 3, 1, 0, 3, 0, [])), (3, (0, 3, 2, 0, 4, 0, [])), (4, (16, 0, 0, 0, 7, 0, [])), (7, (1, 0, 0, 0, 10, 14, [])), (10, (0, 1, 0, 1, 11, 0, [])), (11, (3, 0, 0, 0, 0, 15, [])), (14, (0, 1, 0, 0, 15, 0, [])), (15, (8, 16, 0, 3, 18, 0, [])), (18, (3, 0, 0, 0, 0, 29, [])), (23, (0, 0, 0, 1, 24, 0, [])), (24, (14, 0, 0, 0, 0, 0, [])), (27, (0, 0, 0, 2, 28, 0, [])), (28, (14, 0, 0, 0, 0, 0, [])), (29, (0, 0, 0, 0, 30, 0, [])), (30, (14, 0, 0, 0, 0, 0, []))], [(some 15, 3, [gc_yX10_tellIf_a])], [(4, [("java/lang/IllegalArgumentException", 23), ("java/lang/IllegalStateException", 27)])], [], [])
theorem gk_yL_tellIf_a : ck_chk ge_yL_tellIf_a 26 = true := by decide +kernel
theorem gd_yL_tellIf_a : ck_dec method_14_code gt_yL_tellIf_a ge_yL_tellIf_a.2.2.2.2.1 = true := by decide +kernel
theorem gm_yL_tellIf_a {l : Launch} {G : am_G} {X : ck_XT} (g : gE l G X) : ck_Con (am_cm l G yL_tellIf (.codeWith yL_tellIf method_14_code 5 (some .int) [(0, 18, 21, 19), (0, 18, 25, 30)]) 8 167) G X gT gc_yL_tellIf_a :=
  ck_methH (E := ge_yL_tellIf_a) (tb := gt_yL_tellIf_a) (init := false) (cm := ck_cms [am_cm l G yX10_tellIf (.code yX10_tellIf prog_1_method_14_code 3 (some .boolean)) 7 145]) g.1 g.2.1 g.2.2.1 g.2.2.2 gT_w (by decide +kernel) rfl rfl (ck_at1 (List.forall_mem_cons.mpr ⟨⟨[], _, _, _, rfl, (List.forall_mem_nil _), by decide, by decide, w1216, w676, by decide, Or.inl ⟨rfl, rfl⟩⟩, (List.forall_mem_cons.mpr ⟨⟨[(0, 18, 21, 19)], _, _, _, rfl, (List.forall_mem_cons.mpr ⟨⟨by decide, _, w1216, w79⟩, (List.forall_mem_nil _)⟩), by decide, by decide, w1243, w1257, by decide, Or.inl ⟨rfl, rfl⟩⟩, (List.forall_mem_nil _)⟩)⟩)) rfl (by decide) gk_yL_tellIf_a gd_yL_tellIf_a ⟨(List.forall_mem_nil _), (List.forall_mem_nil _), (List.forall_mem_nil _), (List.forall_mem_nil _), (List.forall_mem_nil _), (List.forall_mem_nil _), (List.forall_mem_nil _), (List.forall_mem_nil _)⟩ (List.forall_mem_cons.mpr ⟨⟨⟨_, _, _, rfl, Or.inr (Or.inl ⟨_, w1206⟩)⟩, by decide, _, rfl, Or.inl g_fd16_0⟩, (List.forall_mem_nil _)⟩) rfl ⟨_, rfl, rfl⟩ (by decide) (by decide) g_oi g_ar
    (fun s hk _ => (List.forall_mem_nil _)) (fun s hk => (List.forall_mem_nil _)) (ck_cms_ok ⟨(List.forall_mem_cons.mpr ⟨((gm_yX10_tellIf_a g)), (List.forall_mem_nil _)⟩), trivial⟩)
    (List.forall_mem_cons.mpr ⟨(ck_kV g_y_yX10_tellIf w1361 w1362 w1363 (T := TX10) (N := 13) rfl (by decide) (by decide) (by decide)), (List.forall_mem_nil _)⟩) (List.forall_mem_nil _) (List.forall_mem_nil _) (List.forall_mem_nil _)
    rfl (ck_no5 rfl)
theorem g_y_yL_drop : ck_yW yL_drop method_15_code 4 3 (some .int) [(0, 10, 13, 25)] := ⟨w1368, w80, by decide +kernel, by decide +kernel, by decide +kernel⟩
def gc_yL_drop_a : ck_KK := (([((-2147483648), 2147483647)], [], [(2, 0, 0, 1015, (0, 0, (13, []))), (2, 1, 0, 1016, (0, 0, (2, [])))], 2, [(3, 0, (0, [])), (1, 0, (0, [(1, 0)])), (3, 1, (0, []))]), ((1, []), (6, [])), [(1012, 1), (1012, 2), (1014, 0), (1014, 2), (1014, 5), (1016, 0), (1150, 1000), (1250, 1000), (1350, 1000), (1407, 1), (1407, 2), (1450, 1000)], [], ([(0, 1)], [], [], 0, [(1, 0, (0, [(1, 1)]))]), [])
def gt_yL_drop_a : ck_TB := ([], [], [], [], [(13, 16, 0, 3)], [], [], [], ([(63, 0)], [], [], []), [], [], [], 0)
def ge_yL_drop_a : ck_E := (gT, [], gc_yL_drop_a, 4, [(0, (0, 5, 2, 0, 1, 0, [])), (1, (0, 5, 0, 0, 2, 0, [])), (2, (0, 3, 1, 0, 3, 0, [])), (3, (16, 0, 0, 0, 6, 0, [])), (6, (0, 19, 0, 0, 7, 0, [])), (7, (8, 16, 0, 3, 10, 0, [])), (10, (3, 0, 0, 0, 0, 16, [])), (14, (0, 0, 0, 1, 15, 0, [])), (15, (14, 0, 0, 0, 0, 0, [])), (16, (0, 0, 0, 0, 17, 0, [])), (17, (14, 0, 0, 0, 0, 0, []))], [(some 15, 2, [gc_yX10_drop_a])], [(3, [("java/lang/IndexOutOfBoundsException", 14)])], [], [])
theorem gk_yL_drop_a : ck_chk ge_yL_drop_a 16 = true := by decide +kernel
theorem gd_yL_drop_a : ck_dec method_15_code gt_yL_drop_a ge_yL_drop_a.2.2.2.2.1 = true := by decide +kernel
theorem gm_yL_drop_a {l : Launch} {G : am_G} {X : ck_XT} (g : gE l G X) : ck_Con (am_cm l G yL_drop (.codeWith yL_drop method_15_code 4 (some .int) [(0, 10, 13, 25)]) 8 144) G X gT gc_yL_drop_a :=
  ck_methH (E := ge_yL_drop_a) (tb := gt_yL_drop_a) (init := false) (cm := ck_cms [am_cm l G yX10_drop (.code yX10_drop prog_1_method_15_code 2 (some .int)) 7 123]) g.1 g.2.1 g.2.2.1 g.2.2.2 gT_w (by decide +kernel) rfl rfl (ck_at1 (List.forall_mem_cons.mpr ⟨⟨[], _, _, _, rfl, (List.forall_mem_nil _), by decide, by decide, w1235, w1046, by decide, Or.inr ⟨3, rfl, rfl, rfl⟩⟩, (List.forall_mem_nil _)⟩)) rfl (by decide) gk_yL_drop_a gd_yL_drop_a ⟨(List.forall_mem_nil _), (List.forall_mem_nil _), (List.forall_mem_nil _), (List.forall_mem_nil _), (List.forall_mem_nil _), (List.forall_mem_nil _), (List.forall_mem_nil _), (List.forall_mem_nil _)⟩ (List.forall_mem_cons.mpr ⟨⟨⟨_, _, _, rfl, Or.inr (Or.inl ⟨_, w1206⟩)⟩, by decide, _, rfl, Or.inl g_fd16_0⟩, (List.forall_mem_nil _)⟩) rfl ⟨_, rfl, rfl⟩ (by decide) (by decide) g_oi g_ar
    (fun s hk _ => (List.forall_mem_nil _)) (fun s hk => (List.forall_mem_nil _)) (ck_cms_ok ⟨(List.forall_mem_cons.mpr ⟨((gm_yX10_drop_a g)), (List.forall_mem_nil _)⟩), trivial⟩)
    (List.forall_mem_cons.mpr ⟨(ck_kV g_y_yX10_drop w1369 w1370 w1371 (T := TX10) (N := 13) rfl (by decide) (by decide) (by decide)), (List.forall_mem_nil _)⟩) (List.forall_mem_nil _) (List.forall_mem_nil _) (List.forall_mem_nil _)
    rfl (ck_no5 rfl)
theorem g_y_yL_base : ck_yW yL_base method_16_code 4 3 (some .int) [(0, 10, 13, 19), (0, 10, 16, 30)] := ⟨w1384, w80, by decide +kernel, by decide +kernel, by decide +kernel⟩
def gc_yL_base_a : ck_KK := (([((-2147483648), 2147483647)], [], [(2, 0, 0, 1015, (0, 0, (13, []))), (2, 1, 0, 1016, (0, 0, (2, [])))], 2, [(3, 0, (0, [])), (1, 0, (0, [(1, 0)])), (3, 1, (0, []))]), ((1, []), (6, [])), [(1012, 1), (1012, 2), (1014, 0), (1014, 2), (1014, 5), (1016, 0), (1150, 1000), (1250, 1000), (1350, 1000), (1407, 1), (1407, 2), (1450, 1000)], [], ([(0, 2)], [], [], 0, [(1, 0, (0, [(1, 1)]))]), [])
def gt_yL_base_a : ck_TB := ([], [], [], [], [(13, 16, 0, 3)], [], [], [], ([(66, 0)], [], [], []), [], [], [], 0)
def ge_yL_base_a : ck_E := (gT, [], gc_yL_base_a, 4, [(0, (0, 5, 2, 0, 1, 0, [])), (1, (0, 5, 0, 0, 2, 0, [])), (2, (0, 3, 1, 0, 3, 0, [])), (3, (16, 0, 0, 0, 6, 0, [])), (6, (0, 19, 0, 0, 7, 0, [])), (7, (8, 16, 0, 3, 10, 0, [])), (10, (3, 0, 0, 0, 0, 19, [])), (14, (0, 0, 0, 1, 15, 0, [])), (15, (14, 0, 0, 0, 0, 0, [])), (17, (0, 0, 0, 2, 18, 0, [])), (18, (14, 0, 0, 0, 0, 0, [])), (19, (0, 0, 0, 0, 20, 0, [])), (20, (14, 0, 0, 0, 0, 0, []))], [(some 15, 2, [gc_yX10_base_a])], [(3, [("java/lang/IllegalArgumentException", 14), ("java/lang/IllegalStateException", 17)])], [], [])
theorem gk_yL_base_a : ck_chk ge_yL_base_a 18 = true := by decide +kernel
theorem gd_yL_base_a : ck_dec method_16_code gt_yL_base_a ge_yL_base_a.2.2.2.2.1 = true := by decide +kernel
theorem gm_yL_base_a {l : Launch} {G : am_G} {X : ck_XT} (g : gE l G X) : ck_Con (am_cm l G yL_base (.codeWith yL_base method_16_code 4 (some .int) [(0, 10, 13, 19), (0, 10, 16, 30)]) 7 144) G X gT gc_yL_base_a :=
  ck_methH (E := ge_yL_base_a) (tb := gt_yL_base_a) (init := false) (cm := ck_cms [am_cm l G yX10_base (.code yX10_base prog_1_method_16_code 2 (some .int)) 6 123]) g.1 g.2.1 g.2.2.1 g.2.2.2 gT_w (by decide +kernel) rfl rfl (ck_at1 (List.forall_mem_cons.mpr ⟨⟨[], _, _, _, rfl, (List.forall_mem_nil _), by decide, by decide, w1216, w676, by decide, Or.inr ⟨3, rfl, rfl, rfl⟩⟩, (List.forall_mem_cons.mpr ⟨⟨[(0, 10, 13, 19)], _, _, _, rfl, (List.forall_mem_cons.mpr ⟨⟨by decide, _, w1216, w79⟩, (List.forall_mem_nil _)⟩), by decide, by decide, w1243, w1257, by decide, Or.inr ⟨3, rfl, rfl, rfl⟩⟩, (List.forall_mem_nil _)⟩)⟩)) rfl (by decide) gk_yL_base_a gd_yL_base_a ⟨(List.forall_mem_nil _), (List.forall_mem_nil _), (List.forall_mem_nil _), (List.forall_mem_nil _), (List.forall_mem_nil _), (List.forall_mem_nil _), (List.forall_mem_nil _), (List.forall_mem_nil _)⟩ (List.forall_mem_cons.mpr ⟨⟨⟨_, _, _, rfl, Or.inr (Or.inl ⟨_, w1206⟩)⟩, by decide, _, rfl, Or.inl g_fd16_0⟩, (List.forall_mem_nil _)⟩) rfl ⟨_, rfl, rfl⟩ (by decide) (by decide) g_oi g_ar
    (fun s hk _ => (List.forall_mem_nil _)) (fun s hk => (List.forall_mem_nil _)) (ck_cms_ok ⟨(List.forall_mem_cons.mpr ⟨((gm_yX10_base_a g)), (List.forall_mem_nil _)⟩), trivial⟩)
    (List.forall_mem_cons.mpr ⟨(ck_kV g_y_yX10_base w1385 w1386 w1387 (T := TX10) (N := 13) rfl (by decide) (by decide) (by decide)), (List.forall_mem_nil _)⟩) (List.forall_mem_nil _) (List.forall_mem_nil _) (List.forall_mem_nil _)
    rfl (ck_no5 rfl)
theorem g_y_yL_unbase : ck_yW yL_unbase method_17_code 3 2 (some .int) [(0, 9, 12, 30)] := ⟨w1401, w80, by decide +kernel, by decide +kernel, by decide +kernel⟩
def gc_yL_unbase_a : ck_KK := (([], [], [(2, 0, 0, 1015, (0, 0, (13, []))), (2, 1, 0, 1016, (0, 0, (2, [])))], 2, [(3, 0, (0, [])), (3, 1, (0, []))]), ((1, []), (6, [])), [(1012, 1), (1012, 2), (1014, 0), (1014, 2), (1014, 5), (1016, 0), (1150, 1000), (1250, 1000), (1350, 1000), (1407, 1), (1407, 2), (1450, 1000)], [], ([(0, 1)], [], [], 0, [(1, 0, (0, [(1, 0)]))]), [])
def gt_yL_unbase_a : ck_TB := ([], [], [], [], [(13, 16, 0, 3)], [], [], [], ([(69, 0)], [], [], []), [], [], [], 0)
def ge_yL_unbase_a : ck_E := (gT, [], gc_yL_unbase_a, 3, [(0, (0, 5, 1, 0, 1, 0, [])), (1, (0, 5, 0, 0, 2, 0, [])), (2, (16, 0, 0, 0, 5, 0, [])), (5, (0, 19, 0, 0, 6, 0, [])), (6, (8, 16, 0, 3, 9, 0, [])), (9, (3, 0, 0, 0, 0, 15, [])), (13, (0, 0, 0, 1, 14, 0, [])), (14, (14, 0, 0, 0, 0, 0, [])), (15, (0, 0, 0, 0, 16, 0, [])), (16, (14, 0, 0, 0, 0, 0, []))], [(some 15, 1, [gc_yX10_unbase_a])], [(2, [("java/lang/IllegalStateException", 13)])], [], [])
theorem gk_yL_unbase_a : ck_chk ge_yL_unbase_a 15 = true := by decide +kernel
theorem gd_yL_unbase_a : ck_dec method_17_code gt_yL_unbase_a ge_yL_unbase_a.2.2.2.2.1 = true := by decide +kernel
theorem gm_yL_unbase_a {l : Launch} {G : am_G} {X : ck_XT} (g : gE l G X) : ck_Con (am_cm l G yL_unbase (.codeWith yL_unbase method_17_code 3 (some .int) [(0, 9, 12, 30)]) 7 143) G X gT gc_yL_unbase_a :=
  ck_methH (E := ge_yL_unbase_a) (tb := gt_yL_unbase_a) (init := false) (cm := ck_cms [am_cm l G yX10_unbase (.code yX10_unbase prog_1_method_17_code 1 (some .int)) 6 123]) g.1 g.2.1 g.2.2.1 g.2.2.2 gT_w (by decide +kernel) rfl rfl (ck_at1 (List.forall_mem_cons.mpr ⟨⟨[], _, _, _, rfl, (List.forall_mem_nil _), by decide, by decide, w1243, w1257, by decide, Or.inr ⟨2, rfl, rfl, rfl⟩⟩, (List.forall_mem_nil _)⟩)) rfl (by decide) gk_yL_unbase_a gd_yL_unbase_a ⟨(List.forall_mem_nil _), (List.forall_mem_nil _), (List.forall_mem_nil _), (List.forall_mem_nil _), (List.forall_mem_nil _), (List.forall_mem_nil _), (List.forall_mem_nil _), (List.forall_mem_nil _)⟩ (List.forall_mem_cons.mpr ⟨⟨⟨_, _, _, rfl, Or.inr (Or.inl ⟨_, w1206⟩)⟩, by decide, _, rfl, Or.inl g_fd16_0⟩, (List.forall_mem_nil _)⟩) rfl ⟨_, rfl, rfl⟩ (by decide) (by decide) g_oi g_ar
    (fun s hk _ => (List.forall_mem_nil _)) (fun s hk => (List.forall_mem_nil _)) (ck_cms_ok ⟨(List.forall_mem_cons.mpr ⟨((gm_yX10_unbase_a g)), (List.forall_mem_nil _)⟩), trivial⟩)
    (List.forall_mem_cons.mpr ⟨(ck_kV g_y_yX10_unbase w1402 w1403 w1404 (T := TX10) (N := 13) rfl (by decide) (by decide) (by decide)), (List.forall_mem_nil _)⟩) (List.forall_mem_nil _) (List.forall_mem_nil _) (List.forall_mem_nil _)
    rfl (ck_no5 rfl)
theorem g_y_yL_undo : ck_yW yL_undo method_18_code 3 2 (some .int) [(0, 9, 12, 30)] := ⟨w1413, w80, by decide +kernel, by decide +kernel, by decide +kernel⟩
def gc_yL_undo_a : ck_KK := (([], [], [(2, 0, 0, 1015, (0, 0, (13, []))), (2, 1, 0, 1016, (0, 0, (2, [])))], 2, [(3, 0, (0, [])), (3, 1, (0, []))]), ((1, []), (6, [])), [(1012, 2), (1014, 0), (1014, 2), (1014, 5), (1016, 0), (1150, 1000), (1250, 1000), (1350, 1000), (1407, 1), (1407, 2), (1450, 1000)], [], ([(0, 1)], [], [], 0, [(1, 0, (0, [(1, 0)]))]), [])
def gt_yL_undo_a : ck_TB := ([], [], [], [], [(13, 16, 0, 3)], [], [], [], ([(73, 0)], [], [], []), [], [], [], 0)
def ge_yL_undo_a : ck_E := (gT, [], gc_yL_undo_a, 3, [(0, (0, 5, 1, 0, 1, 0, [])), (1, (0, 5, 0, 0, 2, 0, [])), (2, (16, 0, 0, 0, 5, 0, [])), (5, (0, 19, 0, 0, 6, 0, [])), (6, (8, 16, 0, 3, 9, 0, [])), (9, (3, 0, 0, 0, 0, 15, [])), (13, (0, 0, 0, 1, 14, 0, [])), (14, (14, 0, 0, 0, 0, 0, [])), (15, (0, 0, 0, 0, 16, 0, [])), (16, (14, 0, 0, 0, 0, 0, []))], [(some 15, 1, [gc_yX10_undo_a])], [(2, [("java/lang/IllegalStateException", 13)])], [], [])
theorem gk_yL_undo_a : ck_chk ge_yL_undo_a 15 = true := by decide +kernel
theorem gd_yL_undo_a : ck_dec method_18_code gt_yL_undo_a ge_yL_undo_a.2.2.2.2.1 = true := by decide +kernel
theorem gm_yL_undo_a {l : Launch} {G : am_G} {X : ck_XT} (g : gE l G X) : ck_Con (am_cm l G yL_undo (.codeWith yL_undo method_18_code 3 (some .int) [(0, 9, 12, 30)]) 7 143) G X gT gc_yL_undo_a :=
  ck_methH (E := ge_yL_undo_a) (tb := gt_yL_undo_a) (init := false) (cm := ck_cms [am_cm l G yX10_undo (.code yX10_undo prog_1_method_18_code 1 (some .int)) 6 123]) g.1 g.2.1 g.2.2.1 g.2.2.2 gT_w (by decide +kernel) rfl rfl (ck_at1 (List.forall_mem_cons.mpr ⟨⟨[], _, _, _, rfl, (List.forall_mem_nil _), by decide, by decide, w1243, w1257, by decide, Or.inr ⟨2, rfl, rfl, rfl⟩⟩, (List.forall_mem_nil _)⟩)) rfl (by decide) gk_yL_undo_a gd_yL_undo_a ⟨(List.forall_mem_nil _), (List.forall_mem_nil _), (List.forall_mem_nil _), (List.forall_mem_nil _), (List.forall_mem_nil _), (List.forall_mem_nil _), (List.forall_mem_nil _), (List.forall_mem_nil _)⟩ (List.forall_mem_cons.mpr ⟨⟨⟨_, _, _, rfl, Or.inr (Or.inl ⟨_, w1206⟩)⟩, by decide, _, rfl, Or.inl g_fd16_0⟩, (List.forall_mem_nil _)⟩) rfl ⟨_, rfl, rfl⟩ (by decide) (by decide) g_oi g_ar
    (fun s hk _ => (List.forall_mem_nil _)) (fun s hk => (List.forall_mem_nil _)) (ck_cms_ok ⟨(List.forall_mem_cons.mpr ⟨((gm_yX10_undo_a g)), (List.forall_mem_nil _)⟩), trivial⟩)
    (List.forall_mem_cons.mpr ⟨(ck_kV g_y_yX10_undo w1414 w1415 w1416 (T := TX10) (N := 13) rfl (by decide) (by decide) (by decide)), (List.forall_mem_nil _)⟩) (List.forall_mem_nil _) (List.forall_mem_nil _) (List.forall_mem_nil _)
    rfl (ck_no5 rfl)
theorem g_y_yL_number : ck_yW yL_number method_19_code 4 3 (some .int) [(0, 9, 12, 25)] := ⟨w1425, w80, by decide +kernel, by decide +kernel, by decide +kernel⟩
def gc_yL_number_a : ck_KK := (([((-2147483648), 2147483647)], [], [(2, 0, 0, 1015, (0, 0, (13, []))), (2, 1, 0, 1016, (0, 0, (2, [])))], 2, [(3, 0, (0, [])), (1, 0, (0, [(1, 0)])), (3, 1, (0, []))]), ((103, []), (4410, [])), [(151, 1000), (1001, 0), (1001, 2), (1001, 3), (1016, 1), (1051, 1000)], [], ([(0, 1)], [], [], 0, [(1, 0, (0, [(1, 1)]))]), [])
def gt_yL_number_a : ck_TB := ([], [], [], [], [(80, 16, 1, 4)], [], [], [], ([(76, 0)], [], [], []), [], [], [], 0)
def ge_yL_number_a : ck_E := (gT, [], gc_yL_number_a, 4, [(0, (0, 5, 2, 0, 1, 0, [])), (1, (0, 5, 0, 0, 2, 0, [])), (2, (0, 3, 1, 0, 3, 0, [])), (3, (16, 0, 0, 0, 6, 0, [])), (6, (8, 16, 1, 4, 9, 0, [])), (9, (3, 0, 0, 0, 0, 15, [])), (13, (0, 0, 0, 1, 14, 0, [])), (14, (14, 0, 0, 0, 0, 0, [])), (15, (0, 0, 0, 0, 16, 0, [])), (16, (14, 0, 0, 0, 0, 0, []))], [(some 15, 2, [gc_yX10_number_a])], [(3, [("java/lang/IndexOutOfBoundsException", 13)])], [], [])
theorem gk_yL_number_a : ck_chk ge_yL_number_a 15 = true := by decide +kernel
theorem gd_yL_number_a : ck_dec method_19_code gt_yL_number_a ge_yL_number_a.2.2.2.2.1 = true := by decide +kernel
theorem gm_yL_number_a {l : Launch} {G : am_G} {X : ck_XT} (g : gE l G X) : ck_Con (am_cm l G yL_number (.codeWith yL_number method_19_code 4 (some .int) [(0, 9, 12, 25)]) 10 221) G X gT gc_yL_number_a :=
  ck_methH (E := ge_yL_number_a) (tb := gt_yL_number_a) (init := false) (cm := ck_cms [am_cm l G yX10_number (.code yX10_number prog_1_method_20_code 2 (some (.object "java/lang/String"))) 9 200]) g.1 g.2.1 g.2.2.1 g.2.2.2 gT_w (by decide +kernel) rfl rfl (ck_at1 (List.forall_mem_cons.mpr ⟨⟨[], _, _, _, rfl, (List.forall_mem_nil _), by decide, by decide, w1235, w1046, by decide, Or.inr ⟨3, rfl, rfl, rfl⟩⟩, (List.forall_mem_nil _)⟩)) rfl (by decide) gk_yL_number_a gd_yL_number_a ⟨(List.forall_mem_nil _), (List.forall_mem_nil _), (List.forall_mem_nil _), (List.forall_mem_nil _), (List.forall_mem_nil _), (List.forall_mem_nil _), (List.forall_mem_nil _), (List.forall_mem_nil _)⟩ (List.forall_mem_cons.mpr ⟨⟨⟨_, _, _, rfl, Or.inr (Or.inl ⟨_, w1207⟩)⟩, by decide, _, Or.inl ⟨_, rfl⟩, Or.inl g_fd16_1⟩, (List.forall_mem_nil _)⟩) rfl ⟨_, rfl, rfl⟩ (by decide) (by decide) g_oi g_ar
    (fun s hk _ => (List.forall_mem_nil _)) (fun s hk => (List.forall_mem_nil _)) (ck_cms_ok ⟨(List.forall_mem_cons.mpr ⟨((gm_yX10_number_a g)), (List.forall_mem_nil _)⟩), trivial⟩)
    (List.forall_mem_cons.mpr ⟨(ck_kV g_y_yX10_number w1426 w1427 w1428 (T := TX10) (N := 13) rfl (by decide) (by decide) (by decide)), (List.forall_mem_nil _)⟩) (List.forall_mem_nil _) (List.forall_mem_nil _) (List.forall_mem_nil _)
    rfl (ck_no5 rfl)
theorem g_y_yL_digits : ck_yW yL_digits method_20_code 4 3 (some .int) [(0, 10, 13, 25)] := ⟨w1432, w80, by decide +kernel, by decide +kernel, by decide +kernel⟩
def gc_yL_digits_a : ck_KK := (([((-2147483648), 2147483647)], [], [(2, 0, 0, 1015, (0, 0, (13, []))), (2, 1, 0, 1016, (0, 0, (2, [])))], 2, [(3, 0, (0, [])), (1, 0, (0, [(1, 0)])), (3, 1, (0, []))]), ((1, []), (6, [])), [(1016, 0)], [], ([(0, 1)], [], [], 0, [(1, 0, (0, [(1, 1)]))]), [])
def gt_yL_digits_a : ck_TB := ([], [], [], [], [(13, 16, 0, 3)], [], [], [], ([(84, 0)], [], [], []), [], [], [], 0)
def ge_yL_digits_a : ck_E := (gT, [], gc_yL_digits_a, 4, [(0, (0, 5, 2, 0, 1, 0, [])), (1, (0, 5, 0, 0, 2, 0, [])), (2, (0, 3, 1, 0, 3, 0, [])), (3, (16, 0, 0, 0, 6, 0, [])), (6, (0, 19, 0, 0, 7, 0, [])), (7, (8, 16, 0, 3, 10, 0, [])), (10, (3, 0, 0, 0, 0, 16, [])), (14, (0, 0, 0, 1, 15, 0, [])), (15, (14, 0, 0, 0, 0, 0, [])), (16, (0, 0, 0, 0, 17, 0, [])), (17, (14, 0, 0, 0, 0, 0, []))], [(some 15, 2, [gc_yX10_digits_a])], [(3, [("java/lang/IndexOutOfBoundsException", 14)])], [], [])
theorem gk_yL_digits_a : ck_chk ge_yL_digits_a 16 = true := by decide +kernel
theorem gd_yL_digits_a : ck_dec method_20_code gt_yL_digits_a ge_yL_digits_a.2.2.2.2.1 = true := by decide +kernel
theorem gm_yL_digits_a {l : Launch} {G : am_G} {X : ck_XT} (g : gE l G X) : ck_Con (am_cm l G yL_digits (.codeWith yL_digits method_20_code 4 (some .int) [(0, 10, 13, 25)]) 8 132) G X gT gc_yL_digits_a :=
  ck_methH (E := ge_yL_digits_a) (tb := gt_yL_digits_a) (init := false) (cm := ck_cms [am_cm l G yX10_digits (.code yX10_digits prog_1_method_21_code 2 (some .int)) 7 111]) g.1 g.2.1 g.2.2.1 g.2.2.2 gT_w (by decide +kernel) rfl rfl (ck_at1 (List.forall_mem_cons.mpr ⟨⟨[], _, _, _, rfl, (List.forall_mem_nil _), by decide, by decide, w1235, w1046, by decide, Or.inr ⟨3, rfl, rfl, rfl⟩⟩, (List.forall_mem_nil _)⟩)) rfl (by decide) gk_yL_digits_a gd_yL_digits_a ⟨(List.forall_mem_nil _), (List.forall_mem_nil _), (List.forall_mem_nil _), (List.forall_mem_nil _), (List.forall_mem_nil _), (List.forall_mem_nil _), (List.forall_mem_nil _), (List.forall_mem_nil _)⟩ (List.forall_mem_cons.mpr ⟨⟨⟨_, _, _, rfl, Or.inr (Or.inl ⟨_, w1206⟩)⟩, by decide, _, rfl, Or.inl g_fd16_0⟩, (List.forall_mem_nil _)⟩) rfl ⟨_, rfl, rfl⟩ (by decide) (by decide) g_oi g_ar
    (fun s hk _ => (List.forall_mem_nil _)) (fun s hk => (List.forall_mem_nil _)) (ck_cms_ok ⟨(List.forall_mem_cons.mpr ⟨((gm_yX10_digits_a g)), (List.forall_mem_nil _)⟩), trivial⟩)
    (List.forall_mem_cons.mpr ⟨(ck_kV g_y_yX10_digits w1433 w1434 w1435 (T := TX10) (N := 13) rfl (by decide) (by decide) (by decide)), (List.forall_mem_nil _)⟩) (List.forall_mem_nil _) (List.forall_mem_nil _) (List.forall_mem_nil _)
    rfl (ck_no5 rfl)
theorem g_y_yL_bigGcd : ck_yW yL_bigGcd method_21_code 5 4 (some .int) [(0, 10, 13, 25)] := ⟨w1439, w80, by decide +kernel, by decide +kernel, by decide +kernel⟩
def gc_yL_bigGcd_a : ck_KK := (([((-2147483648), 2147483647), ((-2147483648), 2147483647)], [], [(2, 0, 0, 1015, (0, 0, (13, []))), (2, 1, 0, 1016, (0, 0, (2, [])))], 2, [(3, 0, (0, [])), (1, 0, (0, [(1, 0)])), (1, 0, (0, [(1, 1)])), (3, 1, (0, []))]), ((104, []), (4416, [])), [(151, 1000), (1001, 0), (1001, 2), (1001, 3), (1007, 1), (1007, 2), (1016, 1), (1050, 1000), (1051, 1000), (1207, 1), (1207, 2), (2050, 0), (2050, 1000)], [], ([(0, 1)], [], [], 0, [(1, 0, (0, [(1, 2)]))]), [])
def gt_yL_bigGcd_a : ck_TB := ([], [], [], [], [(80, 16, 1, 4)], [], [], [], ([(87, 0)], [], [], []), [], [], [], 0)
def ge_yL_bigGcd_a : ck_E := (gT, [], gc_yL_bigGcd_a, 5, [(0, (0, 5, 3, 0, 1, 0, [])), (1, (0, 5, 0, 0, 2, 0, [])), (2, (0, 3, 1, 0, 3, 0, [])), (3, (0, 3, 2, 0, 4, 0, [])), (4, (16, 0, 0, 0, 7, 0, [])), (7, (8, 16, 1, 4, 10, 0, [])), (10, (3, 0, 0, 0, 0, 17, [])), (15, (0, 0, 0, 1, 16, 0, [])), (16, (14, 0, 0, 0, 0, 0, [])), (17, (0, 0, 0, 0, 18, 0, [])), (18, (14, 0, 0, 0, 0, 0, []))], [(some 15, 3, [gc_yX10_bigGcd_a])], [(4, [("java/lang/IndexOutOfBoundsException", 15)])], [], [])
theorem gk_yL_bigGcd_a : ck_chk ge_yL_bigGcd_a 16 = true := by decide +kernel
theorem gd_yL_bigGcd_a : ck_dec method_21_code gt_yL_bigGcd_a ge_yL_bigGcd_a.2.2.2.2.1 = true := by decide +kernel
theorem gm_yL_bigGcd_a {l : Launch} {G : am_G} {X : ck_XT} (g : gE l G X) : ck_Con (am_cm l G yL_bigGcd (.codeWith yL_bigGcd method_21_code 5 (some .int) [(0, 10, 13, 25)]) 10 224) G X gT gc_yL_bigGcd_a :=
  ck_methH (E := ge_yL_bigGcd_a) (tb := gt_yL_bigGcd_a) (init := false) (cm := ck_cms [am_cm l G yX10_bigGcd (.code yX10_bigGcd prog_1_method_22_code 5 (some (.object "java/lang/String"))) 9 200]) g.1 g.2.1 g.2.2.1 g.2.2.2 gT_w (by decide +kernel) rfl rfl (ck_at1 (List.forall_mem_cons.mpr ⟨⟨[], _, _, _, rfl, (List.forall_mem_nil _), by decide, by decide, w1235, w1046, by decide, Or.inl ⟨rfl, rfl⟩⟩, (List.forall_mem_nil _)⟩)) rfl (by decide) gk_yL_bigGcd_a gd_yL_bigGcd_a ⟨(List.forall_mem_nil _), (List.forall_mem_nil _), (List.forall_mem_nil _), (List.forall_mem_nil _), (List.forall_mem_nil _), (List.forall_mem_nil _), (List.forall_mem_nil _), (List.forall_mem_nil _)⟩ (List.forall_mem_cons.mpr ⟨⟨⟨_, _, _, rfl, Or.inr (Or.inl ⟨_, w1207⟩)⟩, by decide, _, Or.inl ⟨_, rfl⟩, Or.inl g_fd16_1⟩, (List.forall_mem_nil _)⟩) rfl ⟨_, rfl, rfl⟩ (by decide) (by decide) g_oi g_ar
    (fun s hk _ => (List.forall_mem_nil _)) (fun s hk => (List.forall_mem_nil _)) (ck_cms_ok ⟨(List.forall_mem_cons.mpr ⟨((gm_yX10_bigGcd_a g)), (List.forall_mem_nil _)⟩), trivial⟩)
    (List.forall_mem_cons.mpr ⟨(ck_kV g_y_yX10_bigGcd w1440 w1441 w1442 (T := TX10) (N := 13) rfl (by decide) (by decide) (by decide)), (List.forall_mem_nil _)⟩) (List.forall_mem_nil _) (List.forall_mem_nil _) (List.forall_mem_nil _)
    rfl (ck_no5 rfl)
theorem g_y_yL_bigMod : ck_yW yL_bigMod method_22_code 5 4 (some .int) [(0, 10, 13, 25)] := ⟨w1451, w80, by decide +kernel, by decide +kernel, by decide +kernel⟩
def gc_yL_bigMod_a : ck_KK := (([((-2147483648), 2147483647), ((-2147483648), 2147483647)], [], [(2, 0, 0, 1015, (0, 0, (13, []))), (2, 1, 0, 1016, (0, 0, (2, [])))], 2, [(3, 0, (0, [])), (1, 0, (0, [(1, 0)])), (1, 0, (0, [(1, 1)])), (3, 1, (0, []))]), ((104, []), (4416, [])), [(151, 1000), (1001, 0), (1001, 2), (1001, 3), (1007, 1), (1007, 2), (1016, 1), (1050, 1000), (1051, 1000), (1207, 1), (1207, 2), (2050, 0), (2050, 1000)], [], ([(0, 1)], [], [], 0, [(1, 0, (0, [(1, 2)]))]), [])
def gt_yL_bigMod_a : ck_TB := ([], [], [], [], [(80, 16, 1, 4)], [], [], [], ([(91, 0)], [], [], []), [], [], [], 0)
def ge_yL_bigMod_a : ck_E := (gT, [], gc_yL_bigMod_a, 5, [(0, (0, 5, 3, 0, 1, 0, [])), (1, (0, 5, 0, 0, 2, 0, [])), (2, (0, 3, 1, 0, 3, 0, [])), (3, (0, 3, 2, 0, 4, 0, [])), (4, (16, 0, 0, 0, 7, 0, [])), (7, (8, 16, 1, 4, 10, 0, [])), (10, (3, 0, 0, 0, 0, 17, [])), (15, (0, 0, 0, 1, 16, 0, [])), (16, (14, 0, 0, 0, 0, 0, [])), (17, (0, 0, 0, 0, 18, 0, [])), (18, (14, 0, 0, 0, 0, 0, []))], [(some 15, 3, [gc_yX10_bigMod_a])], [(4, [("java/lang/IndexOutOfBoundsException", 15)])], [], [])
theorem gk_yL_bigMod_a : ck_chk ge_yL_bigMod_a 16 = true := by decide +kernel
theorem gd_yL_bigMod_a : ck_dec method_22_code gt_yL_bigMod_a ge_yL_bigMod_a.2.2.2.2.1 = true := by decide +kernel
theorem gm_yL_bigMod_a {l : Launch} {G : am_G} {X : ck_XT} (g : gE l G X) : ck_Con (am_cm l G yL_bigMod (.codeWith yL_bigMod method_22_code 5 (some .int) [(0, 10, 13, 25)]) 10 224) G X gT gc_yL_bigMod_a :=
  ck_methH (E := ge_yL_bigMod_a) (tb := gt_yL_bigMod_a) (init := false) (cm := ck_cms [am_cm l G yX10_bigMod (.code yX10_bigMod prog_1_method_23_code 5 (some (.object "java/lang/String"))) 9 200]) g.1 g.2.1 g.2.2.1 g.2.2.2 gT_w (by decide +kernel) rfl rfl (ck_at1 (List.forall_mem_cons.mpr ⟨⟨[], _, _, _, rfl, (List.forall_mem_nil _), by decide, by decide, w1235, w1046, by decide, Or.inl ⟨rfl, rfl⟩⟩, (List.forall_mem_nil _)⟩)) rfl (by decide) gk_yL_bigMod_a gd_yL_bigMod_a ⟨(List.forall_mem_nil _), (List.forall_mem_nil _), (List.forall_mem_nil _), (List.forall_mem_nil _), (List.forall_mem_nil _), (List.forall_mem_nil _), (List.forall_mem_nil _), (List.forall_mem_nil _)⟩ (List.forall_mem_cons.mpr ⟨⟨⟨_, _, _, rfl, Or.inr (Or.inl ⟨_, w1207⟩)⟩, by decide, _, Or.inl ⟨_, rfl⟩, Or.inl g_fd16_1⟩, (List.forall_mem_nil _)⟩) rfl ⟨_, rfl, rfl⟩ (by decide) (by decide) g_oi g_ar
    (fun s hk _ => (List.forall_mem_nil _)) (fun s hk => (List.forall_mem_nil _)) (ck_cms_ok ⟨(List.forall_mem_cons.mpr ⟨((gm_yX10_bigMod_a g)), (List.forall_mem_nil _)⟩), trivial⟩)
    (List.forall_mem_cons.mpr ⟨(ck_kV g_y_yX10_bigMod w1452 w1453 w1454 (T := TX10) (N := 13) rfl (by decide) (by decide) (by decide)), (List.forall_mem_nil _)⟩) (List.forall_mem_nil _) (List.forall_mem_nil _) (List.forall_mem_nil _)
    rfl (ck_no5 rfl)
theorem g_y_yL_bigInverse : ck_yW yL_bigInverse method_23_code 5 4 (some .int) [(0, 10, 13, 25)] := ⟨w1459, w80, by decide +kernel, by decide +kernel, by decide +kernel⟩
def gc_yL_bigInverse_a : ck_KK := (([((-2147483648), 2147483647), ((-2147483648), 2147483647)], [], [(2, 0, 0, 1015, (0, 0, (13, []))), (2, 1, 0, 1016, (0, 0, (2, [])))], 2, [(3, 0, (0, [])), (1, 0, (0, [(1, 0)])), (1, 0, (0, [(1, 1)])), (3, 1, (0, []))]), ((104, []), (4416, [])), [(151, 1000), (1001, 0), (1001, 2), (1001, 3), (1007, 1), (1007, 2), (1016, 1), (1050, 1000), (1051, 1000), (1107, 1), (1107, 2), (1207, 1), (1207, 2), (1650, 0), (1650, 1000), (2050, 0), (2050, 1000)], [], ([(0, 1)], [], [], 0, [(1, 0, (0, [(1, 2)]))]), [])
def gt_yL_bigInverse_a : ck_TB := ([], [], [], [], [(80, 16, 1, 4)], [], [], [], ([(94, 0)], [], [], []), [], [], [], 0)
def ge_yL_bigInverse_a : ck_E := (gT, [], gc_yL_bigInverse_a, 5, [(0, (0, 5, 3, 0, 1, 0, [])), (1, (0, 5, 0, 0, 2, 0, [])), (2, (0, 3, 1, 0, 3, 0, [])), (3, (0, 3, 2, 0, 4, 0, [])), (4, (16, 0, 0, 0, 7, 0, [])), (7, (8, 16, 1, 4, 10, 0, [])), (10, (3, 0, 0, 0, 0, 17, [])), (15, (0, 0, 0, 1, 16, 0, [])), (16, (14, 0, 0, 0, 0, 0, [])), (17, (0, 0, 0, 0, 18, 0, [])), (18, (14, 0, 0, 0, 0, 0, []))], [(some 15, 3, [gc_yX10_bigInverse_a])], [(4, [("java/lang/IndexOutOfBoundsException", 15)])], [], [])
theorem gk_yL_bigInverse_a : ck_chk ge_yL_bigInverse_a 16 = true := by decide +kernel
theorem gd_yL_bigInverse_a : ck_dec method_23_code gt_yL_bigInverse_a ge_yL_bigInverse_a.2.2.2.2.1 = true := by decide +kernel
theorem gm_yL_bigInverse_a {l : Launch} {G : am_G} {X : ck_XT} (g : gE l G X) : ck_Con (am_cm l G yL_bigInverse (.codeWith yL_bigInverse method_23_code 5 (some .int) [(0, 10, 13, 25)]) 10 224) G X gT gc_yL_bigInverse_a :=
  ck_methH (E := ge_yL_bigInverse_a) (tb := gt_yL_bigInverse_a) (init := false) (cm := ck_cms [am_cm l G yX10_bigInverse (.code yX10_bigInverse prog_1_method_24_code 5 (some (.object "java/lang/String"))) 9 200]) g.1 g.2.1 g.2.2.1 g.2.2.2 gT_w (by decide +kernel) rfl rfl (ck_at1 (List.forall_mem_cons.mpr ⟨⟨[], _, _, _, rfl, (List.forall_mem_nil _), by decide, by decide, w1235, w1046, by decide, Or.inl ⟨rfl, rfl⟩⟩, (List.forall_mem_nil _)⟩)) rfl (by decide) gk_yL_bigInverse_a gd_yL_bigInverse_a ⟨(List.forall_mem_nil _), (List.forall_mem_nil _), (List.forall_mem_nil _), (List.forall_mem_nil _), (List.forall_mem_nil _), (List.forall_mem_nil _), (List.forall_mem_nil _), (List.forall_mem_nil _)⟩ (List.forall_mem_cons.mpr ⟨⟨⟨_, _, _, rfl, Or.inr (Or.inl ⟨_, w1207⟩)⟩, by decide, _, Or.inl ⟨_, rfl⟩, Or.inl g_fd16_1⟩, (List.forall_mem_nil _)⟩) rfl ⟨_, rfl, rfl⟩ (by decide) (by decide) g_oi g_ar
    (fun s hk _ => (List.forall_mem_nil _)) (fun s hk => (List.forall_mem_nil _)) (ck_cms_ok ⟨(List.forall_mem_cons.mpr ⟨((gm_yX10_bigInverse_a g)), (List.forall_mem_nil _)⟩), trivial⟩)
    (List.forall_mem_cons.mpr ⟨(ck_kV g_y_yX10_bigInverse w1460 w1461 w1462 (T := TX10) (N := 13) rfl (by decide) (by decide) (by decide)), (List.forall_mem_nil _)⟩) (List.forall_mem_nil _) (List.forall_mem_nil _) (List.forall_mem_nil _)
    rfl (ck_no5 rfl)
theorem g_y_yL_bigPower : ck_yW yL_bigPower method_24_code 6 5 (some .int) [(0, 12, 15, 25)] := ⟨w1475, w80, by decide +kernel, by decide +kernel, by decide +kernel⟩
def gc_yL_bigPower_a : ck_KK := (([((-2147483648), 2147483647), ((-2147483648), 2147483647), ((-2147483648), 2147483647)], [], [(2, 0, 0, 1015, (0, 0, (13, []))), (2, 1, 0, 1016, (0, 0, (2, [])))], 2, [(3, 0, (0, [])), (1, 0, (0, [(1, 0)])), (1, 0, (0, [(1, 1)])), (1, 0, (0, [(1, 2)])), (3, 1, (0, []))]), ((105, []), (4422, [])), [(151, 1000), (1001, 0), (1001, 2), (1001, 3), (1007, 1), (1007, 2), (1016, 1), (1050, 1000), (1051, 1000), (1107, 1), (1107, 2), (1207, 1), (1207, 2), (1650, 0), (1650, 1000), (2050, 0), (2050, 1000)], [], ([(0, 1)], [], [], 0, [(1, 0, (0, [(1, 3)]))]), [])
def gt_yL_bigPower_a : ck_TB := ([], [], [], [], [(80, 16, 1, 4)], [], [], [], ([(97, 0)], [], [], []), [], [], [], 0)
def ge_yL_bigPower_a : ck_E := (gT, [], gc_yL_bigPower_a, 6, [(0, (0, 5, 4, 0, 2, 0, [])), (2, (0, 5, 0, 0, 3, 0, [])), (3, (0, 3, 1, 0, 4, 0, [])), (4, (0, 3, 2, 0, 5, 0, [])), (5, (0, 3, 3, 0, 6, 0, [])), (6, (16, 0, 0, 0, 9, 0, [])), (9, (8, 16, 1, 4, 12, 0, [])), (12, (3, 0, 0, 0, 0, 19, [])), (17, (0, 0, 0, 1, 18, 0, [])), (18, (14, 0, 0, 0, 0, 0, [])), (19, (0, 0, 0, 0, 20, 0, [])), (20, (14, 0, 0, 0, 0, 0, []))], [(some 15, 4, [gc_yX10_bigPower_a])], [(6, [("java/lang/IndexOutOfBoundsException", 17)])], [], [])
theorem gk_yL_bigPower_a : ck_chk ge_yL_bigPower_a 17 = true := by decide +kernel
theorem gd_yL_bigPower_a : ck_dec method_24_code gt_yL_bigPower_a ge_yL_bigPower_a.2.2.2.2.1 = true := by decide +kernel
theorem gm_yL_bigPower_a {l : Launch} {G : am_G} {X : ck_XT} (g : gE l G X) : ck_Con (am_cm l G yL_bigPower (.codeWith yL_bigPower method_24_code 6 (some .int) [(0, 12, 15, 25)]) 10 226) G X gT gc_yL_bigPower_a :=
  ck_methH (E := ge_yL_bigPower_a) (tb := gt_yL_bigPower_a) (init := false) (cm := ck_cms [am_cm l G yX10_bigPower (.code yX10_bigPower prog_1_method_25_code 7 (some (.object "java/lang/String"))) 9 200]) g.1 g.2.1 g.2.2.1 g.2.2.2 gT_w (by decide +kernel) rfl rfl (ck_at1 (List.forall_mem_cons.mpr ⟨⟨[], _, _, _, rfl, (List.forall_mem_nil _), by decide, by decide, w1235, w1046, by decide, Or.inl ⟨rfl, rfl⟩⟩, (List.forall_mem_nil _)⟩)) rfl (by decide) gk_yL_bigPower_a gd_yL_bigPower_a ⟨(List.forall_mem_nil _), (List.forall_mem_nil _), (List.forall_mem_nil _), (List.forall_mem_nil _), (List.forall_mem_nil _), (List.forall_mem_nil _), (List.forall_mem_nil _), (List.forall_mem_nil _)⟩ (List.forall_mem_cons.mpr ⟨⟨⟨_, _, _, rfl, Or.inr (Or.inl ⟨_, w1207⟩)⟩, by decide, _, Or.inl ⟨_, rfl⟩, Or.inl g_fd16_1⟩, (List.forall_mem_nil _)⟩) rfl ⟨_, rfl, rfl⟩ (by decide) (by decide) g_oi g_ar
    (fun s hk _ => (List.forall_mem_nil _)) (fun s hk => (List.forall_mem_nil _)) (ck_cms_ok ⟨(List.forall_mem_cons.mpr ⟨((gm_yX10_bigPower_a g)), (List.forall_mem_nil _)⟩), trivial⟩)
    (List.forall_mem_cons.mpr ⟨(ck_kV g_y_yX10_bigPower w1476 w1477 w1478 (T := TX10) (N := 13) rfl (by decide) (by decide) (by decide)), (List.forall_mem_nil _)⟩) (List.forall_mem_nil _) (List.forall_mem_nil _) (List.forall_mem_nil _)
    rfl (ck_no5 rfl)
theorem g_y_yL_mod : ck_yW yL_mod method_25_code 4 3 (some .int) [(0, 10, 13, 25)] := ⟨w1492, w80, by decide +kernel, by decide +kernel, by decide +kernel⟩
def gc_yL_mod_a : ck_KK := (([((-2147483648), 2147483647)], [], [(2, 0, 0, 1015, (0, 0, (13, []))), (2, 1, 0, 1016, (0, 0, (2, [])))], 2, [(3, 0, (0, [])), (1, 0, (0, [(1, 0)])), (3, 1, (0, []))]), ((1, []), (6, [])), [(1016, 0)], [], ([(0, 1)], [], [], 0, [(1, 0, (0, [(1, 1)]))]), [])
def gt_yL_mod_a : ck_TB := ([], [], [], [], [(13, 16, 0, 3)], [], [], [], ([(101, 0)], [], [], []), [], [], [], 0)
def ge_yL_mod_a : ck_E := (gT, [], gc_yL_mod_a, 4, [(0, (0, 5, 2, 0, 1, 0, [])), (1, (0, 5, 0, 0, 2, 0, [])), (2, (0, 3, 1, 0, 3, 0, [])), (3, (16, 0, 0, 0, 6, 0, [])), (6, (0, 19, 0, 0, 7, 0, [])), (7, (8, 16, 0, 3, 10, 0, [])), (10, (3, 0, 0, 0, 0, 16, [])), (14, (0, 0, 0, 1, 15, 0, [])), (15, (14, 0, 0, 0, 0, 0, [])), (16, (0, 0, 0, 0, 17, 0, [])), (17, (14, 0, 0, 0, 0, 0, []))], [(some 15, 2, [gc_yX10_mod_a])], [(3, [("java/lang/IndexOutOfBoundsException", 14)])], [], [])
theorem gk_yL_mod_a : ck_chk ge_yL_mod_a 16 = true := by decide +kernel
theorem gd_yL_mod_a : ck_dec method_25_code gt_yL_mod_a ge_yL_mod_a.2.2.2.2.1 = true := by decide +kernel
theorem gm_yL_mod_a {l : Launch} {G : am_G} {X : ck_XT} (g : gE l G X) : ck_Con (am_cm l G yL_mod (.codeWith yL_mod method_25_code 4 (some .int) [(0, 10, 13, 25)]) 8 133) G X gT gc_yL_mod_a :=
  ck_methH (E := ge_yL_mod_a) (tb := gt_yL_mod_a) (init := false) (cm := ck_cms [am_cm l G yX10_mod (.code yX10_mod prog_1_method_27_code 3 (some .int)) 7 111]) g.1 g.2.1 g.2.2.1 g.2.2.2 gT_w (by decide +kernel) rfl rfl (ck_at1 (List.forall_mem_cons.mpr ⟨⟨[], _, _, _, rfl, (List.forall_mem_nil _), by decide, by decide, w1235, w1046, by decide, Or.inr ⟨3, rfl, rfl, rfl⟩⟩, (List.forall_mem_nil _)⟩)) rfl (by decide) gk_yL_mod_a gd_yL_mod_a ⟨(List.forall_mem_nil _), (List.forall_mem_nil _), (List.forall_mem_nil _), (List.forall_mem_nil _), (List.forall_mem_nil _), (List.forall_mem_nil _), (List.forall_mem_nil _), (List.forall_mem_nil _)⟩ (List.forall_mem_cons.mpr ⟨⟨⟨_, _, _, rfl, Or.inr (Or.inl ⟨_, w1206⟩)⟩, by decide, _, rfl, Or.inl g_fd16_0⟩, (List.forall_mem_nil _)⟩) rfl ⟨_, rfl, rfl⟩ (by decide) (by decide) g_oi g_ar
    (fun s hk _ => (List.forall_mem_nil _)) (fun s hk => (List.forall_mem_nil _)) (ck_cms_ok ⟨(List.forall_mem_cons.mpr ⟨((gm_yX10_mod_a g)), (List.forall_mem_nil _)⟩), trivial⟩)
    (List.forall_mem_cons.mpr ⟨(ck_kV g_y_yX10_mod w1493 w1062 w1063 (T := TX10) (N := 13) rfl (by decide) (by decide) (by decide)), (List.forall_mem_nil _)⟩) (List.forall_mem_nil _) (List.forall_mem_nil _) (List.forall_mem_nil _)
    rfl (ck_no5 rfl)
theorem g_y_yL_gcd : ck_yW yL_gcd method_26_code 4 3 (some .int) [(0, 10, 13, 25)] := ⟨w1496, w80, by decide +kernel, by decide +kernel, by decide +kernel⟩
def gc_yL_gcd_a : ck_KK := (([((-2147483648), 2147483647)], [], [(2, 0, 0, 1015, (0, 0, (13, []))), (2, 1, 0, 1016, (0, 0, (2, [])))], 2, [(3, 0, (0, [])), (1, 0, (0, [(1, 0)])), (3, 1, (0, []))]), ((1, []), (6, [])), [(1016, 0)], [], ([(0, 1)], [], [], 0, [(1, 0, (0, [(1, 1)]))]), [])
def gt_yL_gcd_a : ck_TB := ([], [], [], [], [(13, 16, 0, 3)], [], [], [], ([(104, 0)], [], [], []), [], [], [], 0)
def ge_yL_gcd_a : ck_E := (gT, [], gc_yL_gcd_a, 4, [(0, (0, 5, 2, 0, 1, 0, [])), (1, (0, 5, 0, 0, 2, 0, [])), (2, (0, 3, 1, 0, 3, 0, [])), (3, (16, 0, 0, 0, 6, 0, [])), (6, (0, 19, 0, 0, 7, 0, [])), (7, (8, 16, 0, 3, 10, 0, [])), (10, (3, 0, 0, 0, 0, 16, [])), (14, (0, 0, 0, 1, 15, 0, [])), (15, (14, 0, 0, 0, 0, 0, [])), (16, (0, 0, 0, 0, 17, 0, [])), (17, (14, 0, 0, 0, 0, 0, []))], [(some 15, 2, [gc_yX10_gcd_a])], [(3, [("java/lang/IndexOutOfBoundsException", 14)])], [], [])
theorem gk_yL_gcd_a : ck_chk ge_yL_gcd_a 16 = true := by decide +kernel
theorem gd_yL_gcd_a : ck_dec method_26_code gt_yL_gcd_a ge_yL_gcd_a.2.2.2.2.1 = true := by decide +kernel
theorem gm_yL_gcd_a {l : Launch} {G : am_G} {X : ck_XT} (g : gE l G X) : ck_Con (am_cm l G yL_gcd (.codeWith yL_gcd method_26_code 4 (some .int) [(0, 10, 13, 25)]) 8 133) G X gT gc_yL_gcd_a :=
  ck_methH (E := ge_yL_gcd_a) (tb := gt_yL_gcd_a) (init := false) (cm := ck_cms [am_cm l G yX10_gcd (.code yX10_gcd prog_1_method_28_code 3 (some .int)) 7 111]) g.1 g.2.1 g.2.2.1 g.2.2.2 gT_w (by decide +kernel) rfl rfl (ck_at1 (List.forall_mem_cons.mpr ⟨⟨[], _, _, _, rfl, (List.forall_mem_nil _), by decide, by decide, w1235, w1046, by decide, Or.inr ⟨3, rfl, rfl, rfl⟩⟩, (List.forall_mem_nil _)⟩)) rfl (by decide) gk_yL_gcd_a gd_yL_gcd_a ⟨(List.forall_mem_nil _), (List.forall_mem_nil _), (List.forall_mem_nil _), (List.forall_mem_nil _), (List.forall_mem_nil _), (List.forall_mem_nil _), (List.forall_mem_nil _), (List.forall_mem_nil _)⟩ (List.forall_mem_cons.mpr ⟨⟨⟨_, _, _, rfl, Or.inr (Or.inl ⟨_, w1206⟩)⟩, by decide, _, rfl, Or.inl g_fd16_0⟩, (List.forall_mem_nil _)⟩) rfl ⟨_, rfl, rfl⟩ (by decide) (by decide) g_oi g_ar
    (fun s hk _ => (List.forall_mem_nil _)) (fun s hk => (List.forall_mem_nil _)) (ck_cms_ok ⟨(List.forall_mem_cons.mpr ⟨((gm_yX10_gcd_a g)), (List.forall_mem_nil _)⟩), trivial⟩)
    (List.forall_mem_cons.mpr ⟨(ck_kV g_y_yX10_gcd w1497 w1066 w1067 (T := TX10) (N := 13) rfl (by decide) (by decide) (by decide)), (List.forall_mem_nil _)⟩) (List.forall_mem_nil _) (List.forall_mem_nil _) (List.forall_mem_nil _)
    rfl (ck_no5 rfl)
theorem g_y_yL_power : ck_yW yL_power method_27_code 5 4 (some .int) [(0, 11, 14, 25)] := ⟨w1500, w80, by decide +kernel, by decide +kernel, by decide +kernel⟩
def gc_yL_power_a : ck_KK := (([((-2147483648), 2147483647), ((-2147483648), 2147483647)], [], [(2, 0, 0, 1015, (0, 0, (13, []))), (2, 1, 0, 1016, (0, 0, (2, [])))], 2, [(3, 0, (0, [])), (1, 0, (0, [(1, 0)])), (1, 0, (0, [(1, 1)])), (3, 1, (0, []))]), ((2, []), (12, [])), [(1016, 0)], [], ([(0, 1)], [], [], 0, [(1, 0, (0, [(1, 2)]))]), [])
def gt_yL_power_a : ck_TB := ([], [], [], [], [(13, 16, 0, 3)], [], [], [], ([(107, 0)], [], [], []), [], [], [], 0)
def ge_yL_power_a : ck_E := (gT, [], gc_yL_power_a, 5, [(0, (0, 5, 3, 0, 1, 0, [])), (1, (0, 5, 0, 0, 2, 0, [])), (2, (0, 3, 1, 0, 3, 0, [])), (3, (0, 3, 2, 0, 4, 0, [])), (4, (16, 0, 0, 0, 7, 0, [])), (7, (0, 19, 0, 0, 8, 0, [])), (8, (8, 16, 0, 3, 11, 0, [])), (11, (3, 0, 0, 0, 0, 18, [])), (16, (0, 0, 0, 1, 17, 0, [])), (17, (14, 0, 0, 0, 0, 0, [])), (18, (0, 0, 0, 0, 19, 0, [])), (19, (14, 0, 0, 0, 0, 0, []))], [(some 15, 3, [gc_yX10_power_a])], [(4, [("java/lang/IndexOutOfBoundsException", 16)])], [], [])
theorem gk_yL_power_a : ck_chk ge_yL_power_a 17 = true := by decide +kernel
theorem gd_yL_power_a : ck_dec method_27_code gt_yL_power_a ge_yL_power_a.2.2.2.2.1 = true := by decide +kernel
theorem gm_yL_power_a {l : Launch} {G : am_G} {X : ck_XT} (g : gE l G X) : ck_Con (am_cm l G yL_power (.codeWith yL_power method_27_code 5 (some .int) [(0, 11, 14, 25)]) 8 135) G X gT gc_yL_power_a :=
  ck_methH (E := ge_yL_power_a) (tb := gt_yL_power_a) (init := false) (cm := ck_cms [am_cm l G yX10_power (.code yX10_power prog_1_method_29_code 5 (some .int)) 7 111]) g.1 g.2.1 g.2.2.1 g.2.2.2 gT_w (by decide +kernel) rfl rfl (ck_at1 (List.forall_mem_cons.mpr ⟨⟨[], _, _, _, rfl, (List.forall_mem_nil _), by decide, by decide, w1235, w1046, by decide, Or.inl ⟨rfl, rfl⟩⟩, (List.forall_mem_nil _)⟩)) rfl (by decide) gk_yL_power_a gd_yL_power_a ⟨(List.forall_mem_nil _), (List.forall_mem_nil _), (List.forall_mem_nil _), (List.forall_mem_nil _), (List.forall_mem_nil _), (List.forall_mem_nil _), (List.forall_mem_nil _), (List.forall_mem_nil _)⟩ (List.forall_mem_cons.mpr ⟨⟨⟨_, _, _, rfl, Or.inr (Or.inl ⟨_, w1206⟩)⟩, by decide, _, rfl, Or.inl g_fd16_0⟩, (List.forall_mem_nil _)⟩) rfl ⟨_, rfl, rfl⟩ (by decide) (by decide) g_oi g_ar
    (fun s hk _ => (List.forall_mem_nil _)) (fun s hk => (List.forall_mem_nil _)) (ck_cms_ok ⟨(List.forall_mem_cons.mpr ⟨((gm_yX10_power_a g)), (List.forall_mem_nil _)⟩), trivial⟩)
    (List.forall_mem_cons.mpr ⟨(ck_kV g_y_yX10_power w1501 w1076 w1077 (T := TX10) (N := 13) rfl (by decide) (by decide) (by decide)), (List.forall_mem_nil _)⟩) (List.forall_mem_nil _) (List.forall_mem_nil _) (List.forall_mem_nil _)
    rfl (ck_no5 rfl)
theorem g_y_yL_inverse : ck_yW yL_inverse method_28_code 4 3 (some .int) [(0, 10, 13, 25)] := ⟨w1504, w80, by decide +kernel, by decide +kernel, by decide +kernel⟩
def gc_yL_inverse_a : ck_KK := (([((-2147483648), 2147483647)], [], [(2, 0, 0, 1015, (0, 0, (13, []))), (2, 1, 0, 1016, (0, 0, (2, [])))], 2, [(3, 0, (0, [])), (1, 0, (0, [(1, 0)])), (3, 1, (0, []))]), ((1, []), (6, [])), [(1016, 0)], [], ([(0, 1)], [], [], 0, [(1, 0, (0, [(1, 1)]))]), [])
def gt_yL_inverse_a : ck_TB := ([], [], [], [], [(13, 16, 0, 3)], [], [], [], ([(110, 0)], [], [], []), [], [], [], 0)
def ge_yL_inverse_a : ck_E := (gT, [], gc_yL_inverse_a, 4, [(0, (0, 5, 2, 0, 1, 0, [])), (1, (0, 5, 0, 0, 2, 0, [])), (2, (0, 3, 1, 0, 3, 0, [])), (3, (16, 0, 0, 0, 6, 0, [])), (6, (0, 19, 0, 0, 7, 0, [])), (7, (8, 16, 0, 3, 10, 0, [])), (10, (3, 0, 0, 0, 0, 16, [])), (14, (0, 0, 0, 1, 15, 0, [])), (15, (14, 0, 0, 0, 0, 0, [])), (16, (0, 0, 0, 0, 17, 0, [])), (17, (14, 0, 0, 0, 0, 0, []))], [(some 15, 2, [gc_yX10_inverse_a])], [(3, [("java/lang/IndexOutOfBoundsException", 14)])], [], [])
theorem gk_yL_inverse_a : ck_chk ge_yL_inverse_a 16 = true := by decide +kernel
theorem gd_yL_inverse_a : ck_dec method_28_code gt_yL_inverse_a ge_yL_inverse_a.2.2.2.2.1 = true := by decide +kernel
theorem gm_yL_inverse_a {l : Launch} {G : am_G} {X : ck_XT} (g : gE l G X) : ck_Con (am_cm l G yL_inverse (.codeWith yL_inverse method_28_code 4 (some .int) [(0, 10, 13, 25)]) 8 133) G X gT gc_yL_inverse_a :=
  ck_methH (E := ge_yL_inverse_a) (tb := gt_yL_inverse_a) (init := false) (cm := ck_cms [am_cm l G yX10_inverse (.code yX10_inverse prog_1_method_30_code 3 (some .int)) 7 111]) g.1 g.2.1 g.2.2.1 g.2.2.2 gT_w (by decide +kernel) rfl rfl (ck_at1 (List.forall_mem_cons.mpr ⟨⟨[], _, _, _, rfl, (List.forall_mem_nil _), by decide, by decide, w1235, w1046, by decide, Or.inr ⟨3, rfl, rfl, rfl⟩⟩, (List.forall_mem_nil _)⟩)) rfl (by decide) gk_yL_inverse_a gd_yL_inverse_a ⟨(List.forall_mem_nil _), (List.forall_mem_nil _), (List.forall_mem_nil _), (List.forall_mem_nil _), (List.forall_mem_nil _), (List.forall_mem_nil _), (List.forall_mem_nil _), (List.forall_mem_nil _)⟩ (List.forall_mem_cons.mpr ⟨⟨⟨_, _, _, rfl, Or.inr (Or.inl ⟨_, w1206⟩)⟩, by decide, _, rfl, Or.inl g_fd16_0⟩, (List.forall_mem_nil _)⟩) rfl ⟨_, rfl, rfl⟩ (by decide) (by decide) g_oi g_ar
    (fun s hk _ => (List.forall_mem_nil _)) (fun s hk => (List.forall_mem_nil _)) (ck_cms_ok ⟨(List.forall_mem_cons.mpr ⟨((gm_yX10_inverse_a g)), (List.forall_mem_nil _)⟩), trivial⟩)
    (List.forall_mem_cons.mpr ⟨(ck_kV g_y_yX10_inverse w1505 w1071 w1072 (T := TX10) (N := 13) rfl (by decide) (by decide) (by decide)), (List.forall_mem_nil _)⟩) (List.forall_mem_nil _) (List.forall_mem_nil _) (List.forall_mem_nil _)
    rfl (ck_no5 rfl)
theorem g_y_yL_solutions : ck_yW yL_solutions method_29_code 5 4 (some .int) [(0, 11, 14, 25)] := ⟨w1508, w80, by decide +kernel, by decide +kernel, by decide +kernel⟩
def gc_yL_solutions_a : ck_KK := (([((-2147483648), 2147483647), ((-2147483648), 2147483647)], [], [(2, 0, 0, 1015, (0, 0, (13, []))), (2, 1, 0, 1016, (0, 0, (2, [])))], 2, [(3, 0, (0, [])), (1, 0, (0, [(1, 0)])), (1, 0, (0, [(1, 1)])), (3, 1, (0, []))]), ((2, []), (12, [])), [(1016, 0)], [], ([(0, 1)], [], [], 0, [(1, 0, (0, [(1, 2)]))]), [])
def gt_yL_solutions_a : ck_TB := ([], [], [], [], [(13, 16, 0, 3)], [], [], [], ([(113, 0)], [], [], []), [], [], [], 0)
def ge_yL_solutions_a : ck_E := (gT, [], gc_yL_solutions_a, 5, [(0, (0, 5, 3, 0, 1, 0, [])), (1, (0, 5, 0, 0, 2, 0, [])), (2, (0, 3, 1, 0, 3, 0, [])), (3, (0, 3, 2, 0, 4, 0, [])), (4, (16, 0, 0, 0, 7, 0, [])), (7, (0, 19, 0, 0, 8, 0, [])), (8, (8, 16, 0, 3, 11, 0, [])), (11, (3, 0, 0, 0, 0, 18, [])), (16, (0, 0, 0, 1, 17, 0, [])), (17, (14, 0, 0, 0, 0, 0, [])), (18, (0, 0, 0, 0, 19, 0, [])), (19, (14, 0, 0, 0, 0, 0, []))], [(some 15, 3, [gc_yX10_solutions_a])], [(4, [("java/lang/IndexOutOfBoundsException", 16)])], [], [])
theorem gk_yL_solutions_a : ck_chk ge_yL_solutions_a 17 = true := by decide +kernel
theorem gd_yL_solutions_a : ck_dec method_29_code gt_yL_solutions_a ge_yL_solutions_a.2.2.2.2.1 = true := by decide +kernel
theorem gm_yL_solutions_a {l : Launch} {G : am_G} {X : ck_XT} (g : gE l G X) : ck_Con (am_cm l G yL_solutions (.codeWith yL_solutions method_29_code 5 (some .int) [(0, 11, 14, 25)]) 8 136) G X gT gc_yL_solutions_a :=
  ck_methH (E := ge_yL_solutions_a) (tb := gt_yL_solutions_a) (init := false) (cm := ck_cms [am_cm l G yX10_solutions (.code yX10_solutions prog_1_method_31_code 6 (some .int)) 7 111]) g.1 g.2.1 g.2.2.1 g.2.2.2 gT_w (by decide +kernel) rfl rfl (ck_at1 (List.forall_mem_cons.mpr ⟨⟨[], _, _, _, rfl, (List.forall_mem_nil _), by decide, by decide, w1235, w1046, by decide, Or.inl ⟨rfl, rfl⟩⟩, (List.forall_mem_nil _)⟩)) rfl (by decide) gk_yL_solutions_a gd_yL_solutions_a ⟨(List.forall_mem_nil _), (List.forall_mem_nil _), (List.forall_mem_nil _), (List.forall_mem_nil _), (List.forall_mem_nil _), (List.forall_mem_nil _), (List.forall_mem_nil _), (List.forall_mem_nil _)⟩ (List.forall_mem_cons.mpr ⟨⟨⟨_, _, _, rfl, Or.inr (Or.inl ⟨_, w1206⟩)⟩, by decide, _, rfl, Or.inl g_fd16_0⟩, (List.forall_mem_nil _)⟩) rfl ⟨_, rfl, rfl⟩ (by decide) (by decide) g_oi g_ar
    (fun s hk _ => (List.forall_mem_nil _)) (fun s hk => (List.forall_mem_nil _)) (ck_cms_ok ⟨(List.forall_mem_cons.mpr ⟨((gm_yX10_solutions_a g)), (List.forall_mem_nil _)⟩), trivial⟩)
    (List.forall_mem_cons.mpr ⟨(ck_kV g_y_yX10_solutions w1509 w1087 w1088 (T := TX10) (N := 13) rfl (by decide) (by decide) (by decide)), (List.forall_mem_nil _)⟩) (List.forall_mem_nil _) (List.forall_mem_nil _) (List.forall_mem_nil _)
    rfl (ck_no5 rfl)
theorem g_y_yL_solution : ck_yW yL_solution method_30_code 6 5 (some .int) [(0, 13, 16, 25), (0, 13, 20, 19)] := ⟨w1512, w80, by decide +kernel, by decide +kernel, by decide +kernel⟩
def gc_yL_solution_a : ck_KK := (([((-2147483648), 2147483647), ((-2147483648), 2147483647), ((-2147483648), 2147483647)], [], [(2, 0, 0, 1015, (0, 0, (13, []))), (2, 1, 0, 1016, (0, 0, (2, [])))], 2, [(3, 0, (0, [])), (1, 0, (0, [(1, 0)])), (1, 0, (0, [(1, 1)])), (1, 0, (0, [(1, 2)])), (3, 1, (0, []))]), ((3, []), (18, [])), [(1016, 0)], [], ([(0, 2)], [], [], 0, [(1, 0, (0, [(1, 3)]))]), [])
def gt_yL_solution_a : ck_TB := ([], [], [], [], [(13, 16, 0, 3)], [], [], [], ([(116, 0)], [], [], []), [], [], [], 0)
def ge_yL_solution_a : ck_E := (gT, [], gc_yL_solution_a, 6, [(0, (0, 5, 4, 0, 2, 0, [])), (2, (0, 5, 0, 0, 3, 0, [])), (3, (0, 3, 1, 0, 4, 0, [])), (4, (0, 3, 2, 0, 5, 0, [])), (5, (0, 3, 3, 0, 6, 0, [])), (6, (16, 0, 0, 0, 9, 0, [])), (9, (0, 19, 0, 0, 10, 0, [])), (10, (8, 16, 0, 3, 13, 0, [])), (13, (3, 0, 0, 0, 0, 24, [])), (18, (0, 0, 0, 1, 19, 0, [])), (19, (14, 0, 0, 0, 0, 0, [])), (22, (0, 0, 0, 2, 23, 0, [])), (23, (14, 0, 0, 0, 0, 0, [])), (24, (0, 0, 0, 0, 25, 0, [])), (25, (14, 0, 0, 0, 0, 0, []))], [(some 15, 4, [gc_yX10_solution_a])], [(6, [("java/lang/IndexOutOfBoundsException", 18), ("java/lang/IllegalArgumentException", 22)])], [], [])
theorem gk_yL_solution_a : ck_chk ge_yL_solution_a 20 = true := by decide +kernel
theorem gd_yL_solution_a : ck_dec method_30_code gt_yL_solution_a ge_yL_solution_a.2.2.2.2.1 = true := by decide +kernel
theorem gm_yL_solution_a {l : Launch} {G : am_G} {X : ck_XT} (g : gE l G X) : ck_Con (am_cm l G yL_solution (.codeWith yL_solution method_30_code 6 (some .int) [(0, 13, 16, 25), (0, 13, 20, 19)]) 8 137) G X gT gc_yL_solution_a :=
  ck_methH (E := ge_yL_solution_a) (tb := gt_yL_solution_a) (init := false) (cm := ck_cms [am_cm l G yX10_solution (.code yX10_solution prog_1_method_32_code 7 (some .int)) 7 111]) g.1 g.2.1 g.2.2.1 g.2.2.2 gT_w (by decide +kernel) rfl rfl (ck_at1 (List.forall_mem_cons.mpr ⟨⟨[], _, _, _, rfl, (List.forall_mem_nil _), by decide, by decide, w1235, w1046, by decide, Or.inl ⟨rfl, rfl⟩⟩, (List.forall_mem_cons.mpr ⟨⟨[(0, 13, 16, 25)], _, _, _, rfl, (List.forall_mem_cons.mpr ⟨⟨by decide, _, w1235, w77⟩, (List.forall_mem_nil _)⟩), by decide, by decide, w1216, w676, by decide, Or.inl ⟨rfl, rfl⟩⟩, (List.forall_mem_nil _)⟩)⟩)) rfl (by decide) gk_yL_solution_a gd_yL_solution_a ⟨(List.forall_mem_nil _), (List.forall_mem_nil _), (List.forall_mem_nil _), (List.forall_mem_nil _), (List.forall_mem_nil _), (List.forall_mem_nil _), (List.forall_mem_nil _), (List.forall_mem_nil _)⟩ (List.forall_mem_cons.mpr ⟨⟨⟨_, _, _, rfl, Or.inr (Or.inl ⟨_, w1206⟩)⟩, by decide, _, rfl, Or.inl g_fd16_0⟩, (List.forall_mem_nil _)⟩) rfl ⟨_, rfl, rfl⟩ (by decide) (by decide) g_oi g_ar
    (fun s hk _ => (List.forall_mem_nil _)) (fun s hk => (List.forall_mem_nil _)) (ck_cms_ok ⟨(List.forall_mem_cons.mpr ⟨((gm_yX10_solution_a g)), (List.forall_mem_nil _)⟩), trivial⟩)
    (List.forall_mem_cons.mpr ⟨(ck_kV g_y_yX10_solution w1513 w1514 w1515 (T := TX10) (N := 13) rfl (by decide) (by decide) (by decide)), (List.forall_mem_nil _)⟩) (List.forall_mem_nil _) (List.forall_mem_nil _) (List.forall_mem_nil _)
    rfl (ck_no5 rfl)
theorem g_y_yL_order : ck_yW yL_order method_31_code 4 3 (some .int) [(0, 10, 13, 25)] := ⟨w1520, w80, by decide +kernel, by decide +kernel, by decide +kernel⟩
def gc_yL_order_a : ck_KK := (([((-2147483648), 2147483647)], [], [(2, 0, 0, 1015, (0, 0, (13, []))), (2, 1, 0, 1016, (0, 0, (2, [])))], 2, [(3, 0, (0, [])), (1, 0, (0, [(1, 0)])), (3, 1, (0, []))]), ((1, []), (6, [])), [(1016, 0)], [], ([(0, 1)], [], [], 0, [(1, 0, (0, [(1, 1)]))]), [])
def gt_yL_order_a : ck_TB := ([], [], [], [], [(13, 16, 0, 3)], [], [], [], ([(120, 0)], [], [], []), [], [], [], 0)
def ge_yL_order_a : ck_E := (gT, [], gc_yL_order_a, 4, [(0, (0, 5, 2, 0, 1, 0, [])), (1, (0, 5, 0, 0, 2, 0, [])), (2, (0, 3, 1, 0, 3, 0, [])), (3, (16, 0, 0, 0, 6, 0, [])), (6, (0, 19, 0, 0, 7, 0, [])), (7, (8, 16, 0, 3, 10, 0, [])), (10, (3, 0, 0, 0, 0, 16, [])), (14, (0, 0, 0, 1, 15, 0, [])), (15, (14, 0, 0, 0, 0, 0, [])), (16, (0, 0, 0, 0, 17, 0, [])), (17, (14, 0, 0, 0, 0, 0, []))], [(some 15, 2, [gc_yX10_order_a])], [(3, [("java/lang/IndexOutOfBoundsException", 14)])], [], [])
theorem gk_yL_order_a : ck_chk ge_yL_order_a 16 = true := by decide +kernel
theorem gd_yL_order_a : ck_dec method_31_code gt_yL_order_a ge_yL_order_a.2.2.2.2.1 = true := by decide +kernel
theorem gm_yL_order_a {l : Launch} {G : am_G} {X : ck_XT} (g : gE l G X) : ck_Con (am_cm l G yL_order (.codeWith yL_order method_31_code 4 (some .int) [(0, 10, 13, 25)]) 8 133) G X gT gc_yL_order_a :=
  ck_methH (E := ge_yL_order_a) (tb := gt_yL_order_a) (init := false) (cm := ck_cms [am_cm l G yX10_order (.code yX10_order prog_1_method_34_code 3 (some .int)) 7 111]) g.1 g.2.1 g.2.2.1 g.2.2.2 gT_w (by decide +kernel) rfl rfl (ck_at1 (List.forall_mem_cons.mpr ⟨⟨[], _, _, _, rfl, (List.forall_mem_nil _), by decide, by decide, w1235, w1046, by decide, Or.inr ⟨3, rfl, rfl, rfl⟩⟩, (List.forall_mem_nil _)⟩)) rfl (by decide) gk_yL_order_a gd_yL_order_a ⟨(List.forall_mem_nil _), (List.forall_mem_nil _), (List.forall_mem_nil _), (List.forall_mem_nil _), (List.forall_mem_nil _), (List.forall_mem_nil _), (List.forall_mem_nil _), (List.forall_mem_nil _)⟩ (List.forall_mem_cons.mpr ⟨⟨⟨_, _, _, rfl, Or.inr (Or.inl ⟨_, w1206⟩)⟩, by decide, _, rfl, Or.inl g_fd16_0⟩, (List.forall_mem_nil _)⟩) rfl ⟨_, rfl, rfl⟩ (by decide) (by decide) g_oi g_ar
    (fun s hk _ => (List.forall_mem_nil _)) (fun s hk => (List.forall_mem_nil _)) (ck_cms_ok ⟨(List.forall_mem_cons.mpr ⟨((gm_yX10_order_a g)), (List.forall_mem_nil _)⟩), trivial⟩)
    (List.forall_mem_cons.mpr ⟨(ck_kV g_y_yX10_order w1521 w1096 w1097 (T := TX10) (N := 13) rfl (by decide) (by decide) (by decide)), (List.forall_mem_nil _)⟩) (List.forall_mem_nil _) (List.forall_mem_nil _) (List.forall_mem_nil _)
    rfl (ck_no5 rfl)
theorem g_y_yL_generator : ck_yW yL_generator method_32_code 4 3 (some .int) [(0, 10, 13, 19)] := ⟨w1524, w80, by decide +kernel, by decide +kernel, by decide +kernel⟩
def gc_yL_generator_a : ck_KK := (([((-2147483648), 2147483647)], [], [(2, 0, 0, 1015, (0, 0, (13, []))), (2, 1, 0, 1016, (0, 0, (2, [])))], 2, [(3, 0, (0, [])), (1, 0, (0, [(1, 0)])), (3, 1, (0, []))]), ((1, []), (6, [])), [(1010, 1), (1010, 2), (1010, 3), (1016, 0), (1750, 0), (1750, 1000)], [], ([(0, 1)], [], [], 0, [(1, 0, (0, [(1, 1)]))]), [])
def gt_yL_generator_a : ck_TB := ([], [], [], [], [(13, 16, 0, 3)], [], [], [], ([(123, 0)], [], [], []), [], [], [], 0)
def ge_yL_generator_a : ck_E := (gT, [], gc_yL_generator_a, 4, [(0, (0, 5, 2, 0, 1, 0, [])), (1, (0, 5, 0, 0, 2, 0, [])), (2, (0, 3, 1, 0, 3, 0, [])), (3, (16, 0, 0, 0, 6, 0, [])), (6, (0, 19, 0, 0, 7, 0, [])), (7, (8, 16, 0, 3, 10, 0, [])), (10, (3, 0, 0, 0, 0, 16, [])), (14, (0, 0, 0, 1, 15, 0, [])), (15, (14, 0, 0, 0, 0, 0, [])), (16, (0, 0, 0, 0, 17, 0, [])), (17, (14, 0, 0, 0, 0, 0, []))], [(some 15, 2, [gc_yX10_generator_a])], [(3, [("java/lang/IllegalArgumentException", 14)])], [], [])
theorem gk_yL_generator_a : ck_chk ge_yL_generator_a 16 = true := by decide +kernel
theorem gd_yL_generator_a : ck_dec method_32_code gt_yL_generator_a ge_yL_generator_a.2.2.2.2.1 = true := by decide +kernel
theorem gm_yL_generator_a {l : Launch} {G : am_G} {X : ck_XT} (g : gE l G X) : ck_Con (am_cm l G yL_generator (.codeWith yL_generator method_32_code 4 (some .int) [(0, 10, 13, 19)]) 8 131) G X gT gc_yL_generator_a :=
  ck_methH (E := ge_yL_generator_a) (tb := gt_yL_generator_a) (init := false) (cm := ck_cms [am_cm l G yX10_generator (.code yX10_generator prog_1_method_35_code 2 (some .int)) 7 110]) g.1 g.2.1 g.2.2.1 g.2.2.2 gT_w (by decide +kernel) rfl rfl (ck_at1 (List.forall_mem_cons.mpr ⟨⟨[], _, _, _, rfl, (List.forall_mem_nil _), by decide, by decide, w1216, w676, by decide, Or.inr ⟨3, rfl, rfl, rfl⟩⟩, (List.forall_mem_nil _)⟩)) rfl (by decide) gk_yL_generator_a gd_yL_generator_a ⟨(List.forall_mem_nil _), (List.forall_mem_nil _), (List.forall_mem_nil _), (List.forall_mem_nil _), (List.forall_mem_nil _), (List.forall_mem_nil _), (List.forall_mem_nil _), (List.forall_mem_nil _)⟩ (List.forall_mem_cons.mpr ⟨⟨⟨_, _, _, rfl, Or.inr (Or.inl ⟨_, w1206⟩)⟩, by decide, _, rfl, Or.inl g_fd16_0⟩, (List.forall_mem_nil _)⟩) rfl ⟨_, rfl, rfl⟩ (by decide) (by decide) g_oi g_ar
    (fun s hk _ => (List.forall_mem_nil _)) (fun s hk => (List.forall_mem_nil _)) (ck_cms_ok ⟨(List.forall_mem_cons.mpr ⟨((gm_yX10_generator_a g)), (List.forall_mem_nil _)⟩), trivial⟩)
    (List.forall_mem_cons.mpr ⟨(ck_kV g_y_yX10_generator w1525 w1166 w1167 (T := TX10) (N := 13) rfl (by decide) (by decide) (by decide)), (List.forall_mem_nil _)⟩) (List.forall_mem_nil _) (List.forall_mem_nil _) (List.forall_mem_nil _)
    rfl (ck_no5 rfl)
theorem g_y_yL_isGenerator : ck_yW yL_isGenerator method_33_code 4 3 (some .int) [(0, 17, 20, 25)] := ⟨w1528, w80, by decide +kernel, by decide +kernel, by decide +kernel⟩
def gc_yL_isGenerator_a : ck_KK := (([((-2147483648), 2147483647)], [], [(2, 0, 0, 1015, (0, 0, (13, []))), (2, 1, 0, 1016, (0, 0, (2, [])))], 2, [(3, 0, (0, [])), (1, 0, (0, [(1, 0)])), (3, 1, (0, []))]), ((1, []), (6, [])), [(1010, 1), (1010, 2), (1010, 3), (1016, 0), (1750, 0), (1750, 1000)], [], ([(0, 1)], [], [], 0, [(1, 0, (0, [(1, 1)]))]), [])
def gt_yL_isGenerator_a : ck_TB := ([], [], [], [], [(13, 16, 0, 3)], [], [], [], ([(126, 0)], [], [], []), [], [], [], 0)
def ge_yL_isGenerator_a : ck_E := (gT, [], gc_yL_isGenerator_a, 4, [(0, (0, 5, 2, 0, 1, 0, [])), (1, (0, 5, 0, 0, 2, 0, [])), (2, (0, 3, 1, 0, 3, 0, [])), (3, (16, 0, 0, 0, 6, 0, [])), (6, (1, 0, 0, 0, 9, 13, [])), (9, (0, 1, 0, 1, 10, 0, [])), (10, (3, 0, 0, 0, 0, 14, [])), (13, (0, 1, 0, 0, 14, 0, [])), (14, (8, 16, 0, 3, 17, 0, [])), (17, (3, 0, 0, 0, 0, 23, [])), (21, (0, 0, 0, 1, 22, 0, [])), (22, (14, 0, 0, 0, 0, 0, [])), (23, (0, 0, 0, 0, 24, 0, [])), (24, (14, 0, 0, 0, 0, 0, []))], [(some 15, 2, [gc_yX10_isGenerator_a])], [(3, [("java/lang/IndexOutOfBoundsException", 21)])], [], [])
theorem gk_yL_isGenerator_a : ck_chk ge_yL_isGenerator_a 23 = true := by decide +kernel
theorem gd_yL_isGenerator_a : ck_dec method_33_code gt_yL_isGenerator_a ge_yL_isGenerator_a.2.2.2.2.1 = true := by decide +kernel
theorem gm_yL_isGenerator_a {l : Launch} {G : am_G} {X : ck_XT} (g : gE l G X) : ck_Con (am_cm l G yL_isGenerator (.codeWith yL_isGenerator method_33_code 4 (some .int) [(0, 17, 20, 25)]) 8 133) G X gT gc_yL_isGenerator_a :=
  ck_methH (E := ge_yL_isGenerator_a) (tb := gt_yL_isGenerator_a) (init := false) (cm := ck_cms [am_cm l G yX10_isGenerator (.code yX10_isGenerator prog_1_method_36_code 3 (some .boolean)) 7 111]) g.1 g.2.1 g.2.2.1 g.2.2.2 gT_w (by decide +kernel) rfl rfl (ck_at1 (List.forall_mem_cons.mpr ⟨⟨[], _, _, _, rfl, (List.forall_mem_nil _), by decide, by decide, w1235, w1046, by decide, Or.inr ⟨3, rfl, rfl, rfl⟩⟩, (List.forall_mem_nil _)⟩)) rfl (by decide) gk_yL_isGenerator_a gd_yL_isGenerator_a ⟨(List.forall_mem_nil _), (List.forall_mem_nil _), (List.forall_mem_nil _), (List.forall_mem_nil _), (List.forall_mem_nil _), (List.forall_mem_nil _), (List.forall_mem_nil _), (List.forall_mem_nil _)⟩ (List.forall_mem_cons.mpr ⟨⟨⟨_, _, _, rfl, Or.inr (Or.inl ⟨_, w1206⟩)⟩, by decide, _, rfl, Or.inl g_fd16_0⟩, (List.forall_mem_nil _)⟩) rfl ⟨_, rfl, rfl⟩ (by decide) (by decide) g_oi g_ar
    (fun s hk _ => (List.forall_mem_nil _)) (fun s hk => (List.forall_mem_nil _)) (ck_cms_ok ⟨(List.forall_mem_cons.mpr ⟨((gm_yX10_isGenerator_a g)), (List.forall_mem_nil _)⟩), trivial⟩)
    (List.forall_mem_cons.mpr ⟨(ck_kV g_y_yX10_isGenerator w1529 w1530 w1531 (T := TX10) (N := 13) rfl (by decide) (by decide) (by decide)), (List.forall_mem_nil _)⟩) (List.forall_mem_nil _) (List.forall_mem_nil _) (List.forall_mem_nil _)
    rfl (ck_no5 rfl)
theorem g_y_yL_powers : ck_yW yL_powers method_34_code 4 3 (some .int) [(0, 9, 12, 25)] := ⟨w1536, w80, by decide +kernel, by decide +kernel, by decide +kernel⟩
def gc_yL_powers_a : ck_KK := (([((-2147483648), 2147483647)], [], [(2, 0, 0, 1015, (0, 0, (13, []))), (2, 1, 0, 1016, (0, 0, (2, [])))], 2, [(3, 0, (0, [])), (1, 0, (0, [(1, 0)])), (3, 1, (0, []))]), ((1600, []), (10210, [])), [(151, 1000), (1001, 0), (1001, 2), (1001, 3), (1013, 2), (1013, 3), (1016, 1), (1051, 1000), (1850, 0), (1850, 1000), (1950, 0), (1950, 1000)], [], ([(0, 1)], [], [], 0, [(1, 0, (0, [(1, 1)]))]), [])
def gt_yL_powers_a : ck_TB := ([], [], [], [], [(80, 16, 1, 4)], [], [], [], ([(130, 0)], [], [], []), [], [], [], 0)
def ge_yL_powers_a : ck_E := (gT, [], gc_yL_powers_a, 4, [(0, (0, 5, 2, 0, 1, 0, [])), (1, (0, 5, 0, 0, 2, 0, [])), (2, (0, 3, 1, 0, 3, 0, [])), (3, (16, 0, 0, 0, 6, 0, [])), (6, (8, 16, 1, 4, 9, 0, [])), (9, (3, 0, 0, 0, 0, 15, [])), (13, (0, 0, 0, 1, 14, 0, [])), (14, (14, 0, 0, 0, 0, 0, [])), (15, (0, 0, 0, 0, 16, 0, [])), (16, (14, 0, 0, 0, 0, 0, []))], [(some 15, 2, [gc_yX10_powers_a])], [(3, [("java/lang/IndexOutOfBoundsException", 13)])], [], [])
theorem gk_yL_powers_a : ck_chk ge_yL_powers_a 15 = true := by decide +kernel
theorem gd_yL_powers_a : ck_dec method_34_code gt_yL_powers_a ge_yL_powers_a.2.2.2.2.1 = true := by decide +kernel
theorem gm_yL_powers_a {l : Launch} {G : am_G} {X : ck_XT} (g : gE l G X) : ck_Con (am_cm l G yL_powers (.codeWith yL_powers method_34_code 4 (some .int) [(0, 9, 12, 25)]) 10 218) G X gT gc_yL_powers_a :=
  ck_methH (E := ge_yL_powers_a) (tb := gt_yL_powers_a) (init := false) (cm := ck_cms [am_cm l G yX10_powers (.code yX10_powers prog_1_method_37_code 3 (some (.object "java/lang/String"))) 9 196]) g.1 g.2.1 g.2.2.1 g.2.2.2 gT_w (by decide +kernel) rfl rfl (ck_at1 (List.forall_mem_cons.mpr ⟨⟨[], _, _, _, rfl, (List.forall_mem_nil _), by decide, by decide, w1235, w1046, by decide, Or.inr ⟨3, rfl, rfl, rfl⟩⟩, (List.forall_mem_nil _)⟩)) rfl (by decide) gk_yL_powers_a gd_yL_powers_a ⟨(List.forall_mem_nil _), (List.forall_mem_nil _), (List.forall_mem_nil _), (List.forall_mem_nil _), (List.forall_mem_nil _), (List.forall_mem_nil _), (List.forall_mem_nil _), (List.forall_mem_nil _)⟩ (List.forall_mem_cons.mpr ⟨⟨⟨_, _, _, rfl, Or.inr (Or.inl ⟨_, w1207⟩)⟩, by decide, _, Or.inl ⟨_, rfl⟩, Or.inl g_fd16_1⟩, (List.forall_mem_nil _)⟩) rfl ⟨_, rfl, rfl⟩ (by decide) (by decide) g_oi g_ar
    (fun s hk _ => (List.forall_mem_nil _)) (fun s hk => (List.forall_mem_nil _)) (ck_cms_ok ⟨(List.forall_mem_cons.mpr ⟨((gm_yX10_powers_a g)), (List.forall_mem_nil _)⟩), trivial⟩)
    (List.forall_mem_cons.mpr ⟨(ck_kV g_y_yX10_powers w1537 w1538 w1539 (T := TX10) (N := 13) rfl (by decide) (by decide) (by decide)), (List.forall_mem_nil _)⟩) (List.forall_mem_nil _) (List.forall_mem_nil _) (List.forall_mem_nil _)
    rfl (ck_no5 rfl)
theorem g_y_yL_ofPowers : ck_yW yL_ofPowers method_35_code 5 4 (some .int) [(0, 11, 14, 25), (0, 11, 18, 19)] := ⟨w1549, w80, by decide +kernel, by decide +kernel, by decide +kernel⟩
def gc_yL_ofPowers_a : ck_KK := (([((-2147483648), 2147483647), ((-2147483648), 2147483647)], [], [(2, 0, 0, 1015, (0, 0, (13, []))), (2, 1, 0, 1016, (0, 0, (2, [])))], 2, [(3, 0, (0, [])), (1, 0, (0, [(1, 0)])), (1, 0, (0, [(1, 1)])), (3, 1, (0, []))]), ((2, []), (12, [])), [(1013, 2), (1013, 3), (1016, 0), (1850, 0), (1850, 1000), (1950, 0), (1950, 1000)], [], ([(0, 2)], [], [], 0, [(1, 0, (0, [(1, 2)]))]), [])
def gt_yL_ofPowers_a : ck_TB := ([], [], [], [], [(13, 16, 0, 3)], [], [], [], ([(133, 0)], [], [], []), [], [], [], 0)
def ge_yL_ofPowers_a : ck_E := (gT, [], gc_yL_ofPowers_a, 5, [(0, (0, 5, 3, 0, 1, 0, [])), (1, (0, 5, 0, 0, 2, 0, [])), (2, (0, 3, 1, 0, 3, 0, [])), (3, (0, 3, 2, 0, 4, 0, [])), (4, (16, 0, 0, 0, 7, 0, [])), (7, (0, 19, 0, 0, 8, 0, [])), (8, (8, 16, 0, 3, 11, 0, [])), (11, (3, 0, 0, 0, 0, 22, [])), (16, (0, 0, 0, 1, 17, 0, [])), (17, (14, 0, 0, 0, 0, 0, [])), (20, (0, 0, 0, 2, 21, 0, [])), (21, (14, 0, 0, 0, 0, 0, [])), (22, (0, 0, 0, 0, 23, 0, [])), (23, (14, 0, 0, 0, 0, 0, []))], [(some 15, 3, [gc_yX10_ofPowers_a])], [(4, [("java/lang/IndexOutOfBoundsException", 16), ("java/lang/IllegalArgumentException", 20)])], [], [])
theorem gk_yL_ofPowers_a : ck_chk ge_yL_ofPowers_a 19 = true := by decide +kernel
theorem gd_yL_ofPowers_a : ck_dec method_35_code gt_yL_ofPowers_a ge_yL_ofPowers_a.2.2.2.2.1 = true := by decide +kernel
theorem gm_yL_ofPowers_a {l : Launch} {G : am_G} {X : ck_XT} (g : gE l G X) : ck_Con (am_cm l G yL_ofPowers (.codeWith yL_ofPowers method_35_code 5 (some .int) [(0, 11, 14, 25), (0, 11, 18, 19)]) 8 134) G X gT gc_yL_ofPowers_a :=
  ck_methH (E := ge_yL_ofPowers_a) (tb := gt_yL_ofPowers_a) (init := false) (cm := ck_cms [am_cm l G yX10_ofPowers (.code yX10_ofPowers prog_1_method_38_code 4 (some .int)) 7 111]) g.1 g.2.1 g.2.2.1 g.2.2.2 gT_w (by decide +kernel) rfl rfl (ck_at1 (List.forall_mem_cons.mpr ⟨⟨[], _, _, _, rfl, (List.forall_mem_nil _), by decide, by decide, w1235, w1046, by decide, Or.inl ⟨rfl, rfl⟩⟩, (List.forall_mem_cons.mpr ⟨⟨[(0, 11, 14, 25)], _, _, _, rfl, (List.forall_mem_cons.mpr ⟨⟨by decide, _, w1235, w77⟩, (List.forall_mem_nil _)⟩), by decide, by decide, w1216, w676, by decide, Or.inl ⟨rfl, rfl⟩⟩, (List.forall_mem_nil _)⟩)⟩)) rfl (by decide) gk_yL_ofPowers_a gd_yL_ofPowers_a ⟨(List.forall_mem_nil _), (List.forall_mem_nil _), (List.forall_mem_nil _), (List.forall_mem_nil _), (List.forall_mem_nil _), (List.forall_mem_nil _), (List.forall_mem_nil _), (List.forall_mem_nil _)⟩ (List.forall_mem_cons.mpr ⟨⟨⟨_, _, _, rfl, Or.inr (Or.inl ⟨_, w1206⟩)⟩, by decide, _, rfl, Or.inl g_fd16_0⟩, (List.forall_mem_nil _)⟩) rfl ⟨_, rfl, rfl⟩ (by decide) (by decide) g_oi g_ar
    (fun s hk _ => (List.forall_mem_nil _)) (fun s hk => (List.forall_mem_nil _)) (ck_cms_ok ⟨(List.forall_mem_cons.mpr ⟨((gm_yX10_ofPowers_a g)), (List.forall_mem_nil _)⟩), trivial⟩)
    (List.forall_mem_cons.mpr ⟨(ck_kV g_y_yX10_ofPowers w1550 w1101 w1102 (T := TX10) (N := 13) rfl (by decide) (by decide) (by decide)), (List.forall_mem_nil _)⟩) (List.forall_mem_nil _) (List.forall_mem_nil _) (List.forall_mem_nil _)
    rfl (ck_no5 rfl)
theorem g_y_yL_roots : ck_yW yL_roots method_36_code 4 3 (some .int) [(0, 10, 13, 25)] := ⟨w1553, w80, by decide +kernel, by decide +kernel, by decide +kernel⟩
def gc_yL_roots_a : ck_KK := (([((-2147483648), 2147483647)], [], [(2, 0, 0, 1015, (0, 0, (13, []))), (2, 1, 0, 1016, (0, 0, (2, [])))], 2, [(3, 0, (0, [])), (1, 0, (0, [(1, 0)])), (3, 1, (0, []))]), ((1, []), (6, [])), [(1016, 0)], [], ([(0, 1)], [], [], 0, [(1, 0, (0, [(1, 1)]))]), [])
def gt_yL_roots_a : ck_TB := ([], [], [], [], [(13, 16, 0, 3)], [], [], [], ([(136, 0)], [], [], []), [], [], [], 0)
def ge_yL_roots_a : ck_E := (gT, [], gc_yL_roots_a, 4, [(0, (0, 5, 2, 0, 1, 0, [])), (1, (0, 5, 0, 0, 2, 0, [])), (2, (0, 3, 1, 0, 3, 0, [])), (3, (16, 0, 0, 0, 6, 0, [])), (6, (0, 19, 0, 0, 7, 0, [])), (7, (8, 16, 0, 3, 10, 0, [])), (10, (3, 0, 0, 0, 0, 16, [])), (14, (0, 0, 0, 1, 15, 0, [])), (15, (14, 0, 0, 0, 0, 0, [])), (16, (0, 0, 0, 0, 17, 0, [])), (17, (14, 0, 0, 0, 0, 0, []))], [(some 15, 2, [gc_yX10_roots_a])], [(3, [("java/lang/IndexOutOfBoundsException", 14)])], [], [])
theorem gk_yL_roots_a : ck_chk ge_yL_roots_a 16 = true := by decide +kernel
theorem gd_yL_roots_a : ck_dec method_36_code gt_yL_roots_a ge_yL_roots_a.2.2.2.2.1 = true := by decide +kernel
theorem gm_yL_roots_a {l : Launch} {G : am_G} {X : ck_XT} (g : gE l G X) : ck_Con (am_cm l G yL_roots (.codeWith yL_roots method_36_code 4 (some .int) [(0, 10, 13, 25)]) 8 133) G X gT gc_yL_roots_a :=
  ck_methH (E := ge_yL_roots_a) (tb := gt_yL_roots_a) (init := false) (cm := ck_cms [am_cm l G yX10_roots (.code yX10_roots prog_1_method_39_code 3 (some .int)) 7 111]) g.1 g.2.1 g.2.2.1 g.2.2.2 gT_w (by decide +kernel) rfl rfl (ck_at1 (List.forall_mem_cons.mpr ⟨⟨[], _, _, _, rfl, (List.forall_mem_nil _), by decide, by decide, w1235, w1046, by decide, Or.inr ⟨3, rfl, rfl, rfl⟩⟩, (List.forall_mem_nil _)⟩)) rfl (by decide) gk_yL_roots_a gd_yL_roots_a ⟨(List.forall_mem_nil _), (List.forall_mem_nil _), (List.forall_mem_nil _), (List.forall_mem_nil _), (List.forall_mem_nil _), (List.forall_mem_nil _), (List.forall_mem_nil _), (List.forall_mem_nil _)⟩ (List.forall_mem_cons.mpr ⟨⟨⟨_, _, _, rfl, Or.inr (Or.inl ⟨_, w1206⟩)⟩, by decide, _, rfl, Or.inl g_fd16_0⟩, (List.forall_mem_nil _)⟩) rfl ⟨_, rfl, rfl⟩ (by decide) (by decide) g_oi g_ar
    (fun s hk _ => (List.forall_mem_nil _)) (fun s hk => (List.forall_mem_nil _)) (ck_cms_ok ⟨(List.forall_mem_cons.mpr ⟨((gm_yX10_roots_a g)), (List.forall_mem_nil _)⟩), trivial⟩)
    (List.forall_mem_cons.mpr ⟨(ck_kV g_y_yX10_roots w1554 w1120 w1121 (T := TX10) (N := 13) rfl (by decide) (by decide) (by decide)), (List.forall_mem_nil _)⟩) (List.forall_mem_nil _) (List.forall_mem_nil _) (List.forall_mem_nil _)
    rfl (ck_no5 rfl)
theorem g_y_yL_root : ck_yW yL_root method_37_code 5 4 (some .int) [(0, 11, 14, 25), (0, 11, 18, 19)] := ⟨w1557, w80, by decide +kernel, by decide +kernel, by decide +kernel⟩
def gc_yL_root_a : ck_KK := (([((-2147483648), 2147483647), ((-2147483648), 2147483647)], [], [(2, 0, 0, 1015, (0, 0, (13, []))), (2, 1, 0, 1016, (0, 0, (2, [])))], 2, [(3, 0, (0, [])), (1, 0, (0, [(1, 0)])), (1, 0, (0, [(1, 1)])), (3, 1, (0, []))]), ((2, []), (12, [])), [(1016, 0)], [], ([(0, 2)], [], [], 0, [(1, 0, (0, [(1, 2)]))]), [])
def gt_yL_root_a : ck_TB := ([], [], [], [], [(13, 16, 0, 3)], [], [], [], ([(139, 0)], [], [], []), [], [], [], 0)
def ge_yL_root_a : ck_E := (gT, [], gc_yL_root_a, 5, [(0, (0, 5, 3, 0, 1, 0, [])), (1, (0, 5, 0, 0, 2, 0, [])), (2, (0, 3, 1, 0, 3, 0, [])), (3, (0, 3, 2, 0, 4, 0, [])), (4, (16, 0, 0, 0, 7, 0, [])), (7, (0, 19, 0, 0, 8, 0, [])), (8, (8, 16, 0, 3, 11, 0, [])), (11, (3, 0, 0, 0, 0, 22, [])), (16, (0, 0, 0, 1, 17, 0, [])), (17, (14, 0, 0, 0, 0, 0, [])), (20, (0, 0, 0, 2, 21, 0, [])), (21, (14, 0, 0, 0, 0, 0, [])), (22, (0, 0, 0, 0, 23, 0, [])), (23, (14, 0, 0, 0, 0, 0, []))], [(some 15, 3, [gc_yX10_root_a])], [(4, [("java/lang/IndexOutOfBoundsException", 16), ("java/lang/IllegalArgumentException", 20)])], [], [])
theorem gk_yL_root_a : ck_chk ge_yL_root_a 19 = true := by decide +kernel
theorem gd_yL_root_a : ck_dec method_37_code gt_yL_root_a ge_yL_root_a.2.2.2.2.1 = true := by decide +kernel
theorem gm_yL_root_a {l : Launch} {G : am_G} {X : ck_XT} (g : gE l G X) : ck_Con (am_cm l G yL_root (.codeWith yL_root method_37_code 5 (some .int) [(0, 11, 14, 25), (0, 11, 18, 19)]) 8 134) G X gT gc_yL_root_a :=
  ck_methH (E := ge_yL_root_a) (tb := gt_yL_root_a) (init := false) (cm := ck_cms [am_cm l G yX10_root (.code yX10_root prog_1_method_40_code 4 (some .int)) 7 111]) g.1 g.2.1 g.2.2.1 g.2.2.2 gT_w (by decide +kernel) rfl rfl (ck_at1 (List.forall_mem_cons.mpr ⟨⟨[], _, _, _, rfl, (List.forall_mem_nil _), by decide, by decide, w1235, w1046, by decide, Or.inl ⟨rfl, rfl⟩⟩, (List.forall_mem_cons.mpr ⟨⟨[(0, 11, 14, 25)], _, _, _, rfl, (List.forall_mem_cons.mpr ⟨⟨by decide, _, w1235, w77⟩, (List.forall_mem_nil _)⟩), by decide, by decide, w1216, w676, by decide, Or.inl ⟨rfl, rfl⟩⟩, (List.forall_mem_nil _)⟩)⟩)) rfl (by decide) gk_yL_root_a gd_yL_root_a ⟨(List.forall_mem_nil _), (List.forall_mem_nil _), (List.forall_mem_nil _), (List.forall_mem_nil _), (List.forall_mem_nil _), (List.forall_mem_nil _), (List.forall_mem_nil _), (List.forall_mem_nil _)⟩ (List.forall_mem_cons.mpr ⟨⟨⟨_, _, _, rfl, Or.inr (Or.inl ⟨_, w1206⟩)⟩, by decide, _, rfl, Or.inl g_fd16_0⟩, (List.forall_mem_nil _)⟩) rfl ⟨_, rfl, rfl⟩ (by decide) (by decide) g_oi g_ar
    (fun s hk _ => (List.forall_mem_nil _)) (fun s hk => (List.forall_mem_nil _)) (ck_cms_ok ⟨(List.forall_mem_cons.mpr ⟨((gm_yX10_root_a g)), (List.forall_mem_nil _)⟩), trivial⟩)
    (List.forall_mem_cons.mpr ⟨(ck_kV g_y_yX10_root w1558 w1559 w1560 (T := TX10) (N := 13) rfl (by decide) (by decide) (by decide)), (List.forall_mem_nil _)⟩) (List.forall_mem_nil _) (List.forall_mem_nil _) (List.forall_mem_nil _)
    rfl (ck_no5 rfl)
theorem g_y_yL_legendre : ck_yW yL_legendre method_38_code 4 3 (some .int) [(0, 10, 13, 25)] := ⟨w1565, w80, by decide +kernel, by decide +kernel, by decide +kernel⟩
def gc_yL_legendre_a : ck_KK := (([((-2147483648), 2147483647)], [], [(2, 0, 0, 1015, (0, 0, (13, []))), (2, 1, 0, 1016, (0, 0, (2, [])))], 2, [(3, 0, (0, [])), (1, 0, (0, [(1, 0)])), (3, 1, (0, []))]), ((1, []), (6, [])), [(1016, 0)], [], ([(0, 1)], [], [], 0, [(1, 0, (0, [(1, 1)]))]), [])
def gt_yL_legendre_a : ck_TB := ([], [], [], [], [(13, 16, 0, 3)], [], [], [], ([(142, 0)], [], [], []), [], [], [], 0)
def ge_yL_legendre_a : ck_E := (gT, [], gc_yL_legendre_a, 4, [(0, (0, 5, 2, 0, 1, 0, [])), (1, (0, 5, 0, 0, 2, 0, [])), (2, (0, 3, 1, 0, 3, 0, [])), (3, (16, 0, 0, 0, 6, 0, [])), (6, (0, 19, 0, 0, 7, 0, [])), (7, (8, 16, 0, 3, 10, 0, [])), (10, (3, 0, 0, 0, 0, 16, [])), (14, (0, 0, 0, 1, 15, 0, [])), (15, (14, 0, 0, 0, 0, 0, [])), (16, (0, 0, 0, 0, 17, 0, [])), (17, (14, 0, 0, 0, 0, 0, []))], [(some 15, 2, [gc_yX10_legendre_a])], [(3, [("java/lang/IndexOutOfBoundsException", 14)])], [], [])
theorem gk_yL_legendre_a : ck_chk ge_yL_legendre_a 16 = true := by decide +kernel
theorem gd_yL_legendre_a : ck_dec method_38_code gt_yL_legendre_a ge_yL_legendre_a.2.2.2.2.1 = true := by decide +kernel
theorem gm_yL_legendre_a {l : Launch} {G : am_G} {X : ck_XT} (g : gE l G X) : ck_Con (am_cm l G yL_legendre (.codeWith yL_legendre method_38_code 4 (some .int) [(0, 10, 13, 25)]) 8 133) G X gT gc_yL_legendre_a :=
  ck_methH (E := ge_yL_legendre_a) (tb := gt_yL_legendre_a) (init := false) (cm := ck_cms [am_cm l G yX10_legendre (.code yX10_legendre prog_1_method_42_code 3 (some .int)) 7 111]) g.1 g.2.1 g.2.2.1 g.2.2.2 gT_w (by decide +kernel) rfl rfl (ck_at1 (List.forall_mem_cons.mpr ⟨⟨[], _, _, _, rfl, (List.forall_mem_nil _), by decide, by decide, w1235, w1046, by decide, Or.inr ⟨3, rfl, rfl, rfl⟩⟩, (List.forall_mem_nil _)⟩)) rfl (by decide) gk_yL_legendre_a gd_yL_legendre_a ⟨(List.forall_mem_nil _), (List.forall_mem_nil _), (List.forall_mem_nil _), (List.forall_mem_nil _), (List.forall_mem_nil _), (List.forall_mem_nil _), (List.forall_mem_nil _), (List.forall_mem_nil _)⟩ (List.forall_mem_cons.mpr ⟨⟨⟨_, _, _, rfl, Or.inr (Or.inl ⟨_, w1206⟩)⟩, by decide, _, rfl, Or.inl g_fd16_0⟩, (List.forall_mem_nil _)⟩) rfl ⟨_, rfl, rfl⟩ (by decide) (by decide) g_oi g_ar
    (fun s hk _ => (List.forall_mem_nil _)) (fun s hk => (List.forall_mem_nil _)) (ck_cms_ok ⟨(List.forall_mem_cons.mpr ⟨((gm_yX10_legendre_a g)), (List.forall_mem_nil _)⟩), trivial⟩)
    (List.forall_mem_cons.mpr ⟨(ck_kV g_y_yX10_legendre w1566 w1127 w1128 (T := TX10) (N := 13) rfl (by decide) (by decide) (by decide)), (List.forall_mem_nil _)⟩) (List.forall_mem_nil _) (List.forall_mem_nil _) (List.forall_mem_nil _)
    rfl (ck_no5 rfl)
theorem g_y_yL_jacobi : ck_yW yL_jacobi method_39_code 4 3 (some .int) [(0, 10, 13, 25)] := ⟨w1569, w80, by decide +kernel, by decide +kernel, by decide +kernel⟩
def gc_yL_jacobi_a : ck_KK := (([((-2147483648), 2147483647)], [], [(2, 0, 0, 1015, (0, 0, (13, []))), (2, 1, 0, 1016, (0, 0, (2, [])))], 2, [(3, 0, (0, [])), (1, 0, (0, [(1, 0)])), (3, 1, (0, []))]), ((1, []), (6, [])), [(1016, 0)], [], ([(0, 1)], [], [], 0, [(1, 0, (0, [(1, 1)]))]), [])
def gt_yL_jacobi_a : ck_TB := ([], [], [], [], [(13, 16, 0, 3)], [], [], [], ([(145, 0)], [], [], []), [], [], [], 0)
def ge_yL_jacobi_a : ck_E := (gT, [], gc_yL_jacobi_a, 4, [(0, (0, 5, 2, 0, 1, 0, [])), (1, (0, 5, 0, 0, 2, 0, [])), (2, (0, 3, 1, 0, 3, 0, [])), (3, (16, 0, 0, 0, 6, 0, [])), (6, (0, 19, 0, 0, 7, 0, [])), (7, (8, 16, 0, 3, 10, 0, [])), (10, (3, 0, 0, 0, 0, 16, [])), (14, (0, 0, 0, 1, 15, 0, [])), (15, (14, 0, 0, 0, 0, 0, [])), (16, (0, 0, 0, 0, 17, 0, [])), (17, (14, 0, 0, 0, 0, 0, []))], [(some 15, 2, [gc_yX10_jacobi_a])], [(3, [("java/lang/IndexOutOfBoundsException", 14)])], [], [])
theorem gk_yL_jacobi_a : ck_chk ge_yL_jacobi_a 16 = true := by decide +kernel
theorem gd_yL_jacobi_a : ck_dec method_39_code gt_yL_jacobi_a ge_yL_jacobi_a.2.2.2.2.1 = true := by decide +kernel
theorem gm_yL_jacobi_a {l : Launch} {G : am_G} {X : ck_XT} (g : gE l G X) : ck_Con (am_cm l G yL_jacobi (.codeWith yL_jacobi method_39_code 4 (some .int) [(0, 10, 13, 25)]) 8 133) G X gT gc_yL_jacobi_a :=
  ck_methH (E := ge_yL_jacobi_a) (tb := gt_yL_jacobi_a) (init := false) (cm := ck_cms [am_cm l G yX10_jacobi (.code yX10_jacobi prog_1_method_43_code 3 (some .int)) 7 111]) g.1 g.2.1 g.2.2.1 g.2.2.2 gT_w (by decide +kernel) rfl rfl (ck_at1 (List.forall_mem_cons.mpr ⟨⟨[], _, _, _, rfl, (List.forall_mem_nil _), by decide, by decide, w1235, w1046, by decide, Or.inr ⟨3, rfl, rfl, rfl⟩⟩, (List.forall_mem_nil _)⟩)) rfl (by decide) gk_yL_jacobi_a gd_yL_jacobi_a ⟨(List.forall_mem_nil _), (List.forall_mem_nil _), (List.forall_mem_nil _), (List.forall_mem_nil _), (List.forall_mem_nil _), (List.forall_mem_nil _), (List.forall_mem_nil _), (List.forall_mem_nil _)⟩ (List.forall_mem_cons.mpr ⟨⟨⟨_, _, _, rfl, Or.inr (Or.inl ⟨_, w1206⟩)⟩, by decide, _, rfl, Or.inl g_fd16_0⟩, (List.forall_mem_nil _)⟩) rfl ⟨_, rfl, rfl⟩ (by decide) (by decide) g_oi g_ar
    (fun s hk _ => (List.forall_mem_nil _)) (fun s hk => (List.forall_mem_nil _)) (ck_cms_ok ⟨(List.forall_mem_cons.mpr ⟨((gm_yX10_jacobi_a g)), (List.forall_mem_nil _)⟩), trivial⟩)
    (List.forall_mem_cons.mpr ⟨(ck_kV g_y_yX10_jacobi w1570 w1131 w1132 (T := TX10) (N := 13) rfl (by decide) (by decide) (by decide)), (List.forall_mem_nil _)⟩) (List.forall_mem_nil _) (List.forall_mem_nil _) (List.forall_mem_nil _)
    rfl (ck_no5 rfl)
theorem g_y_yL_ofRow : ck_yW yL_ofRow method_40_code 5 4 (some .int) [(0, 11, 14, 25), (0, 11, 18, 19)] := ⟨w1573, w80, by decide +kernel, by decide +kernel, by decide +kernel⟩
def gc_yL_ofRow_a : ck_KK := (([((-2147483648), 2147483647), ((-2147483648), 2147483647)], [], [(2, 0, 0, 1015, (0, 0, (13, []))), (2, 1, 0, 1016, (0, 0, (2, [])))], 2, [(3, 0, (0, [])), (1, 0, (0, [(1, 0)])), (1, 0, (0, [(1, 1)])), (3, 1, (0, []))]), ((2, []), (12, [])), [(1016, 0)], [], ([(0, 2)], [], [], 0, [(1, 0, (0, [(1, 2)]))]), [])
def gt_yL_ofRow_a : ck_TB := ([], [], [], [], [(13, 16, 0, 3)], [], [], [], ([(148, 0)], [], [], []), [], [], [], 0)
def ge_yL_ofRow_a : ck_E := (gT, [], gc_yL_ofRow_a, 5, [(0, (0, 5, 3, 0, 1, 0, [])), (1, (0, 5, 0, 0, 2, 0, [])), (2, (0, 3, 1, 0, 3, 0, [])), (3, (0, 3, 2, 0, 4, 0, [])), (4, (16, 0, 0, 0, 7, 0, [])), (7, (0, 19, 0, 0, 8, 0, [])), (8, (8, 16, 0, 3, 11, 0, [])), (11, (3, 0, 0, 0, 0, 22, [])), (16, (0, 0, 0, 1, 17, 0, [])), (17, (14, 0, 0, 0, 0, 0, [])), (20, (0, 0, 0, 2, 21, 0, [])), (21, (14, 0, 0, 0, 0, 0, [])), (22, (0, 0, 0, 0, 23, 0, [])), (23, (14, 0, 0, 0, 0, 0, []))], [(some 15, 3, [gc_yX10_ofRow_a])], [(4, [("java/lang/IndexOutOfBoundsException", 16), ("java/lang/IllegalArgumentException", 20)])], [], [])
theorem gk_yL_ofRow_a : ck_chk ge_yL_ofRow_a 19 = true := by decide +kernel
theorem gd_yL_ofRow_a : ck_dec method_40_code gt_yL_ofRow_a ge_yL_ofRow_a.2.2.2.2.1 = true := by decide +kernel
theorem gm_yL_ofRow_a {l : Launch} {G : am_G} {X : ck_XT} (g : gE l G X) : ck_Con (am_cm l G yL_ofRow (.codeWith yL_ofRow method_40_code 5 (some .int) [(0, 11, 14, 25), (0, 11, 18, 19)]) 8 133) G X gT gc_yL_ofRow_a :=
  ck_methH (E := ge_yL_ofRow_a) (tb := gt_yL_ofRow_a) (init := false) (cm := ck_cms [am_cm l G yX10_ofRow (.code yX10_ofRow prog_1_method_45_code 3 (some .int)) 7 111]) g.1 g.2.1 g.2.2.1 g.2.2.2 gT_w (by decide +kernel) rfl rfl (ck_at1 (List.forall_mem_cons.mpr ⟨⟨[], _, _, _, rfl, (List.forall_mem_nil _), by decide, by decide, w1235, w1046, by decide, Or.inl ⟨rfl, rfl⟩⟩, (List.forall_mem_cons.mpr ⟨⟨[(0, 11, 14, 25)], _, _, _, rfl, (List.forall_mem_cons.mpr ⟨⟨by decide, _, w1235, w77⟩, (List.forall_mem_nil _)⟩), by decide, by decide, w1216, w676, by decide, Or.inl ⟨rfl, rfl⟩⟩, (List.forall_mem_nil _)⟩)⟩)) rfl (by decide) gk_yL_ofRow_a gd_yL_ofRow_a ⟨(List.forall_mem_nil _), (List.forall_mem_nil _), (List.forall_mem_nil _), (List.forall_mem_nil _), (List.forall_mem_nil _), (List.forall_mem_nil _), (List.forall_mem_nil _), (List.forall_mem_nil _)⟩ (List.forall_mem_cons.mpr ⟨⟨⟨_, _, _, rfl, Or.inr (Or.inl ⟨_, w1206⟩)⟩, by decide, _, rfl, Or.inl g_fd16_0⟩, (List.forall_mem_nil _)⟩) rfl ⟨_, rfl, rfl⟩ (by decide) (by decide) g_oi g_ar
    (fun s hk _ => (List.forall_mem_nil _)) (fun s hk => (List.forall_mem_nil _)) (ck_cms_ok ⟨(List.forall_mem_cons.mpr ⟨((gm_yX10_ofRow_a g)), (List.forall_mem_nil _)⟩), trivial⟩)
    (List.forall_mem_cons.mpr ⟨(ck_kV g_y_yX10_ofRow w1574 w1575 w1576 (T := TX10) (N := 13) rfl (by decide) (by decide) (by decide)), (List.forall_mem_nil _)⟩) (List.forall_mem_nil _) (List.forall_mem_nil _) (List.forall_mem_nil _)
    rfl (ck_no5 rfl)
theorem g_y_yL_agree : ck_yW yL_agree method_41_code 5 4 (some .int) [(0, 18, 21, 25)] := ⟨w1581, w80, by decide +kernel, by decide +kernel, by decide +kernel⟩
def gc_yL_agree_a : ck_KK := (([((-2147483648), 2147483647), ((-2147483648), 2147483647)], [], [(2, 0, 0, 1015, (0, 0, (13, []))), (2, 1, 0, 1016, (0, 0, (2, [])))], 2, [(3, 0, (0, [])), (1, 0, (0, [(1, 0)])), (1, 0, (0, [(1, 1)])), (3, 1, (0, []))]), ((2, []), (12, [])), [(1016, 0)], [], ([(0, 1)], [], [], 0, [(1, 0, (0, [(1, 2)]))]), [])
def gt_yL_agree_a : ck_TB := ([], [], [], [], [(13, 16, 0, 3)], [], [], [], ([(151, 0)], [], [], []), [], [], [], 0)
def ge_yL_agree_a : ck_E := (gT, [], gc_yL_agree_a, 5, [(0, (0, 5, 3, 0, 1, 0, [])), (1, (0, 5, 0, 0, 2, 0, [])), (2, (0, 3, 1, 0, 3, 0, [])), (3, (0, 3, 2, 0, 4, 0, [])), (4, (16, 0, 0, 0, 7, 0, [])), (7, (1, 0, 0, 0, 10, 14, [])), (10, (0, 1, 0, 1, 11, 0, [])), (11, (3, 0, 0, 0, 0, 15, [])), (14, (0, 1, 0, 0, 15, 0, [])), (15, (8, 16, 0, 3, 18, 0, [])), (18, (3, 0, 0, 0, 0, 25, [])), (23, (0, 0, 0, 1, 24, 0, [])), (24, (14, 0, 0, 0, 0, 0, [])), (25, (0, 0, 0, 0, 26, 0, [])), (26, (14, 0, 0, 0, 0, 0, []))], [(some 15, 3, [gc_yX10_agree_a])], [(4, [("java/lang/IndexOutOfBoundsException", 23)])], [], [])
theorem gk_yL_agree_a : ck_chk ge_yL_agree_a 24 = true := by decide +kernel
theorem gd_yL_agree_a : ck_dec method_41_code gt_yL_agree_a ge_yL_agree_a.2.2.2.2.1 = true := by decide +kernel
theorem gm_yL_agree_a {l : Launch} {G : am_G} {X : ck_XT} (g : gE l G X) : ck_Con (am_cm l G yL_agree (.codeWith yL_agree method_41_code 5 (some .int) [(0, 18, 21, 25)]) 8 133) G X gT gc_yL_agree_a :=
  ck_methH (E := ge_yL_agree_a) (tb := gt_yL_agree_a) (init := false) (cm := ck_cms [am_cm l G yX10_agree (.code yX10_agree prog_1_method_46_code 3 (some .boolean)) 7 111]) g.1 g.2.1 g.2.2.1 g.2.2.2 gT_w (by decide +kernel) rfl rfl (ck_at1 (List.forall_mem_cons.mpr ⟨⟨[], _, _, _, rfl, (List.forall_mem_nil _), by decide, by decide, w1235, w1046, by decide, Or.inl ⟨rfl, rfl⟩⟩, (List.forall_mem_nil _)⟩)) rfl (by decide) gk_yL_agree_a gd_yL_agree_a ⟨(List.forall_mem_nil _), (List.forall_mem_nil _), (List.forall_mem_nil _), (List.forall_mem_nil _), (List.forall_mem_nil _), (List.forall_mem_nil _), (List.forall_mem_nil _), (List.forall_mem_nil _)⟩ (List.forall_mem_cons.mpr ⟨⟨⟨_, _, _, rfl, Or.inr (Or.inl ⟨_, w1206⟩)⟩, by decide, _, rfl, Or.inl g_fd16_0⟩, (List.forall_mem_nil _)⟩) rfl ⟨_, rfl, rfl⟩ (by decide) (by decide) g_oi g_ar
    (fun s hk _ => (List.forall_mem_nil _)) (fun s hk => (List.forall_mem_nil _)) (ck_cms_ok ⟨(List.forall_mem_cons.mpr ⟨((gm_yX10_agree_a g)), (List.forall_mem_nil _)⟩), trivial⟩)
    (List.forall_mem_cons.mpr ⟨(ck_kV g_y_yX10_agree w1582 w1583 w1584 (T := TX10) (N := 13) rfl (by decide) (by decide) (by decide)), (List.forall_mem_nil _)⟩) (List.forall_mem_nil _) (List.forall_mem_nil _) (List.forall_mem_nil _)
    rfl (ck_no5 rfl)
theorem g_y_yL_wouldJoin : ck_yW yL_wouldJoin method_42_code 5 4 (some .int) [(0, 18, 21, 19)] := ⟨w1588, w80, by decide +kernel, by decide +kernel, by decide +kernel⟩
def gc_yL_wouldJoin_a : ck_KK := (([((-2147483648), 2147483647), ((-2147483648), 2147483647)], [], [(2, 0, 0, 1015, (0, 0, (13, []))), (2, 1, 0, 1016, (0, 0, (2, [])))], 2, [(3, 0, (0, [])), (1, 0, (0, [(1, 0)])), (1, 0, (0, [(1, 1)])), (3, 1, (0, []))]), ((1, []), (6, [])), [(1011, 0), (1011, 1), (1011, 2), (1016, 0)], [], ([(0, 1)], [], [], 0, [(1, 0, (0, [(1, 2)]))]), [])
def gt_yL_wouldJoin_a : ck_TB := ([], [], [], [], [(13, 16, 0, 3)], [], [], [], ([(154, 0)], [], [], []), [], [], [], 0)
def ge_yL_wouldJoin_a : ck_E := (gT, [], gc_yL_wouldJoin_a, 5, [(0, (0, 5, 3, 0, 1, 0, [])), (1, (0, 5, 0, 0, 2, 0, [])), (2, (0, 3, 1, 0, 3, 0, [])), (3, (0, 3, 2, 0, 4, 0, [])), (4, (16, 0, 0, 0, 7, 0, [])), (7, (1, 0, 0, 0, 10, 14, [])), (10, (0, 1, 0, 1, 11, 0, [])), (11, (3, 0, 0, 0, 0, 15, [])), (14, (0, 1, 0, 0, 15, 0, [])), (15, (8, 16, 0, 3, 18, 0, [])), (18, (3, 0, 0, 0, 0, 25, [])), (23, (0, 0, 0, 1, 24, 0, [])), (24, (14, 0, 0, 0, 0, 0, [])), (25, (0, 0, 0, 0, 26, 0, [])), (26, (14, 0, 0, 0, 0, 0, []))], [(some 15, 3, [gc_yX10_wouldJoin_a])], [(4, [("java/lang/IllegalArgumentException", 23)])], [], [])
theorem gk_yL_wouldJoin_a : ck_chk ge_yL_wouldJoin_a 24 = true := by decide +kernel
theorem gd_yL_wouldJoin_a : ck_dec method_42_code gt_yL_wouldJoin_a ge_yL_wouldJoin_a.2.2.2.2.1 = true := by decide +kernel
theorem gm_yL_wouldJoin_a {l : Launch} {G : am_G} {X : ck_XT} (g : gE l G X) : ck_Con (am_cm l G yL_wouldJoin (.codeWith yL_wouldJoin method_42_code 5 (some .int) [(0, 18, 21, 19)]) 8 139) G X gT gc_yL_wouldJoin_a :=
  ck_methH (E := ge_yL_wouldJoin_a) (tb := gt_yL_wouldJoin_a) (init := false) (cm := ck_cms [am_cm l G yX10_wouldJoin (.code yX10_wouldJoin prog_1_method_48_code 3 (some .boolean)) 7 117]) g.1 g.2.1 g.2.2.1 g.2.2.2 gT_w (by decide +kernel) rfl rfl (ck_at1 (List.forall_mem_cons.mpr ⟨⟨[], _, _, _, rfl, (List.forall_mem_nil _), by decide, by decide, w1216, w676, by decide, Or.inl ⟨rfl, rfl⟩⟩, (List.forall_mem_nil _)⟩)) rfl (by decide) gk_yL_wouldJoin_a gd_yL_wouldJoin_a ⟨(List.forall_mem_nil _), (List.forall_mem_nil _), (List.forall_mem_nil _), (List.forall_mem_nil _), (List.forall_mem_nil _), (List.forall_mem_nil _), (List.forall_mem_nil _), (List.forall_mem_nil _)⟩ (List.forall_mem_cons.mpr ⟨⟨⟨_, _, _, rfl, Or.inr (Or.inl ⟨_, w1206⟩)⟩, by decide, _, rfl, Or.inl g_fd16_0⟩, (List.forall_mem_nil _)⟩) rfl ⟨_, rfl, rfl⟩ (by decide) (by decide) g_oi g_ar
    (fun s hk _ => (List.forall_mem_nil _)) (fun s hk => (List.forall_mem_nil _)) (ck_cms_ok ⟨(List.forall_mem_cons.mpr ⟨((gm_yX10_wouldJoin_a g)), (List.forall_mem_nil _)⟩), trivial⟩)
    (List.forall_mem_cons.mpr ⟨(ck_kV g_y_yX10_wouldJoin w1589 w1590 w1591 (T := TX10) (N := 13) rfl (by decide) (by decide) (by decide)), (List.forall_mem_nil _)⟩) (List.forall_mem_nil _) (List.forall_mem_nil _) (List.forall_mem_nil _)
    rfl (ck_no5 rfl)
theorem g_y_yL_clash : ck_yW yL_clash method_43_code 4 3 (some .int) [(0, 10, 13, 19)] := ⟨w1595, w80, by decide +kernel, by decide +kernel, by decide +kernel⟩
def gc_yL_clash_a : ck_KK := (([((-2147483648), 2147483647)], [], [(2, 0, 0, 1015, (0, 0, (13, []))), (2, 1, 0, 1016, (0, 0, (2, [])))], 2, [(3, 0, (0, [])), (1, 0, (0, [(1, 0)])), (3, 1, (0, []))]), ((1, []), (6, [])), [(1016, 0)], [], ([(0, 1)], [], [], 0, [(1, 0, (0, [(1, 1)]))]), [])
def gt_yL_clash_a : ck_TB := ([], [], [], [], [(13, 16, 0, 3)], [], [], [], ([(157, 0)], [], [], []), [], [], [], 0)
def ge_yL_clash_a : ck_E := (gT, [], gc_yL_clash_a, 4, [(0, (0, 5, 2, 0, 1, 0, [])), (1, (0, 5, 0, 0, 2, 0, [])), (2, (0, 3, 1, 0, 3, 0, [])), (3, (16, 0, 0, 0, 6, 0, [])), (6, (0, 19, 0, 0, 7, 0, [])), (7, (8, 16, 0, 3, 10, 0, [])), (10, (3, 0, 0, 0, 0, 16, [])), (14, (0, 0, 0, 1, 15, 0, [])), (15, (14, 0, 0, 0, 0, 0, [])), (16, (0, 0, 0, 0, 17, 0, [])), (17, (14, 0, 0, 0, 0, 0, []))], [(some 15, 2, [gc_yX10_clash_a])], [(3, [("java/lang/IllegalArgumentException", 14)])], [], [])
theorem gk_yL_clash_a : ck_chk ge_yL_clash_a 16 = true := by decide +kernel
theorem gd_yL_clash_a : ck_dec method_43_code gt_yL_clash_a ge_yL_clash_a.2.2.2.2.1 = true := by decide +kernel
theorem gm_yL_clash_a {l : Launch} {G : am_G} {X : ck_XT} (g : gE l G X) : ck_Con (am_cm l G yL_clash (.codeWith yL_clash method_43_code 4 (some .int) [(0, 10, 13, 19)]) 7 112) G X gT gc_yL_clash_a :=
  ck_methH (E := ge_yL_clash_a) (tb := gt_yL_clash_a) (init := false) (cm := ck_cms [am_cm l G yX10_clash (.code yX10_clash prog_1_method_51_code 2 (some .int)) 6 91]) g.1 g.2.1 g.2.2.1 g.2.2.2 gT_w (by decide +kernel) rfl rfl (ck_at1 (List.forall_mem_cons.mpr ⟨⟨[], _, _, _, rfl, (List.forall_mem_nil _), by decide, by decide, w1216, w676, by decide, Or.inr ⟨3, rfl, rfl, rfl⟩⟩, (List.forall_mem_nil _)⟩)) rfl (by decide) gk_yL_clash_a gd_yL_clash_a ⟨(List.forall_mem_nil _), (List.forall_mem_nil _), (List.forall_mem_nil _), (List.forall_mem_nil _), (List.forall_mem_nil _), (List.forall_mem_nil _), (List.forall_mem_nil _), (List.forall_mem_nil _)⟩ (List.forall_mem_cons.mpr ⟨⟨⟨_, _, _, rfl, Or.inr (Or.inl ⟨_, w1206⟩)⟩, by decide, _, rfl, Or.inl g_fd16_0⟩, (List.forall_mem_nil _)⟩) rfl ⟨_, rfl, rfl⟩ (by decide) (by decide) g_oi g_ar
    (fun s hk _ => (List.forall_mem_nil _)) (fun s hk => (List.forall_mem_nil _)) (ck_cms_ok ⟨(List.forall_mem_cons.mpr ⟨((gm_yX10_clash_a g)), (List.forall_mem_nil _)⟩), trivial⟩)
    (List.forall_mem_cons.mpr ⟨(ck_kV g_y_yX10_clash w1596 w1597 w1598 (T := TX10) (N := 13) rfl (by decide) (by decide) (by decide)), (List.forall_mem_nil _)⟩) (List.forall_mem_nil _) (List.forall_mem_nil _) (List.forall_mem_nil _)
    rfl (ck_no5 rfl)
theorem g_y_yL_broken : ck_yW yL_broken method_44_code 4 3 (some .int) [(0, 10, 13, 25)] := ⟨w1602, w80, by decide +kernel, by decide +kernel, by decide +kernel⟩
def gc_yL_broken_a : ck_KK := (([((-2147483648), 2147483647)], [], [(2, 0, 0, 1015, (0, 0, (13, []))), (2, 1, 0, 1016, (0, 0, (2, [])))], 2, [(3, 0, (0, [])), (1, 0, (0, [(1, 0)])), (3, 1, (0, []))]), ((1, []), (6, [])), [(1016, 0)], [], ([(0, 1)], [], [], 0, [(1, 0, (0, [(1, 1)]))]), [])
def gt_yL_broken_a : ck_TB := ([], [], [], [], [(13, 16, 0, 3)], [], [], [], ([(160, 0)], [], [], []), [], [], [], 0)
def ge_yL_broken_a : ck_E := (gT, [], gc_yL_broken_a, 4, [(0, (0, 5, 2, 0, 1, 0, [])), (1, (0, 5, 0, 0, 2, 0, [])), (2, (0, 3, 1, 0, 3, 0, [])), (3, (16, 0, 0, 0, 6, 0, [])), (6, (0, 19, 0, 0, 7, 0, [])), (7, (8, 16, 0, 3, 10, 0, [])), (10, (3, 0, 0, 0, 0, 16, [])), (14, (0, 0, 0, 1, 15, 0, [])), (15, (14, 0, 0, 0, 0, 0, [])), (16, (0, 0, 0, 0, 17, 0, [])), (17, (14, 0, 0, 0, 0, 0, []))], [(some 15, 2, [gc_yX10_broken_a])], [(3, [("java/lang/IndexOutOfBoundsException", 14)])], [], [])
theorem gk_yL_broken_a : ck_chk ge_yL_broken_a 16 = true := by decide +kernel
theorem gd_yL_broken_a : ck_dec method_44_code gt_yL_broken_a ge_yL_broken_a.2.2.2.2.1 = true := by decide +kernel
theorem gm_yL_broken_a {l : Launch} {G : am_G} {X : ck_XT} (g : gE l G X) : ck_Con (am_cm l G yL_broken (.codeWith yL_broken method_44_code 4 (some .int) [(0, 10, 13, 25)]) 8 134) G X gT gc_yL_broken_a :=
  ck_methH (E := ge_yL_broken_a) (tb := gt_yL_broken_a) (init := false) (cm := ck_cms [am_cm l G yX10_broken (.code yX10_broken prog_1_method_52_code 4 (some .int)) 7 111]) g.1 g.2.1 g.2.2.1 g.2.2.2 gT_w (by decide +kernel) rfl rfl (ck_at1 (List.forall_mem_cons.mpr ⟨⟨[], _, _, _, rfl, (List.forall_mem_nil _), by decide, by decide, w1235, w1046, by decide, Or.inr ⟨3, rfl, rfl, rfl⟩⟩, (List.forall_mem_nil _)⟩)) rfl (by decide) gk_yL_broken_a gd_yL_broken_a ⟨(List.forall_mem_nil _), (List.forall_mem_nil _), (List.forall_mem_nil _), (List.forall_mem_nil _), (List.forall_mem_nil _), (List.forall_mem_nil _), (List.forall_mem_nil _), (List.forall_mem_nil _)⟩ (List.forall_mem_cons.mpr ⟨⟨⟨_, _, _, rfl, Or.inr (Or.inl ⟨_, w1206⟩)⟩, by decide, _, rfl, Or.inl g_fd16_0⟩, (List.forall_mem_nil _)⟩) rfl ⟨_, rfl, rfl⟩ (by decide) (by decide) g_oi g_ar
    (fun s hk _ => (List.forall_mem_nil _)) (fun s hk => (List.forall_mem_nil _)) (ck_cms_ok ⟨(List.forall_mem_cons.mpr ⟨((gm_yX10_broken_a g)), (List.forall_mem_nil _)⟩), trivial⟩)
    (List.forall_mem_cons.mpr ⟨(ck_kV g_y_yX10_broken w1603 w1135 w1136 (T := TX10) (N := 13) rfl (by decide) (by decide) (by decide)), (List.forall_mem_nil _)⟩) (List.forall_mem_nil _) (List.forall_mem_nil _) (List.forall_mem_nil _)
    rfl (ck_no5 rfl)
theorem g_y_yL_residues : ck_yW yL_residues method_45_code 4 3 (some .int) [(0, 9, 12, 25)] := ⟨w1606, w80, by decide +kernel, by decide +kernel, by decide +kernel⟩
def gc_yL_residues_a : ck_KK := (([((-2147483648), 2147483647)], [], [(2, 0, 0, 1015, (0, 0, (13, []))), (2, 1, 0, 1016, (0, 0, (2, [])))], 2, [(3, 0, (0, [])), (1, 0, (0, [(1, 0)])), (3, 1, (0, []))]), ((23, []), (3810, [])), [(151, 1000), (1001, 0), (1001, 2), (1001, 3), (1016, 1), (1051, 1000)], [], ([(0, 1)], [], [], 0, [(1, 0, (0, [(1, 1)]))]), [])
def gt_yL_residues_a : ck_TB := ([], [], [], [], [(80, 16, 1, 4)], [], [], [], ([(163, 0)], [], [], []), [], [], [], 0)
def ge_yL_residues_a : ck_E := (gT, [], gc_yL_residues_a, 4, [(0, (0, 5, 2, 0, 1, 0, [])), (1, (0, 5, 0, 0, 2, 0, [])), (2, (0, 3, 1, 0, 3, 0, [])), (3, (16, 0, 0, 0, 6, 0, [])), (6, (8, 16, 1, 4, 9, 0, [])), (9, (3, 0, 0, 0, 0, 15, [])), (13, (0, 0, 0, 1, 14, 0, [])), (14, (14, 0, 0, 0, 0, 0, [])), (15, (0, 0, 0, 0, 16, 0, [])), (16, (14, 0, 0, 0, 0, 0, []))], [(some 15, 2, [gc_yX10_residues_a])], [(3, [("java/lang/IndexOutOfBoundsException", 13)])], [], [])
theorem gk_yL_residues_a : ck_chk ge_yL_residues_a 15 = true := by decide +kernel
theorem gd_yL_residues_a : ck_dec method_45_code gt_yL_residues_a ge_yL_residues_a.2.2.2.2.1 = true := by decide +kernel
theorem gm_yL_residues_a {l : Launch} {G : am_G} {X : ck_XT} (g : gE l G X) : ck_Con (am_cm l G yL_residues (.codeWith yL_residues method_45_code 4 (some .int) [(0, 9, 12, 25)]) 10 217) G X gT gc_yL_residues_a :=
  ck_methH (E := ge_yL_residues_a) (tb := gt_yL_residues_a) (init := false) (cm := ck_cms [am_cm l G yX10_residues (.code yX10_residues prog_1_method_55_code 2 (some (.object "java/lang/String"))) 9 196]) g.1 g.2.1 g.2.2.1 g.2.2.2 gT_w (by decide +kernel) rfl rfl (ck_at1 (List.forall_mem_cons.mpr ⟨⟨[], _, _, _, rfl, (List.forall_mem_nil _), by decide, by decide, w1235, w1046, by decide, Or.inr ⟨3, rfl, rfl, rfl⟩⟩, (List.forall_mem_nil _)⟩)) rfl (by decide) gk_yL_residues_a gd_yL_residues_a ⟨(List.forall_mem_nil _), (List.forall_mem_nil _), (List.forall_mem_nil _), (List.forall_mem_nil _), (List.forall_mem_nil _), (List.forall_mem_nil _), (List.forall_mem_nil _), (List.forall_mem_nil _)⟩ (List.forall_mem_cons.mpr ⟨⟨⟨_, _, _, rfl, Or.inr (Or.inl ⟨_, w1207⟩)⟩, by decide, _, Or.inl ⟨_, rfl⟩, Or.inl g_fd16_1⟩, (List.forall_mem_nil _)⟩) rfl ⟨_, rfl, rfl⟩ (by decide) (by decide) g_oi g_ar
    (fun s hk _ => (List.forall_mem_nil _)) (fun s hk => (List.forall_mem_nil _)) (ck_cms_ok ⟨(List.forall_mem_cons.mpr ⟨((gm_yX10_residues_a g)), (List.forall_mem_nil _)⟩), trivial⟩)
    (List.forall_mem_cons.mpr ⟨(ck_kV g_y_yX10_residues w1607 w1608 w1609 (T := TX10) (N := 13) rfl (by decide) (by decide) (by decide)), (List.forall_mem_nil _)⟩) (List.forall_mem_nil _) (List.forall_mem_nil _) (List.forall_mem_nil _)
    rfl (ck_no5 rfl)
theorem g_y_yL_back : ck_yW yL_back method_46_code 4 3 (some .int) [(0, 9, 12, 25)] := ⟨w1613, w80, by decide +kernel, by decide +kernel, by decide +kernel⟩
def gc_yL_back_a : ck_KK := (([((-2147483648), 2147483647)], [], [(2, 0, 0, 1015, (0, 0, (13, []))), (2, 1, 0, 1016, (0, 0, (2, [])))], 2, [(3, 0, (0, [])), (1, 0, (0, [(1, 0)])), (3, 1, (0, []))]), ((103, []), (4410, [])), [(151, 1000), (1001, 0), (1001, 2), (1001, 3), (1007, 1), (1007, 2), (1011, 0), (1011, 1), (1011, 2), (1016, 1), (1050, 0), (1050, 1000), (1051, 1000)], [], ([(0, 1)], [], [], 0, [(1, 0, (0, [(1, 1)]))]), [])
def gt_yL_back_a : ck_TB := ([], [], [], [], [(80, 16, 1, 4)], [], [], [], ([(166, 0)], [], [], []), [], [], [], 0)
def ge_yL_back_a : ck_E := (gT, [], gc_yL_back_a, 4, [(0, (0, 5, 2, 0, 1, 0, [])), (1, (0, 5, 0, 0, 2, 0, [])), (2, (0, 3, 1, 0, 3, 0, [])), (3, (16, 0, 0, 0, 6, 0, [])), (6, (8, 16, 1, 4, 9, 0, [])), (9, (3, 0, 0, 0, 0, 15, [])), (13, (0, 0, 0, 1, 14, 0, [])), (14, (14, 0, 0, 0, 0, 0, [])), (15, (0, 0, 0, 0, 16, 0, [])), (16, (14, 0, 0, 0, 0, 0, []))], [(some 15, 2, [gc_yX10_back_a])], [(3, [("java/lang/IndexOutOfBoundsException", 13)])], [], [])
theorem gk_yL_back_a : ck_chk ge_yL_back_a 15 = true := by decide +kernel
theorem gd_yL_back_a : ck_dec method_46_code gt_yL_back_a ge_yL_back_a.2.2.2.2.1 = true := by decide +kernel
theorem gm_yL_back_a {l : Launch} {G : am_G} {X : ck_XT} (g : gE l G X) : ck_Con (am_cm l G yL_back (.codeWith yL_back method_46_code 4 (some .int) [(0, 9, 12, 25)]) 11 243) G X gT gc_yL_back_a :=
  ck_methH (E := ge_yL_back_a) (tb := gt_yL_back_a) (init := false) (cm := ck_cms [am_cm l G yX10_back (.code yX10_back prog_1_method_56_code 2 (some (.object "java/lang/String"))) 10 222]) g.1 g.2.1 g.2.2.1 g.2.2.2 gT_w (by decide +kernel) rfl rfl (ck_at1 (List.forall_mem_cons.mpr ⟨⟨[], _, _, _, rfl, (List.forall_mem_nil _), by decide, by decide, w1235, w1046, by decide, Or.inr ⟨3, rfl, rfl, rfl⟩⟩, (List.forall_mem_nil _)⟩)) rfl (by decide) gk_yL_back_a gd_yL_back_a ⟨(List.forall_mem_nil _), (List.forall_mem_nil _), (List.forall_mem_nil _), (List.forall_mem_nil _), (List.forall_mem_nil _), (List.forall_mem_nil _), (List.forall_mem_nil _), (List.forall_mem_nil _)⟩ (List.forall_mem_cons.mpr ⟨⟨⟨_, _, _, rfl, Or.inr (Or.inl ⟨_, w1207⟩)⟩, by decide, _, Or.inl ⟨_, rfl⟩, Or.inl g_fd16_1⟩, (List.forall_mem_nil _)⟩) rfl ⟨_, rfl, rfl⟩ (by decide) (by decide) g_oi g_ar
    (fun s hk _ => (List.forall_mem_nil _)) (fun s hk => (List.forall_mem_nil _)) (ck_cms_ok ⟨(List.forall_mem_cons.mpr ⟨((gm_yX10_back_a g)), (List.forall_mem_nil _)⟩), trivial⟩)
    (List.forall_mem_cons.mpr ⟨(ck_kV g_y_yX10_back w1614 w1615 w1616 (T := TX10) (N := 13) rfl (by decide) (by decide) (by decide)), (List.forall_mem_nil _)⟩) (List.forall_mem_nil _) (List.forall_mem_nil _) (List.forall_mem_nil _)
    rfl (ck_no5 rfl)
theorem g_y_yL_sumBack : ck_yW yL_sumBack method_47_code 5 4 (some .int) [(0, 10, 13, 25)] := ⟨w1620, w80, by decide +kernel, by decide +kernel, by decide +kernel⟩
def gc_yL_sumBack_a : ck_KK := (([((-2147483648), 2147483647), ((-2147483648), 2147483647)], [], [(2, 0, 0, 1015, (0, 0, (13, []))), (2, 1, 0, 1016, (0, 0, (2, [])))], 2, [(3, 0, (0, [])), (1, 0, (0, [(1, 0)])), (1, 0, (0, [(1, 1)])), (3, 1, (0, []))]), ((104, []), (4416, [])), [(151, 1000), (1001, 0), (1001, 2), (1001, 3), (1007, 1), (1007, 2), (1011, 0), (1011, 1), (1011, 2), (1016, 1), (1050, 0), (1050, 1000), (1051, 1000)], [], ([(0, 1)], [], [], 0, [(1, 0, (0, [(1, 2)]))]), [])
def gt_yL_sumBack_a : ck_TB := ([], [], [], [], [(80, 16, 1, 4)], [], [], [], ([(169, 0)], [], [], []), [], [], [], 0)
def ge_yL_sumBack_a : ck_E := (gT, [], gc_yL_sumBack_a, 5, [(0, (0, 5, 3, 0, 1, 0, [])), (1, (0, 5, 0, 0, 2, 0, [])), (2, (0, 3, 1, 0, 3, 0, [])), (3, (0, 3, 2, 0, 4, 0, [])), (4, (16, 0, 0, 0, 7, 0, [])), (7, (8, 16, 1, 4, 10, 0, [])), (10, (3, 0, 0, 0, 0, 17, [])), (15, (0, 0, 0, 1, 16, 0, [])), (16, (14, 0, 0, 0, 0, 0, [])), (17, (0, 0, 0, 0, 18, 0, [])), (18, (14, 0, 0, 0, 0, 0, []))], [(some 15, 3, [gc_yX10_sumBack_a])], [(4, [("java/lang/IndexOutOfBoundsException", 15)])], [], [])
theorem gk_yL_sumBack_a : ck_chk ge_yL_sumBack_a 16 = true := by decide +kernel
theorem gd_yL_sumBack_a : ck_dec method_47_code gt_yL_sumBack_a ge_yL_sumBack_a.2.2.2.2.1 = true := by decide +kernel
theorem gm_yL_sumBack_a {l : Launch} {G : am_G} {X : ck_XT} (g : gE l G X) : ck_Con (am_cm l G yL_sumBack (.codeWith yL_sumBack method_47_code 5 (some .int) [(0, 10, 13, 25)]) 11 246) G X gT gc_yL_sumBack_a :=
  ck_methH (E := ge_yL_sumBack_a) (tb := gt_yL_sumBack_a) (init := false) (cm := ck_cms [am_cm l G yX10_sumBack (.code yX10_sumBack prog_1_method_57_code 5 (some (.object "java/lang/String"))) 10 222]) g.1 g.2.1 g.2.2.1 g.2.2.2 gT_w (by decide +kernel) rfl rfl (ck_at1 (List.forall_mem_cons.mpr ⟨⟨[], _, _, _, rfl, (List.forall_mem_nil _), by decide, by decide, w1235, w1046, by decide, Or.inl ⟨rfl, rfl⟩⟩, (List.forall_mem_nil _)⟩)) rfl (by decide) gk_yL_sumBack_a gd_yL_sumBack_a ⟨(List.forall_mem_nil _), (List.forall_mem_nil _), (List.forall_mem_nil _), (List.forall_mem_nil _), (List.forall_mem_nil _), (List.forall_mem_nil _), (List.forall_mem_nil _), (List.forall_mem_nil _)⟩ (List.forall_mem_cons.mpr ⟨⟨⟨_, _, _, rfl, Or.inr (Or.inl ⟨_, w1207⟩)⟩, by decide, _, Or.inl ⟨_, rfl⟩, Or.inl g_fd16_1⟩, (List.forall_mem_nil _)⟩) rfl ⟨_, rfl, rfl⟩ (by decide) (by decide) g_oi g_ar
    (fun s hk _ => (List.forall_mem_nil _)) (fun s hk => (List.forall_mem_nil _)) (ck_cms_ok ⟨(List.forall_mem_cons.mpr ⟨((gm_yX10_sumBack_a g)), (List.forall_mem_nil _)⟩), trivial⟩)
    (List.forall_mem_cons.mpr ⟨(ck_kV g_y_yX10_sumBack w1621 w1622 w1623 (T := TX10) (N := 13) rfl (by decide) (by decide) (by decide)), (List.forall_mem_nil _)⟩) (List.forall_mem_nil _) (List.forall_mem_nil _) (List.forall_mem_nil _)
    rfl (ck_no5 rfl)
theorem g_y_yL_productBack : ck_yW yL_productBack method_48_code 5 4 (some .int) [(0, 10, 13, 25)] := ⟨w1627, w80, by decide +kernel, by decide +kernel, by decide +kernel⟩
def gc_yL_productBack_a : ck_KK := (([((-2147483648), 2147483647), ((-2147483648), 2147483647)], [], [(2, 0, 0, 1015, (0, 0, (13, []))), (2, 1, 0, 1016, (0, 0, (2, [])))], 2, [(3, 0, (0, [])), (1, 0, (0, [(1, 0)])), (1, 0, (0, [(1, 1)])), (3, 1, (0, []))]), ((104, []), (4416, [])), [(151, 1000), (1001, 0), (1001, 2), (1001, 3), (1007, 1), (1007, 2), (1011, 0), (1011, 1), (1011, 2), (1016, 1), (1050, 0), (1050, 1000), (1051, 1000)], [], ([(0, 1)], [], [], 0, [(1, 0, (0, [(1, 2)]))]), [])
def gt_yL_productBack_a : ck_TB := ([], [], [], [], [(80, 16, 1, 4)], [], [], [], ([(172, 0)], [], [], []), [], [], [], 0)
def ge_yL_productBack_a : ck_E := (gT, [], gc_yL_productBack_a, 5, [(0, (0, 5, 3, 0, 1, 0, [])), (1, (0, 5, 0, 0, 2, 0, [])), (2, (0, 3, 1, 0, 3, 0, [])), (3, (0, 3, 2, 0, 4, 0, [])), (4, (16, 0, 0, 0, 7, 0, [])), (7, (8, 16, 1, 4, 10, 0, [])), (10, (3, 0, 0, 0, 0, 17, [])), (15, (0, 0, 0, 1, 16, 0, [])), (16, (14, 0, 0, 0, 0, 0, [])), (17, (0, 0, 0, 0, 18, 0, [])), (18, (14, 0, 0, 0, 0, 0, []))], [(some 15, 3, [gc_yX10_productBack_a])], [(4, [("java/lang/IndexOutOfBoundsException", 15)])], [], [])
theorem gk_yL_productBack_a : ck_chk ge_yL_productBack_a 16 = true := by decide +kernel
theorem gd_yL_productBack_a : ck_dec method_48_code gt_yL_productBack_a ge_yL_productBack_a.2.2.2.2.1 = true := by decide +kernel
theorem gm_yL_productBack_a {l : Launch} {G : am_G} {X : ck_XT} (g : gE l G X) : ck_Con (am_cm l G yL_productBack (.codeWith yL_productBack method_48_code 5 (some .int) [(0, 10, 13, 25)]) 11 246) G X gT gc_yL_productBack_a :=
  ck_methH (E := ge_yL_productBack_a) (tb := gt_yL_productBack_a) (init := false) (cm := ck_cms [am_cm l G yX10_productBack (.code yX10_productBack prog_1_method_58_code 5 (some (.object "java/lang/String"))) 10 222]) g.1 g.2.1 g.2.2.1 g.2.2.2 gT_w (by decide +kernel) rfl rfl (ck_at1 (List.forall_mem_cons.mpr ⟨⟨[], _, _, _, rfl, (List.forall_mem_nil _), by decide, by decide, w1235, w1046, by decide, Or.inl ⟨rfl, rfl⟩⟩, (List.forall_mem_nil _)⟩)) rfl (by decide) gk_yL_productBack_a gd_yL_productBack_a ⟨(List.forall_mem_nil _), (List.forall_mem_nil _), (List.forall_mem_nil _), (List.forall_mem_nil _), (List.forall_mem_nil _), (List.forall_mem_nil _), (List.forall_mem_nil _), (List.forall_mem_nil _)⟩ (List.forall_mem_cons.mpr ⟨⟨⟨_, _, _, rfl, Or.inr (Or.inl ⟨_, w1207⟩)⟩, by decide, _, Or.inl ⟨_, rfl⟩, Or.inl g_fd16_1⟩, (List.forall_mem_nil _)⟩) rfl ⟨_, rfl, rfl⟩ (by decide) (by decide) g_oi g_ar
    (fun s hk _ => (List.forall_mem_nil _)) (fun s hk => (List.forall_mem_nil _)) (ck_cms_ok ⟨(List.forall_mem_cons.mpr ⟨((gm_yX10_productBack_a g)), (List.forall_mem_nil _)⟩), trivial⟩)
    (List.forall_mem_cons.mpr ⟨(ck_kV g_y_yX10_productBack w1628 w1629 w1630 (T := TX10) (N := 13) rfl (by decide) (by decide) (by decide)), (List.forall_mem_nil _)⟩) (List.forall_mem_nil _) (List.forall_mem_nil _) (List.forall_mem_nil _)
    rfl (ck_no5 rfl)
theorem g_y_yL_books : ck_yW yL_books method_49_code 4 3 (some .int) [(0, 10, 13, 19)] := ⟨w1634, w80, by decide +kernel, by decide +kernel, by decide +kernel⟩
def gc_yL_books_a : ck_KK := (([((-2147483648), 2147483647)], [], [(2, 0, 0, 1015, (0, 0, (13, []))), (2, 1, 0, 1016, (0, 0, (2, [])))], 2, [(3, 0, (0, [])), (1, 0, (0, [(1, 0)])), (3, 1, (0, []))]), ((1, []), (6, [])), [(1016, 0)], [], ([(0, 1)], [], [], 0, [(1, 0, (0, [(1, 1)]))]), [])
def gt_yL_books_a : ck_TB := ([], [], [], [], [(13, 16, 0, 3)], [], [], [], ([(175, 0)], [], [], []), [], [], [], 0)
def ge_yL_books_a : ck_E := (gT, [], gc_yL_books_a, 4, [(0, (0, 5, 2, 0, 1, 0, [])), (1, (0, 5, 0, 0, 2, 0, [])), (2, (0, 3, 1, 0, 3, 0, [])), (3, (16, 0, 0, 0, 6, 0, [])), (6, (0, 19, 0, 0, 7, 0, [])), (7, (8, 16, 0, 3, 10, 0, [])), (10, (3, 0, 0, 0, 0, 16, [])), (14, (0, 0, 0, 1, 15, 0, [])), (15, (14, 0, 0, 0, 0, 0, [])), (16, (0, 0, 0, 0, 17, 0, [])), (17, (14, 0, 0, 0, 0, 0, []))], [(some 15, 2, [gc_yX10_books_a])], [(3, [("java/lang/IllegalArgumentException", 14)])], [], [])
theorem gk_yL_books_a : ck_chk ge_yL_books_a 16 = true := by decide +kernel
theorem gd_yL_books_a : ck_dec method_49_code gt_yL_books_a ge_yL_books_a.2.2.2.2.1 = true := by decide +kernel
theorem gm_yL_books_a {l : Launch} {G : am_G} {X : ck_XT} (g : gE l G X) : ck_Con (am_cm l G yL_books (.codeWith yL_books method_49_code 4 (some .int) [(0, 10, 13, 19)]) 7 111) G X gT gc_yL_books_a :=
  ck_methH (E := ge_yL_books_a) (tb := gt_yL_books_a) (init := false) (cm := ck_cms [am_cm l G yX10_books (.code yX10_books prog_1_method_59_code 2 (some .int)) 6 90]) g.1 g.2.1 g.2.2.1 g.2.2.2 gT_w (by decide +kernel) rfl rfl (ck_at1 (List.forall_mem_cons.mpr ⟨⟨[], _, _, _, rfl, (List.forall_mem_nil _), by decide, by decide, w1216, w676, by decide, Or.inr ⟨3, rfl, rfl, rfl⟩⟩, (List.forall_mem_nil _)⟩)) rfl (by decide) gk_yL_books_a gd_yL_books_a ⟨(List.forall_mem_nil _), (List.forall_mem_nil _), (List.forall_mem_nil _), (List.forall_mem_nil _), (List.forall_mem_nil _), (List.forall_mem_nil _), (List.forall_mem_nil _), (List.forall_mem_nil _)⟩ (List.forall_mem_cons.mpr ⟨⟨⟨_, _, _, rfl, Or.inr (Or.inl ⟨_, w1206⟩)⟩, by decide, _, rfl, Or.inl g_fd16_0⟩, (List.forall_mem_nil _)⟩) rfl ⟨_, rfl, rfl⟩ (by decide) (by decide) g_oi g_ar
    (fun s hk _ => (List.forall_mem_nil _)) (fun s hk => (List.forall_mem_nil _)) (ck_cms_ok ⟨(List.forall_mem_cons.mpr ⟨((gm_yX10_books_a g)), (List.forall_mem_nil _)⟩), trivial⟩)
    (List.forall_mem_cons.mpr ⟨(ck_kV g_y_yX10_books w1635 w1196 w1197 (T := TX10) (N := 13) rfl (by decide) (by decide) (by decide)), (List.forall_mem_nil _)⟩) (List.forall_mem_nil _) (List.forall_mem_nil _) (List.forall_mem_nil _)
    rfl (ck_no5 rfl)
theorem g_y_yX11_init : ck_y yX11_init prog_13_method_1_code 1 0 none := ⟨w1204, w100, by decide +kernel, by decide +kernel, by decide +kernel⟩
def gc_yX11_init_a : ck_KK := (([], [], [(2, 0, 0, 16, (0, 0, (2, []))), (3, 0, 0, 16, (2, 0, (0, []))), (3, 0, 1, 16, (4, 0, (0, [])))], 1, [(3, 0, (0, []))]), ((0, []), (0, [])), [], [16], ([], [], [(2, 0, 0, 1016, (0, 0, (2, [])))], 0, []), [])
def gt_yX11_init_a : ck_TB := ([], [], [], [], [], [], [], [], ([], [], [], []), [], [1], [], 9)
def ge_yX11_init_a : ck_E := (gT, [], gc_yX11_init_a, 1, [(0, (0, 5, 0, 0, 1, 0, [])), (1, (18, 0, 0, 0, 4, 0, [])), (4, (15, 0, 0, 0, 0, 0, []))], [], [], [(4, [(1, 0, [], 1016, [])])], [])
theorem gk_yX11_init_a : ck_chk ge_yX11_init_a 9 = true := by decide +kernel
theorem gd_yX11_init_a : ck_dec prog_13_method_1_code gt_yX11_init_a ge_yX11_init_a.2.2.2.2.1 = true := by decide +kernel
theorem gm_yX11_init_a {l : Launch} {G : am_G} {X : ck_XT} (g : gE l G X) : ck_Con (am_cm l G yX11_init (.code yX11_init prog_13_method_1_code 1 none) 1 20) G X gT gc_yX11_init_a :=
  ck_meth (E := ge_yX11_init_a) (tb := gt_yX11_init_a) (init := true) (cm := ck_cms []) g.1 g.2.1 g.2.2.1 g.2.2.2 gT_w (by decide +kernel) rfl rfl rfl (by decide) gk_yX11_init_a gd_yX11_init_a ⟨(List.forall_mem_nil _), (List.forall_mem_nil _), (List.forall_mem_nil _), (List.forall_mem_nil _), (List.forall_mem_nil _), (List.forall_mem_nil _), (List.forall_mem_cons.mpr ⟨w1205, (List.forall_mem_nil _)⟩), (List.forall_mem_nil _)⟩ (List.forall_mem_nil _) (fun _ => rfl) rfl (by decide) (by decide) g_oi g_ar
    (fun s hk _ => (List.forall_mem_nil _)) (fun s hk => (List.forall_mem_nil _)) (ck_cms_ok trivial)
    (List.forall_mem_nil _) (List.forall_mem_nil _) (List.forall_mem_nil _) (List.forall_mem_nil _)
    (List.forall_mem_nil _)
    (ck_no5 rfl)
end
section
/-! THE LISTS' WORLD -/
def gTl : ck_TT := [(556, 1, 0, 80, [(5, 2550, 0, 0)]), (656, 1, 0, 80, [(5, 41002, 0, 0)]), (756, 1, 0, 80, [(5, 1018, 0, 0)]), (1018, 2, 4, 4, [(8, 0, 0, 0), (8, 0, 0, 0), (8, 0, 0, 0), (8, 0, 0, 0)]), (2550, 2, 2, 2, [(1, 0, 0, 998), (1, 0, 1, 999)]), (3000, 2, 4, 4, [(3, 3051, 0, 0), (1, 0, 0, 0), (1, 0, (-2147483648), 2147483647), (1, 0, 0, 1)]), (3051, 3, 0, 3400, [(1, 0, (-128), 127)]), (3059, 3, 0, 256, [(1, 0, (-2147483648), 2147483647)]), (3100, 2, 4, 4, [(3, 3251, 0, 0), (1, 0, 0, 0), (1, 0, (-2147483648), 2147483647), (1, 0, 0, 1)]), (3160, 3, 100, 100, [(1, 0, (-128), 127)]), (3161, 3, 100, 100, [(1, 0, (-128), 127)]), (3200, 2, 4, 4, [(3, 3351, 0, 0), (1, 0, 0, 0), (1, 0, (-2147483648), 2147483647), (1, 0, 0, 1)]), (3251, 3, 0, 0, [(1, 0, (-128), 127)]), (3351, 3, 1, 1, [(1, 0, (-128), 127)]), (41002, 2, 1, 1, [(1, 0, (-128), 999)]), (43056, 3, 0, 0, [(5, 2550, 0, 0)]), (43058, 3, 256, 256, [(3, 41002, 0, 0)]), (43099, 2, 0, 0, []), (100001, 43058, 256, 256, []), (100002, 3160, 100, 100, []), (100003, 3161, 100, 100, []), (100004, 43056, 0, 0, []), (100005, 43099, 0, 0, []), (100010, 3000, 4, 4, []), (100011, 3000, 4, 4, []), (100012, 3000, 4, 4, []), (100013, 3000, 4, 4, []), (100014, 3000, 4, 4, []), (100015, 3000, 4, 4, []), (100016, 3000, 4, 4, []), (100017, 3000, 4, 4, []), (100018, 3000, 4, 4, []), (100019, 3000, 4, 4, []), (100020, 3000, 4, 4, []), (100021, 3000, 4, 4, []), (100022, 3000, 4, 4, []), (100023, 3000, 4, 4, []), (100024, 3000, 4, 4, []), (100025, 3000, 4, 4, []), (100026, 3000, 4, 4, []), (100027, 3000, 4, 4, []), (100028, 3100, 4, 4, []), (100029, 3000, 4, 4, []), (100030, 3000, 4, 4, []), (100031, 3000, 4, 4, []), (100032, 3200, 4, 4, [])]
theorem gTl_w : ∀ t, t < 100 → ck_wr gTl t = true := by decide +kernel
def gEl (l : Launch) (G : am_G) (X : ck_XT) : Prop := l.stackTraces = false ∧ ck_XO X ∧ ck_X0 X ∧ ck_KT G gTl
theorem am_cnG_ok {l : Launch} {G : am_G} {y : MethodName} {cw : Jvm.Cond} {fr lo : Nat} {X : ck_XT} {T : ck_TT} {c : ck_KK} (h : ck_Con (am_grow (am_cm l G y cw fr lo)) G X T c) (hx : c.2.2.2.2.2 = []) : ck_Con (am_grow (am_cn l G y cw fr lo)) G X T c :=
  fun K r s a h' h1 h2 h3 h4 h5 h6 mc ms h7 h8 => ⟨h K r s a h' h1 h2 h3 h4 h5 h6 mc ms h7 h8, fun E h'' hp => by
    have := hp.1.2.2.2
    dsimp only at this
    rw [hx] at this
    cases this⟩
def ck_cmsPG (G : am_G) (X : ck_XT) (T : ck_TT) : List ck_CM → List ck_Cl → Prop
  | _, [] => True
  | [], _ :: _ => False
  | c :: u, x :: w => (∀ k ∈ x.2.2, ck_Con (am_grow c) G X T k) ∧ ck_cmsPG G X T u w
theorem ck_cms_okG {G : am_G} {X : ck_XT} {T : ck_TT} : ∀ {cl : List ck_Cl} {l : List ck_CM}, ck_cmsPG G X T l cl → ∀ (i : Nat) (x : ck_Cl), cl[i]? = some x → ∀ c ∈ x.2.2, ck_Con (am_grow (ck_cms l i)) G X T c := by
  intro cl
  induction cl with
  | nil => intro l _ i x hx; cases hx
  | cons y w ih =>
    intro l h i x hx c hc
    cases l with
    | nil => exact h.elim
    | cons m u =>
      cases i with
      | zero => cases hx; exact h.1 c hc
      | succ i => exact ih h.2 i x hx c hc
theorem ck_yes5 {E : ck_E} {P : Nat → Prop} {l : List Nat} (h : ck_g5 E = l) (hl : ∀ f ∈ l, P f) : ∀ f ∈ ck_g5 E, P f := h ▸ hl
end
section
/-! SYSTEM.ARRAYCOPY OF REFERENCES, IN ROWS OF Object -/
theorem am_asg_of {G : am_G} {s : State} (hk : am_kon G s) {C : String} {k : Nat} {cv : ClassId} (hcv : if k < 50 then cv = G.1.1 k else cv = G.2.1 k) (hfc : s.vm.findClass C = some cv) (hcs : Cond.castable C "java/lang/Object" ∈ lw_ng) : am_asg G s 56 k := by
  obtain ⟨hK, hT⟩ := hk.1
  obtain ⟨-, hra⟩ := hT _ _ (am_tys_at G (show 50 ≤ 56 by decide) (by decide))
  have hra : va_RA s (G.2.1 56) (.object "java/lang/Object") := hra
  obtain ⟨kA, comp, e1, e2, e3, -⟩ := hra
  obtain ⟨c3, c4, f1, f2, f3⟩ := Cond.castable_spec (va_Nw.use (A := #[]) rfl (hk.2.2.2.2.2.2.2 _ hcs))
  cases hfc.symm.trans f1
  cases e3.symm.trans f2
  obtain ⟨kV, hkV, -⟩ := Vm.findClass_spec f1
  obtain ⟨kC, hkC, -⟩ := Vm.findClass_spec f2
  exact ⟨kA, kV, kC, comp, cv, e1, e2, hkC, hcv, hkV, f3⟩
theorem am_asg_arr {G : am_G} {s : State} (hk : am_kon G s) (hcs : Cond.castable "[I" "java/lang/Object" ∈ lw_ng) : am_asg G s 56 50 :=
  am_asg_of hk (k := 50) (cv := G.2.1 50) rfl (va_nm_int (hk.1.2 _ _ (am_tys_at G (show 50 ≤ 50 by decide) (by decide))).2) hcs
theorem am_asg_obj {G : am_G} {s : State} (hk : am_kon G s) {ci : Nat} {C : String} {T : u_T} {N : Nat} (hcl : am_cl[ci]? = some (C, T, N)) (hci : ci < 50) (hcs : Cond.castable C "java/lang/Object" ∈ lw_ng) : am_asg G s 56 ci := by
  obtain ⟨hK, -⟩ := id hk.1
  obtain ⟨-, hca⟩ := hK ci _ hcl
  exact am_asg_of hk (k := ci) (cv := G.1.1 ci) (by rw [if_pos hci]) hca.1 hcs
/-- the kinds that stand in such rows -/
def am_ob (k : Nat) : Bool := Nat.beq k 50 || (Nat.beq k 2 || Nat.beq k 18)
section AMAR
variable {G : am_G} {p : Program} {l : Launch} {e : Env} {R : Room} {s : State} {m : MethodId} {args : Array Value} {below : List Frame} {meth : Method} {c : Code} {mc ms : Nat} {Post : am_O → List am_C → Prop}
variable {own : String} {cc : ByteArray} {nL pc : Nat} {ret : Option FieldType} {L : List (Option Value)} {st : List Value} {h : List am_C} {k n : Nat}
theorem am_R.acopyR (X : am_Cx l G p s m args meth c own cc nL ret) {i src dst ts td : Nat} {sp dp n9 : Int32} {vs vd : List Value} (hl : Cond.methodLink own i am_acN ∈ lw_gw) (hnat : Cond.native am_acN ∈ lw_gw) (hsta : Cond.static am_acN ∈ lw_gw) (hini : Cond.initialized "java/lang/System" ∈ lw_gw)
    (hdst : 1000 ≤ dst) (hgs : am_g G h src = some (ts, vs)) (hgd : am_g G h dst = some (td, vd)) (hks : ts % 100 = 56) (hkd : td % 100 = 56) (h3 : 0 ≤ sp.toInt) (h4 : 0 ≤ dp.toInt) (h5 : 0 ≤ n9.toInt) (h6 : sp.toInt + n9.toInt ≤ vs.length) (h7 : dp.toInt + n9.toInt ≤ vd.length)
    (hv : ∀ (j : Nat) (v : Value), vs[j]? = some v → v = .null ∨ ∃ (q tq : Nat) (vq : List Value), v = .ref q ∧ am_g G h q = some (tq, vq) ∧ tq % 100 < 59 ∧ am_asg G s 56 (tq % 100)) (hLn : L.length = nL) (hst : (st.map fun v => v.category).sum ≤ 8) (hfr : 1 ≤ R.frames) (hlo : 8 + (nativeFrameWords "java/lang/System" "arraycopy" 5 + 11) ≤ R.locals) (d : decode cc pc = .ok (.invokestatic i, 3))
    (kk : am_R G p l e R s m args below meth c mc ms Post (pc + 3) L st (am_s h dst (td, am_cpy vs vd sp.toInt.toNat dp.toInt.toNat n9.toInt.toNat)) k n) : am_R G p l e R s m args below meth c mc ms Post pc L (.int n9 :: .int dp :: .ref dst :: .int sp :: .ref src :: st) h k n := by
  intro ls H locs hL hH hS T hT Y
  obtain ⟨cs, q1, q2⟩ := am_cell hH (am_kt_S X.2.2.2.2.2.1 hS) hgs (by show ts % 100 < 62; omega)
  obtain ⟨cd, d1, d2, d3⟩ := am_cellD hH hdst hgd
  obtain ⟨-, kS, hkS, cpS, hkkS⟩ := am_isArr (q := 56) X.2.2.2.2.2.1 q2 hks (by decide) (by decide)
  obtain ⟨-, kD, hkD, cpD, hkkD⟩ := am_isArr (q := 56) X.2.2.2.2.2.1 d2.rk hkd (by decide) (by decide)
  obtain ⟨-, s1, s2, -⟩ := q2.2.2.2 (by show 50 ≤ ts % 100; omega) (by show ts % 100 < 62; omega)
  obtain ⟨d4, d5, d6⟩ := d2.2.2.2 (by show 50 ≤ td % 100; omega) (by show td % 100 < 62; omega)
  have s1 : vs.length ≤ cs.slots.size := s1
  have d5 : cd.slots.size = vd.length := d5
  have d4 : cd.cls = G.2.1 56 := by rw [← hkd]; exact d4
  have e3 : sp.toNatClampNeg = sp.toInt.toNat := rfl
  have e4 : dp.toNatClampNeg = dp.toInt.toNat := rfl
  have e5 : n9.toNatClampNeg = n9.toInt.toNat := rfl
  have hget : ∀ i : Nat, i < n9.toInt.toNat → ∃ v, vs[sp.toInt.toNat + i]? = some v ∧ cs.slots.getD (sp.toInt.toNat + i) .null = am_rv G v := by
    intro i hi
    have hlt : sp.toInt.toNat + i < vs.length := by omega
    have hv1 := List.getElem?_eq_getElem hlt
    refine ⟨_, hv1, ?_⟩
    have := s2 _ _ hv1
    rw [Array.getD_eq_getD_getElem?, this]
    rfl
  have hneg : ∀ x : Int32, 0 ≤ x.toInt → ¬ x < 0 := fun x hx z => by rw [Int32.lt_iff_toInt_lt, Int32.toInt_zero] at z; omega
  obtain ⟨vm', X', st9⟩ := Y.arraycopy X.1 (own := own) (index := i) X.2.2.2.1 (X.2.2.2.2.1 _ hl) (X.2.2.2.2.1 _ hnat) (X.2.2.2.2.1 _ hsta) (X.2.2.2.2.1 _ hini) (src := am_ad G src) (dst := am_ad G dst) (srcPos := sp) (destPos := dp) (n := n9) (cs := cs) (cd := cd)
    (by rw [hT]; exact q1) (by rw [hT]; exact d1) (fun q z => by have := q2.2.1; rw [z] at this; cases this) (fun q z => by rw [d3] at z; cases z) q2.1 d2.1 hkS hkD hkkS hkkD rfl (hneg _ h3) (hneg _ h4) (hneg _ h5)
    (by omega) (by rw [d5]; omega)
    (fun vm' hal i hi => by
      obtain ⟨v, g1, g2⟩ := hget i hi
      rw [e3, g2]
      rcases hv _ _ g1 with rfl | ⟨q, tq, vq, rfl, f1, f2, f3⟩
      · exact ⟨rfl, trivial⟩
      · obtain ⟨cq, c1, c2⟩ := am_cell hH (am_kt_S X.2.2.2.2.2.1 hS) f1 (by show tq % 100 < 62; omega)
        obtain ⟨kA, kV, kC, comp, cv, a1, a2, a3, a4, a5, a6⟩ := f3
        have hcq : cq.cls = cv := c2.cls (by show tq % 100 < 62; omega) a4
        rw [← d4] at a1
        cases hkD.symm.trans a1
        cases hkkD.symm.trans a2
        obtain ⟨kV', hkV', -⟩ := hal.2.2 _ _ a5
        obtain ⟨kC', hkC', -⟩ := hal.2.2 _ _ a3
        refine ⟨rfl, cq, (show T.heap[am_ad G q]? = some cq by rw [hT]; exact c1), (fun z h => by have := c2.2.1; rw [h] at this; cases this), ⟨kV', by rw [hcq]; exact hkV'⟩, ⟨kC', hkC'⟩, ?_⟩
        show vm'.assignable _ _ = true
        rw [hal.assignable, hcq]
        exact a6)
    (g := F0 m pc ls ((.int n9 :: .int dp :: .ref dst :: .int sp :: .ref src :: st : List Value).map (am_rv G))) rfl (by show ls.size = c.maxLocals; rw [hL.1, hLn]; exact X.2.2.1.symm) (rest := st.map (am_rv G)) rfl (by rw [X.2.1]; exact d) hfr (by
      show 2 * 0 + ((st.map (am_rv G)).map fun v => v.category).sum + _ ≤ _
      rw [am_cats]; omega)
  have hfc := Cell.storeRun_facts cd dp.toNatClampNeg (cs.stretch sp.toNatClampNeg n9.toNatClampNeg)
  let T' : State := (T.setVm vm').setCell (am_ad G dst) (copied cs cd sp dp n9)
  have f1 : T'.heap[am_ad G dst]? = some (copied cs cd sp dp n9) := State.heap_setCell_self (by show T.heap[am_ad G dst]? = some cd; rw [hT]; exact d1)
  have f2 : T'.heap.size = H.size := by show (T.heap.setIfInBounds _ _).size = _; rw [Array.size_setIfInBounds, hT]
  have f3 : ∀ q, q ≠ am_ad G dst → T'.heap[q]? = H[q]? := fun q hq => by
    show (T.heap.setIfInBounds _ _)[q]? = _
    rw [Array.getElem?_setIfInBounds_ne (Ne.symm hq), hT]
  have hro : am_ro G (td, am_cpy vs vd sp.toInt.toNat dp.toInt.toNat n9.toInt.toNat) (copied cs cd sp dp n9) := by
    refine ⟨by show (cd.storeRun _ _).vm ≠ _; rw [hfc.2.1]; exact d2.1, by show (cd.storeRun _ _).vm.isStatics = false; rw [hfc.2.1]; exact d2.2.1, fun z => by exfalso; have : td % 100 < 50 := z; omega, fun _ _ => ⟨by show (cd.storeRun _ _).cls = _; rw [hfc.1, d4, ← hkd], ?_, fun j v hj => ?_⟩⟩
    · show (cd.storeRun _ _).slots.size = (am_cpy _ _ _ _ _).length
      rw [hfc.2.2.1, am_cpy_len, d5]
    · show (cd.storeRun dp.toNatClampNeg (cs.stretch sp.toNatClampNeg n9.toNatClampNeg)).slots[j]? = _
      rw [Cell.storeRun_get _ _ _ _ (by rw [Cell.stretch_length, d5, e4, e5]; omega), Cell.stretch_length, e3, e4, e5]
      rcases am_cpy_at hj (by omega) with ⟨g1, g2, g3⟩ | ⟨g1, g2⟩
      · rw [if_pos ⟨g1, g2⟩]
        obtain ⟨v', k1, k2⟩ := hget (j - dp.toInt.toNat) (by omega)
        rw [g3] at k1
        cases k1
        rw [am_stretch_at (show j - dp.toInt.toNat < n9.toInt.toNat by omega), k2]
      · rw [if_neg g1]
        exact d6 _ _ g2
  obtain ⟨t9, a1, b1⟩ := kk ls T'.heap _ hL (hH.put hdst (am_g_lt hdst hgd) f2 f3 ⟨_, f1, hro, by show (cd.storeRun _ _).vm = _; rw [hfc.2.1]; exact d3⟩) (hS.puts f2 f3 (am_ad_ge hdst) (fun x hx => by
    obtain ⟨y, -, rfl⟩ := List.mem_map.mp hx
    rfl)) T' rfl X'
  exact ⟨t9, st9 t9 a1, b1⟩
def ck_arM (G : am_G) : ck_CM := fun a h _ _ P => ∃ (src dst ts td : Nat) (sp dp n9 : Int32) (vs vd : List Value), a = [.ref src, .int sp, .ref dst, .int dp, .int n9] ∧ 1000 ≤ dst ∧ am_g G h src = some (ts, vs) ∧ am_g G h dst = some (td, vd) ∧ (ts % 100 = 56 ∧ td % 100 = 56) ∧ (0 ≤ sp.toInt ∧ 0 ≤ dp.toInt ∧ 0 ≤ n9.toInt ∧ sp.toInt + n9.toInt ≤ vs.length ∧ dp.toInt + n9.toInt ≤ vd.length) ∧
  (∀ (j : Nat) (v : Value), vs[j]? = some v → v = .null ∨ ∃ (q tq : Nat) (vq : List Value), v = .ref q ∧ am_g G h q = some (tq, vq) ∧ am_ob (tq % 100) = true) ∧ P (.inl none) (am_s h dst (td, am_cpy vs vd sp.toInt.toNat dp.toInt.toNat n9.toInt.toNat))
theorem ck_kAR {fr lo i : Nat} (hl : Cond.methodLink own i am_acN ∈ lw_gw) (hnat : Cond.native am_acN ∈ lw_gw) (hsta : Cond.static am_acN ∈ lw_gw) (hini : Cond.initialized "java/lang/System" ∈ lw_gw) (hc1 : Cond.castable "[I" "java/lang/Object" ∈ lw_ng) (hc2 : Cond.castable "java/lang/Integer" "java/lang/Object" ∈ lw_ng) (hc3 : Cond.castable "ClockhouseModel$State" "java/lang/Object" ∈ lw_ng)
    (hf : 1 ≤ fr) (ho : 8 + (nativeFrameWords "java/lang/System" "arraycopy" 5 + 11) ≤ lo) : ck_any l G own nL fr lo (.invokestatic i) 3 none 5 (ck_arM G) := by
  intro p e s m args below meth c mc ms Post cc ret pc X d a L st h k n mc' ms' P hM hna hL hst hrc hk hn kr kx
  obtain ⟨src, dst, ts, td, sp, dp, n9, vs, vd, rfl, h1, h2, h3, ⟨h4, h5⟩, ⟨h7, h8, h9, h10, h11⟩, h12, hP⟩ := hM
  refine am_R.acopyR X hl hnat hsta hini h1 h2 h3 h4 h5 h7 h8 h9 h10 h11 (fun j v hv => ?_) hL hst hf ho d (am_R.widen (Nat.le_add_right _ _) (Nat.le_add_right _ _) (kr none _ hP))
  rcases h12 j v hv with hz | ⟨q, tq, vq, z1, z2, z3⟩
  · exact Or.inl hz
  · refine Or.inr ⟨q, tq, vq, z1, z2, ?_⟩
    have hk := X.2.2.2.2.2.1
    unfold am_ob at z3
    rcases Bool.or_eq_true_iff.mp z3 with z | z
    · rw [ck_beq z]; exact ⟨by decide, am_asg_arr hk hc1⟩
    · rcases Bool.or_eq_true_iff.mp z with z | z
      · rw [ck_beq z]; exact ⟨by decide, am_asg_obj hk (ci := 2) rfl (by decide) hc2⟩
      · rw [ck_beq z]; exact ⟨by decide, am_asg_obj hk (ci := 18) rfl (by decide) hc3⟩
end AMAR
/-- within one row: so many references are ahead -/
def ck_arK (t : Nat) : ck_KK := (([(0, 2147483647), (0, 2147483647), (0, 2147483647), (0, 80), (0, 80)], [(0, [(-1, 0), (-1, 2), (1, 3)]), (0, [(-1, 1), (-1, 2), (1, 3)]), (0, [(-1, 0), (-1, 2), (1, 4)]), (0, [(-1, 1), (1, 4)])], [(2, 0, 0, t, (0, 0, (0, [(1, 3)]))), (6, 0, 4, t, (0, 0, (0, [(1, 4)])))], 1, [(3, 0, (0, [])), (1, 0, (0, [(1, 0)])), (3, 0, (0, [])), (1, 0, (0, [(1, 1)])), (1, 0, (0, [(1, 2)]))]), ((0, []), (0, [])), [(t, 1000)], [], ([], [], [(6, 0, 4, t, (0, 0, (0, [(1, 1), (1, 2)])))], 0, []), [])
def ck_arOK (T : ck_TT) (t : Nat) : Bool := match ck_lk T t with
  | some (1, _, _, [(5, te, _, _)]) => am_ob (te % 100) && (Nat.beq (t % 100) 56 && Nat.blt t 40000)
  | _ => false
theorem ck_ar_con {G : am_G} {X : ck_XT} {T : ck_TT} {t : Nat} (hX : ck_XO X) (hX0 : ck_X0 X) (hok : ck_arOK T t = true) : ck_Con (am_grow (ck_arM G)) G X T (ck_arK t) := by
  intro K r s a h hH hV hC hF hn hS mc ms hmc hms
  unfold ck_arOK at hok
  split at hok
  · next x1 x2 te x5 x6 e1 =>
    simp only [Bool.and_eq_true] at hok
    obtain ⟨k1, k2, k3⟩ := hok
    have k2 := ck_beq k2
    have k3 : t < 40000 := by simpa using k3
    obtain ⟨q, vs, s1, s2, s3⟩ := hF (2, 0, 0, t, (0, 0, (0, [(1, 3)]))) (by unfold ck_arK; simp)
    obtain ⟨q', vs', xx, d1, d2, d3, d4⟩ := hF (6, 0, 4, t, (0, 0, (0, [(1, 4)]))) (by unfold ck_arK; simp)
    have s1 : s[0]? = some q := s1
    have d1 : s[0]? = some q' := d1
    rw [s1] at d1
    cases d1
    have s2 : am_g G h q = some (t, vs) := s2
    have d2 : am_g G h q = some (t, vs') := d2
    rw [s2] at d2
    cases d2
    have s3 := ck_lvk (ck_lv1 s3)
    have d3 := ck_lvk (ck_lv1 d3)
    have d4 : ∀ k : Nat, (k : Int) < xx → ∃ q : Nat, vs[k]? = some (.ref q) := d4
    have hw : ck_wr T t = true := by unfold ck_wr; rw [e1]; rfl
    have hq := (hH.2 _ _ _ s2).2.2 hw
    match a, hS with
    | [v1, v2, v3, v4, v5], ⟨⟨q1, z1, z1'⟩, ⟨q2, z2, z2'⟩, ⟨q3, z3, z3'⟩, ⟨q4, z4, z4'⟩, ⟨q5, z5, z5'⟩, _⟩ =>
    subst z1' z2 z3' z4 z5
    have z1 : s[0]? = some q1 := z1
    have z3 : s[0]? = some q3 := z3
    rw [s1] at z1 z3
    cases z1
    cases z3
    have w2' := ck_lv1 z2'
    have w4' := ck_lv1 z4'
    have w5' := ck_lv1 z5'
    have y1 := hV.2 0 0 2147483647 _ rfl w2'
    have y2 := hV.2 1 0 2147483647 _ rfl w4'
    have y3 := hV.2 2 0 2147483647 _ rfl w5'
    obtain ⟨u1, ⟨-, u2⟩, u3⟩ := hC (0, [(-1, 0), (-1, 2), (1, 3)]) (by unfold ck_arK; simp)
    obtain ⟨u4, ⟨-, u5⟩, u6⟩ := hC (0, [(-1, 1), (-1, 2), (1, 3)]) (by unfold ck_arK; simp)
    obtain ⟨u7, ⟨-, u8⟩, u9⟩ := hC (0, [(-1, 0), (-1, 2), (1, 4)]) (by unfold ck_arK; simp)
    obtain ⟨o1, ⟨-, o2⟩, o3⟩ := hC (0, [(-1, 1), (1, 4)]) (by unfold ck_arK; simp)
    have u2 : u1 = (0 : Int) + (-1 * r.getD 0 0 + (-1 * r.getD 2 0 + (1 * r.getD 3 0 + 0))) := u2
    have u5 : u4 = (0 : Int) + (-1 * r.getD 1 0 + (-1 * r.getD 2 0 + (1 * r.getD 3 0 + 0))) := u5
    have u8 : u7 = (0 : Int) + (-1 * r.getD 0 0 + (-1 * r.getD 2 0 + (1 * r.getD 4 0 + 0))) := u8
    have o2 : o1 = (0 : Int) + (-1 * r.getD 1 0 + (1 * r.getD 4 0 + 0)) := o2
    rw [ck_lvk w2', ck_lvk w5', s3] at u2
    rw [ck_lvk w4', ck_lvk w5', s3] at u5
    rw [ck_lvk w2', ck_lvk w5', d3] at u8
    rw [ck_lvk w4', d3] at o2
    have hsv : ∀ (j : Nat) (v : Value), vs[j]? = some v → ck_ty K (am_g G h) (5, te, x5, x6) v := by
      intro j v hv
      obtain ⟨y, hy, ht⟩ := ((hH.2 _ _ _ s2).1 _ e1).2 j v hv
      cases hy
      exact ht
    have hp0 : ck_Hp (G, X, T, K, h, r, s, [(t, 1000)], []) r s h := ⟨hH, ck_Kp.rf, Nat.le_refl _, ⟨[], (List.append_nil r).symm⟩, [], (List.append_nil s).symm⟩
    have hput := ck_Hp.put hp0 hX hX0 (t' := t) (vs' := am_cpy vs vs q2.toInt.toNat q4.toInt.toNat q5.toInt.toNat) s2 hq k3 k3 (am_cpy_len _ _ _ _ _) (Or.inl rfl)
      (fun g' hx d hd => by
        have hd : ck_lk T t = some d := hd
        rw [e1] at hd
        cases hd
        refine ⟨by rw [am_cpy_len]; exact ((hH.2 _ _ _ s2).1 _ e1).1, fun j v hv => ⟨_, rfl, ?_⟩⟩
        have : ∃ j' : Nat, vs[j']? = some v := by
          rcases am_cpy_at hv (by omega) with ⟨-, -, g3⟩ | ⟨-, g3⟩
          · exact ⟨_, g3⟩
          · exact ⟨_, g3⟩
        obtain ⟨j', hj'⟩ := this
        exact (hsv j' v hj').ex fun a b c d1 d2 => by obtain ⟨x1, x2, x3, -⟩ := hx a b c d1 d2; exact ⟨x1, x2, x3⟩)
      (Or.inl ⟨rfl, fun j hj => by
        exfalso
        have hj : ck_inM [(t, 1000)] t j = false := hj
        unfold ck_inM at hj
        simp at hj⟩)
    refine ⟨q, q, t, t, q2, q4, q5, vs, vs, rfl, hq, s2, s2, ⟨k2, k2⟩, ⟨by omega, by omega, by omega, by omega, by omega⟩, fun j v hv => ?_, ⟨hput.1, hput.2.1, hput.2.2.1, [], [], (⟨rfl, fun i a b x z => by simp at z⟩ : ck_In ([] : ck_I) []), (List.forall_mem_nil _ : ∀ c ∈ ([] : List ck_L), _), ?_, rfl, trivial⟩, by rw [am_s_len]; omega⟩
    · rcases hsv j v hv with ⟨-, hz | ⟨e, ve, hz, he⟩⟩
      · exact Or.inl hz
      · exact Or.inr ⟨e, te, ve, hz, he, k1⟩
    · intro f hf
      have hf : f ∈ [((6 : Nat), (0 : Nat), (4 : Nat), t, ((0 : Nat), (0 : Nat), ((0 : Int), [((1 : Int), (1 : Nat)), ((1 : Int), (2 : Nat))])))] := hf
      rw [List.mem_singleton] at hf
      subst hf
      have hgn : am_g G (am_s h q (t, am_cpy vs vs q2.toInt.toNat q4.toInt.toNat q5.toInt.toNat)) q = some (t, am_cpy vs vs q2.toInt.toNat q4.toInt.toNat q5.toInt.toNat) := by rw [am_g_s hq (am_g_lt hq s2), if_pos rfl]
      refine ⟨q, _, q4.toInt + q5.toInt, by rw [List.append_nil]; exact s1, hgn, ?_, fun k hk => ?_⟩
      · have := z4'.add z5'
        rw [List.append_nil]
        exact this
      · by_cases e : q4.toInt.toNat ≤ k ∧ k < q4.toInt.toNat + q5.toInt.toNat
        · obtain ⟨qq, hqq⟩ := d4 (q2.toInt.toNat + (k - q4.toInt.toNat)) (by omega)
          refine ⟨qq, ?_⟩
          have hk2 : k < vs.length := by omega
          unfold am_cpy
          rw [List.getElem?_map, List.getElem?_range hk2]
          show some (if q4.toInt.toNat ≤ k ∧ k < q4.toInt.toNat + q5.toInt.toNat then vs.getD _ .null else _) = _
          rw [if_pos e, List.getD_eq_getElem?_getD, hqq]
          rfl
        · obtain ⟨qq, hqq⟩ := d4 k (by omega)
          refine ⟨qq, ?_⟩
          have hk2 : k < vs.length := (List.getElem?_eq_some_iff.mp hqq).1
          unfold am_cpy
          rw [List.getElem?_map, List.getElem?_range hk2]
          show some (if q4.toInt.toNat ≤ k ∧ k < q4.toInt.toNat + q5.toInt.toNat then _ else vs.getD k .null) = _
          rw [if_neg e, List.getD_eq_getElem?_getD, hqq]
          rfl
  · cases hok
/-- the beginning of one row into another one -/
def ck_arcK (ts td : Nat) : ck_KK := (([(0, 80), (0, 80), (0, 80), (0, 80)], [(0, [(-1, 0), (1, 1)]), (0, [(-1, 0), (1, 2)]), (0, [(1, 0), (-1, 3)])], [(2, 0, 0, ts, (0, 0, (0, [(1, 1)]))), (6, 0, 4, ts, (0, 0, (0, [(1, 3)]))), (2, 1, 0, td, (0, 0, (0, [(1, 2)])))], 2, [(3, 0, (0, [])), (1, 0, (0, [])), (3, 1, (0, [])), (1, 0, (0, [])), (1, 0, (0, [(1, 0)]))]), ((0, []), (0, [])), [(td, 1000)], [], ([], [], [(6, 1, 4, td, (0, 0, (0, [(1, 3)])))], 0, []), [])
def ck_arcOK (T : ck_TT) (ts td : Nat) : Bool := match ck_lk T ts, ck_lk T td with
  | some (c, _, hi, [(5, te', _, _)]), some (1, _, _, [(5, te, _, _)]) => (am_ob (te % 100) && (Nat.beq (ts % 100) 56 && (Nat.beq (td % 100) 56 && Nat.blt td 40000))) && (Nat.beq (c % 2) 1 && (ck_nn (-hi) || Nat.beq te te'))
  | _, _ => false
theorem ck_arc_con {G : am_G} {X : ck_XT} {T : ck_TT} {ts td : Nat} (hX : ck_XO X) (hX0 : ck_X0 X) (hok : ck_arcOK T ts td = true) : ck_Con (am_grow (ck_arM G)) G X T (ck_arcK ts td) := by
  intro K r s a h hH hV hC hF hn hS mc ms hmc hms
  unfold ck_arcOK at hok
  split at hok
  · next c x0 hi te' x7 x8 x1 x2 te x5 x6 e0 e1 =>
    simp only [Bool.and_eq_true] at hok
    obtain ⟨⟨k1, k2, k3, k4⟩, k5, k6⟩ := hok
    have k2 := ck_beq k2
    have k3 := ck_beq k3
    have k5 := ck_beq k5
    have k4 : td < 40000 := by simpa using k4
    obtain ⟨src, vs, s1, s2, s3⟩ := hF (2, 0, 0, ts, (0, 0, (0, [(1, 1)]))) (by unfold ck_arcK; simp)
    obtain ⟨src', vs', xx, d1, d2, d3, d4⟩ := hF (6, 0, 4, ts, (0, 0, (0, [(1, 3)]))) (by unfold ck_arcK; simp)
    obtain ⟨dst, vd, t1, t2, t3⟩ := hF (2, 1, 0, td, (0, 0, (0, [(1, 2)]))) (by unfold ck_arcK; simp)
    have s1 : s[0]? = some src := s1
    have d1 : s[0]? = some src' := d1
    rw [s1] at d1
    cases d1
    have s2 : am_g G h src = some (ts, vs) := s2
    have d2 : am_g G h src = some (ts, vs') := d2
    rw [s2] at d2
    cases d2
    have t1 : s[1]? = some dst := t1
    have t2 : am_g G h dst = some (td, vd) := t2
    have s3 := ck_lvk (ck_lv1 s3)
    have d3' := ck_lvk (ck_lv1 d3)
    have t3 := ck_lvk (ck_lv1 t3)
    have d4 : ∀ k : Nat, (k : Int) < xx → ∃ q : Nat, vs[k]? = some (.ref q) := d4
    have hw : ck_wr T td = true := by unfold ck_wr; rw [e1]; rfl
    have hdst := (hH.2 _ _ _ t2).2.2 hw
    match a, hS with
    | [v1, v2, v3, v4, v5], ⟨⟨q1, z1, z1'⟩, ⟨q2, z2, z2'⟩, ⟨q3, z3, z3'⟩, ⟨q4, z4, z4'⟩, ⟨q5, z5, z5'⟩, _⟩ =>
    subst z1' z2 z3' z4 z5
    have z1 : s[0]? = some q1 := z1
    have z3 : s[1]? = some q3 := z3
    rw [s1] at z1
    rw [t1] at z3
    cases z1
    cases z3
    have w2 : q2.toInt = (0 : Int) + 0 := z2'.2
    have w4 : q4.toInt = (0 : Int) + 0 := z4'.2
    have w5' := ck_lv1 z5'
    have y3 := hV.2 0 0 80 _ rfl w5'
    obtain ⟨u1, ⟨-, u2⟩, u3⟩ := hC (0, [(-1, 0), (1, 1)]) (by unfold ck_arcK; simp)
    obtain ⟨u4, ⟨-, u5⟩, u6⟩ := hC (0, [(-1, 0), (1, 2)]) (by unfold ck_arcK; simp)
    obtain ⟨u7, ⟨-, u8⟩, u9⟩ := hC (0, [(1, 0), (-1, 3)]) (by unfold ck_arcK; simp)
    have u2 : u1 = (0 : Int) + (-1 * r.getD 0 0 + (1 * r.getD 1 0 + 0)) := u2
    have u5 : u4 = (0 : Int) + (-1 * r.getD 0 0 + (1 * r.getD 2 0 + 0)) := u5
    have u8 : u7 = (0 : Int) + (1 * r.getD 0 0 + (-1 * r.getD 3 0 + 0)) := u8
    rw [ck_lvk w5', s3] at u2
    rw [ck_lvk w5', t3] at u5
    rw [ck_lvk w5', d3'] at u8
    have hsv : ∀ (j : Nat) (v : Value), vs[j]? = some v → ck_ty K (am_g G h) (5, te, x5, x6) v := by
      intro j v hv
      obtain ⟨f1, f2⟩ := (hH.2 _ _ _ s2).1 _ e0
      obtain ⟨y, hy, ht⟩ := f2 j v hv
      unfold ck_yt at hy
      rw [show Nat.beq (c % 2) 0 = false by rw [k5]; rfl] at hy
      cases hy
      rcases Bool.or_eq_true_iff.mp k6 with k6 | k6
      · exfalso
        have k6 := ck_nn_ok k6
        have hj := (List.getElem?_eq_some_iff.mp hv).1
        have f1 : (vs.length : Int) ≤ hi := f1.2
        omega
      · rw [ck_beq k6]; exact ht
    have hdv : ∀ (j : Nat) (v : Value), vd[j]? = some v → ck_ty K (am_g G h) (5, te, x5, x6) v := by
      intro j v hv
      obtain ⟨y, hy, ht⟩ := ((hH.2 _ _ _ t2).1 _ e1).2 j v hv
      cases hy
      exact ht
    have hp0 : ck_Hp (G, X, T, K, h, r, s, [(td, 1000)], []) r s h := ⟨hH, ck_Kp.rf, Nat.le_refl _, ⟨[], (List.append_nil r).symm⟩, [], (List.append_nil s).symm⟩
    have hput := ck_Hp.put hp0 hX hX0 (t' := td) (vs' := am_cpy vs vd q2.toInt.toNat q4.toInt.toNat q5.toInt.toNat) t2 hdst k4 k4 (am_cpy_len _ _ _ _ _) (Or.inl rfl)
      (fun g' hx d hd => by
        have hd : ck_lk T td = some d := hd
        rw [e1] at hd
        cases hd
        refine ⟨by rw [am_cpy_len]; exact ((hH.2 _ _ _ t2).1 _ e1).1, fun j v hv => ⟨_, rfl, ?_⟩⟩
        have : ck_ty K (am_g G h) (5, te, x5, x6) v := by
          rcases am_cpy_at hv (by omega) with ⟨-, -, g3⟩ | ⟨-, g3⟩
          · exact hsv _ _ g3
          · exact hdv _ _ g3
        exact this.ex fun a b c d1 d2 => by obtain ⟨x1, x2, x3, -⟩ := hx a b c d1 d2; exact ⟨x1, x2, x3⟩)
      (Or.inl ⟨rfl, fun j hj => by
        exfalso
        have hj : ck_inM [(td, 1000)] td j = false := hj
        unfold ck_inM at hj
        simp at hj⟩)
    refine ⟨src, dst, ts, td, q2, q4, q5, vs, vd, rfl, hdst, s2, t2, ⟨k2, k3⟩, ⟨by omega, by omega, by omega, by omega, by omega⟩, fun j v hv => ?_, ⟨hput.1, hput.2.1, hput.2.2.1, [], [], (⟨rfl, fun i a b x z => by simp at z⟩ : ck_In ([] : ck_I) []), (List.forall_mem_nil _ : ∀ c ∈ ([] : List ck_L), _), ?_, rfl, trivial⟩, by rw [am_s_len]; omega⟩
    · rcases hsv j v hv with ⟨-, hz | ⟨e, ve, hz, he⟩⟩
      · exact Or.inl hz
      · exact Or.inr ⟨e, te, ve, hz, he, k1⟩
    · intro f hf
      have hf : f ∈ [((6 : Nat), (1 : Nat), (4 : Nat), td, ((0 : Nat), (0 : Nat), ((0 : Int), [((1 : Int), (3 : Nat))])))] := hf
      rw [List.mem_singleton] at hf
      subst hf
      have hgn : am_g G (am_s h dst (td, am_cpy vs vd q2.toInt.toNat q4.toInt.toNat q5.toInt.toNat)) dst = some (td, am_cpy vs vd q2.toInt.toNat q4.toInt.toNat q5.toInt.toNat) := by rw [am_g_s hdst (am_g_lt hdst t2), if_pos rfl]
      refine ⟨dst, _, xx, by rw [List.append_nil]; exact t1, hgn, by rw [List.append_nil]; exact d3, fun k hk => ?_⟩
      obtain ⟨qq, hqq⟩ := d4 k hk
      refine ⟨qq, ?_⟩
      have hk2 : k < vd.length := by omega
      have e : q4.toInt.toNat ≤ k ∧ k < q4.toInt.toNat + q5.toInt.toNat := by omega
      unfold am_cpy
      rw [List.getElem?_map, List.getElem?_range hk2]
      show some (if q4.toInt.toNat ≤ k ∧ k < q4.toInt.toNat + q5.toInt.toNat then vs.getD _ .null else _) = _
      rw [if_pos e, show q2.toInt.toNat + (k - q4.toInt.toNat) = k by omega, List.getD_eq_getElem?_getD, hqq]
      rfl
  · cases hok
/-! GETCLASS OF A ROW OF Object -/
def ck_gcM (G : am_G) : ck_CM := fun a h _ _ P => ∃ (src t : Nat) (vs : List Value), a = [.ref src] ∧ am_g G h src = some (t, vs) ∧ t % 100 = 56 ∧ P (.inl (some (.ref 5))) h
section AMGC
variable {l : Launch} {G : am_G} {own : String} {nL fr lo i : Nat}
theorem ck_kGC (hl : Cond.methodLink own i am_gcN ∈ lw_gw) (hde : Cond.declares am_gcN ∈ lw_ng) (hse : Cond.selects "[Ljava/lang/Object;" am_gcN am_gcN ∈ lw_gw) (hin : Cond.instanceMethod am_gcN ∈ lw_gw) (hna : Cond.native am_gcN ∈ lw_gw) (hf : 1 ≤ fr) (ho : 22 ≤ lo) : ck_any l G own nL fr lo (.invokevirtual i) 3 (some 56) 1 (ck_gcM G) := by
  intro p e s m args below meth c mc ms Post cc ret pc X d a L st h k n mc' ms' P hM hna' hL hst hrc hk hn kr kx
  obtain ⟨src, t, vs, rfl, g1, g2, hP⟩ := hM
  exact am_R.getC X hl hde hse hin hna g1 g2 (by decide +kernel) hL hst hf ho d (am_R.widen (Nat.le_add_right _ _) (Nat.le_add_right _ _) (kr (some _) _ hP))
end AMGC
def ck_gcK (t : Nat) : ck_KK := (([(0, 80)], [], [(2, 0, 0, t, (0, 0, (0, [(1, 0)])))], 1, [(3, 0, (0, []))]), ((0, []), (0, [])), [], [], ([], [], [(2, 1, 0, 43099, (0, 0, (0, [])))], 1, [(3, 1, (0, []))]), [])
theorem ck_gc_con {G : am_G} {X : ck_XT} {T : ck_TT} {t : Nat} (hKT : ck_KT G T) (hrow : ck_lk T 100005 = some (43099, 0, 0, [])) (ht : t % 100 = 56) : ck_Con (am_grow (ck_gcM G)) G X T (ck_gcK t) := by
  intro K r s a h hH hV hC hF hn hS mc ms hmc hms
  obtain ⟨src, vs, s1, s2, s3⟩ := hF (2, 0, 0, t, (0, 0, (0, [(1, 0)]))) (by unfold ck_gcK; simp)
  have s1 : s[0]? = some src := s1
  have s2 : am_g G h src = some (t, vs) := s2
  match a, hS with
  | [v1], ⟨⟨q1, z1, z1'⟩, _⟩ =>
  subst z1'
  have z1 : s[0]? = some q1 := z1
  rw [s1] at z1
  cases z1
  obtain ⟨-, wv, w1, w2⟩ := hKT 5 _ hrow
  have hn : s.length = 1 := hn
  have hq : (s ++ [5])[1]? = some 5 := by
    rw [List.getElem?_append_right (by omega), hn]
    rfl
  refine ⟨src, t, vs, rfl, s2, ht, ⟨hH, ck_Kp.rf, Nat.le_refl _, [], [5], (⟨rfl, fun i a b x z => by simp at z⟩ : ck_In ([] : ck_I) []), (List.forall_mem_nil _ : ∀ c ∈ ([] : List ck_L), _), fun f hf => ?_, rfl, ⟨⟨5, hq, rfl⟩, trivial⟩⟩, by omega⟩
  have hf : f ∈ [((2 : Nat), (1 : Nat), (0 : Nat), 43099, ((0 : Nat), (0 : Nat), ((0 : Int), ([] : List (Int × Nat)))))] := hf
  rw [List.mem_singleton] at hf
  subst hf
  exact ⟨5, wv, hq, w1, by rw [w2]; exact ck_Lv.k _ 0⟩
end
