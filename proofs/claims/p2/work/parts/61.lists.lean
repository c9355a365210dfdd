section
/-! THE LISTS' OWN METHODS OVER RAW LISTS -/
def gc_yJ9_min_7cf53_zlm : ck_KK := (([(0, 80), (1, 80)], [((-1), [((-1), 0), (1, 1)])], [], 0, [(1, 0, (0, [(1, 0)])), (1, 0, (0, [(1, 1)]))]), ((0, []), (0, [])), [], [], ([], [], [], 0, [(1, 0, (0, [(1, 0)]))]), [])
def gt_yJ9_min_7cf53_zlm : ck_TB := ([], [], [], [], [], [], [], [], ([], [], [], []), [], [], [], 0)
def ge_yJ9_min_7cf53_zlm : ck_E := (gTl, [], gc_yJ9_min_7cf53_zlm, 2, [(0, (0, 3, 0, 0, 1, 0, [])), (1, (0, 3, 1, 0, 2, 0, [])), (2, (2, 4, 0, 0, 5, 9, [])), (5, (0, 3, 0, 0, 6, 0, [])), (6, (3, 0, 0, 0, 0, 10, [])), (10, (14, 0, 0, 0, 0, 0, []))], [], [], [], [])
theorem gk_yJ9_min_7cf53_zlm : ck_chk ge_yJ9_min_7cf53_zlm 11 = true := by decide +kernel
theorem gd_yJ9_min_7cf53_zlm : ck_dec prog_32_method_69_code gt_yJ9_min_7cf53_zlm ge_yJ9_min_7cf53_zlm.2.2.2.2.1 = true := by decide +kernel
theorem gm_yJ9_min_7cf53_zlm {l : Launch} {G : am_G} {X : ck_XT} (g : gEl l G X) : ck_Con (am_grow (am_cm l G yJ9_min_7cf53 (.code yJ9_min_7cf53 prog_32_method_69_code 2 (some .int)) 1 20)) G X gTl gc_yJ9_min_7cf53_zlm :=
  ck_methG (E := ge_yJ9_min_7cf53_zlm) (tb := gt_yJ9_min_7cf53_zlm) (init := false) (cm := ck_cms []) g.1 g.2.1 g.2.2.1 g.2.2.2 gTl_w (by decide +kernel) rfl rfl rfl (by decide) gk_yJ9_min_7cf53_zlm gd_yJ9_min_7cf53_zlm ⟨(List.forall_mem_nil _), (List.forall_mem_nil _), (List.forall_mem_nil _), (List.forall_mem_nil _), (List.forall_mem_nil _), (List.forall_mem_nil _), (List.forall_mem_nil _), (List.forall_mem_nil _)⟩ (List.forall_mem_nil _) (fun h => nomatch h) ⟨_, rfl, rfl⟩ (by decide) (by decide) g_oi g_ar
    (fun s hk _ => (List.forall_mem_nil _)) (fun s hk => (List.forall_mem_nil _)) (ck_cms_okG trivial)
    (List.forall_mem_nil _) (List.forall_mem_nil _) (List.forall_mem_nil _) (List.forall_mem_nil _)
    (List.forall_mem_nil _)
    (ck_no5 rfl)
theorem g_y_yJ7_copyOf_6403c : ck_y yJ7_copyOf_6403c prog_48_method_120_code 4 3 (some (.array (.object "java/lang/Object"))) := ⟨w1866, w109, by decide +kernel, by decide +kernel, by decide +kernel⟩
def gc_yJ7_copyOf_6403c_zs : ck_KK := (([(1, 24), (1, 24), (0, 24)], [((-1), [((-1), 0), (1, 1)]), (0, [(1, 0), ((-1), 2)])], [(2, 0, 0, 756, (0, 0, (0, [(1, 0)]))), (6, 0, 4, 756, (0, 0, (0, [(1, 2)]))), (2, 1, 0, 43099, (0, 0, (0, [])))], 2, [(3, 0, (0, [])), (1, 0, (0, [(1, 1)])), (3, 1, (0, []))]), ((1, []), (0, [(1, 1)])), [(756, 1000)], [], ([], [], [(2, 2, 0, 756, (0, 0, (0, [(1, 1)]))), (5, 2, 0, 0, (0, 0, (0, []))), (6, 2, 4, 756, (0, 0, (0, [(1, 2)])))], 1, [(3, 2, (0, []))]), [])
def gt_yJ7_copyOf_6403c_zs : ck_TB := ([], [], [(110, 5)], [], [], [], [(2, 56)], [], ([], [], [(150, 1), (304, 0)], []), [], [], [], 4)
def ge_yJ7_copyOf_6403c_zs : ck_E := (gTl, [], gc_yJ7_copyOf_6403c_zs, 4, [(0, (0, 5, 2, 0, 1, 0, [])), (1, (0, 22, 5, 0, 3, 0, [])), (3, (20, 0, 0, 0, 6, 13, [])), (6, (0, 3, 1, 0, 7, 0, [])), (7, (10, 56, 756, 2, 10, 0, [])), (10, (3, 0, 0, 0, 0, 24, [])), (24, (0, 8, 3, 0, 25, 0, [])), (25, (0, 5, 0, 0, 26, 0, [])), (26, (0, 0, 0, 0, 27, 0, [])), (27, (0, 5, 3, 0, 28, 0, [])), (28, (0, 0, 0, 0, 29, 0, [])), (29, (0, 5, 0, 0, 30, 0, [])), (30, (11, 0, 0, 0, 31, 0, [])), (31, (0, 3, 1, 0, 32, 0, [])), (32, (16, 0, 0, 0, 35, 0, [])), (35, (16, 1, 0, 0, 38, 0, [])), (38, (0, 5, 3, 0, 39, 0, [])), (39, (14, 0, 0, 4, 0, 0, []))], [(none, 2, [gc_yJ9_min_7cf53_zlm]), (none, 5, [(ck_arcK 756 756)])], [], [], [])
theorem gk_yJ7_copyOf_6403c_zs : ck_chk ge_yJ7_copyOf_6403c_zs 23 = true := by decide +kernel
theorem gd_yJ7_copyOf_6403c_zs : ck_dec prog_48_method_120_code gt_yJ7_copyOf_6403c_zs ge_yJ7_copyOf_6403c_zs.2.2.2.2.1 = true := by decide +kernel
theorem gm_yJ7_copyOf_6403c_zs {l : Launch} {G : am_G} {X : ck_XT} (g : gEl l G X) : ck_Con (am_grow (am_cm l G yJ7_copyOf_6403c (.code yJ7_copyOf_6403c prog_48_method_120_code 4 (some (.array (.object "java/lang/Object")))) 2 59)) G X gTl gc_yJ7_copyOf_6403c_zs :=
  ck_methG (E := ge_yJ7_copyOf_6403c_zs) (tb := gt_yJ7_copyOf_6403c_zs) (init := false) (cm := ck_cms [am_cm l G yJ9_min_7cf53 (.code yJ9_min_7cf53 prog_32_method_69_code 2 (some .int)) 1 20, ck_arM G]) g.1 g.2.1 g.2.2.1 g.2.2.2 gTl_w (by decide +kernel) rfl rfl rfl (by decide) gk_yJ7_copyOf_6403c_zs gd_yJ7_copyOf_6403c_zs ⟨(List.forall_mem_nil _), (List.forall_mem_nil _), (List.forall_mem_cons.mpr ⟨Or.inr ⟨rfl, w1867⟩, (List.forall_mem_nil _)⟩), (List.forall_mem_nil _), (List.forall_mem_nil _), (List.forall_mem_cons.mpr ⟨Or.inl ⟨_, rfl, by decide, by decide, w1869, w1868⟩, (List.forall_mem_nil _)⟩), (List.forall_mem_nil _), (List.forall_mem_nil _)⟩ (List.forall_mem_nil _) (fun h => nomatch h) ⟨_, rfl, Or.inr ⟨_, rfl⟩⟩ (by decide) (by decide) g_oi g_ar
    (fun s hk _ => (List.forall_mem_nil _)) (fun s hk => (List.forall_mem_nil _)) (ck_cms_okG ⟨(List.forall_mem_cons.mpr ⟨((gm_yJ9_min_7cf53_zlm g)), (List.forall_mem_nil _)⟩), (List.forall_mem_cons.mpr ⟨(ck_arc_con g.2.1 g.2.2.1 (by decide +kernel)), (List.forall_mem_nil _)⟩), trivial⟩)
    (List.forall_mem_nil _) (List.forall_mem_nil _) (List.forall_mem_cons.mpr ⟨(ck_kAR w536 w538 w537 w105 w2528 w2503 w2513 (by decide) (by decide +kernel)), (List.forall_mem_cons.mpr ⟨(ck_kS g_y_yJ9_min_7cf53 w533 w534 (by decide) (by decide)), (List.forall_mem_nil _)⟩)⟩) (List.forall_mem_nil _)
    (List.forall_mem_nil _)
    (ck_no5 rfl)
theorem g_y_yJ7_copyOf_1904c : ck_y yJ7_copyOf_1904c prog_48_method_119_code 2 2 (some (.array (.object "java/lang/Object"))) := ⟨w1836, w109, by decide +kernel, by decide +kernel, by decide +kernel⟩
def gc_yJ7_copyOf_1904c_zs : ck_KK := (([(1, 24), (1, 24), (0, 24)], [((-1), [((-1), 0), (1, 1)]), (0, [(1, 0), ((-1), 2)])], [(2, 0, 0, 756, (0, 0, (0, [(1, 0)]))), (6, 0, 4, 756, (0, 0, (0, [(1, 2)])))], 1, [(3, 0, (0, [])), (1, 0, (0, [(1, 1)]))]), ((1, []), (0, [(1, 1)])), [(756, 1000)], [], ([], [], [(2, 1, 0, 756, (0, 0, (0, [(1, 1)]))), (5, 1, 0, 0, (0, 0, (0, []))), (6, 1, 4, 756, (0, 0, (0, [(1, 2)])))], 1, [(3, 1, (0, []))]), [])
def gt_yJ7_copyOf_1904c_zs : ck_TB := ([], [], [], [], [], [], [], [], ([(86, 0)], [], [(300, 1)], []), [], [], [], 4)
def ge_yJ7_copyOf_1904c_zs : ck_E := (gTl, [], gc_yJ7_copyOf_1904c_zs, 2, [(0, (0, 5, 0, 0, 1, 0, [])), (1, (0, 3, 1, 0, 2, 0, [])), (2, (0, 5, 0, 0, 3, 0, [])), (3, (16, 0, 0, 0, 6, 0, [])), (6, (16, 1, 0, 0, 9, 0, [])), (9, (14, 0, 0, 4, 0, 0, []))], [(some 56, 1, [(ck_gcK 756)]), (none, 3, [gc_yJ7_copyOf_6403c_zs])], [], [], [])
theorem gk_yJ7_copyOf_1904c_zs : ck_chk ge_yJ7_copyOf_1904c_zs 11 = true := by decide +kernel
theorem gd_yJ7_copyOf_1904c_zs : ck_dec prog_48_method_119_code gt_yJ7_copyOf_1904c_zs ge_yJ7_copyOf_1904c_zs.2.2.2.2.1 = true := by decide +kernel
theorem gm_yJ7_copyOf_1904c_zs {l : Launch} {G : am_G} {X : ck_XT} (g : gEl l G X) : ck_Con (am_grow (am_cm l G yJ7_copyOf_1904c (.code yJ7_copyOf_1904c prog_48_method_119_code 2 (some (.array (.object "java/lang/Object")))) 3 82)) G X gTl gc_yJ7_copyOf_1904c_zs :=
  ck_methG (E := ge_yJ7_copyOf_1904c_zs) (tb := gt_yJ7_copyOf_1904c_zs) (init := false) (cm := ck_cms [ck_gcM G, am_cm l G yJ7_copyOf_6403c (.code yJ7_copyOf_6403c prog_48_method_120_code 4 (some (.array (.object "java/lang/Object")))) 2 59]) g.1 g.2.1 g.2.2.1 g.2.2.2 gTl_w (by decide +kernel) rfl rfl rfl (by decide) gk_yJ7_copyOf_1904c_zs gd_yJ7_copyOf_1904c_zs ⟨(List.forall_mem_nil _), (List.forall_mem_nil _), (List.forall_mem_nil _), (List.forall_mem_nil _), (List.forall_mem_nil _), (List.forall_mem_nil _), (List.forall_mem_nil _), (List.forall_mem_nil _)⟩ (List.forall_mem_nil _) (fun h => nomatch h) ⟨_, rfl, Or.inr ⟨_, rfl⟩⟩ (by decide) (by decide) g_oi g_ar
    (fun s hk _ => (List.forall_mem_nil _)) (fun s hk => (List.forall_mem_nil _)) (ck_cms_okG ⟨(List.forall_mem_cons.mpr ⟨(ck_gc_con g.2.2.2 rfl (by decide)), (List.forall_mem_nil _)⟩), (List.forall_mem_cons.mpr ⟨((gm_yJ7_copyOf_6403c_zs g)), (List.forall_mem_nil _)⟩), trivial⟩)
    (List.forall_mem_cons.mpr ⟨(ck_kGC w1837 w2526 w2525 w1838 w1863 (by decide) (by decide)), (List.forall_mem_nil _)⟩) (List.forall_mem_nil _) (List.forall_mem_cons.mpr ⟨(ck_kS g_y_yJ7_copyOf_6403c w1864 w1865 (by decide) (by decide)), (List.forall_mem_nil _)⟩) (List.forall_mem_nil _)
    (List.forall_mem_nil _)
    (ck_no5 rfl)
def gc_yJ9_max_7cf53_zli : ck_KK := (([(0, 40), (0, 40)], [], [], 0, [(1, 0, (0, [(1, 0)])), (1, 0, (0, [(1, 1)]))]), ((0, []), (0, [])), [], [], ([(0, 40)], [(0, [((-1), 0), (1, 2)]), (0, [((-1), 1), (1, 2)]), (0, [(1, 0), (1, 1), ((-1), 2)])], [], 0, [(1, 0, (0, [(1, 2)]))]), [])
def gt_yJ9_max_7cf53_zli : ck_TB := ([], [], [], [], [], [], [], [], ([], [], [], []), [], [], [], 0)
def ge_yJ9_max_7cf53_zli : ck_E := (gTl, [], gc_yJ9_max_7cf53_zli, 2, [(0, (0, 3, 0, 0, 1, 0, [])), (1, (0, 3, 1, 0, 2, 0, [])), (2, (2, 2, 0, 0, 5, 9, [])), (5, (0, 3, 0, 0, 6, 0, [])), (6, (3, 0, 0, 0, 0, 10, [])), (9, (0, 3, 1, 0, 10, 0, [])), (10, (14, 0, 0, 0, 0, 0, []))], [], [], [], [])
theorem gk_yJ9_max_7cf53_zli : ck_chk ge_yJ9_max_7cf53_zli 13 = true := by decide +kernel
theorem gd_yJ9_max_7cf53_zli : ck_dec prog_32_method_65_code gt_yJ9_max_7cf53_zli ge_yJ9_max_7cf53_zli.2.2.2.2.1 = true := by decide +kernel
theorem gm_yJ9_max_7cf53_zli {l : Launch} {G : am_G} {X : ck_XT} (g : gEl l G X) : ck_Con (am_grow (am_cm l G yJ9_max_7cf53 (.code yJ9_max_7cf53 prog_32_method_65_code 2 (some .int)) 1 20)) G X gTl gc_yJ9_max_7cf53_zli :=
  ck_methG (E := ge_yJ9_max_7cf53_zli) (tb := gt_yJ9_max_7cf53_zli) (init := false) (cm := ck_cms []) g.1 g.2.1 g.2.2.1 g.2.2.2 gTl_w (by decide +kernel) rfl rfl rfl (by decide) gk_yJ9_max_7cf53_zli gd_yJ9_max_7cf53_zli ⟨(List.forall_mem_nil _), (List.forall_mem_nil _), (List.forall_mem_nil _), (List.forall_mem_nil _), (List.forall_mem_nil _), (List.forall_mem_nil _), (List.forall_mem_nil _), (List.forall_mem_nil _)⟩ (List.forall_mem_nil _) (fun h => nomatch h) ⟨_, rfl, rfl⟩ (by decide) (by decide) g_oi g_ar
    (fun s hk _ => (List.forall_mem_nil _)) (fun s hk => (List.forall_mem_nil _)) (ck_cms_okG trivial)
    (List.forall_mem_nil _) (List.forall_mem_nil _) (List.forall_mem_nil _) (List.forall_mem_nil _)
    (List.forall_mem_nil _)
    (ck_no5 rfl)
def gc_yJ8_newLength_cabcc_zli : ck_KK := (([(10, 13), (1, 1), (5, 6)], [], [], 0, [(1, 0, (0, [(1, 0)])), (1, 0, (0, [(1, 1)])), (1, 0, (0, [(1, 2)]))]), ((0, []), (0, [])), [], [], ([(15, 20)], [], [], 0, [(1, 0, (0, [(1, 3)]))]), [])
def gt_yJ8_newLength_cabcc_zli : ck_TB := ([(200, 2147483639)], [], [], [], [], [], [], [], ([], [], [(194, 0)], []), [], [], [], 0)
def ge_yJ8_newLength_cabcc_zli : ck_E := (gTl, [], gc_yJ8_newLength_cabcc_zli, 4, [(0, (0, 3, 0, 0, 1, 0, [])), (1, (0, 3, 1, 0, 2, 0, [])), (2, (0, 3, 2, 0, 3, 0, [])), (3, (16, 0, 0, 0, 6, 0, [])), (6, (0, 15, 0, 0, 7, 0, [])), (7, (0, 6, 3, 0, 8, 0, [])), (8, (0, 0, 0, 0, 9, 0, [])), (9, (0, 3, 3, 0, 10, 0, [])), (10, (2, 3, 0, 0, 13, 21, [])), (13, (0, 3, 3, 0, 14, 0, [])), (14, (0, 0, 0, 2147483639, 16, 0, [])), (16, (2, 4, 0, 0, 19, 21, [])), (19, (0, 3, 3, 0, 20, 0, [])), (20, (14, 0, 0, 0, 0, 0, []))], [(none, 2, [gc_yJ9_max_7cf53_zli])], [], [], [])
theorem gk_yJ8_newLength_cabcc_zli : ck_chk ge_yJ8_newLength_cabcc_zli 19 = true := by decide +kernel
theorem gd_yJ8_newLength_cabcc_zli : ck_dec prog_55_method_27_code gt_yJ8_newLength_cabcc_zli ge_yJ8_newLength_cabcc_zli.2.2.2.2.1 = true := by decide +kernel
theorem gm_yJ8_newLength_cabcc_zli {l : Launch} {G : am_G} {X : ck_XT} (g : gEl l G X) : ck_Con (am_grow (am_cm l G yJ8_newLength_cabcc (.code yJ8_newLength_cabcc prog_55_method_27_code 4 (some .int)) 2 41)) G X gTl gc_yJ8_newLength_cabcc_zli :=
  ck_methG (E := ge_yJ8_newLength_cabcc_zli) (tb := gt_yJ8_newLength_cabcc_zli) (init := false) (cm := ck_cms [am_cm l G yJ9_max_7cf53 (.code yJ9_max_7cf53 prog_32_method_65_code 2 (some .int)) 1 20]) g.1 g.2.1 g.2.2.1 g.2.2.2 gTl_w (by decide +kernel) rfl rfl rfl (by decide) gk_yJ8_newLength_cabcc_zli gd_yJ8_newLength_cabcc_zli ⟨(List.forall_mem_cons.mpr ⟨ck_cst (by decide +kernel) w518, (List.forall_mem_nil _)⟩), (List.forall_mem_nil _), (List.forall_mem_nil _), (List.forall_mem_nil _), (List.forall_mem_nil _), (List.forall_mem_nil _), (List.forall_mem_nil _), (List.forall_mem_nil _)⟩ (List.forall_mem_nil _) (fun h => nomatch h) ⟨_, rfl, rfl⟩ (by decide) (by decide) g_oi g_ar
    (fun s hk _ => (List.forall_mem_nil _)) (fun s hk => (List.forall_mem_nil _)) (ck_cms_okG ⟨(List.forall_mem_cons.mpr ⟨((gm_yJ9_max_7cf53_zli g)), (List.forall_mem_nil _)⟩), trivial⟩)
    (List.forall_mem_nil _) (List.forall_mem_nil _) (List.forall_mem_cons.mpr ⟨(ck_kS g_y_yJ9_max_7cf53 w515 w516 (by decide) (by decide)), (List.forall_mem_nil _)⟩) (List.forall_mem_nil _)
    (List.forall_mem_nil _)
    (ck_no5 rfl)
theorem g_y_yJx4a65c_grow_92f84 : ck_y yJx4a65c_grow_92f84 prog_46_method_6_code 4 1 (some (.array (.object "java/lang/Object"))) := ⟨w1832, w99, by decide +kernel, by decide +kernel, by decide +kernel⟩
theorem g_in6 : ∀ w ∈ u_ws RJx4a65c TJx4a65c 3, w ∈ lw_gw := by
  intro w hw
  obtain ⟨i, hi, rfl⟩ := List.mem_map.mp hw
  rw [List.mem_range] at hi
  match i, hi with
  | 0, _ => exact w1695
  | 1, _ => exact w1691
  | 2, _ => exact w1693
theorem g_fd6_0 : am_fd 6 0 false .int := ⟨RJx4a65c, TJx4a65c, 3, tyJx4a65c, rfl, by decide, g_in6, tyJx4a65c_ok, nmJx4a65c, rfl, by decide +kernel⟩
theorem g_fd6_1 : am_fd 6 1 false (.array (.object "java/lang/Object")) := ⟨RJx4a65c, TJx4a65c, 3, tyJx4a65c, rfl, by decide, g_in6, tyJx4a65c_ok, nmJx4a65c, rfl, by decide +kernel⟩
theorem g_fd6_2 : am_fd 6 2 false .int := ⟨RJx4a65c, TJx4a65c, 3, tyJx4a65c, rfl, by decide, g_in6, tyJx4a65c_ok, nmJx4a65c, rfl, by decide +kernel⟩
def gc_yJx4a65c_grow_92f84_zre : ck_KK := (([((-2147483648), 2147483647), (1, 1)], [], [(2, 0, 0, 506, (0, 0, (3, []))), (3, 0, 0, 506, (1, 0, (0, [(1, 0)]))), (3, 0, 1, 506, (3, 1, (0, []))), (2, 1, 0, 43056, (0, 0, (0, []))), (3, 0, 2, 506, (1, 0, (0, [])))], 2, [(3, 0, (0, [])), (1, 0, (0, [(1, 1)]))]), ((1, []), (11, [])), [(506, 1)], [], ([(10, 11), (10, 11)], [], [(2, 2, 0, 556, (0, 0, (0, [(1, 2)]))), (5, 2, 0, 0, (0, 0, (0, []))), (6, 2, 4, 556, (0, 0, (0, []))), (3, 0, 1, 506, (3, 2, (0, [])))], 1, [(3, 2, (0, []))]), [])
def gt_yJx4a65c_grow_92f84_zre : ck_TB := ([], [], [], [(9, 6, 1)], [(9, 6, 1, 4)], [], [(7, 56)], [], ([], [], [(79, 0)], []), [], [], [(39, 1, 4)], 4)
def ge_yJx4a65c_grow_92f84_zre : ck_E := (gTl, [], gc_yJx4a65c_grow_92f84_zre, 4, [(0, (0, 5, 0, 0, 1, 0, [])), (1, (7, 6, 1, 0, 4, 0, [])), (4, (11, 0, 0, 0, 5, 0, [])), (5, (0, 6, 2, 0, 6, 0, [])), (6, (0, 3, 2, 0, 7, 0, [])), (7, (1, 4, 0, 0, 10, 20, [])), (10, (0, 5, 0, 0, 11, 0, [])), (11, (7, 6, 1, 0, 14, 0, [])), (14, (0, 22, 4, 0, 17, 0, [])), (17, (20, 1, 0, 0, 20, 45, [])), (45, (0, 5, 0, 0, 46, 0, [])), (46, (0, 0, 0, 10, 48, 0, [])), (48, (0, 3, 1, 0, 49, 0, [])), (49, (16, 0, 0, 0, 52, 0, [])), (52, (10, 56, 556, 2, 55, 0, [])), (55, (0, 13, 0, 0, 56, 0, [])), (56, (8, 6, 1, 4, 59, 0, [])), (59, (14, 0, 0, 4, 0, 0, []))], [(none, 2, [gc_yJ9_max_7cf53_zli])], [], [], [])
theorem gk_yJx4a65c_grow_92f84_zre : ck_chk ge_yJx4a65c_grow_92f84_zre 23 = true := by decide +kernel
theorem gd_yJx4a65c_grow_92f84_zre : ck_dec prog_46_method_6_code gt_yJx4a65c_grow_92f84_zre ge_yJx4a65c_grow_92f84_zre.2.2.2.2.1 = true := by decide +kernel
theorem gm_yJx4a65c_grow_92f84_zre {l : Launch} {G : am_G} {X : ck_XT} (g : gEl l G X) : ck_Con (am_grow (am_cm l G yJx4a65c_grow_92f84 (.code yJx4a65c_grow_92f84 prog_46_method_6_code 4 (some (.array (.object "java/lang/Object")))) 5 140)) G X gTl gc_yJx4a65c_grow_92f84_zre :=
  ck_methG (E := ge_yJx4a65c_grow_92f84_zre) (tb := gt_yJx4a65c_grow_92f84_zre) (init := false) (cm := ck_cms [am_cm l G yJ9_max_7cf53 (.code yJ9_max_7cf53 prog_32_method_65_code 2 (some .int)) 1 20]) g.1 g.2.1 g.2.2.1 g.2.2.2 gTl_w (by decide +kernel) rfl rfl rfl (by decide) gk_yJx4a65c_grow_92f84_zre gd_yJx4a65c_grow_92f84_zre ⟨(List.forall_mem_nil _), (List.forall_mem_nil _), (List.forall_mem_nil _), (List.forall_mem_cons.mpr ⟨⟨⟨_, _, _, rfl, Or.inl w1683⟩, by decide, _, _, g_fd6_1⟩, (List.forall_mem_nil _)⟩), (List.forall_mem_nil _), (List.forall_mem_cons.mpr ⟨Or.inl ⟨_, rfl, by decide, by decide, w1871, w1868⟩, (List.forall_mem_nil _)⟩), (List.forall_mem_nil _), (List.forall_mem_cons.mpr ⟨⟨_, List.mem_of_getElem? (i := 5) rfl, w1681, Or.inr ⟨rfl, 4, rfl, rfl⟩⟩, (List.forall_mem_nil _)⟩)⟩ (List.forall_mem_cons.mpr ⟨⟨⟨_, _, _, rfl, Or.inl w1683⟩, by decide, _, Or.inr ⟨_, rfl⟩, Or.inl g_fd6_1⟩, (List.forall_mem_nil _)⟩) (fun h => nomatch h) ⟨_, rfl, Or.inr ⟨_, rfl⟩⟩ (by decide) (by decide) g_oi g_ar
    (fun s hk _ => (List.forall_mem_nil _)) (fun s hk => (List.forall_mem_nil _)) (ck_cms_okG ⟨(List.forall_mem_cons.mpr ⟨((gm_yJ9_max_7cf53_zli g)), (List.forall_mem_nil _)⟩), trivial⟩)
    (List.forall_mem_nil _) (List.forall_mem_nil _) (List.forall_mem_cons.mpr ⟨(ck_kS g_y_yJ9_max_7cf53 w1870 w516 (by decide) (by decide)), (List.forall_mem_nil _)⟩) (List.forall_mem_nil _)
    (List.forall_mem_nil _)
    (ck_no5 rfl)
theorem g_y_yJx4a65c_grow_d5877 : ck_y yJx4a65c_grow_d5877 prog_46_method_7_code 1 0 (some (.array (.object "java/lang/Object"))) := ⟨w1828, w99, by decide +kernel, by decide +kernel, by decide +kernel⟩
def gc_yJx4a65c_grow_d5877_zre : ck_KK := (([((-2147483648), 2147483647)], [], [(2, 0, 0, 506, (0, 0, (3, []))), (3, 0, 0, 506, (1, 0, (0, [(1, 0)]))), (3, 0, 1, 506, (3, 1, (0, []))), (2, 1, 0, 43056, (0, 0, (0, []))), (3, 0, 2, 506, (1, 0, (0, [])))], 2, [(3, 0, (0, []))]), ((1, []), (11, [])), [(506, 1)], [], ([(10, 11), (10, 11)], [], [(2, 2, 0, 556, (0, 0, (0, [(1, 1)]))), (5, 2, 0, 0, (0, 0, (0, []))), (6, 2, 4, 556, (0, 0, (0, []))), (3, 0, 1, 506, (3, 2, (0, [])))], 1, [(3, 2, (0, []))]), [])
def gt_yJx4a65c_grow_d5877_zre : ck_TB := ([], [], [], [(48, 6, 2)], [], [], [], [], ([(69, 0)], [], [], []), [], [], [], 4)
def ge_yJx4a65c_grow_d5877_zre : ck_E := (gTl, [], gc_yJx4a65c_grow_d5877_zre, 1, [(0, (0, 5, 0, 0, 1, 0, [])), (1, (0, 5, 0, 0, 2, 0, [])), (2, (7, 6, 2, 0, 5, 0, [])), (5, (0, 0, 0, 1, 6, 0, [])), (6, (0, 15, 0, 0, 7, 0, [])), (7, (16, 0, 0, 0, 10, 0, [])), (10, (14, 0, 0, 4, 0, 0, []))], [(some 6, 2, [gc_yJx4a65c_grow_92f84_zre])], [], [], [])
theorem gk_yJx4a65c_grow_d5877_zre : ck_chk ge_yJx4a65c_grow_d5877_zre 12 = true := by decide +kernel
theorem gd_yJx4a65c_grow_d5877_zre : ck_dec prog_46_method_7_code gt_yJx4a65c_grow_d5877_zre ge_yJx4a65c_grow_d5877_zre.2.2.2.2.1 = true := by decide +kernel
theorem gm_yJx4a65c_grow_d5877_zre {l : Launch} {G : am_G} {X : ck_XT} (g : gEl l G X) : ck_Con (am_grow (am_cm l G yJx4a65c_grow_d5877 (.code yJx4a65c_grow_d5877 prog_46_method_7_code 1 (some (.array (.object "java/lang/Object")))) 6 170)) G X gTl gc_yJx4a65c_grow_d5877_zre :=
  ck_methG (E := ge_yJx4a65c_grow_d5877_zre) (tb := gt_yJx4a65c_grow_d5877_zre) (init := false) (cm := ck_cms [am_cm l G yJx4a65c_grow_92f84 (.code yJx4a65c_grow_92f84 prog_46_method_6_code 4 (some (.array (.object "java/lang/Object")))) 5 140]) g.1 g.2.1 g.2.2.1 g.2.2.2 gTl_w (by decide +kernel) rfl rfl rfl (by decide) gk_yJx4a65c_grow_d5877_zre gd_yJx4a65c_grow_d5877_zre ⟨(List.forall_mem_nil _), (List.forall_mem_nil _), (List.forall_mem_nil _), (List.forall_mem_cons.mpr ⟨⟨⟨_, _, _, rfl, Or.inl w1686⟩, by decide, _, _, g_fd6_2⟩, (List.forall_mem_nil _)⟩), (List.forall_mem_nil _), (List.forall_mem_nil _), (List.forall_mem_nil _), (List.forall_mem_nil _)⟩ (List.forall_mem_nil _) (fun h => nomatch h) ⟨_, rfl, Or.inr ⟨_, rfl⟩⟩ (by decide) (by decide) g_oi g_ar
    (fun s hk _ => (List.forall_mem_nil _)) (fun s hk => (List.forall_mem_nil _)) (ck_cms_okG ⟨(List.forall_mem_cons.mpr ⟨((gm_yJx4a65c_grow_92f84_zre g)), (List.forall_mem_nil _)⟩), trivial⟩)
    (List.forall_mem_cons.mpr ⟨(ck_kV g_y_yJx4a65c_grow_92f84 w1829 w1831 w36 (T := TJx4a65c) (N := 3) rfl (by decide) (by decide) (by decide)), (List.forall_mem_nil _)⟩) (List.forall_mem_nil _) (List.forall_mem_nil _) (List.forall_mem_nil _)
    (List.forall_mem_nil _)
    (ck_no5 rfl)
theorem g_y_yJx4a65c_add_72be8 : ck_y yJx4a65c_add_72be8 prog_46_method_24_code 4 3 none := ⟨w1824, w99, by decide +kernel, by decide +kernel, by decide +kernel⟩
def gc_yJx4a65c_add_72be8_zre : ck_KK := (([((-2147483648), 2147483647)], [], [(2, 0, 0, 506, (0, 0, (3, []))), (3, 0, 0, 506, (1, 0, (0, [(1, 0)]))), (3, 0, 1, 506, (3, 1, (0, []))), (2, 1, 0, 43056, (0, 0, (0, []))), (3, 0, 2, 506, (1, 0, (0, []))), (2, 2, 0, 2550, (0, 0, (2, [])))], 3, [(3, 0, (0, [])), (3, 2, (0, [])), (3, 1, (0, [])), (1, 0, (0, []))]), ((1, []), (11, [])), [(506, 1), (506, 2)], [], ([(10, 11)], [], [(3, 0, 1, 506, (3, 3, (0, []))), (2, 3, 0, 556, (0, 0, (0, [(1, 1)]))), (5, 3, 0, 0, (0, 0, (0, []))), (6, 3, 4, 556, (0, 0, (1, []))), (3, 0, 2, 506, (1, 0, (1, []))), (3, 3, 0, 556, (3, 2, (0, [])))], 1, []), [])
def gt_yJx4a65c_add_72be8_zre : ck_TB := ([], [], [], [], [(48, 6, 2, 0)], [], [], [], ([(129, 0)], [], [], []), [], [], [], 9)
def ge_yJx4a65c_add_72be8_zre : ck_E := (gTl, [(56, 50)], gc_yJx4a65c_add_72be8_zre, 4, [(0, (0, 3, 3, 0, 1, 0, [])), (1, (0, 5, 2, 0, 2, 0, [])), (2, (11, 0, 0, 0, 3, 0, [])), (3, (2, 1, 0, 0, 6, 11, [])), (6, (0, 5, 0, 0, 7, 0, [])), (7, (16, 0, 0, 0, 10, 0, [])), (10, (0, 8, 2, 0, 11, 0, [])), (11, (0, 5, 2, 0, 12, 0, [])), (12, (0, 3, 3, 0, 13, 0, [])), (13, (0, 5, 1, 0, 14, 0, [])), (14, (13, 53, 57, 0, 15, 0, [])), (15, (0, 5, 0, 0, 16, 0, [])), (16, (0, 3, 3, 0, 17, 0, [])), (17, (0, 0, 0, 1, 18, 0, [])), (18, (0, 15, 0, 0, 19, 0, [])), (19, (8, 6, 2, 0, 22, 0, [])), (22, (15, 0, 0, 0, 0, 0, []))], [(some 6, 1, [gc_yJx4a65c_grow_d5877_zre])], [], [], [])
theorem gk_yJx4a65c_add_72be8_zre : ck_chk ge_yJx4a65c_add_72be8_zre 22 = true := by decide +kernel
theorem gd_yJx4a65c_add_72be8_zre : ck_dec prog_46_method_24_code gt_yJx4a65c_add_72be8_zre ge_yJx4a65c_add_72be8_zre.2.2.2.2.1 = true := by decide +kernel
theorem gm_yJx4a65c_add_72be8_zre {l : Launch} {G : am_G} {X : ck_XT} (g : gEl l G X) : ck_Con (am_grow (am_cm l G yJx4a65c_add_72be8 (.code yJx4a65c_add_72be8 prog_46_method_24_code 4 none) 7 200)) G X gTl gc_yJx4a65c_add_72be8_zre :=
  ck_methG (E := ge_yJx4a65c_add_72be8_zre) (tb := gt_yJx4a65c_add_72be8_zre) (init := false) (cm := ck_cms [am_cm l G yJx4a65c_grow_d5877 (.code yJx4a65c_grow_d5877 prog_46_method_7_code 1 (some (.array (.object "java/lang/Object")))) 6 170]) g.1 g.2.1 g.2.2.1 g.2.2.2 gTl_w (by decide +kernel) rfl rfl rfl (by decide) gk_yJx4a65c_add_72be8_zre gd_yJx4a65c_add_72be8_zre ⟨(List.forall_mem_nil _), (List.forall_mem_nil _), (List.forall_mem_nil _), (List.forall_mem_nil _), (List.forall_mem_nil _), (List.forall_mem_nil _), (List.forall_mem_nil _), (List.forall_mem_nil _)⟩ (List.forall_mem_cons.mpr ⟨⟨⟨_, _, _, rfl, Or.inl w1686⟩, by decide, _, rfl, Or.inl g_fd6_2⟩, (List.forall_mem_nil _)⟩) (fun h => nomatch h) rfl (by decide) (by decide) g_oi g_ar
    (fun s hk _ => (List.forall_mem_cons.mpr ⟨⟨by decide, by decide, am_asg_arr hk w2528⟩, (List.forall_mem_nil _)⟩)) (fun s hk => (List.forall_mem_nil _)) (ck_cms_okG ⟨(List.forall_mem_cons.mpr ⟨((gm_yJx4a65c_grow_d5877_zre g)), (List.forall_mem_nil _)⟩), trivial⟩)
    (List.forall_mem_cons.mpr ⟨(ck_kV g_y_yJx4a65c_grow_d5877 w1825 w1827 w35 (T := TJx4a65c) (N := 3) rfl (by decide) (by decide) (by decide)), (List.forall_mem_nil _)⟩) (List.forall_mem_nil _) (List.forall_mem_nil _) (List.forall_mem_nil _)
    (List.forall_mem_nil _)
    (ck_no5 rfl)
theorem g_y_yJx4a65c_add_9ea2d : ck_y yJx4a65c_add_9ea2d prog_46_method_25_code 2 1 (some .boolean) := ⟨w1820, w99, by decide +kernel, by decide +kernel, by decide +kernel⟩
def gc_yJx4a65c_add_9ea2d_zre : ck_KK := (([((-2147483648), 2147483647)], [], [(2, 0, 0, 506, (0, 0, (3, []))), (3, 0, 0, 506, (1, 0, (0, [(1, 0)]))), (3, 0, 1, 506, (3, 1, (0, []))), (2, 1, 0, 43056, (0, 0, (0, []))), (3, 0, 2, 506, (1, 0, (0, []))), (2, 2, 0, 2550, (0, 0, (2, [])))], 3, [(3, 0, (0, [])), (3, 2, (0, []))]), ((1, []), (11, [])), [(506, 0), (506, 1), (506, 2)], [], ([((-2147483648), 2147483647), (10, 11)], [], [(3, 0, 0, 506, (1, 0, (0, [(1, 1)]))), (3, 0, 1, 506, (3, 3, (0, []))), (2, 3, 0, 556, (0, 0, (0, [(1, 2)]))), (5, 3, 0, 0, (0, 0, (0, []))), (6, 3, 4, 556, (0, 0, (1, []))), (3, 0, 2, 506, (1, 0, (1, []))), (3, 3, 0, 556, (3, 2, (0, [])))], 1, [(1, 0, (1, []))]), [])
def gt_yJx4a65c_add_9ea2d_zre : ck_TB := ([], [], [], [(9, 6, 1), (48, 6, 2), (63, 6, 0)], [(63, 6, 0, 0)], [], [], [], ([(131, 0)], [], [], []), [], [], [], 1)
def ge_yJx4a65c_add_9ea2d_zre : ck_E := (gTl, [], gc_yJx4a65c_add_9ea2d_zre, 2, [(0, (0, 5, 0, 0, 1, 0, [])), (1, (0, 12, 0, 0, 2, 0, [])), (2, (7, 6, 0, 0, 5, 0, [])), (5, (0, 0, 0, 1, 6, 0, [])), (6, (0, 15, 0, 0, 7, 0, [])), (7, (8, 6, 0, 0, 10, 0, [])), (10, (0, 5, 0, 0, 11, 0, [])), (11, (0, 5, 1, 0, 12, 0, [])), (12, (0, 5, 0, 0, 13, 0, [])), (13, (7, 6, 1, 0, 16, 0, [])), (16, (0, 5, 0, 0, 17, 0, [])), (17, (7, 6, 2, 0, 20, 0, [])), (20, (16, 0, 0, 0, 23, 0, [])), (23, (0, 0, 0, 1, 24, 0, [])), (24, (14, 0, 0, 1, 0, 0, []))], [(some 6, 4, [gc_yJx4a65c_add_72be8_zre])], [], [], [])
theorem gk_yJx4a65c_add_9ea2d_zre : ck_chk ge_yJx4a65c_add_9ea2d_zre 20 = true := by decide +kernel
theorem gd_yJx4a65c_add_9ea2d_zre : ck_dec prog_46_method_25_code gt_yJx4a65c_add_9ea2d_zre ge_yJx4a65c_add_9ea2d_zre.2.2.2.2.1 = true := by decide +kernel
theorem gm_yJx4a65c_add_9ea2d_zre {l : Launch} {G : am_G} {X : ck_XT} (g : gEl l G X) : ck_Con (am_grow (am_cm l G yJx4a65c_add_9ea2d (.code yJx4a65c_add_9ea2d prog_46_method_25_code 2 (some .boolean)) 8 230)) G X gTl gc_yJx4a65c_add_9ea2d_zre :=
  ck_methG (E := ge_yJx4a65c_add_9ea2d_zre) (tb := gt_yJx4a65c_add_9ea2d_zre) (init := false) (cm := ck_cms [am_cm l G yJx4a65c_add_72be8 (.code yJx4a65c_add_72be8 prog_46_method_24_code 4 none) 7 200]) g.1 g.2.1 g.2.2.1 g.2.2.2 gTl_w (by decide +kernel) rfl rfl rfl (by decide) gk_yJx4a65c_add_9ea2d_zre gd_yJx4a65c_add_9ea2d_zre ⟨(List.forall_mem_nil _), (List.forall_mem_nil _), (List.forall_mem_nil _), (List.forall_mem_cons.mpr ⟨⟨⟨_, _, _, rfl, Or.inl w1683⟩, by decide, _, _, g_fd6_1⟩, (List.forall_mem_cons.mpr ⟨⟨⟨_, _, _, rfl, Or.inl w1686⟩, by decide, _, _, g_fd6_2⟩, (List.forall_mem_cons.mpr ⟨⟨⟨_, _, _, rfl, Or.inr (Or.inr ⟨_, w1690, w1689⟩)⟩, by decide, _, _, g_fd6_0⟩, (List.forall_mem_nil _)⟩)⟩)⟩), (List.forall_mem_nil _), (List.forall_mem_nil _), (List.forall_mem_nil _), (List.forall_mem_nil _)⟩ (List.forall_mem_cons.mpr ⟨⟨⟨_, _, _, rfl, Or.inr (Or.inr ⟨_, w1690, w1689⟩)⟩, by decide, _, rfl, Or.inl g_fd6_0⟩, (List.forall_mem_nil _)⟩) (fun h => nomatch h) ⟨_, rfl, rfl⟩ (by decide) (by decide) g_oi g_ar
    (fun s hk _ => (List.forall_mem_nil _)) (fun s hk => (List.forall_mem_nil _)) (ck_cms_okG ⟨(List.forall_mem_cons.mpr ⟨((gm_yJx4a65c_add_72be8_zre g)), (List.forall_mem_nil _)⟩), trivial⟩)
    (List.forall_mem_cons.mpr ⟨(ck_kV g_y_yJx4a65c_add_72be8 w1821 w1823 w34 (T := TJx4a65c) (N := 3) rfl (by decide) (by decide) (by decide)), (List.forall_mem_nil _)⟩) (List.forall_mem_nil _) (List.forall_mem_nil _) (List.forall_mem_nil _)
    (List.forall_mem_nil _)
    (ck_no5 rfl)
def gc_yJx4a65c_add_72be8_zr0 : ck_KK := (([((-2147483648), 2147483647), (10, 24)], [], [(2, 0, 0, 506, (0, 0, (3, []))), (3, 0, 0, 506, (1, 0, (0, [(1, 0)]))), (3, 0, 1, 506, (3, 1, (0, []))), (2, 1, 0, 556, (0, 0, (0, [(1, 1)]))), (3, 0, 2, 506, (1, 0, (0, []))), (6, 1, 4, 556, (0, 0, (0, []))), (2, 2, 0, 2550, (0, 0, (2, [])))], 3, [(3, 0, (0, [])), (3, 2, (0, [])), (3, 1, (0, [])), (1, 0, (0, []))]), ((0, []), (0, [])), [(506, 2), (556, 0)], [], ([], [], [(3, 0, 2, 506, (1, 0, (1, []))), (3, 1, 0, 556, (3, 2, (0, []))), (6, 1, 4, 556, (0, 0, (1, [])))], 0, []), [])
def gt_yJx4a65c_add_72be8_zr0 : ck_TB := ([], [], [], [], [(48, 6, 2, 0)], [], [], [], ([], [], [], []), [], [], [], 9)
def ge_yJx4a65c_add_72be8_zr0 : ck_E := (gTl, [(56, 50)], gc_yJx4a65c_add_72be8_zr0, 4, [(0, (0, 3, 3, 0, 1, 0, [])), (1, (0, 5, 2, 0, 2, 0, [])), (2, (11, 0, 0, 0, 3, 0, [])), (3, (2, 1, 0, 0, 6, 11, [])), (11, (0, 5, 2, 0, 12, 0, [])), (12, (0, 3, 3, 0, 13, 0, [])), (13, (0, 5, 1, 0, 14, 0, [])), (14, (13, 53, 57, 0, 15, 0, [])), (15, (0, 5, 0, 0, 16, 0, [])), (16, (0, 3, 3, 0, 17, 0, [])), (17, (0, 0, 0, 1, 18, 0, [])), (18, (0, 15, 0, 0, 19, 0, [])), (19, (8, 6, 2, 0, 22, 0, [])), (22, (15, 0, 0, 0, 0, 0, []))], [], [], [], [])
theorem gk_yJx4a65c_add_72be8_zr0 : ck_chk ge_yJx4a65c_add_72be8_zr0 19 = true := by decide +kernel
theorem gd_yJx4a65c_add_72be8_zr0 : ck_dec prog_46_method_24_code gt_yJx4a65c_add_72be8_zr0 ge_yJx4a65c_add_72be8_zr0.2.2.2.2.1 = true := by decide +kernel
theorem gm_yJx4a65c_add_72be8_zr0 {l : Launch} {G : am_G} {X : ck_XT} (g : gEl l G X) : ck_Con (am_grow (am_cm l G yJx4a65c_add_72be8 (.code yJx4a65c_add_72be8 prog_46_method_24_code 4 none) 7 200)) G X gTl gc_yJx4a65c_add_72be8_zr0 :=
  ck_methG (E := ge_yJx4a65c_add_72be8_zr0) (tb := gt_yJx4a65c_add_72be8_zr0) (init := false) (cm := ck_cms []) g.1 g.2.1 g.2.2.1 g.2.2.2 gTl_w (by decide +kernel) rfl rfl rfl (by decide) gk_yJx4a65c_add_72be8_zr0 gd_yJx4a65c_add_72be8_zr0 ⟨(List.forall_mem_nil _), (List.forall_mem_nil _), (List.forall_mem_nil _), (List.forall_mem_nil _), (List.forall_mem_nil _), (List.forall_mem_nil _), (List.forall_mem_nil _), (List.forall_mem_nil _)⟩ (List.forall_mem_cons.mpr ⟨⟨⟨_, _, _, rfl, Or.inl w1686⟩, by decide, _, rfl, Or.inl g_fd6_2⟩, (List.forall_mem_nil _)⟩) (fun h => nomatch h) rfl (by decide) (by decide) g_oi g_ar
    (fun s hk _ => (List.forall_mem_cons.mpr ⟨⟨by decide, by decide, am_asg_arr hk w2528⟩, (List.forall_mem_nil _)⟩)) (fun s hk => (List.forall_mem_nil _)) (ck_cms_okG trivial)
    (List.forall_mem_nil _) (List.forall_mem_nil _) (List.forall_mem_nil _) (List.forall_mem_nil _)
    (List.forall_mem_nil _)
    (ck_no5 rfl)
def gc_yJx4a65c_add_9ea2d_zr0 : ck_KK := (([((-2147483648), 2147483647), (10, 24)], [], [(2, 0, 0, 506, (0, 0, (3, []))), (3, 0, 0, 506, (1, 0, (0, [(1, 0)]))), (3, 0, 1, 506, (3, 1, (0, []))), (2, 1, 0, 556, (0, 0, (0, [(1, 1)]))), (3, 0, 2, 506, (1, 0, (0, []))), (6, 1, 4, 556, (0, 0, (0, []))), (2, 2, 0, 2550, (0, 0, (2, [])))], 3, [(3, 0, (0, [])), (3, 2, (0, []))]), ((0, []), (0, [])), [(506, 0), (506, 2), (556, 0)], [], ([((-2147483648), 2147483647)], [], [(3, 0, 0, 506, (1, 0, (0, [(1, 2)]))), (3, 0, 2, 506, (1, 0, (1, []))), (3, 1, 0, 556, (3, 2, (0, []))), (6, 1, 4, 556, (0, 0, (1, [])))], 0, [(1, 0, (1, []))]), [])
def gt_yJx4a65c_add_9ea2d_zr0 : ck_TB := ([], [], [], [(9, 6, 1), (48, 6, 2), (63, 6, 0)], [(63, 6, 0, 0)], [], [], [], ([(131, 0)], [], [], []), [], [], [], 1)
def ge_yJx4a65c_add_9ea2d_zr0 : ck_E := (gTl, [], gc_yJx4a65c_add_9ea2d_zr0, 2, [(0, (0, 5, 0, 0, 1, 0, [])), (1, (0, 12, 0, 0, 2, 0, [])), (2, (7, 6, 0, 0, 5, 0, [])), (5, (0, 0, 0, 1, 6, 0, [])), (6, (0, 15, 0, 0, 7, 0, [])), (7, (8, 6, 0, 0, 10, 0, [])), (10, (0, 5, 0, 0, 11, 0, [])), (11, (0, 5, 1, 0, 12, 0, [])), (12, (0, 5, 0, 0, 13, 0, [])), (13, (7, 6, 1, 0, 16, 0, [])), (16, (0, 5, 0, 0, 17, 0, [])), (17, (7, 6, 2, 0, 20, 0, [])), (20, (16, 0, 0, 0, 23, 0, [])), (23, (0, 0, 0, 1, 24, 0, [])), (24, (14, 0, 0, 1, 0, 0, []))], [(some 6, 4, [gc_yJx4a65c_add_72be8_zr0])], [], [], [])
theorem gk_yJx4a65c_add_9ea2d_zr0 : ck_chk ge_yJx4a65c_add_9ea2d_zr0 20 = true := by decide +kernel
theorem gd_yJx4a65c_add_9ea2d_zr0 : ck_dec prog_46_method_25_code gt_yJx4a65c_add_9ea2d_zr0 ge_yJx4a65c_add_9ea2d_zr0.2.2.2.2.1 = true := by decide +kernel
theorem gm_yJx4a65c_add_9ea2d_zr0 {l : Launch} {G : am_G} {X : ck_XT} (g : gEl l G X) : ck_Con (am_grow (am_cm l G yJx4a65c_add_9ea2d (.code yJx4a65c_add_9ea2d prog_46_method_25_code 2 (some .boolean)) 8 230)) G X gTl gc_yJx4a65c_add_9ea2d_zr0 :=
  ck_methG (E := ge_yJx4a65c_add_9ea2d_zr0) (tb := gt_yJx4a65c_add_9ea2d_zr0) (init := false) (cm := ck_cms [am_cm l G yJx4a65c_add_72be8 (.code yJx4a65c_add_72be8 prog_46_method_24_code 4 none) 7 200]) g.1 g.2.1 g.2.2.1 g.2.2.2 gTl_w (by decide +kernel) rfl rfl rfl (by decide) gk_yJx4a65c_add_9ea2d_zr0 gd_yJx4a65c_add_9ea2d_zr0 ⟨(List.forall_mem_nil _), (List.forall_mem_nil _), (List.forall_mem_nil _), (List.forall_mem_cons.mpr ⟨⟨⟨_, _, _, rfl, Or.inl w1683⟩, by decide, _, _, g_fd6_1⟩, (List.forall_mem_cons.mpr ⟨⟨⟨_, _, _, rfl, Or.inl w1686⟩, by decide, _, _, g_fd6_2⟩, (List.forall_mem_cons.mpr ⟨⟨⟨_, _, _, rfl, Or.inr (Or.inr ⟨_, w1690, w1689⟩)⟩, by decide, _, _, g_fd6_0⟩, (List.forall_mem_nil _)⟩)⟩)⟩), (List.forall_mem_nil _), (List.forall_mem_nil _), (List.forall_mem_nil _), (List.forall_mem_nil _)⟩ (List.forall_mem_cons.mpr ⟨⟨⟨_, _, _, rfl, Or.inr (Or.inr ⟨_, w1690, w1689⟩)⟩, by decide, _, rfl, Or.inl g_fd6_0⟩, (List.forall_mem_nil _)⟩) (fun h => nomatch h) ⟨_, rfl, rfl⟩ (by decide) (by decide) g_oi g_ar
    (fun s hk _ => (List.forall_mem_nil _)) (fun s hk => (List.forall_mem_nil _)) (ck_cms_okG ⟨(List.forall_mem_cons.mpr ⟨((gm_yJx4a65c_add_72be8_zr0 g)), (List.forall_mem_nil _)⟩), trivial⟩)
    (List.forall_mem_cons.mpr ⟨(ck_kV g_y_yJx4a65c_add_72be8 w1821 w1823 w34 (T := TJx4a65c) (N := 3) rfl (by decide) (by decide) (by decide)), (List.forall_mem_nil _)⟩) (List.forall_mem_nil _) (List.forall_mem_nil _) (List.forall_mem_nil _)
    (List.forall_mem_nil _)
    (ck_no5 rfl)
def gc_yJx4a65c_add_72be8_zr1 : ck_KK := (([((-2147483648), 2147483647), (10, 24)], [], [(2, 0, 0, 506, (0, 0, (3, []))), (3, 0, 0, 506, (1, 0, (0, [(1, 0)]))), (3, 0, 1, 506, (3, 1, (0, []))), (2, 1, 0, 556, (0, 0, (0, [(1, 1)]))), (3, 0, 2, 506, (1, 0, (1, []))), (6, 1, 4, 556, (0, 0, (1, []))), (2, 2, 0, 2550, (0, 0, (2, [])))], 3, [(3, 0, (0, [])), (3, 2, (0, [])), (3, 1, (0, [])), (1, 0, (1, []))]), ((0, []), (0, [])), [(506, 2), (556, 1)], [], ([], [], [(3, 0, 2, 506, (1, 0, (2, []))), (3, 1, 1, 556, (3, 2, (0, []))), (6, 1, 4, 556, (0, 0, (2, [])))], 0, []), [])
def gt_yJx4a65c_add_72be8_zr1 : ck_TB := ([], [], [], [], [(48, 6, 2, 0)], [], [], [], ([], [], [], []), [], [], [], 9)
def ge_yJx4a65c_add_72be8_zr1 : ck_E := (gTl, [(56, 50)], gc_yJx4a65c_add_72be8_zr1, 4, [(0, (0, 3, 3, 0, 1, 0, [])), (1, (0, 5, 2, 0, 2, 0, [])), (2, (11, 0, 0, 0, 3, 0, [])), (3, (2, 1, 0, 0, 6, 11, [])), (11, (0, 5, 2, 0, 12, 0, [])), (12, (0, 3, 3, 0, 13, 0, [])), (13, (0, 5, 1, 0, 14, 0, [])), (14, (13, 53, 57, 0, 15, 0, [])), (15, (0, 5, 0, 0, 16, 0, [])), (16, (0, 3, 3, 0, 17, 0, [])), (17, (0, 0, 0, 1, 18, 0, [])), (18, (0, 15, 0, 0, 19, 0, [])), (19, (8, 6, 2, 0, 22, 0, [])), (22, (15, 0, 0, 0, 0, 0, []))], [], [], [], [])
theorem gk_yJx4a65c_add_72be8_zr1 : ck_chk ge_yJx4a65c_add_72be8_zr1 19 = true := by decide +kernel
theorem gd_yJx4a65c_add_72be8_zr1 : ck_dec prog_46_method_24_code gt_yJx4a65c_add_72be8_zr1 ge_yJx4a65c_add_72be8_zr1.2.2.2.2.1 = true := by decide +kernel
theorem gm_yJx4a65c_add_72be8_zr1 {l : Launch} {G : am_G} {X : ck_XT} (g : gEl l G X) : ck_Con (am_grow (am_cm l G yJx4a65c_add_72be8 (.code yJx4a65c_add_72be8 prog_46_method_24_code 4 none) 7 200)) G X gTl gc_yJx4a65c_add_72be8_zr1 :=
  ck_methG (E := ge_yJx4a65c_add_72be8_zr1) (tb := gt_yJx4a65c_add_72be8_zr1) (init := false) (cm := ck_cms []) g.1 g.2.1 g.2.2.1 g.2.2.2 gTl_w (by decide +kernel) rfl rfl rfl (by decide) gk_yJx4a65c_add_72be8_zr1 gd_yJx4a65c_add_72be8_zr1 ⟨(List.forall_mem_nil _), (List.forall_mem_nil _), (List.forall_mem_nil _), (List.forall_mem_nil _), (List.forall_mem_nil _), (List.forall_mem_nil _), (List.forall_mem_nil _), (List.forall_mem_nil _)⟩ (List.forall_mem_cons.mpr ⟨⟨⟨_, _, _, rfl, Or.inl w1686⟩, by decide, _, rfl, Or.inl g_fd6_2⟩, (List.forall_mem_nil _)⟩) (fun h => nomatch h) rfl (by decide) (by decide) g_oi g_ar
    (fun s hk _ => (List.forall_mem_cons.mpr ⟨⟨by decide, by decide, am_asg_arr hk w2528⟩, (List.forall_mem_nil _)⟩)) (fun s hk => (List.forall_mem_nil _)) (ck_cms_okG trivial)
    (List.forall_mem_nil _) (List.forall_mem_nil _) (List.forall_mem_nil _) (List.forall_mem_nil _)
    (List.forall_mem_nil _)
    (ck_no5 rfl)
def gc_yJx4a65c_add_9ea2d_zr1 : ck_KK := (([((-2147483648), 2147483647), (10, 24)], [], [(2, 0, 0, 506, (0, 0, (3, []))), (3, 0, 0, 506, (1, 0, (0, [(1, 0)]))), (3, 0, 1, 506, (3, 1, (0, []))), (2, 1, 0, 556, (0, 0, (0, [(1, 1)]))), (3, 0, 2, 506, (1, 0, (1, []))), (6, 1, 4, 556, (0, 0, (1, []))), (2, 2, 0, 2550, (0, 0, (2, [])))], 3, [(3, 0, (0, [])), (3, 2, (0, []))]), ((0, []), (0, [])), [(506, 0), (506, 2), (556, 1)], [], ([((-2147483648), 2147483647)], [], [(3, 0, 0, 506, (1, 0, (0, [(1, 2)]))), (3, 0, 2, 506, (1, 0, (2, []))), (3, 1, 1, 556, (3, 2, (0, []))), (6, 1, 4, 556, (0, 0, (2, [])))], 0, [(1, 0, (1, []))]), [])
def gt_yJx4a65c_add_9ea2d_zr1 : ck_TB := ([], [], [], [(9, 6, 1), (48, 6, 2), (63, 6, 0)], [(63, 6, 0, 0)], [], [], [], ([(131, 0)], [], [], []), [], [], [], 1)
def ge_yJx4a65c_add_9ea2d_zr1 : ck_E := (gTl, [], gc_yJx4a65c_add_9ea2d_zr1, 2, [(0, (0, 5, 0, 0, 1, 0, [])), (1, (0, 12, 0, 0, 2, 0, [])), (2, (7, 6, 0, 0, 5, 0, [])), (5, (0, 0, 0, 1, 6, 0, [])), (6, (0, 15, 0, 0, 7, 0, [])), (7, (8, 6, 0, 0, 10, 0, [])), (10, (0, 5, 0, 0, 11, 0, [])), (11, (0, 5, 1, 0, 12, 0, [])), (12, (0, 5, 0, 0, 13, 0, [])), (13, (7, 6, 1, 0, 16, 0, [])), (16, (0, 5, 0, 0, 17, 0, [])), (17, (7, 6, 2, 0, 20, 0, [])), (20, (16, 0, 0, 0, 23, 0, [])), (23, (0, 0, 0, 1, 24, 0, [])), (24, (14, 0, 0, 1, 0, 0, []))], [(some 6, 4, [gc_yJx4a65c_add_72be8_zr1])], [], [], [])
theorem gk_yJx4a65c_add_9ea2d_zr1 : ck_chk ge_yJx4a65c_add_9ea2d_zr1 20 = true := by decide +kernel
theorem gd_yJx4a65c_add_9ea2d_zr1 : ck_dec prog_46_method_25_code gt_yJx4a65c_add_9ea2d_zr1 ge_yJx4a65c_add_9ea2d_zr1.2.2.2.2.1 = true := by decide +kernel
theorem gm_yJx4a65c_add_9ea2d_zr1 {l : Launch} {G : am_G} {X : ck_XT} (g : gEl l G X) : ck_Con (am_grow (am_cm l G yJx4a65c_add_9ea2d (.code yJx4a65c_add_9ea2d prog_46_method_25_code 2 (some .boolean)) 8 230)) G X gTl gc_yJx4a65c_add_9ea2d_zr1 :=
  ck_methG (E := ge_yJx4a65c_add_9ea2d_zr1) (tb := gt_yJx4a65c_add_9ea2d_zr1) (init := false) (cm := ck_cms [am_cm l G yJx4a65c_add_72be8 (.code yJx4a65c_add_72be8 prog_46_method_24_code 4 none) 7 200]) g.1 g.2.1 g.2.2.1 g.2.2.2 gTl_w (by decide +kernel) rfl rfl rfl (by decide) gk_yJx4a65c_add_9ea2d_zr1 gd_yJx4a65c_add_9ea2d_zr1 ⟨(List.forall_mem_nil _), (List.forall_mem_nil _), (List.forall_mem_nil _), (List.forall_mem_cons.mpr ⟨⟨⟨_, _, _, rfl, Or.inl w1683⟩, by decide, _, _, g_fd6_1⟩, (List.forall_mem_cons.mpr ⟨⟨⟨_, _, _, rfl, Or.inl w1686⟩, by decide, _, _, g_fd6_2⟩, (List.forall_mem_cons.mpr ⟨⟨⟨_, _, _, rfl, Or.inr (Or.inr ⟨_, w1690, w1689⟩)⟩, by decide, _, _, g_fd6_0⟩, (List.forall_mem_nil _)⟩)⟩)⟩), (List.forall_mem_nil _), (List.forall_mem_nil _), (List.forall_mem_nil _), (List.forall_mem_nil _)⟩ (List.forall_mem_cons.mpr ⟨⟨⟨_, _, _, rfl, Or.inr (Or.inr ⟨_, w1690, w1689⟩)⟩, by decide, _, rfl, Or.inl g_fd6_0⟩, (List.forall_mem_nil _)⟩) (fun h => nomatch h) ⟨_, rfl, rfl⟩ (by decide) (by decide) g_oi g_ar
    (fun s hk _ => (List.forall_mem_nil _)) (fun s hk => (List.forall_mem_nil _)) (ck_cms_okG ⟨(List.forall_mem_cons.mpr ⟨((gm_yJx4a65c_add_72be8_zr1 g)), (List.forall_mem_nil _)⟩), trivial⟩)
    (List.forall_mem_cons.mpr ⟨(ck_kV g_y_yJx4a65c_add_72be8 w1821 w1823 w34 (T := TJx4a65c) (N := 3) rfl (by decide) (by decide) (by decide)), (List.forall_mem_nil _)⟩) (List.forall_mem_nil _) (List.forall_mem_nil _) (List.forall_mem_nil _)
    (List.forall_mem_nil _)
    (ck_no5 rfl)
def gc_yJx4a65c_add_72be8_zr2 : ck_KK := (([((-2147483648), 2147483647), (10, 24)], [], [(2, 0, 0, 506, (0, 0, (3, []))), (3, 0, 0, 506, (1, 0, (0, [(1, 0)]))), (3, 0, 1, 506, (3, 1, (0, []))), (2, 1, 0, 556, (0, 0, (0, [(1, 1)]))), (3, 0, 2, 506, (1, 0, (2, []))), (6, 1, 4, 556, (0, 0, (2, []))), (2, 2, 0, 2550, (0, 0, (2, [])))], 3, [(3, 0, (0, [])), (3, 2, (0, [])), (3, 1, (0, [])), (1, 0, (2, []))]), ((0, []), (0, [])), [(506, 2), (556, 2)], [], ([], [], [(3, 0, 2, 506, (1, 0, (3, []))), (3, 1, 2, 556, (3, 2, (0, []))), (6, 1, 4, 556, (0, 0, (3, [])))], 0, []), [])
def gt_yJx4a65c_add_72be8_zr2 : ck_TB := ([], [], [], [], [(48, 6, 2, 0)], [], [], [], ([], [], [], []), [], [], [], 9)
def ge_yJx4a65c_add_72be8_zr2 : ck_E := (gTl, [(56, 50)], gc_yJx4a65c_add_72be8_zr2, 4, [(0, (0, 3, 3, 0, 1, 0, [])), (1, (0, 5, 2, 0, 2, 0, [])), (2, (11, 0, 0, 0, 3, 0, [])), (3, (2, 1, 0, 0, 6, 11, [])), (11, (0, 5, 2, 0, 12, 0, [])), (12, (0, 3, 3, 0, 13, 0, [])), (13, (0, 5, 1, 0, 14, 0, [])), (14, (13, 53, 57, 0, 15, 0, [])), (15, (0, 5, 0, 0, 16, 0, [])), (16, (0, 3, 3, 0, 17, 0, [])), (17, (0, 0, 0, 1, 18, 0, [])), (18, (0, 15, 0, 0, 19, 0, [])), (19, (8, 6, 2, 0, 22, 0, [])), (22, (15, 0, 0, 0, 0, 0, []))], [], [], [], [])
theorem gk_yJx4a65c_add_72be8_zr2 : ck_chk ge_yJx4a65c_add_72be8_zr2 19 = true := by decide +kernel
theorem gd_yJx4a65c_add_72be8_zr2 : ck_dec prog_46_method_24_code gt_yJx4a65c_add_72be8_zr2 ge_yJx4a65c_add_72be8_zr2.2.2.2.2.1 = true := by decide +kernel
theorem gm_yJx4a65c_add_72be8_zr2 {l : Launch} {G : am_G} {X : ck_XT} (g : gEl l G X) : ck_Con (am_grow (am_cm l G yJx4a65c_add_72be8 (.code yJx4a65c_add_72be8 prog_46_method_24_code 4 none) 7 200)) G X gTl gc_yJx4a65c_add_72be8_zr2 :=
  ck_methG (E := ge_yJx4a65c_add_72be8_zr2) (tb := gt_yJx4a65c_add_72be8_zr2) (init := false) (cm := ck_cms []) g.1 g.2.1 g.2.2.1 g.2.2.2 gTl_w (by decide +kernel) rfl rfl rfl (by decide) gk_yJx4a65c_add_72be8_zr2 gd_yJx4a65c_add_72be8_zr2 ⟨(List.forall_mem_nil _), (List.forall_mem_nil _), (List.forall_mem_nil _), (List.forall_mem_nil _), (List.forall_mem_nil _), (List.forall_mem_nil _), (List.forall_mem_nil _), (List.forall_mem_nil _)⟩ (List.forall_mem_cons.mpr ⟨⟨⟨_, _, _, rfl, Or.inl w1686⟩, by decide, _, rfl, Or.inl g_fd6_2⟩, (List.forall_mem_nil _)⟩) (fun h => nomatch h) rfl (by decide) (by decide) g_oi g_ar
    (fun s hk _ => (List.forall_mem_cons.mpr ⟨⟨by decide, by decide, am_asg_arr hk w2528⟩, (List.forall_mem_nil _)⟩)) (fun s hk => (List.forall_mem_nil _)) (ck_cms_okG trivial)
    (List.forall_mem_nil _) (List.forall_mem_nil _) (List.forall_mem_nil _) (List.forall_mem_nil _)
    (List.forall_mem_nil _)
    (ck_no5 rfl)
def gc_yJx4a65c_add_9ea2d_zr2 : ck_KK := (([((-2147483648), 2147483647), (10, 24)], [], [(2, 0, 0, 506, (0, 0, (3, []))), (3, 0, 0, 506, (1, 0, (0, [(1, 0)]))), (3, 0, 1, 506, (3, 1, (0, []))), (2, 1, 0, 556, (0, 0, (0, [(1, 1)]))), (3, 0, 2, 506, (1, 0, (2, []))), (6, 1, 4, 556, (0, 0, (2, []))), (2, 2, 0, 2550, (0, 0, (2, [])))], 3, [(3, 0, (0, [])), (3, 2, (0, []))]), ((0, []), (0, [])), [(506, 0), (506, 2), (556, 2)], [], ([((-2147483648), 2147483647)], [], [(3, 0, 0, 506, (1, 0, (0, [(1, 2)]))), (3, 0, 2, 506, (1, 0, (3, []))), (3, 1, 2, 556, (3, 2, (0, []))), (6, 1, 4, 556, (0, 0, (3, [])))], 0, [(1, 0, (1, []))]), [])
def gt_yJx4a65c_add_9ea2d_zr2 : ck_TB := ([], [], [], [(9, 6, 1), (48, 6, 2), (63, 6, 0)], [(63, 6, 0, 0)], [], [], [], ([(131, 0)], [], [], []), [], [], [], 1)
def ge_yJx4a65c_add_9ea2d_zr2 : ck_E := (gTl, [], gc_yJx4a65c_add_9ea2d_zr2, 2, [(0, (0, 5, 0, 0, 1, 0, [])), (1, (0, 12, 0, 0, 2, 0, [])), (2, (7, 6, 0, 0, 5, 0, [])), (5, (0, 0, 0, 1, 6, 0, [])), (6, (0, 15, 0, 0, 7, 0, [])), (7, (8, 6, 0, 0, 10, 0, [])), (10, (0, 5, 0, 0, 11, 0, [])), (11, (0, 5, 1, 0, 12, 0, [])), (12, (0, 5, 0, 0, 13, 0, [])), (13, (7, 6, 1, 0, 16, 0, [])), (16, (0, 5, 0, 0, 17, 0, [])), (17, (7, 6, 2, 0, 20, 0, [])), (20, (16, 0, 0, 0, 23, 0, [])), (23, (0, 0, 0, 1, 24, 0, [])), (24, (14, 0, 0, 1, 0, 0, []))], [(some 6, 4, [gc_yJx4a65c_add_72be8_zr2])], [], [], [])
theorem gk_yJx4a65c_add_9ea2d_zr2 : ck_chk ge_yJx4a65c_add_9ea2d_zr2 20 = true := by decide +kernel
theorem gd_yJx4a65c_add_9ea2d_zr2 : ck_dec prog_46_method_25_code gt_yJx4a65c_add_9ea2d_zr2 ge_yJx4a65c_add_9ea2d_zr2.2.2.2.2.1 = true := by decide +kernel
theorem gm_yJx4a65c_add_9ea2d_zr2 {l : Launch} {G : am_G} {X : ck_XT} (g : gEl l G X) : ck_Con (am_grow (am_cm l G yJx4a65c_add_9ea2d (.code yJx4a65c_add_9ea2d prog_46_method_25_code 2 (some .boolean)) 8 230)) G X gTl gc_yJx4a65c_add_9ea2d_zr2 :=
  ck_methG (E := ge_yJx4a65c_add_9ea2d_zr2) (tb := gt_yJx4a65c_add_9ea2d_zr2) (init := false) (cm := ck_cms [am_cm l G yJx4a65c_add_72be8 (.code yJx4a65c_add_72be8 prog_46_method_24_code 4 none) 7 200]) g.1 g.2.1 g.2.2.1 g.2.2.2 gTl_w (by decide +kernel) rfl rfl rfl (by decide) gk_yJx4a65c_add_9ea2d_zr2 gd_yJx4a65c_add_9ea2d_zr2 ⟨(List.forall_mem_nil _), (List.forall_mem_nil _), (List.forall_mem_nil _), (List.forall_mem_cons.mpr ⟨⟨⟨_, _, _, rfl, Or.inl w1683⟩, by decide, _, _, g_fd6_1⟩, (List.forall_mem_cons.mpr ⟨⟨⟨_, _, _, rfl, Or.inl w1686⟩, by decide, _, _, g_fd6_2⟩, (List.forall_mem_cons.mpr ⟨⟨⟨_, _, _, rfl, Or.inr (Or.inr ⟨_, w1690, w1689⟩)⟩, by decide, _, _, g_fd6_0⟩, (List.forall_mem_nil _)⟩)⟩)⟩), (List.forall_mem_nil _), (List.forall_mem_nil _), (List.forall_mem_nil _), (List.forall_mem_nil _)⟩ (List.forall_mem_cons.mpr ⟨⟨⟨_, _, _, rfl, Or.inr (Or.inr ⟨_, w1690, w1689⟩)⟩, by decide, _, rfl, Or.inl g_fd6_0⟩, (List.forall_mem_nil _)⟩) (fun h => nomatch h) ⟨_, rfl, rfl⟩ (by decide) (by decide) g_oi g_ar
    (fun s hk _ => (List.forall_mem_nil _)) (fun s hk => (List.forall_mem_nil _)) (ck_cms_okG ⟨(List.forall_mem_cons.mpr ⟨((gm_yJx4a65c_add_72be8_zr2 g)), (List.forall_mem_nil _)⟩), trivial⟩)
    (List.forall_mem_cons.mpr ⟨(ck_kV g_y_yJx4a65c_add_72be8 w1821 w1823 w34 (T := TJx4a65c) (N := 3) rfl (by decide) (by decide) (by decide)), (List.forall_mem_nil _)⟩) (List.forall_mem_nil _) (List.forall_mem_nil _) (List.forall_mem_nil _)
    (List.forall_mem_nil _)
    (ck_no5 rfl)
def gc_yJx4a65c_add_72be8_zr3 : ck_KK := (([((-2147483648), 2147483647), (10, 24)], [], [(2, 0, 0, 506, (0, 0, (3, []))), (3, 0, 0, 506, (1, 0, (0, [(1, 0)]))), (3, 0, 1, 506, (3, 1, (0, []))), (2, 1, 0, 556, (0, 0, (0, [(1, 1)]))), (3, 0, 2, 506, (1, 0, (3, []))), (6, 1, 4, 556, (0, 0, (3, []))), (2, 2, 0, 2550, (0, 0, (2, [])))], 3, [(3, 0, (0, [])), (3, 2, (0, [])), (3, 1, (0, [])), (1, 0, (3, []))]), ((0, []), (0, [])), [(506, 2), (556, 3)], [], ([], [], [(3, 0, 2, 506, (1, 0, (4, []))), (3, 1, 3, 556, (3, 2, (0, []))), (6, 1, 4, 556, (0, 0, (4, [])))], 0, []), [])
def gt_yJx4a65c_add_72be8_zr3 : ck_TB := ([], [], [], [], [(48, 6, 2, 0)], [], [], [], ([], [], [], []), [], [], [], 9)
def ge_yJx4a65c_add_72be8_zr3 : ck_E := (gTl, [(56, 50)], gc_yJx4a65c_add_72be8_zr3, 4, [(0, (0, 3, 3, 0, 1, 0, [])), (1, (0, 5, 2, 0, 2, 0, [])), (2, (11, 0, 0, 0, 3, 0, [])), (3, (2, 1, 0, 0, 6, 11, [])), (11, (0, 5, 2, 0, 12, 0, [])), (12, (0, 3, 3, 0, 13, 0, [])), (13, (0, 5, 1, 0, 14, 0, [])), (14, (13, 53, 57, 0, 15, 0, [])), (15, (0, 5, 0, 0, 16, 0, [])), (16, (0, 3, 3, 0, 17, 0, [])), (17, (0, 0, 0, 1, 18, 0, [])), (18, (0, 15, 0, 0, 19, 0, [])), (19, (8, 6, 2, 0, 22, 0, [])), (22, (15, 0, 0, 0, 0, 0, []))], [], [], [], [])
theorem gk_yJx4a65c_add_72be8_zr3 : ck_chk ge_yJx4a65c_add_72be8_zr3 19 = true := by decide +kernel
theorem gd_yJx4a65c_add_72be8_zr3 : ck_dec prog_46_method_24_code gt_yJx4a65c_add_72be8_zr3 ge_yJx4a65c_add_72be8_zr3.2.2.2.2.1 = true := by decide +kernel
theorem gm_yJx4a65c_add_72be8_zr3 {l : Launch} {G : am_G} {X : ck_XT} (g : gEl l G X) : ck_Con (am_grow (am_cm l G yJx4a65c_add_72be8 (.code yJx4a65c_add_72be8 prog_46_method_24_code 4 none) 7 200)) G X gTl gc_yJx4a65c_add_72be8_zr3 :=
  ck_methG (E := ge_yJx4a65c_add_72be8_zr3) (tb := gt_yJx4a65c_add_72be8_zr3) (init := false) (cm := ck_cms []) g.1 g.2.1 g.2.2.1 g.2.2.2 gTl_w (by decide +kernel) rfl rfl rfl (by decide) gk_yJx4a65c_add_72be8_zr3 gd_yJx4a65c_add_72be8_zr3 ⟨(List.forall_mem_nil _), (List.forall_mem_nil _), (List.forall_mem_nil _), (List.forall_mem_nil _), (List.forall_mem_nil _), (List.forall_mem_nil _), (List.forall_mem_nil _), (List.forall_mem_nil _)⟩ (List.forall_mem_cons.mpr ⟨⟨⟨_, _, _, rfl, Or.inl w1686⟩, by decide, _, rfl, Or.inl g_fd6_2⟩, (List.forall_mem_nil _)⟩) (fun h => nomatch h) rfl (by decide) (by decide) g_oi g_ar
    (fun s hk _ => (List.forall_mem_cons.mpr ⟨⟨by decide, by decide, am_asg_arr hk w2528⟩, (List.forall_mem_nil _)⟩)) (fun s hk => (List.forall_mem_nil _)) (ck_cms_okG trivial)
    (List.forall_mem_nil _) (List.forall_mem_nil _) (List.forall_mem_nil _) (List.forall_mem_nil _)
    (List.forall_mem_nil _)
    (ck_no5 rfl)
def gc_yJx4a65c_add_9ea2d_zr3 : ck_KK := (([((-2147483648), 2147483647), (10, 24)], [], [(2, 0, 0, 506, (0, 0, (3, []))), (3, 0, 0, 506, (1, 0, (0, [(1, 0)]))), (3, 0, 1, 506, (3, 1, (0, []))), (2, 1, 0, 556, (0, 0, (0, [(1, 1)]))), (3, 0, 2, 506, (1, 0, (3, []))), (6, 1, 4, 556, (0, 0, (3, []))), (2, 2, 0, 2550, (0, 0, (2, [])))], 3, [(3, 0, (0, [])), (3, 2, (0, []))]), ((0, []), (0, [])), [(506, 0), (506, 2), (556, 3)], [], ([((-2147483648), 2147483647)], [], [(3, 0, 0, 506, (1, 0, (0, [(1, 2)]))), (3, 0, 2, 506, (1, 0, (4, []))), (3, 1, 3, 556, (3, 2, (0, []))), (6, 1, 4, 556, (0, 0, (4, [])))], 0, [(1, 0, (1, []))]), [])
def gt_yJx4a65c_add_9ea2d_zr3 : ck_TB := ([], [], [], [(9, 6, 1), (48, 6, 2), (63, 6, 0)], [(63, 6, 0, 0)], [], [], [], ([(131, 0)], [], [], []), [], [], [], 1)
def ge_yJx4a65c_add_9ea2d_zr3 : ck_E := (gTl, [], gc_yJx4a65c_add_9ea2d_zr3, 2, [(0, (0, 5, 0, 0, 1, 0, [])), (1, (0, 12, 0, 0, 2, 0, [])), (2, (7, 6, 0, 0, 5, 0, [])), (5, (0, 0, 0, 1, 6, 0, [])), (6, (0, 15, 0, 0, 7, 0, [])), (7, (8, 6, 0, 0, 10, 0, [])), (10, (0, 5, 0, 0, 11, 0, [])), (11, (0, 5, 1, 0, 12, 0, [])), (12, (0, 5, 0, 0, 13, 0, [])), (13, (7, 6, 1, 0, 16, 0, [])), (16, (0, 5, 0, 0, 17, 0, [])), (17, (7, 6, 2, 0, 20, 0, [])), (20, (16, 0, 0, 0, 23, 0, [])), (23, (0, 0, 0, 1, 24, 0, [])), (24, (14, 0, 0, 1, 0, 0, []))], [(some 6, 4, [gc_yJx4a65c_add_72be8_zr3])], [], [], [])
theorem gk_yJx4a65c_add_9ea2d_zr3 : ck_chk ge_yJx4a65c_add_9ea2d_zr3 20 = true := by decide +kernel
theorem gd_yJx4a65c_add_9ea2d_zr3 : ck_dec prog_46_method_25_code gt_yJx4a65c_add_9ea2d_zr3 ge_yJx4a65c_add_9ea2d_zr3.2.2.2.2.1 = true := by decide +kernel
theorem gm_yJx4a65c_add_9ea2d_zr3 {l : Launch} {G : am_G} {X : ck_XT} (g : gEl l G X) : ck_Con (am_grow (am_cm l G yJx4a65c_add_9ea2d (.code yJx4a65c_add_9ea2d prog_46_method_25_code 2 (some .boolean)) 8 230)) G X gTl gc_yJx4a65c_add_9ea2d_zr3 :=
  ck_methG (E := ge_yJx4a65c_add_9ea2d_zr3) (tb := gt_yJx4a65c_add_9ea2d_zr3) (init := false) (cm := ck_cms [am_cm l G yJx4a65c_add_72be8 (.code yJx4a65c_add_72be8 prog_46_method_24_code 4 none) 7 200]) g.1 g.2.1 g.2.2.1 g.2.2.2 gTl_w (by decide +kernel) rfl rfl rfl (by decide) gk_yJx4a65c_add_9ea2d_zr3 gd_yJx4a65c_add_9ea2d_zr3 ⟨(List.forall_mem_nil _), (List.forall_mem_nil _), (List.forall_mem_nil _), (List.forall_mem_cons.mpr ⟨⟨⟨_, _, _, rfl, Or.inl w1683⟩, by decide, _, _, g_fd6_1⟩, (List.forall_mem_cons.mpr ⟨⟨⟨_, _, _, rfl, Or.inl w1686⟩, by decide, _, _, g_fd6_2⟩, (List.forall_mem_cons.mpr ⟨⟨⟨_, _, _, rfl, Or.inr (Or.inr ⟨_, w1690, w1689⟩)⟩, by decide, _, _, g_fd6_0⟩, (List.forall_mem_nil _)⟩)⟩)⟩), (List.forall_mem_nil _), (List.forall_mem_nil _), (List.forall_mem_nil _), (List.forall_mem_nil _)⟩ (List.forall_mem_cons.mpr ⟨⟨⟨_, _, _, rfl, Or.inr (Or.inr ⟨_, w1690, w1689⟩)⟩, by decide, _, rfl, Or.inl g_fd6_0⟩, (List.forall_mem_nil _)⟩) (fun h => nomatch h) ⟨_, rfl, rfl⟩ (by decide) (by decide) g_oi g_ar
    (fun s hk _ => (List.forall_mem_nil _)) (fun s hk => (List.forall_mem_nil _)) (ck_cms_okG ⟨(List.forall_mem_cons.mpr ⟨((gm_yJx4a65c_add_72be8_zr3 g)), (List.forall_mem_nil _)⟩), trivial⟩)
    (List.forall_mem_cons.mpr ⟨(ck_kV g_y_yJx4a65c_add_72be8 w1821 w1823 w34 (T := TJx4a65c) (N := 3) rfl (by decide) (by decide) (by decide)), (List.forall_mem_nil _)⟩) (List.forall_mem_nil _) (List.forall_mem_nil _) (List.forall_mem_nil _)
    (List.forall_mem_nil _)
    (ck_no5 rfl)
def gc_yJx4a65c_add_72be8_zr4 : ck_KK := (([((-2147483648), 2147483647), (10, 24)], [], [(2, 0, 0, 506, (0, 0, (3, []))), (3, 0, 0, 506, (1, 0, (0, [(1, 0)]))), (3, 0, 1, 506, (3, 1, (0, []))), (2, 1, 0, 556, (0, 0, (0, [(1, 1)]))), (3, 0, 2, 506, (1, 0, (4, []))), (6, 1, 4, 556, (0, 0, (4, []))), (2, 2, 0, 2550, (0, 0, (2, [])))], 3, [(3, 0, (0, [])), (3, 2, (0, [])), (3, 1, (0, [])), (1, 0, (4, []))]), ((0, []), (0, [])), [(506, 2), (556, 4)], [], ([], [], [(3, 0, 2, 506, (1, 0, (5, []))), (3, 1, 4, 556, (3, 2, (0, []))), (6, 1, 4, 556, (0, 0, (5, [])))], 0, []), [])
def gt_yJx4a65c_add_72be8_zr4 : ck_TB := ([], [], [], [], [(48, 6, 2, 0)], [], [], [], ([], [], [], []), [], [], [], 9)
def ge_yJx4a65c_add_72be8_zr4 : ck_E := (gTl, [(56, 50)], gc_yJx4a65c_add_72be8_zr4, 4, [(0, (0, 3, 3, 0, 1, 0, [])), (1, (0, 5, 2, 0, 2, 0, [])), (2, (11, 0, 0, 0, 3, 0, [])), (3, (2, 1, 0, 0, 6, 11, [])), (11, (0, 5, 2, 0, 12, 0, [])), (12, (0, 3, 3, 0, 13, 0, [])), (13, (0, 5, 1, 0, 14, 0, [])), (14, (13, 53, 57, 0, 15, 0, [])), (15, (0, 5, 0, 0, 16, 0, [])), (16, (0, 3, 3, 0, 17, 0, [])), (17, (0, 0, 0, 1, 18, 0, [])), (18, (0, 15, 0, 0, 19, 0, [])), (19, (8, 6, 2, 0, 22, 0, [])), (22, (15, 0, 0, 0, 0, 0, []))], [], [], [], [])
theorem gk_yJx4a65c_add_72be8_zr4 : ck_chk ge_yJx4a65c_add_72be8_zr4 19 = true := by decide +kernel
theorem gd_yJx4a65c_add_72be8_zr4 : ck_dec prog_46_method_24_code gt_yJx4a65c_add_72be8_zr4 ge_yJx4a65c_add_72be8_zr4.2.2.2.2.1 = true := by decide +kernel
theorem gm_yJx4a65c_add_72be8_zr4 {l : Launch} {G : am_G} {X : ck_XT} (g : gEl l G X) : ck_Con (am_grow (am_cm l G yJx4a65c_add_72be8 (.code yJx4a65c_add_72be8 prog_46_method_24_code 4 none) 7 200)) G X gTl gc_yJx4a65c_add_72be8_zr4 :=
  ck_methG (E := ge_yJx4a65c_add_72be8_zr4) (tb := gt_yJx4a65c_add_72be8_zr4) (init := false) (cm := ck_cms []) g.1 g.2.1 g.2.2.1 g.2.2.2 gTl_w (by decide +kernel) rfl rfl rfl (by decide) gk_yJx4a65c_add_72be8_zr4 gd_yJx4a65c_add_72be8_zr4 ⟨(List.forall_mem_nil _), (List.forall_mem_nil _), (List.forall_mem_nil _), (List.forall_mem_nil _), (List.forall_mem_nil _), (List.forall_mem_nil _), (List.forall_mem_nil _), (List.forall_mem_nil _)⟩ (List.forall_mem_cons.mpr ⟨⟨⟨_, _, _, rfl, Or.inl w1686⟩, by decide, _, rfl, Or.inl g_fd6_2⟩, (List.forall_mem_nil _)⟩) (fun h => nomatch h) rfl (by decide) (by decide) g_oi g_ar
    (fun s hk _ => (List.forall_mem_cons.mpr ⟨⟨by decide, by decide, am_asg_arr hk w2528⟩, (List.forall_mem_nil _)⟩)) (fun s hk => (List.forall_mem_nil _)) (ck_cms_okG trivial)
    (List.forall_mem_nil _) (List.forall_mem_nil _) (List.forall_mem_nil _) (List.forall_mem_nil _)
    (List.forall_mem_nil _)
    (ck_no5 rfl)
def gc_yJx4a65c_add_9ea2d_zr4 : ck_KK := (([((-2147483648), 2147483647), (10, 24)], [], [(2, 0, 0, 506, (0, 0, (3, []))), (3, 0, 0, 506, (1, 0, (0, [(1, 0)]))), (3, 0, 1, 506, (3, 1, (0, []))), (2, 1, 0, 556, (0, 0, (0, [(1, 1)]))), (3, 0, 2, 506, (1, 0, (4, []))), (6, 1, 4, 556, (0, 0, (4, []))), (2, 2, 0, 2550, (0, 0, (2, [])))], 3, [(3, 0, (0, [])), (3, 2, (0, []))]), ((0, []), (0, [])), [(506, 0), (506, 2), (556, 4)], [], ([((-2147483648), 2147483647)], [], [(3, 0, 0, 506, (1, 0, (0, [(1, 2)]))), (3, 0, 2, 506, (1, 0, (5, []))), (3, 1, 4, 556, (3, 2, (0, []))), (6, 1, 4, 556, (0, 0, (5, [])))], 0, [(1, 0, (1, []))]), [])
def gt_yJx4a65c_add_9ea2d_zr4 : ck_TB := ([], [], [], [(9, 6, 1), (48, 6, 2), (63, 6, 0)], [(63, 6, 0, 0)], [], [], [], ([(131, 0)], [], [], []), [], [], [], 1)
def ge_yJx4a65c_add_9ea2d_zr4 : ck_E := (gTl, [], gc_yJx4a65c_add_9ea2d_zr4, 2, [(0, (0, 5, 0, 0, 1, 0, [])), (1, (0, 12, 0, 0, 2, 0, [])), (2, (7, 6, 0, 0, 5, 0, [])), (5, (0, 0, 0, 1, 6, 0, [])), (6, (0, 15, 0, 0, 7, 0, [])), (7, (8, 6, 0, 0, 10, 0, [])), (10, (0, 5, 0, 0, 11, 0, [])), (11, (0, 5, 1, 0, 12, 0, [])), (12, (0, 5, 0, 0, 13, 0, [])), (13, (7, 6, 1, 0, 16, 0, [])), (16, (0, 5, 0, 0, 17, 0, [])), (17, (7, 6, 2, 0, 20, 0, [])), (20, (16, 0, 0, 0, 23, 0, [])), (23, (0, 0, 0, 1, 24, 0, [])), (24, (14, 0, 0, 1, 0, 0, []))], [(some 6, 4, [gc_yJx4a65c_add_72be8_zr4])], [], [], [])
theorem gk_yJx4a65c_add_9ea2d_zr4 : ck_chk ge_yJx4a65c_add_9ea2d_zr4 20 = true := by decide +kernel
theorem gd_yJx4a65c_add_9ea2d_zr4 : ck_dec prog_46_method_25_code gt_yJx4a65c_add_9ea2d_zr4 ge_yJx4a65c_add_9ea2d_zr4.2.2.2.2.1 = true := by decide +kernel
theorem gm_yJx4a65c_add_9ea2d_zr4 {l : Launch} {G : am_G} {X : ck_XT} (g : gEl l G X) : ck_Con (am_grow (am_cm l G yJx4a65c_add_9ea2d (.code yJx4a65c_add_9ea2d prog_46_method_25_code 2 (some .boolean)) 8 230)) G X gTl gc_yJx4a65c_add_9ea2d_zr4 :=
  ck_methG (E := ge_yJx4a65c_add_9ea2d_zr4) (tb := gt_yJx4a65c_add_9ea2d_zr4) (init := false) (cm := ck_cms [am_cm l G yJx4a65c_add_72be8 (.code yJx4a65c_add_72be8 prog_46_method_24_code 4 none) 7 200]) g.1 g.2.1 g.2.2.1 g.2.2.2 gTl_w (by decide +kernel) rfl rfl rfl (by decide) gk_yJx4a65c_add_9ea2d_zr4 gd_yJx4a65c_add_9ea2d_zr4 ⟨(List.forall_mem_nil _), (List.forall_mem_nil _), (List.forall_mem_nil _), (List.forall_mem_cons.mpr ⟨⟨⟨_, _, _, rfl, Or.inl w1683⟩, by decide, _, _, g_fd6_1⟩, (List.forall_mem_cons.mpr ⟨⟨⟨_, _, _, rfl, Or.inl w1686⟩, by decide, _, _, g_fd6_2⟩, (List.forall_mem_cons.mpr ⟨⟨⟨_, _, _, rfl, Or.inr (Or.inr ⟨_, w1690, w1689⟩)⟩, by decide, _, _, g_fd6_0⟩, (List.forall_mem_nil _)⟩)⟩)⟩), (List.forall_mem_nil _), (List.forall_mem_nil _), (List.forall_mem_nil _), (List.forall_mem_nil _)⟩ (List.forall_mem_cons.mpr ⟨⟨⟨_, _, _, rfl, Or.inr (Or.inr ⟨_, w1690, w1689⟩)⟩, by decide, _, rfl, Or.inl g_fd6_0⟩, (List.forall_mem_nil _)⟩) (fun h => nomatch h) ⟨_, rfl, rfl⟩ (by decide) (by decide) g_oi g_ar
    (fun s hk _ => (List.forall_mem_nil _)) (fun s hk => (List.forall_mem_nil _)) (ck_cms_okG ⟨(List.forall_mem_cons.mpr ⟨((gm_yJx4a65c_add_72be8_zr4 g)), (List.forall_mem_nil _)⟩), trivial⟩)
    (List.forall_mem_cons.mpr ⟨(ck_kV g_y_yJx4a65c_add_72be8 w1821 w1823 w34 (T := TJx4a65c) (N := 3) rfl (by decide) (by decide) (by decide)), (List.forall_mem_nil _)⟩) (List.forall_mem_nil _) (List.forall_mem_nil _) (List.forall_mem_nil _)
    (List.forall_mem_nil _)
    (ck_no5 rfl)
def gc_yJx4a65c_add_72be8_zr5 : ck_KK := (([((-2147483648), 2147483647), (10, 24)], [], [(2, 0, 0, 506, (0, 0, (3, []))), (3, 0, 0, 506, (1, 0, (0, [(1, 0)]))), (3, 0, 1, 506, (3, 1, (0, []))), (2, 1, 0, 556, (0, 0, (0, [(1, 1)]))), (3, 0, 2, 506, (1, 0, (5, []))), (6, 1, 4, 556, (0, 0, (5, []))), (2, 2, 0, 2550, (0, 0, (2, [])))], 3, [(3, 0, (0, [])), (3, 2, (0, [])), (3, 1, (0, [])), (1, 0, (5, []))]), ((0, []), (0, [])), [(506, 2), (556, 5)], [], ([], [], [(3, 0, 2, 506, (1, 0, (6, []))), (3, 1, 5, 556, (3, 2, (0, []))), (6, 1, 4, 556, (0, 0, (6, [])))], 0, []), [])
def gt_yJx4a65c_add_72be8_zr5 : ck_TB := ([], [], [], [], [(48, 6, 2, 0)], [], [], [], ([], [], [], []), [], [], [], 9)
def ge_yJx4a65c_add_72be8_zr5 : ck_E := (gTl, [(56, 50)], gc_yJx4a65c_add_72be8_zr5, 4, [(0, (0, 3, 3, 0, 1, 0, [])), (1, (0, 5, 2, 0, 2, 0, [])), (2, (11, 0, 0, 0, 3, 0, [])), (3, (2, 1, 0, 0, 6, 11, [])), (11, (0, 5, 2, 0, 12, 0, [])), (12, (0, 3, 3, 0, 13, 0, [])), (13, (0, 5, 1, 0, 14, 0, [])), (14, (13, 53, 57, 0, 15, 0, [])), (15, (0, 5, 0, 0, 16, 0, [])), (16, (0, 3, 3, 0, 17, 0, [])), (17, (0, 0, 0, 1, 18, 0, [])), (18, (0, 15, 0, 0, 19, 0, [])), (19, (8, 6, 2, 0, 22, 0, [])), (22, (15, 0, 0, 0, 0, 0, []))], [], [], [], [])
theorem gk_yJx4a65c_add_72be8_zr5 : ck_chk ge_yJx4a65c_add_72be8_zr5 19 = true := by decide +kernel
theorem gd_yJx4a65c_add_72be8_zr5 : ck_dec prog_46_method_24_code gt_yJx4a65c_add_72be8_zr5 ge_yJx4a65c_add_72be8_zr5.2.2.2.2.1 = true := by decide +kernel
theorem gm_yJx4a65c_add_72be8_zr5 {l : Launch} {G : am_G} {X : ck_XT} (g : gEl l G X) : ck_Con (am_grow (am_cm l G yJx4a65c_add_72be8 (.code yJx4a65c_add_72be8 prog_46_method_24_code 4 none) 7 200)) G X gTl gc_yJx4a65c_add_72be8_zr5 :=
  ck_methG (E := ge_yJx4a65c_add_72be8_zr5) (tb := gt_yJx4a65c_add_72be8_zr5) (init := false) (cm := ck_cms []) g.1 g.2.1 g.2.2.1 g.2.2.2 gTl_w (by decide +kernel) rfl rfl rfl (by decide) gk_yJx4a65c_add_72be8_zr5 gd_yJx4a65c_add_72be8_zr5 ⟨(List.forall_mem_nil _), (List.forall_mem_nil _), (List.forall_mem_nil _), (List.forall_mem_nil _), (List.forall_mem_nil _), (List.forall_mem_nil _), (List.forall_mem_nil _), (List.forall_mem_nil _)⟩ (List.forall_mem_cons.mpr ⟨⟨⟨_, _, _, rfl, Or.inl w1686⟩, by decide, _, rfl, Or.inl g_fd6_2⟩, (List.forall_mem_nil _)⟩) (fun h => nomatch h) rfl (by decide) (by decide) g_oi g_ar
    (fun s hk _ => (List.forall_mem_cons.mpr ⟨⟨by decide, by decide, am_asg_arr hk w2528⟩, (List.forall_mem_nil _)⟩)) (fun s hk => (List.forall_mem_nil _)) (ck_cms_okG trivial)
    (List.forall_mem_nil _) (List.forall_mem_nil _) (List.forall_mem_nil _) (List.forall_mem_nil _)
    (List.forall_mem_nil _)
    (ck_no5 rfl)
def gc_yJx4a65c_add_9ea2d_zr5 : ck_KK := (([((-2147483648), 2147483647), (10, 24)], [], [(2, 0, 0, 506, (0, 0, (3, []))), (3, 0, 0, 506, (1, 0, (0, [(1, 0)]))), (3, 0, 1, 506, (3, 1, (0, []))), (2, 1, 0, 556, (0, 0, (0, [(1, 1)]))), (3, 0, 2, 506, (1, 0, (5, []))), (6, 1, 4, 556, (0, 0, (5, []))), (2, 2, 0, 2550, (0, 0, (2, [])))], 3, [(3, 0, (0, [])), (3, 2, (0, []))]), ((0, []), (0, [])), [(506, 0), (506, 2), (556, 5)], [], ([((-2147483648), 2147483647)], [], [(3, 0, 0, 506, (1, 0, (0, [(1, 2)]))), (3, 0, 2, 506, (1, 0, (6, []))), (3, 1, 5, 556, (3, 2, (0, []))), (6, 1, 4, 556, (0, 0, (6, [])))], 0, [(1, 0, (1, []))]), [])
def gt_yJx4a65c_add_9ea2d_zr5 : ck_TB := ([], [], [], [(9, 6, 1), (48, 6, 2), (63, 6, 0)], [(63, 6, 0, 0)], [], [], [], ([(131, 0)], [], [], []), [], [], [], 1)
def ge_yJx4a65c_add_9ea2d_zr5 : ck_E := (gTl, [], gc_yJx4a65c_add_9ea2d_zr5, 2, [(0, (0, 5, 0, 0, 1, 0, [])), (1, (0, 12, 0, 0, 2, 0, [])), (2, (7, 6, 0, 0, 5, 0, [])), (5, (0, 0, 0, 1, 6, 0, [])), (6, (0, 15, 0, 0, 7, 0, [])), (7, (8, 6, 0, 0, 10, 0, [])), (10, (0, 5, 0, 0, 11, 0, [])), (11, (0, 5, 1, 0, 12, 0, [])), (12, (0, 5, 0, 0, 13, 0, [])), (13, (7, 6, 1, 0, 16, 0, [])), (16, (0, 5, 0, 0, 17, 0, [])), (17, (7, 6, 2, 0, 20, 0, [])), (20, (16, 0, 0, 0, 23, 0, [])), (23, (0, 0, 0, 1, 24, 0, [])), (24, (14, 0, 0, 1, 0, 0, []))], [(some 6, 4, [gc_yJx4a65c_add_72be8_zr5])], [], [], [])
theorem gk_yJx4a65c_add_9ea2d_zr5 : ck_chk ge_yJx4a65c_add_9ea2d_zr5 20 = true := by decide +kernel
theorem gd_yJx4a65c_add_9ea2d_zr5 : ck_dec prog_46_method_25_code gt_yJx4a65c_add_9ea2d_zr5 ge_yJx4a65c_add_9ea2d_zr5.2.2.2.2.1 = true := by decide +kernel
theorem gm_yJx4a65c_add_9ea2d_zr5 {l : Launch} {G : am_G} {X : ck_XT} (g : gEl l G X) : ck_Con (am_grow (am_cm l G yJx4a65c_add_9ea2d (.code yJx4a65c_add_9ea2d prog_46_method_25_code 2 (some .boolean)) 8 230)) G X gTl gc_yJx4a65c_add_9ea2d_zr5 :=
  ck_methG (E := ge_yJx4a65c_add_9ea2d_zr5) (tb := gt_yJx4a65c_add_9ea2d_zr5) (init := false) (cm := ck_cms [am_cm l G yJx4a65c_add_72be8 (.code yJx4a65c_add_72be8 prog_46_method_24_code 4 none) 7 200]) g.1 g.2.1 g.2.2.1 g.2.2.2 gTl_w (by decide +kernel) rfl rfl rfl (by decide) gk_yJx4a65c_add_9ea2d_zr5 gd_yJx4a65c_add_9ea2d_zr5 ⟨(List.forall_mem_nil _), (List.forall_mem_nil _), (List.forall_mem_nil _), (List.forall_mem_cons.mpr ⟨⟨⟨_, _, _, rfl, Or.inl w1683⟩, by decide, _, _, g_fd6_1⟩, (List.forall_mem_cons.mpr ⟨⟨⟨_, _, _, rfl, Or.inl w1686⟩, by decide, _, _, g_fd6_2⟩, (List.forall_mem_cons.mpr ⟨⟨⟨_, _, _, rfl, Or.inr (Or.inr ⟨_, w1690, w1689⟩)⟩, by decide, _, _, g_fd6_0⟩, (List.forall_mem_nil _)⟩)⟩)⟩), (List.forall_mem_nil _), (List.forall_mem_nil _), (List.forall_mem_nil _), (List.forall_mem_nil _)⟩ (List.forall_mem_cons.mpr ⟨⟨⟨_, _, _, rfl, Or.inr (Or.inr ⟨_, w1690, w1689⟩)⟩, by decide, _, rfl, Or.inl g_fd6_0⟩, (List.forall_mem_nil _)⟩) (fun h => nomatch h) ⟨_, rfl, rfl⟩ (by decide) (by decide) g_oi g_ar
    (fun s hk _ => (List.forall_mem_nil _)) (fun s hk => (List.forall_mem_nil _)) (ck_cms_okG ⟨(List.forall_mem_cons.mpr ⟨((gm_yJx4a65c_add_72be8_zr5 g)), (List.forall_mem_nil _)⟩), trivial⟩)
    (List.forall_mem_cons.mpr ⟨(ck_kV g_y_yJx4a65c_add_72be8 w1821 w1823 w34 (T := TJx4a65c) (N := 3) rfl (by decide) (by decide) (by decide)), (List.forall_mem_nil _)⟩) (List.forall_mem_nil _) (List.forall_mem_nil _) (List.forall_mem_nil _)
    (List.forall_mem_nil _)
    (ck_no5 rfl)
def gc_yJx4a65c_grow_92f84_zbe : ck_KK := (([((-2147483648), 2147483647), (1, 1)], [], [(2, 0, 0, 506, (0, 0, (3, []))), (3, 0, 0, 506, (1, 0, (0, [(1, 0)]))), (3, 0, 1, 506, (3, 1, (0, []))), (2, 1, 0, 43056, (0, 0, (0, []))), (3, 0, 2, 506, (1, 0, (0, [])))], 2, [(3, 0, (0, [])), (1, 0, (0, [(1, 1)]))]), ((1, []), (11, [])), [(506, 1)], [], ([(10, 11), (10, 11)], [], [(2, 2, 0, 656, (0, 0, (0, [(1, 2)]))), (5, 2, 0, 0, (0, 0, (0, []))), (6, 2, 4, 656, (0, 0, (0, []))), (3, 0, 1, 506, (3, 2, (0, [])))], 1, [(3, 2, (0, []))]), [])
def gt_yJx4a65c_grow_92f84_zbe : ck_TB := ([], [], [], [(9, 6, 1)], [(9, 6, 1, 4)], [], [(7, 56)], [], ([], [], [(79, 0)], []), [], [], [(39, 1, 4)], 4)
def ge_yJx4a65c_grow_92f84_zbe : ck_E := (gTl, [], gc_yJx4a65c_grow_92f84_zbe, 4, [(0, (0, 5, 0, 0, 1, 0, [])), (1, (7, 6, 1, 0, 4, 0, [])), (4, (11, 0, 0, 0, 5, 0, [])), (5, (0, 6, 2, 0, 6, 0, [])), (6, (0, 3, 2, 0, 7, 0, [])), (7, (1, 4, 0, 0, 10, 20, [])), (10, (0, 5, 0, 0, 11, 0, [])), (11, (7, 6, 1, 0, 14, 0, [])), (14, (0, 22, 4, 0, 17, 0, [])), (17, (20, 1, 0, 0, 20, 45, [])), (45, (0, 5, 0, 0, 46, 0, [])), (46, (0, 0, 0, 10, 48, 0, [])), (48, (0, 3, 1, 0, 49, 0, [])), (49, (16, 0, 0, 0, 52, 0, [])), (52, (10, 56, 656, 2, 55, 0, [])), (55, (0, 13, 0, 0, 56, 0, [])), (56, (8, 6, 1, 4, 59, 0, [])), (59, (14, 0, 0, 4, 0, 0, []))], [(none, 2, [gc_yJ9_max_7cf53_zli])], [], [], [])
theorem gk_yJx4a65c_grow_92f84_zbe : ck_chk ge_yJx4a65c_grow_92f84_zbe 23 = true := by decide +kernel
theorem gd_yJx4a65c_grow_92f84_zbe : ck_dec prog_46_method_6_code gt_yJx4a65c_grow_92f84_zbe ge_yJx4a65c_grow_92f84_zbe.2.2.2.2.1 = true := by decide +kernel
theorem gm_yJx4a65c_grow_92f84_zbe {l : Launch} {G : am_G} {X : ck_XT} (g : gEl l G X) : ck_Con (am_grow (am_cm l G yJx4a65c_grow_92f84 (.code yJx4a65c_grow_92f84 prog_46_method_6_code 4 (some (.array (.object "java/lang/Object")))) 5 140)) G X gTl gc_yJx4a65c_grow_92f84_zbe :=
  ck_methG (E := ge_yJx4a65c_grow_92f84_zbe) (tb := gt_yJx4a65c_grow_92f84_zbe) (init := false) (cm := ck_cms [am_cm l G yJ9_max_7cf53 (.code yJ9_max_7cf53 prog_32_method_65_code 2 (some .int)) 1 20]) g.1 g.2.1 g.2.2.1 g.2.2.2 gTl_w (by decide +kernel) rfl rfl rfl (by decide) gk_yJx4a65c_grow_92f84_zbe gd_yJx4a65c_grow_92f84_zbe ⟨(List.forall_mem_nil _), (List.forall_mem_nil _), (List.forall_mem_nil _), (List.forall_mem_cons.mpr ⟨⟨⟨_, _, _, rfl, Or.inl w1683⟩, by decide, _, _, g_fd6_1⟩, (List.forall_mem_nil _)⟩), (List.forall_mem_nil _), (List.forall_mem_cons.mpr ⟨Or.inl ⟨_, rfl, by decide, by decide, w1871, w1868⟩, (List.forall_mem_nil _)⟩), (List.forall_mem_nil _), (List.forall_mem_cons.mpr ⟨⟨_, List.mem_of_getElem? (i := 5) rfl, w1681, Or.inr ⟨rfl, 4, rfl, rfl⟩⟩, (List.forall_mem_nil _)⟩)⟩ (List.forall_mem_cons.mpr ⟨⟨⟨_, _, _, rfl, Or.inl w1683⟩, by decide, _, Or.inr ⟨_, rfl⟩, Or.inl g_fd6_1⟩, (List.forall_mem_nil _)⟩) (fun h => nomatch h) ⟨_, rfl, Or.inr ⟨_, rfl⟩⟩ (by decide) (by decide) g_oi g_ar
    (fun s hk _ => (List.forall_mem_nil _)) (fun s hk => (List.forall_mem_nil _)) (ck_cms_okG ⟨(List.forall_mem_cons.mpr ⟨((gm_yJ9_max_7cf53_zli g)), (List.forall_mem_nil _)⟩), trivial⟩)
    (List.forall_mem_nil _) (List.forall_mem_nil _) (List.forall_mem_cons.mpr ⟨(ck_kS g_y_yJ9_max_7cf53 w1870 w516 (by decide) (by decide)), (List.forall_mem_nil _)⟩) (List.forall_mem_nil _)
    (List.forall_mem_nil _)
    (ck_no5 rfl)
def gc_yJx4a65c_grow_d5877_zbe : ck_KK := (([((-2147483648), 2147483647)], [], [(2, 0, 0, 506, (0, 0, (3, []))), (3, 0, 0, 506, (1, 0, (0, [(1, 0)]))), (3, 0, 1, 506, (3, 1, (0, []))), (2, 1, 0, 43056, (0, 0, (0, []))), (3, 0, 2, 506, (1, 0, (0, [])))], 2, [(3, 0, (0, []))]), ((1, []), (11, [])), [(506, 1)], [], ([(10, 11), (10, 11)], [], [(2, 2, 0, 656, (0, 0, (0, [(1, 1)]))), (5, 2, 0, 0, (0, 0, (0, []))), (6, 2, 4, 656, (0, 0, (0, []))), (3, 0, 1, 506, (3, 2, (0, [])))], 1, [(3, 2, (0, []))]), [])
def gt_yJx4a65c_grow_d5877_zbe : ck_TB := ([], [], [], [(48, 6, 2)], [], [], [], [], ([(69, 0)], [], [], []), [], [], [], 4)
def ge_yJx4a65c_grow_d5877_zbe : ck_E := (gTl, [], gc_yJx4a65c_grow_d5877_zbe, 1, [(0, (0, 5, 0, 0, 1, 0, [])), (1, (0, 5, 0, 0, 2, 0, [])), (2, (7, 6, 2, 0, 5, 0, [])), (5, (0, 0, 0, 1, 6, 0, [])), (6, (0, 15, 0, 0, 7, 0, [])), (7, (16, 0, 0, 0, 10, 0, [])), (10, (14, 0, 0, 4, 0, 0, []))], [(some 6, 2, [gc_yJx4a65c_grow_92f84_zbe])], [], [], [])
theorem gk_yJx4a65c_grow_d5877_zbe : ck_chk ge_yJx4a65c_grow_d5877_zbe 12 = true := by decide +kernel
theorem gd_yJx4a65c_grow_d5877_zbe : ck_dec prog_46_method_7_code gt_yJx4a65c_grow_d5877_zbe ge_yJx4a65c_grow_d5877_zbe.2.2.2.2.1 = true := by decide +kernel
theorem gm_yJx4a65c_grow_d5877_zbe {l : Launch} {G : am_G} {X : ck_XT} (g : gEl l G X) : ck_Con (am_grow (am_cm l G yJx4a65c_grow_d5877 (.code yJx4a65c_grow_d5877 prog_46_method_7_code 1 (some (.array (.object "java/lang/Object")))) 6 170)) G X gTl gc_yJx4a65c_grow_d5877_zbe :=
  ck_methG (E := ge_yJx4a65c_grow_d5877_zbe) (tb := gt_yJx4a65c_grow_d5877_zbe) (init := false) (cm := ck_cms [am_cm l G yJx4a65c_grow_92f84 (.code yJx4a65c_grow_92f84 prog_46_method_6_code 4 (some (.array (.object "java/lang/Object")))) 5 140]) g.1 g.2.1 g.2.2.1 g.2.2.2 gTl_w (by decide +kernel) rfl rfl rfl (by decide) gk_yJx4a65c_grow_d5877_zbe gd_yJx4a65c_grow_d5877_zbe ⟨(List.forall_mem_nil _), (List.forall_mem_nil _), (List.forall_mem_nil _), (List.forall_mem_cons.mpr ⟨⟨⟨_, _, _, rfl, Or.inl w1686⟩, by decide, _, _, g_fd6_2⟩, (List.forall_mem_nil _)⟩), (List.forall_mem_nil _), (List.forall_mem_nil _), (List.forall_mem_nil _), (List.forall_mem_nil _)⟩ (List.forall_mem_nil _) (fun h => nomatch h) ⟨_, rfl, Or.inr ⟨_, rfl⟩⟩ (by decide) (by decide) g_oi g_ar
    (fun s hk _ => (List.forall_mem_nil _)) (fun s hk => (List.forall_mem_nil _)) (ck_cms_okG ⟨(List.forall_mem_cons.mpr ⟨((gm_yJx4a65c_grow_92f84_zbe g)), (List.forall_mem_nil _)⟩), trivial⟩)
    (List.forall_mem_cons.mpr ⟨(ck_kV g_y_yJx4a65c_grow_92f84 w1829 w1831 w36 (T := TJx4a65c) (N := 3) rfl (by decide) (by decide) (by decide)), (List.forall_mem_nil _)⟩) (List.forall_mem_nil _) (List.forall_mem_nil _) (List.forall_mem_nil _)
    (List.forall_mem_nil _)
    (ck_no5 rfl)
def gc_yJx4a65c_add_72be8_zbe : ck_KK := (([((-2147483648), 2147483647)], [], [(2, 0, 0, 506, (0, 0, (3, []))), (3, 0, 0, 506, (1, 0, (0, [(1, 0)]))), (3, 0, 1, 506, (3, 1, (0, []))), (2, 1, 0, 43056, (0, 0, (0, []))), (3, 0, 2, 506, (1, 0, (0, []))), (2, 2, 0, 41002, (0, 0, (1, [])))], 3, [(3, 0, (0, [])), (3, 2, (0, [])), (3, 1, (0, [])), (1, 0, (0, []))]), ((1, []), (11, [])), [(506, 1), (506, 2)], [], ([(10, 11)], [], [(3, 0, 1, 506, (3, 3, (0, []))), (2, 3, 0, 656, (0, 0, (0, [(1, 1)]))), (5, 3, 0, 0, (0, 0, (0, []))), (6, 3, 4, 656, (0, 0, (1, []))), (3, 0, 2, 506, (1, 0, (1, []))), (3, 3, 0, 656, (3, 2, (0, [])))], 1, []), [])
def gt_yJx4a65c_add_72be8_zbe : ck_TB := ([], [], [], [], [(48, 6, 2, 0)], [], [], [], ([(129, 0)], [], [], []), [], [], [], 9)
def ge_yJx4a65c_add_72be8_zbe : ck_E := (gTl, [(56, 2)], gc_yJx4a65c_add_72be8_zbe, 4, [(0, (0, 3, 3, 0, 1, 0, [])), (1, (0, 5, 2, 0, 2, 0, [])), (2, (11, 0, 0, 0, 3, 0, [])), (3, (2, 1, 0, 0, 6, 11, [])), (6, (0, 5, 0, 0, 7, 0, [])), (7, (16, 0, 0, 0, 10, 0, [])), (10, (0, 8, 2, 0, 11, 0, [])), (11, (0, 5, 2, 0, 12, 0, [])), (12, (0, 3, 3, 0, 13, 0, [])), (13, (0, 5, 1, 0, 14, 0, [])), (14, (13, 53, 57, 0, 15, 0, [])), (15, (0, 5, 0, 0, 16, 0, [])), (16, (0, 3, 3, 0, 17, 0, [])), (17, (0, 0, 0, 1, 18, 0, [])), (18, (0, 15, 0, 0, 19, 0, [])), (19, (8, 6, 2, 0, 22, 0, [])), (22, (15, 0, 0, 0, 0, 0, []))], [(some 6, 1, [gc_yJx4a65c_grow_d5877_zbe])], [], [], [])
theorem gk_yJx4a65c_add_72be8_zbe : ck_chk ge_yJx4a65c_add_72be8_zbe 22 = true := by decide +kernel
theorem gd_yJx4a65c_add_72be8_zbe : ck_dec prog_46_method_24_code gt_yJx4a65c_add_72be8_zbe ge_yJx4a65c_add_72be8_zbe.2.2.2.2.1 = true := by decide +kernel
theorem gm_yJx4a65c_add_72be8_zbe {l : Launch} {G : am_G} {X : ck_XT} (g : gEl l G X) : ck_Con (am_grow (am_cm l G yJx4a65c_add_72be8 (.code yJx4a65c_add_72be8 prog_46_method_24_code 4 none) 7 200)) G X gTl gc_yJx4a65c_add_72be8_zbe :=
  ck_methG (E := ge_yJx4a65c_add_72be8_zbe) (tb := gt_yJx4a65c_add_72be8_zbe) (init := false) (cm := ck_cms [am_cm l G yJx4a65c_grow_d5877 (.code yJx4a65c_grow_d5877 prog_46_method_7_code 1 (some (.array (.object "java/lang/Object")))) 6 170]) g.1 g.2.1 g.2.2.1 g.2.2.2 gTl_w (by decide +kernel) rfl rfl rfl (by decide) gk_yJx4a65c_add_72be8_zbe gd_yJx4a65c_add_72be8_zbe ⟨(List.forall_mem_nil _), (List.forall_mem_nil _), (List.forall_mem_nil _), (List.forall_mem_nil _), (List.forall_mem_nil _), (List.forall_mem_nil _), (List.forall_mem_nil _), (List.forall_mem_nil _)⟩ (List.forall_mem_cons.mpr ⟨⟨⟨_, _, _, rfl, Or.inl w1686⟩, by decide, _, rfl, Or.inl g_fd6_2⟩, (List.forall_mem_nil _)⟩) (fun h => nomatch h) rfl (by decide) (by decide) g_oi g_ar
    (fun s hk _ => (List.forall_mem_cons.mpr ⟨⟨by decide, by decide, am_asg_obj hk (ci := 2) rfl (by decide) w2503⟩, (List.forall_mem_nil _)⟩)) (fun s hk => (List.forall_mem_nil _)) (ck_cms_okG ⟨(List.forall_mem_cons.mpr ⟨((gm_yJx4a65c_grow_d5877_zbe g)), (List.forall_mem_nil _)⟩), trivial⟩)
    (List.forall_mem_cons.mpr ⟨(ck_kV g_y_yJx4a65c_grow_d5877 w1825 w1827 w35 (T := TJx4a65c) (N := 3) rfl (by decide) (by decide) (by decide)), (List.forall_mem_nil _)⟩) (List.forall_mem_nil _) (List.forall_mem_nil _) (List.forall_mem_nil _)
    (List.forall_mem_nil _)
    (ck_no5 rfl)
def gc_yJx4a65c_add_9ea2d_zbe : ck_KK := (([((-2147483648), 2147483647)], [], [(2, 0, 0, 506, (0, 0, (3, []))), (3, 0, 0, 506, (1, 0, (0, [(1, 0)]))), (3, 0, 1, 506, (3, 1, (0, []))), (2, 1, 0, 43056, (0, 0, (0, []))), (3, 0, 2, 506, (1, 0, (0, []))), (2, 2, 0, 41002, (0, 0, (1, [])))], 3, [(3, 0, (0, [])), (3, 2, (0, []))]), ((1, []), (11, [])), [(506, 0), (506, 1), (506, 2)], [], ([((-2147483648), 2147483647), (10, 11)], [], [(3, 0, 0, 506, (1, 0, (0, [(1, 1)]))), (3, 0, 1, 506, (3, 3, (0, []))), (2, 3, 0, 656, (0, 0, (0, [(1, 2)]))), (5, 3, 0, 0, (0, 0, (0, []))), (6, 3, 4, 656, (0, 0, (1, []))), (3, 0, 2, 506, (1, 0, (1, []))), (3, 3, 0, 656, (3, 2, (0, [])))], 1, [(1, 0, (1, []))]), [])
def gt_yJx4a65c_add_9ea2d_zbe : ck_TB := ([], [], [], [(9, 6, 1), (48, 6, 2), (63, 6, 0)], [(63, 6, 0, 0)], [], [], [], ([(131, 0)], [], [], []), [], [], [], 1)
def ge_yJx4a65c_add_9ea2d_zbe : ck_E := (gTl, [], gc_yJx4a65c_add_9ea2d_zbe, 2, [(0, (0, 5, 0, 0, 1, 0, [])), (1, (0, 12, 0, 0, 2, 0, [])), (2, (7, 6, 0, 0, 5, 0, [])), (5, (0, 0, 0, 1, 6, 0, [])), (6, (0, 15, 0, 0, 7, 0, [])), (7, (8, 6, 0, 0, 10, 0, [])), (10, (0, 5, 0, 0, 11, 0, [])), (11, (0, 5, 1, 0, 12, 0, [])), (12, (0, 5, 0, 0, 13, 0, [])), (13, (7, 6, 1, 0, 16, 0, [])), (16, (0, 5, 0, 0, 17, 0, [])), (17, (7, 6, 2, 0, 20, 0, [])), (20, (16, 0, 0, 0, 23, 0, [])), (23, (0, 0, 0, 1, 24, 0, [])), (24, (14, 0, 0, 1, 0, 0, []))], [(some 6, 4, [gc_yJx4a65c_add_72be8_zbe])], [], [], [])
theorem gk_yJx4a65c_add_9ea2d_zbe : ck_chk ge_yJx4a65c_add_9ea2d_zbe 20 = true := by decide +kernel
theorem gd_yJx4a65c_add_9ea2d_zbe : ck_dec prog_46_method_25_code gt_yJx4a65c_add_9ea2d_zbe ge_yJx4a65c_add_9ea2d_zbe.2.2.2.2.1 = true := by decide +kernel
theorem gm_yJx4a65c_add_9ea2d_zbe {l : Launch} {G : am_G} {X : ck_XT} (g : gEl l G X) : ck_Con (am_grow (am_cm l G yJx4a65c_add_9ea2d (.code yJx4a65c_add_9ea2d prog_46_method_25_code 2 (some .boolean)) 8 230)) G X gTl gc_yJx4a65c_add_9ea2d_zbe :=
  ck_methG (E := ge_yJx4a65c_add_9ea2d_zbe) (tb := gt_yJx4a65c_add_9ea2d_zbe) (init := false) (cm := ck_cms [am_cm l G yJx4a65c_add_72be8 (.code yJx4a65c_add_72be8 prog_46_method_24_code 4 none) 7 200]) g.1 g.2.1 g.2.2.1 g.2.2.2 gTl_w (by decide +kernel) rfl rfl rfl (by decide) gk_yJx4a65c_add_9ea2d_zbe gd_yJx4a65c_add_9ea2d_zbe ⟨(List.forall_mem_nil _), (List.forall_mem_nil _), (List.forall_mem_nil _), (List.forall_mem_cons.mpr ⟨⟨⟨_, _, _, rfl, Or.inl w1683⟩, by decide, _, _, g_fd6_1⟩, (List.forall_mem_cons.mpr ⟨⟨⟨_, _, _, rfl, Or.inl w1686⟩, by decide, _, _, g_fd6_2⟩, (List.forall_mem_cons.mpr ⟨⟨⟨_, _, _, rfl, Or.inr (Or.inr ⟨_, w1690, w1689⟩)⟩, by decide, _, _, g_fd6_0⟩, (List.forall_mem_nil _)⟩)⟩)⟩), (List.forall_mem_nil _), (List.forall_mem_nil _), (List.forall_mem_nil _), (List.forall_mem_nil _)⟩ (List.forall_mem_cons.mpr ⟨⟨⟨_, _, _, rfl, Or.inr (Or.inr ⟨_, w1690, w1689⟩)⟩, by decide, _, rfl, Or.inl g_fd6_0⟩, (List.forall_mem_nil _)⟩) (fun h => nomatch h) ⟨_, rfl, rfl⟩ (by decide) (by decide) g_oi g_ar
    (fun s hk _ => (List.forall_mem_nil _)) (fun s hk => (List.forall_mem_nil _)) (ck_cms_okG ⟨(List.forall_mem_cons.mpr ⟨((gm_yJx4a65c_add_72be8_zbe g)), (List.forall_mem_nil _)⟩), trivial⟩)
    (List.forall_mem_cons.mpr ⟨(ck_kV g_y_yJx4a65c_add_72be8 w1821 w1823 w34 (T := TJx4a65c) (N := 3) rfl (by decide) (by decide) (by decide)), (List.forall_mem_nil _)⟩) (List.forall_mem_nil _) (List.forall_mem_nil _) (List.forall_mem_nil _)
    (List.forall_mem_nil _)
    (ck_no5 rfl)
def gc_yJx4a65c_add_72be8_zb0 : ck_KK := (([((-2147483648), 2147483647), (10, 24)], [], [(2, 0, 0, 506, (0, 0, (3, []))), (3, 0, 0, 506, (1, 0, (0, [(1, 0)]))), (3, 0, 1, 506, (3, 1, (0, []))), (2, 1, 0, 656, (0, 0, (0, [(1, 1)]))), (3, 0, 2, 506, (1, 0, (0, []))), (6, 1, 4, 656, (0, 0, (0, []))), (2, 2, 0, 41002, (0, 0, (1, [])))], 3, [(3, 0, (0, [])), (3, 2, (0, [])), (3, 1, (0, [])), (1, 0, (0, []))]), ((0, []), (0, [])), [(506, 2), (656, 0)], [], ([], [], [(3, 0, 2, 506, (1, 0, (1, []))), (3, 1, 0, 656, (3, 2, (0, []))), (6, 1, 4, 656, (0, 0, (1, [])))], 0, []), [])
def gt_yJx4a65c_add_72be8_zb0 : ck_TB := ([], [], [], [], [(48, 6, 2, 0)], [], [], [], ([], [], [], []), [], [], [], 9)
def ge_yJx4a65c_add_72be8_zb0 : ck_E := (gTl, [(56, 2)], gc_yJx4a65c_add_72be8_zb0, 4, [(0, (0, 3, 3, 0, 1, 0, [])), (1, (0, 5, 2, 0, 2, 0, [])), (2, (11, 0, 0, 0, 3, 0, [])), (3, (2, 1, 0, 0, 6, 11, [])), (11, (0, 5, 2, 0, 12, 0, [])), (12, (0, 3, 3, 0, 13, 0, [])), (13, (0, 5, 1, 0, 14, 0, [])), (14, (13, 53, 57, 0, 15, 0, [])), (15, (0, 5, 0, 0, 16, 0, [])), (16, (0, 3, 3, 0, 17, 0, [])), (17, (0, 0, 0, 1, 18, 0, [])), (18, (0, 15, 0, 0, 19, 0, [])), (19, (8, 6, 2, 0, 22, 0, [])), (22, (15, 0, 0, 0, 0, 0, []))], [], [], [], [])
theorem gk_yJx4a65c_add_72be8_zb0 : ck_chk ge_yJx4a65c_add_72be8_zb0 19 = true := by decide +kernel
theorem gd_yJx4a65c_add_72be8_zb0 : ck_dec prog_46_method_24_code gt_yJx4a65c_add_72be8_zb0 ge_yJx4a65c_add_72be8_zb0.2.2.2.2.1 = true := by decide +kernel
theorem gm_yJx4a65c_add_72be8_zb0 {l : Launch} {G : am_G} {X : ck_XT} (g : gEl l G X) : ck_Con (am_grow (am_cm l G yJx4a65c_add_72be8 (.code yJx4a65c_add_72be8 prog_46_method_24_code 4 none) 7 200)) G X gTl gc_yJx4a65c_add_72be8_zb0 :=
  ck_methG (E := ge_yJx4a65c_add_72be8_zb0) (tb := gt_yJx4a65c_add_72be8_zb0) (init := false) (cm := ck_cms []) g.1 g.2.1 g.2.2.1 g.2.2.2 gTl_w (by decide +kernel) rfl rfl rfl (by decide) gk_yJx4a65c_add_72be8_zb0 gd_yJx4a65c_add_72be8_zb0 ⟨(List.forall_mem_nil _), (List.forall_mem_nil _), (List.forall_mem_nil _), (List.forall_mem_nil _), (List.forall_mem_nil _), (List.forall_mem_nil _), (List.forall_mem_nil _), (List.forall_mem_nil _)⟩ (List.forall_mem_cons.mpr ⟨⟨⟨_, _, _, rfl, Or.inl w1686⟩, by decide, _, rfl, Or.inl g_fd6_2⟩, (List.forall_mem_nil _)⟩) (fun h => nomatch h) rfl (by decide) (by decide) g_oi g_ar
    (fun s hk _ => (List.forall_mem_cons.mpr ⟨⟨by decide, by decide, am_asg_obj hk (ci := 2) rfl (by decide) w2503⟩, (List.forall_mem_nil _)⟩)) (fun s hk => (List.forall_mem_nil _)) (ck_cms_okG trivial)
    (List.forall_mem_nil _) (List.forall_mem_nil _) (List.forall_mem_nil _) (List.forall_mem_nil _)
    (List.forall_mem_nil _)
    (ck_no5 rfl)
def gc_yJx4a65c_add_9ea2d_zb0 : ck_KK := (([((-2147483648), 2147483647), (10, 24)], [], [(2, 0, 0, 506, (0, 0, (3, []))), (3, 0, 0, 506, (1, 0, (0, [(1, 0)]))), (3, 0, 1, 506, (3, 1, (0, []))), (2, 1, 0, 656, (0, 0, (0, [(1, 1)]))), (3, 0, 2, 506, (1, 0, (0, []))), (6, 1, 4, 656, (0, 0, (0, []))), (2, 2, 0, 41002, (0, 0, (1, [])))], 3, [(3, 0, (0, [])), (3, 2, (0, []))]), ((0, []), (0, [])), [(506, 0), (506, 2), (656, 0)], [], ([((-2147483648), 2147483647)], [], [(3, 0, 0, 506, (1, 0, (0, [(1, 2)]))), (3, 0, 2, 506, (1, 0, (1, []))), (3, 1, 0, 656, (3, 2, (0, []))), (6, 1, 4, 656, (0, 0, (1, [])))], 0, [(1, 0, (1, []))]), [])
def gt_yJx4a65c_add_9ea2d_zb0 : ck_TB := ([], [], [], [(9, 6, 1), (48, 6, 2), (63, 6, 0)], [(63, 6, 0, 0)], [], [], [], ([(131, 0)], [], [], []), [], [], [], 1)
def ge_yJx4a65c_add_9ea2d_zb0 : ck_E := (gTl, [], gc_yJx4a65c_add_9ea2d_zb0, 2, [(0, (0, 5, 0, 0, 1, 0, [])), (1, (0, 12, 0, 0, 2, 0, [])), (2, (7, 6, 0, 0, 5, 0, [])), (5, (0, 0, 0, 1, 6, 0, [])), (6, (0, 15, 0, 0, 7, 0, [])), (7, (8, 6, 0, 0, 10, 0, [])), (10, (0, 5, 0, 0, 11, 0, [])), (11, (0, 5, 1, 0, 12, 0, [])), (12, (0, 5, 0, 0, 13, 0, [])), (13, (7, 6, 1, 0, 16, 0, [])), (16, (0, 5, 0, 0, 17, 0, [])), (17, (7, 6, 2, 0, 20, 0, [])), (20, (16, 0, 0, 0, 23, 0, [])), (23, (0, 0, 0, 1, 24, 0, [])), (24, (14, 0, 0, 1, 0, 0, []))], [(some 6, 4, [gc_yJx4a65c_add_72be8_zb0])], [], [], [])
theorem gk_yJx4a65c_add_9ea2d_zb0 : ck_chk ge_yJx4a65c_add_9ea2d_zb0 20 = true := by decide +kernel
theorem gd_yJx4a65c_add_9ea2d_zb0 : ck_dec prog_46_method_25_code gt_yJx4a65c_add_9ea2d_zb0 ge_yJx4a65c_add_9ea2d_zb0.2.2.2.2.1 = true := by decide +kernel
theorem gm_yJx4a65c_add_9ea2d_zb0 {l : Launch} {G : am_G} {X : ck_XT} (g : gEl l G X) : ck_Con (am_grow (am_cm l G yJx4a65c_add_9ea2d (.code yJx4a65c_add_9ea2d prog_46_method_25_code 2 (some .boolean)) 8 230)) G X gTl gc_yJx4a65c_add_9ea2d_zb0 :=
  ck_methG (E := ge_yJx4a65c_add_9ea2d_zb0) (tb := gt_yJx4a65c_add_9ea2d_zb0) (init := false) (cm := ck_cms [am_cm l G yJx4a65c_add_72be8 (.code yJx4a65c_add_72be8 prog_46_method_24_code 4 none) 7 200]) g.1 g.2.1 g.2.2.1 g.2.2.2 gTl_w (by decide +kernel) rfl rfl rfl (by decide) gk_yJx4a65c_add_9ea2d_zb0 gd_yJx4a65c_add_9ea2d_zb0 ⟨(List.forall_mem_nil _), (List.forall_mem_nil _), (List.forall_mem_nil _), (List.forall_mem_cons.mpr ⟨⟨⟨_, _, _, rfl, Or.inl w1683⟩, by decide, _, _, g_fd6_1⟩, (List.forall_mem_cons.mpr ⟨⟨⟨_, _, _, rfl, Or.inl w1686⟩, by decide, _, _, g_fd6_2⟩, (List.forall_mem_cons.mpr ⟨⟨⟨_, _, _, rfl, Or.inr (Or.inr ⟨_, w1690, w1689⟩)⟩, by decide, _, _, g_fd6_0⟩, (List.forall_mem_nil _)⟩)⟩)⟩), (List.forall_mem_nil _), (List.forall_mem_nil _), (List.forall_mem_nil _), (List.forall_mem_nil _)⟩ (List.forall_mem_cons.mpr ⟨⟨⟨_, _, _, rfl, Or.inr (Or.inr ⟨_, w1690, w1689⟩)⟩, by decide, _, rfl, Or.inl g_fd6_0⟩, (List.forall_mem_nil _)⟩) (fun h => nomatch h) ⟨_, rfl, rfl⟩ (by decide) (by decide) g_oi g_ar
    (fun s hk _ => (List.forall_mem_nil _)) (fun s hk => (List.forall_mem_nil _)) (ck_cms_okG ⟨(List.forall_mem_cons.mpr ⟨((gm_yJx4a65c_add_72be8_zb0 g)), (List.forall_mem_nil _)⟩), trivial⟩)
    (List.forall_mem_cons.mpr ⟨(ck_kV g_y_yJx4a65c_add_72be8 w1821 w1823 w34 (T := TJx4a65c) (N := 3) rfl (by decide) (by decide) (by decide)), (List.forall_mem_nil _)⟩) (List.forall_mem_nil _) (List.forall_mem_nil _) (List.forall_mem_nil _)
    (List.forall_mem_nil _)
    (ck_no5 rfl)
def gc_yJx4a65c_add_72be8_zb1 : ck_KK := (([((-2147483648), 2147483647), (10, 24)], [], [(2, 0, 0, 506, (0, 0, (3, []))), (3, 0, 0, 506, (1, 0, (0, [(1, 0)]))), (3, 0, 1, 506, (3, 1, (0, []))), (2, 1, 0, 656, (0, 0, (0, [(1, 1)]))), (3, 0, 2, 506, (1, 0, (1, []))), (6, 1, 4, 656, (0, 0, (1, []))), (2, 2, 0, 41002, (0, 0, (1, [])))], 3, [(3, 0, (0, [])), (3, 2, (0, [])), (3, 1, (0, [])), (1, 0, (1, []))]), ((0, []), (0, [])), [(506, 2), (656, 1)], [], ([], [], [(3, 0, 2, 506, (1, 0, (2, []))), (3, 1, 1, 656, (3, 2, (0, []))), (6, 1, 4, 656, (0, 0, (2, [])))], 0, []), [])
def gt_yJx4a65c_add_72be8_zb1 : ck_TB := ([], [], [], [], [(48, 6, 2, 0)], [], [], [], ([], [], [], []), [], [], [], 9)
def ge_yJx4a65c_add_72be8_zb1 : ck_E := (gTl, [(56, 2)], gc_yJx4a65c_add_72be8_zb1, 4, [(0, (0, 3, 3, 0, 1, 0, [])), (1, (0, 5, 2, 0, 2, 0, [])), (2, (11, 0, 0, 0, 3, 0, [])), (3, (2, 1, 0, 0, 6, 11, [])), (11, (0, 5, 2, 0, 12, 0, [])), (12, (0, 3, 3, 0, 13, 0, [])), (13, (0, 5, 1, 0, 14, 0, [])), (14, (13, 53, 57, 0, 15, 0, [])), (15, (0, 5, 0, 0, 16, 0, [])), (16, (0, 3, 3, 0, 17, 0, [])), (17, (0, 0, 0, 1, 18, 0, [])), (18, (0, 15, 0, 0, 19, 0, [])), (19, (8, 6, 2, 0, 22, 0, [])), (22, (15, 0, 0, 0, 0, 0, []))], [], [], [], [])
theorem gk_yJx4a65c_add_72be8_zb1 : ck_chk ge_yJx4a65c_add_72be8_zb1 19 = true := by decide +kernel
theorem gd_yJx4a65c_add_72be8_zb1 : ck_dec prog_46_method_24_code gt_yJx4a65c_add_72be8_zb1 ge_yJx4a65c_add_72be8_zb1.2.2.2.2.1 = true := by decide +kernel
theorem gm_yJx4a65c_add_72be8_zb1 {l : Launch} {G : am_G} {X : ck_XT} (g : gEl l G X) : ck_Con (am_grow (am_cm l G yJx4a65c_add_72be8 (.code yJx4a65c_add_72be8 prog_46_method_24_code 4 none) 7 200)) G X gTl gc_yJx4a65c_add_72be8_zb1 :=
  ck_methG (E := ge_yJx4a65c_add_72be8_zb1) (tb := gt_yJx4a65c_add_72be8_zb1) (init := false) (cm := ck_cms []) g.1 g.2.1 g.2.2.1 g.2.2.2 gTl_w (by decide +kernel) rfl rfl rfl (by decide) gk_yJx4a65c_add_72be8_zb1 gd_yJx4a65c_add_72be8_zb1 ⟨(List.forall_mem_nil _), (List.forall_mem_nil _), (List.forall_mem_nil _), (List.forall_mem_nil _), (List.forall_mem_nil _), (List.forall_mem_nil _), (List.forall_mem_nil _), (List.forall_mem_nil _)⟩ (List.forall_mem_cons.mpr ⟨⟨⟨_, _, _, rfl, Or.inl w1686⟩, by decide, _, rfl, Or.inl g_fd6_2⟩, (List.forall_mem_nil _)⟩) (fun h => nomatch h) rfl (by decide) (by decide) g_oi g_ar
    (fun s hk _ => (List.forall_mem_cons.mpr ⟨⟨by decide, by decide, am_asg_obj hk (ci := 2) rfl (by decide) w2503⟩, (List.forall_mem_nil _)⟩)) (fun s hk => (List.forall_mem_nil _)) (ck_cms_okG trivial)
    (List.forall_mem_nil _) (List.forall_mem_nil _) (List.forall_mem_nil _) (List.forall_mem_nil _)
    (List.forall_mem_nil _)
    (ck_no5 rfl)
def gc_yJx4a65c_add_9ea2d_zb1 : ck_KK := (([((-2147483648), 2147483647), (10, 24)], [], [(2, 0, 0, 506, (0, 0, (3, []))), (3, 0, 0, 506, (1, 0, (0, [(1, 0)]))), (3, 0, 1, 506, (3, 1, (0, []))), (2, 1, 0, 656, (0, 0, (0, [(1, 1)]))), (3, 0, 2, 506, (1, 0, (1, []))), (6, 1, 4, 656, (0, 0, (1, []))), (2, 2, 0, 41002, (0, 0, (1, [])))], 3, [(3, 0, (0, [])), (3, 2, (0, []))]), ((0, []), (0, [])), [(506, 0), (506, 2), (656, 1)], [], ([((-2147483648), 2147483647)], [], [(3, 0, 0, 506, (1, 0, (0, [(1, 2)]))), (3, 0, 2, 506, (1, 0, (2, []))), (3, 1, 1, 656, (3, 2, (0, []))), (6, 1, 4, 656, (0, 0, (2, [])))], 0, [(1, 0, (1, []))]), [])
def gt_yJx4a65c_add_9ea2d_zb1 : ck_TB := ([], [], [], [(9, 6, 1), (48, 6, 2), (63, 6, 0)], [(63, 6, 0, 0)], [], [], [], ([(131, 0)], [], [], []), [], [], [], 1)
def ge_yJx4a65c_add_9ea2d_zb1 : ck_E := (gTl, [], gc_yJx4a65c_add_9ea2d_zb1, 2, [(0, (0, 5, 0, 0, 1, 0, [])), (1, (0, 12, 0, 0, 2, 0, [])), (2, (7, 6, 0, 0, 5, 0, [])), (5, (0, 0, 0, 1, 6, 0, [])), (6, (0, 15, 0, 0, 7, 0, [])), (7, (8, 6, 0, 0, 10, 0, [])), (10, (0, 5, 0, 0, 11, 0, [])), (11, (0, 5, 1, 0, 12, 0, [])), (12, (0, 5, 0, 0, 13, 0, [])), (13, (7, 6, 1, 0, 16, 0, [])), (16, (0, 5, 0, 0, 17, 0, [])), (17, (7, 6, 2, 0, 20, 0, [])), (20, (16, 0, 0, 0, 23, 0, [])), (23, (0, 0, 0, 1, 24, 0, [])), (24, (14, 0, 0, 1, 0, 0, []))], [(some 6, 4, [gc_yJx4a65c_add_72be8_zb1])], [], [], [])
theorem gk_yJx4a65c_add_9ea2d_zb1 : ck_chk ge_yJx4a65c_add_9ea2d_zb1 20 = true := by decide +kernel
theorem gd_yJx4a65c_add_9ea2d_zb1 : ck_dec prog_46_method_25_code gt_yJx4a65c_add_9ea2d_zb1 ge_yJx4a65c_add_9ea2d_zb1.2.2.2.2.1 = true := by decide +kernel
theorem gm_yJx4a65c_add_9ea2d_zb1 {l : Launch} {G : am_G} {X : ck_XT} (g : gEl l G X) : ck_Con (am_grow (am_cm l G yJx4a65c_add_9ea2d (.code yJx4a65c_add_9ea2d prog_46_method_25_code 2 (some .boolean)) 8 230)) G X gTl gc_yJx4a65c_add_9ea2d_zb1 :=
  ck_methG (E := ge_yJx4a65c_add_9ea2d_zb1) (tb := gt_yJx4a65c_add_9ea2d_zb1) (init := false) (cm := ck_cms [am_cm l G yJx4a65c_add_72be8 (.code yJx4a65c_add_72be8 prog_46_method_24_code 4 none) 7 200]) g.1 g.2.1 g.2.2.1 g.2.2.2 gTl_w (by decide +kernel) rfl rfl rfl (by decide) gk_yJx4a65c_add_9ea2d_zb1 gd_yJx4a65c_add_9ea2d_zb1 ⟨(List.forall_mem_nil _), (List.forall_mem_nil _), (List.forall_mem_nil _), (List.forall_mem_cons.mpr ⟨⟨⟨_, _, _, rfl, Or.inl w1683⟩, by decide, _, _, g_fd6_1⟩, (List.forall_mem_cons.mpr ⟨⟨⟨_, _, _, rfl, Or.inl w1686⟩, by decide, _, _, g_fd6_2⟩, (List.forall_mem_cons.mpr ⟨⟨⟨_, _, _, rfl, Or.inr (Or.inr ⟨_, w1690, w1689⟩)⟩, by decide, _, _, g_fd6_0⟩, (List.forall_mem_nil _)⟩)⟩)⟩), (List.forall_mem_nil _), (List.forall_mem_nil _), (List.forall_mem_nil _), (List.forall_mem_nil _)⟩ (List.forall_mem_cons.mpr ⟨⟨⟨_, _, _, rfl, Or.inr (Or.inr ⟨_, w1690, w1689⟩)⟩, by decide, _, rfl, Or.inl g_fd6_0⟩, (List.forall_mem_nil _)⟩) (fun h => nomatch h) ⟨_, rfl, rfl⟩ (by decide) (by decide) g_oi g_ar
    (fun s hk _ => (List.forall_mem_nil _)) (fun s hk => (List.forall_mem_nil _)) (ck_cms_okG ⟨(List.forall_mem_cons.mpr ⟨((gm_yJx4a65c_add_72be8_zb1 g)), (List.forall_mem_nil _)⟩), trivial⟩)
    (List.forall_mem_cons.mpr ⟨(ck_kV g_y_yJx4a65c_add_72be8 w1821 w1823 w34 (T := TJx4a65c) (N := 3) rfl (by decide) (by decide) (by decide)), (List.forall_mem_nil _)⟩) (List.forall_mem_nil _) (List.forall_mem_nil _) (List.forall_mem_nil _)
    (List.forall_mem_nil _)
    (ck_no5 rfl)
def gc_yJx4a65c_add_72be8_zb2 : ck_KK := (([((-2147483648), 2147483647), (10, 24)], [], [(2, 0, 0, 506, (0, 0, (3, []))), (3, 0, 0, 506, (1, 0, (0, [(1, 0)]))), (3, 0, 1, 506, (3, 1, (0, []))), (2, 1, 0, 656, (0, 0, (0, [(1, 1)]))), (3, 0, 2, 506, (1, 0, (2, []))), (6, 1, 4, 656, (0, 0, (2, []))), (2, 2, 0, 41002, (0, 0, (1, [])))], 3, [(3, 0, (0, [])), (3, 2, (0, [])), (3, 1, (0, [])), (1, 0, (2, []))]), ((0, []), (0, [])), [(506, 2), (656, 2)], [], ([], [], [(3, 0, 2, 506, (1, 0, (3, []))), (3, 1, 2, 656, (3, 2, (0, []))), (6, 1, 4, 656, (0, 0, (3, [])))], 0, []), [])
def gt_yJx4a65c_add_72be8_zb2 : ck_TB := ([], [], [], [], [(48, 6, 2, 0)], [], [], [], ([], [], [], []), [], [], [], 9)
def ge_yJx4a65c_add_72be8_zb2 : ck_E := (gTl, [(56, 2)], gc_yJx4a65c_add_72be8_zb2, 4, [(0, (0, 3, 3, 0, 1, 0, [])), (1, (0, 5, 2, 0, 2, 0, [])), (2, (11, 0, 0, 0, 3, 0, [])), (3, (2, 1, 0, 0, 6, 11, [])), (11, (0, 5, 2, 0, 12, 0, [])), (12, (0, 3, 3, 0, 13, 0, [])), (13, (0, 5, 1, 0, 14, 0, [])), (14, (13, 53, 57, 0, 15, 0, [])), (15, (0, 5, 0, 0, 16, 0, [])), (16, (0, 3, 3, 0, 17, 0, [])), (17, (0, 0, 0, 1, 18, 0, [])), (18, (0, 15, 0, 0, 19, 0, [])), (19, (8, 6, 2, 0, 22, 0, [])), (22, (15, 0, 0, 0, 0, 0, []))], [], [], [], [])
theorem gk_yJx4a65c_add_72be8_zb2 : ck_chk ge_yJx4a65c_add_72be8_zb2 19 = true := by decide +kernel
theorem gd_yJx4a65c_add_72be8_zb2 : ck_dec prog_46_method_24_code gt_yJx4a65c_add_72be8_zb2 ge_yJx4a65c_add_72be8_zb2.2.2.2.2.1 = true := by decide +kernel
theorem gm_yJx4a65c_add_72be8_zb2 {l : Launch} {G : am_G} {X : ck_XT} (g : gEl l G X) : ck_Con (am_grow (am_cm l G yJx4a65c_add_72be8 (.code yJx4a65c_add_72be8 prog_46_method_24_code 4 none) 7 200)) G X gTl gc_yJx4a65c_add_72be8_zb2 :=
  ck_methG (E := ge_yJx4a65c_add_72be8_zb2) (tb := gt_yJx4a65c_add_72be8_zb2) (init := false) (cm := ck_cms []) g.1 g.2.1 g.2.2.1 g.2.2.2 gTl_w (by decide +kernel) rfl rfl rfl (by decide) gk_yJx4a65c_add_72be8_zb2 gd_yJx4a65c_add_72be8_zb2 ⟨(List.forall_mem_nil _), (List.forall_mem_nil _), (List.forall_mem_nil _), (List.forall_mem_nil _), (List.forall_mem_nil _), (List.forall_mem_nil _), (List.forall_mem_nil _), (List.forall_mem_nil _)⟩ (List.forall_mem_cons.mpr ⟨⟨⟨_, _, _, rfl, Or.inl w1686⟩, by decide, _, rfl, Or.inl g_fd6_2⟩, (List.forall_mem_nil _)⟩) (fun h => nomatch h) rfl (by decide) (by decide) g_oi g_ar
    (fun s hk _ => (List.forall_mem_cons.mpr ⟨⟨by decide, by decide, am_asg_obj hk (ci := 2) rfl (by decide) w2503⟩, (List.forall_mem_nil _)⟩)) (fun s hk => (List.forall_mem_nil _)) (ck_cms_okG trivial)
    (List.forall_mem_nil _) (List.forall_mem_nil _) (List.forall_mem_nil _) (List.forall_mem_nil _)
    (List.forall_mem_nil _)
    (ck_no5 rfl)
def gc_yJx4a65c_add_9ea2d_zb2 : ck_KK := (([((-2147483648), 2147483647), (10, 24)], [], [(2, 0, 0, 506, (0, 0, (3, []))), (3, 0, 0, 506, (1, 0, (0, [(1, 0)]))), (3, 0, 1, 506, (3, 1, (0, []))), (2, 1, 0, 656, (0, 0, (0, [(1, 1)]))), (3, 0, 2, 506, (1, 0, (2, []))), (6, 1, 4, 656, (0, 0, (2, []))), (2, 2, 0, 41002, (0, 0, (1, [])))], 3, [(3, 0, (0, [])), (3, 2, (0, []))]), ((0, []), (0, [])), [(506, 0), (506, 2), (656, 2)], [], ([((-2147483648), 2147483647)], [], [(3, 0, 0, 506, (1, 0, (0, [(1, 2)]))), (3, 0, 2, 506, (1, 0, (3, []))), (3, 1, 2, 656, (3, 2, (0, []))), (6, 1, 4, 656, (0, 0, (3, [])))], 0, [(1, 0, (1, []))]), [])
def gt_yJx4a65c_add_9ea2d_zb2 : ck_TB := ([], [], [], [(9, 6, 1), (48, 6, 2), (63, 6, 0)], [(63, 6, 0, 0)], [], [], [], ([(131, 0)], [], [], []), [], [], [], 1)
def ge_yJx4a65c_add_9ea2d_zb2 : ck_E := (gTl, [], gc_yJx4a65c_add_9ea2d_zb2, 2, [(0, (0, 5, 0, 0, 1, 0, [])), (1, (0, 12, 0, 0, 2, 0, [])), (2, (7, 6, 0, 0, 5, 0, [])), (5, (0, 0, 0, 1, 6, 0, [])), (6, (0, 15, 0, 0, 7, 0, [])), (7, (8, 6, 0, 0, 10, 0, [])), (10, (0, 5, 0, 0, 11, 0, [])), (11, (0, 5, 1, 0, 12, 0, [])), (12, (0, 5, 0, 0, 13, 0, [])), (13, (7, 6, 1, 0, 16, 0, [])), (16, (0, 5, 0, 0, 17, 0, [])), (17, (7, 6, 2, 0, 20, 0, [])), (20, (16, 0, 0, 0, 23, 0, [])), (23, (0, 0, 0, 1, 24, 0, [])), (24, (14, 0, 0, 1, 0, 0, []))], [(some 6, 4, [gc_yJx4a65c_add_72be8_zb2])], [], [], [])
theorem gk_yJx4a65c_add_9ea2d_zb2 : ck_chk ge_yJx4a65c_add_9ea2d_zb2 20 = true := by decide +kernel
theorem gd_yJx4a65c_add_9ea2d_zb2 : ck_dec prog_46_method_25_code gt_yJx4a65c_add_9ea2d_zb2 ge_yJx4a65c_add_9ea2d_zb2.2.2.2.2.1 = true := by decide +kernel
theorem gm_yJx4a65c_add_9ea2d_zb2 {l : Launch} {G : am_G} {X : ck_XT} (g : gEl l G X) : ck_Con (am_grow (am_cm l G yJx4a65c_add_9ea2d (.code yJx4a65c_add_9ea2d prog_46_method_25_code 2 (some .boolean)) 8 230)) G X gTl gc_yJx4a65c_add_9ea2d_zb2 :=
  ck_methG (E := ge_yJx4a65c_add_9ea2d_zb2) (tb := gt_yJx4a65c_add_9ea2d_zb2) (init := false) (cm := ck_cms [am_cm l G yJx4a65c_add_72be8 (.code yJx4a65c_add_72be8 prog_46_method_24_code 4 none) 7 200]) g.1 g.2.1 g.2.2.1 g.2.2.2 gTl_w (by decide +kernel) rfl rfl rfl (by decide) gk_yJx4a65c_add_9ea2d_zb2 gd_yJx4a65c_add_9ea2d_zb2 ⟨(List.forall_mem_nil _), (List.forall_mem_nil _), (List.forall_mem_nil _), (List.forall_mem_cons.mpr ⟨⟨⟨_, _, _, rfl, Or.inl w1683⟩, by decide, _, _, g_fd6_1⟩, (List.forall_mem_cons.mpr ⟨⟨⟨_, _, _, rfl, Or.inl w1686⟩, by decide, _, _, g_fd6_2⟩, (List.forall_mem_cons.mpr ⟨⟨⟨_, _, _, rfl, Or.inr (Or.inr ⟨_, w1690, w1689⟩)⟩, by decide, _, _, g_fd6_0⟩, (List.forall_mem_nil _)⟩)⟩)⟩), (List.forall_mem_nil _), (List.forall_mem_nil _), (List.forall_mem_nil _), (List.forall_mem_nil _)⟩ (List.forall_mem_cons.mpr ⟨⟨⟨_, _, _, rfl, Or.inr (Or.inr ⟨_, w1690, w1689⟩)⟩, by decide, _, rfl, Or.inl g_fd6_0⟩, (List.forall_mem_nil _)⟩) (fun h => nomatch h) ⟨_, rfl, rfl⟩ (by decide) (by decide) g_oi g_ar
    (fun s hk _ => (List.forall_mem_nil _)) (fun s hk => (List.forall_mem_nil _)) (ck_cms_okG ⟨(List.forall_mem_cons.mpr ⟨((gm_yJx4a65c_add_72be8_zb2 g)), (List.forall_mem_nil _)⟩), trivial⟩)
    (List.forall_mem_cons.mpr ⟨(ck_kV g_y_yJx4a65c_add_72be8 w1821 w1823 w34 (T := TJx4a65c) (N := 3) rfl (by decide) (by decide) (by decide)), (List.forall_mem_nil _)⟩) (List.forall_mem_nil _) (List.forall_mem_nil _) (List.forall_mem_nil _)
    (List.forall_mem_nil _)
    (ck_no5 rfl)
def gc_yJx4a65c_add_72be8_zb3 : ck_KK := (([((-2147483648), 2147483647), (10, 24)], [], [(2, 0, 0, 506, (0, 0, (3, []))), (3, 0, 0, 506, (1, 0, (0, [(1, 0)]))), (3, 0, 1, 506, (3, 1, (0, []))), (2, 1, 0, 656, (0, 0, (0, [(1, 1)]))), (3, 0, 2, 506, (1, 0, (3, []))), (6, 1, 4, 656, (0, 0, (3, []))), (2, 2, 0, 41002, (0, 0, (1, [])))], 3, [(3, 0, (0, [])), (3, 2, (0, [])), (3, 1, (0, [])), (1, 0, (3, []))]), ((0, []), (0, [])), [(506, 2), (656, 3)], [], ([], [], [(3, 0, 2, 506, (1, 0, (4, []))), (3, 1, 3, 656, (3, 2, (0, []))), (6, 1, 4, 656, (0, 0, (4, [])))], 0, []), [])
def gt_yJx4a65c_add_72be8_zb3 : ck_TB := ([], [], [], [], [(48, 6, 2, 0)], [], [], [], ([], [], [], []), [], [], [], 9)
def ge_yJx4a65c_add_72be8_zb3 : ck_E := (gTl, [(56, 2)], gc_yJx4a65c_add_72be8_zb3, 4, [(0, (0, 3, 3, 0, 1, 0, [])), (1, (0, 5, 2, 0, 2, 0, [])), (2, (11, 0, 0, 0, 3, 0, [])), (3, (2, 1, 0, 0, 6, 11, [])), (11, (0, 5, 2, 0, 12, 0, [])), (12, (0, 3, 3, 0, 13, 0, [])), (13, (0, 5, 1, 0, 14, 0, [])), (14, (13, 53, 57, 0, 15, 0, [])), (15, (0, 5, 0, 0, 16, 0, [])), (16, (0, 3, 3, 0, 17, 0, [])), (17, (0, 0, 0, 1, 18, 0, [])), (18, (0, 15, 0, 0, 19, 0, [])), (19, (8, 6, 2, 0, 22, 0, [])), (22, (15, 0, 0, 0, 0, 0, []))], [], [], [], [])
theorem gk_yJx4a65c_add_72be8_zb3 : ck_chk ge_yJx4a65c_add_72be8_zb3 19 = true := by decide +kernel
theorem gd_yJx4a65c_add_72be8_zb3 : ck_dec prog_46_method_24_code gt_yJx4a65c_add_72be8_zb3 ge_yJx4a65c_add_72be8_zb3.2.2.2.2.1 = true := by decide +kernel
theorem gm_yJx4a65c_add_72be8_zb3 {l : Launch} {G : am_G} {X : ck_XT} (g : gEl l G X) : ck_Con (am_grow (am_cm l G yJx4a65c_add_72be8 (.code yJx4a65c_add_72be8 prog_46_method_24_code 4 none) 7 200)) G X gTl gc_yJx4a65c_add_72be8_zb3 :=
  ck_methG (E := ge_yJx4a65c_add_72be8_zb3) (tb := gt_yJx4a65c_add_72be8_zb3) (init := false) (cm := ck_cms []) g.1 g.2.1 g.2.2.1 g.2.2.2 gTl_w (by decide +kernel) rfl rfl rfl (by decide) gk_yJx4a65c_add_72be8_zb3 gd_yJx4a65c_add_72be8_zb3 ⟨(List.forall_mem_nil _), (List.forall_mem_nil _), (List.forall_mem_nil _), (List.forall_mem_nil _), (List.forall_mem_nil _), (List.forall_mem_nil _), (List.forall_mem_nil _), (List.forall_mem_nil _)⟩ (List.forall_mem_cons.mpr ⟨⟨⟨_, _, _, rfl, Or.inl w1686⟩, by decide, _, rfl, Or.inl g_fd6_2⟩, (List.forall_mem_nil _)⟩) (fun h => nomatch h) rfl (by decide) (by decide) g_oi g_ar
    (fun s hk _ => (List.forall_mem_cons.mpr ⟨⟨by decide, by decide, am_asg_obj hk (ci := 2) rfl (by decide) w2503⟩, (List.forall_mem_nil _)⟩)) (fun s hk => (List.forall_mem_nil _)) (ck_cms_okG trivial)
    (List.forall_mem_nil _) (List.forall_mem_nil _) (List.forall_mem_nil _) (List.forall_mem_nil _)
    (List.forall_mem_nil _)
    (ck_no5 rfl)
def gc_yJx4a65c_add_9ea2d_zb3 : ck_KK := (([((-2147483648), 2147483647), (10, 24)], [], [(2, 0, 0, 506, (0, 0, (3, []))), (3, 0, 0, 506, (1, 0, (0, [(1, 0)]))), (3, 0, 1, 506, (3, 1, (0, []))), (2, 1, 0, 656, (0, 0, (0, [(1, 1)]))), (3, 0, 2, 506, (1, 0, (3, []))), (6, 1, 4, 656, (0, 0, (3, []))), (2, 2, 0, 41002, (0, 0, (1, [])))], 3, [(3, 0, (0, [])), (3, 2, (0, []))]), ((0, []), (0, [])), [(506, 0), (506, 2), (656, 3)], [], ([((-2147483648), 2147483647)], [], [(3, 0, 0, 506, (1, 0, (0, [(1, 2)]))), (3, 0, 2, 506, (1, 0, (4, []))), (3, 1, 3, 656, (3, 2, (0, []))), (6, 1, 4, 656, (0, 0, (4, [])))], 0, [(1, 0, (1, []))]), [])
def gt_yJx4a65c_add_9ea2d_zb3 : ck_TB := ([], [], [], [(9, 6, 1), (48, 6, 2), (63, 6, 0)], [(63, 6, 0, 0)], [], [], [], ([(131, 0)], [], [], []), [], [], [], 1)
def ge_yJx4a65c_add_9ea2d_zb3 : ck_E := (gTl, [], gc_yJx4a65c_add_9ea2d_zb3, 2, [(0, (0, 5, 0, 0, 1, 0, [])), (1, (0, 12, 0, 0, 2, 0, [])), (2, (7, 6, 0, 0, 5, 0, [])), (5, (0, 0, 0, 1, 6, 0, [])), (6, (0, 15, 0, 0, 7, 0, [])), (7, (8, 6, 0, 0, 10, 0, [])), (10, (0, 5, 0, 0, 11, 0, [])), (11, (0, 5, 1, 0, 12, 0, [])), (12, (0, 5, 0, 0, 13, 0, [])), (13, (7, 6, 1, 0, 16, 0, [])), (16, (0, 5, 0, 0, 17, 0, [])), (17, (7, 6, 2, 0, 20, 0, [])), (20, (16, 0, 0, 0, 23, 0, [])), (23, (0, 0, 0, 1, 24, 0, [])), (24, (14, 0, 0, 1, 0, 0, []))], [(some 6, 4, [gc_yJx4a65c_add_72be8_zb3])], [], [], [])
theorem gk_yJx4a65c_add_9ea2d_zb3 : ck_chk ge_yJx4a65c_add_9ea2d_zb3 20 = true := by decide +kernel
theorem gd_yJx4a65c_add_9ea2d_zb3 : ck_dec prog_46_method_25_code gt_yJx4a65c_add_9ea2d_zb3 ge_yJx4a65c_add_9ea2d_zb3.2.2.2.2.1 = true := by decide +kernel
theorem gm_yJx4a65c_add_9ea2d_zb3 {l : Launch} {G : am_G} {X : ck_XT} (g : gEl l G X) : ck_Con (am_grow (am_cm l G yJx4a65c_add_9ea2d (.code yJx4a65c_add_9ea2d prog_46_method_25_code 2 (some .boolean)) 8 230)) G X gTl gc_yJx4a65c_add_9ea2d_zb3 :=
  ck_methG (E := ge_yJx4a65c_add_9ea2d_zb3) (tb := gt_yJx4a65c_add_9ea2d_zb3) (init := false) (cm := ck_cms [am_cm l G yJx4a65c_add_72be8 (.code yJx4a65c_add_72be8 prog_46_method_24_code 4 none) 7 200]) g.1 g.2.1 g.2.2.1 g.2.2.2 gTl_w (by decide +kernel) rfl rfl rfl (by decide) gk_yJx4a65c_add_9ea2d_zb3 gd_yJx4a65c_add_9ea2d_zb3 ⟨(List.forall_mem_nil _), (List.forall_mem_nil _), (List.forall_mem_nil _), (List.forall_mem_cons.mpr ⟨⟨⟨_, _, _, rfl, Or.inl w1683⟩, by decide, _, _, g_fd6_1⟩, (List.forall_mem_cons.mpr ⟨⟨⟨_, _, _, rfl, Or.inl w1686⟩, by decide, _, _, g_fd6_2⟩, (List.forall_mem_cons.mpr ⟨⟨⟨_, _, _, rfl, Or.inr (Or.inr ⟨_, w1690, w1689⟩)⟩, by decide, _, _, g_fd6_0⟩, (List.forall_mem_nil _)⟩)⟩)⟩), (List.forall_mem_nil _), (List.forall_mem_nil _), (List.forall_mem_nil _), (List.forall_mem_nil _)⟩ (List.forall_mem_cons.mpr ⟨⟨⟨_, _, _, rfl, Or.inr (Or.inr ⟨_, w1690, w1689⟩)⟩, by decide, _, rfl, Or.inl g_fd6_0⟩, (List.forall_mem_nil _)⟩) (fun h => nomatch h) ⟨_, rfl, rfl⟩ (by decide) (by decide) g_oi g_ar
    (fun s hk _ => (List.forall_mem_nil _)) (fun s hk => (List.forall_mem_nil _)) (ck_cms_okG ⟨(List.forall_mem_cons.mpr ⟨((gm_yJx4a65c_add_72be8_zb3 g)), (List.forall_mem_nil _)⟩), trivial⟩)
    (List.forall_mem_cons.mpr ⟨(ck_kV g_y_yJx4a65c_add_72be8 w1821 w1823 w34 (T := TJx4a65c) (N := 3) rfl (by decide) (by decide) (by decide)), (List.forall_mem_nil _)⟩) (List.forall_mem_nil _) (List.forall_mem_nil _) (List.forall_mem_nil _)
    (List.forall_mem_nil _)
    (ck_no5 rfl)
def gc_yJx4a65c_add_72be8_zb4 : ck_KK := (([((-2147483648), 2147483647), (10, 24)], [], [(2, 0, 0, 506, (0, 0, (3, []))), (3, 0, 0, 506, (1, 0, (0, [(1, 0)]))), (3, 0, 1, 506, (3, 1, (0, []))), (2, 1, 0, 656, (0, 0, (0, [(1, 1)]))), (3, 0, 2, 506, (1, 0, (4, []))), (6, 1, 4, 656, (0, 0, (4, []))), (2, 2, 0, 41002, (0, 0, (1, [])))], 3, [(3, 0, (0, [])), (3, 2, (0, [])), (3, 1, (0, [])), (1, 0, (4, []))]), ((0, []), (0, [])), [(506, 2), (656, 4)], [], ([], [], [(3, 0, 2, 506, (1, 0, (5, []))), (3, 1, 4, 656, (3, 2, (0, []))), (6, 1, 4, 656, (0, 0, (5, [])))], 0, []), [])
def gt_yJx4a65c_add_72be8_zb4 : ck_TB := ([], [], [], [], [(48, 6, 2, 0)], [], [], [], ([], [], [], []), [], [], [], 9)
def ge_yJx4a65c_add_72be8_zb4 : ck_E := (gTl, [(56, 2)], gc_yJx4a65c_add_72be8_zb4, 4, [(0, (0, 3, 3, 0, 1, 0, [])), (1, (0, 5, 2, 0, 2, 0, [])), (2, (11, 0, 0, 0, 3, 0, [])), (3, (2, 1, 0, 0, 6, 11, [])), (11, (0, 5, 2, 0, 12, 0, [])), (12, (0, 3, 3, 0, 13, 0, [])), (13, (0, 5, 1, 0, 14, 0, [])), (14, (13, 53, 57, 0, 15, 0, [])), (15, (0, 5, 0, 0, 16, 0, [])), (16, (0, 3, 3, 0, 17, 0, [])), (17, (0, 0, 0, 1, 18, 0, [])), (18, (0, 15, 0, 0, 19, 0, [])), (19, (8, 6, 2, 0, 22, 0, [])), (22, (15, 0, 0, 0, 0, 0, []))], [], [], [], [])
theorem gk_yJx4a65c_add_72be8_zb4 : ck_chk ge_yJx4a65c_add_72be8_zb4 19 = true := by decide +kernel
theorem gd_yJx4a65c_add_72be8_zb4 : ck_dec prog_46_method_24_code gt_yJx4a65c_add_72be8_zb4 ge_yJx4a65c_add_72be8_zb4.2.2.2.2.1 = true := by decide +kernel
theorem gm_yJx4a65c_add_72be8_zb4 {l : Launch} {G : am_G} {X : ck_XT} (g : gEl l G X) : ck_Con (am_grow (am_cm l G yJx4a65c_add_72be8 (.code yJx4a65c_add_72be8 prog_46_method_24_code 4 none) 7 200)) G X gTl gc_yJx4a65c_add_72be8_zb4 :=
  ck_methG (E := ge_yJx4a65c_add_72be8_zb4) (tb := gt_yJx4a65c_add_72be8_zb4) (init := false) (cm := ck_cms []) g.1 g.2.1 g.2.2.1 g.2.2.2 gTl_w (by decide +kernel) rfl rfl rfl (by decide) gk_yJx4a65c_add_72be8_zb4 gd_yJx4a65c_add_72be8_zb4 ⟨(List.forall_mem_nil _), (List.forall_mem_nil _), (List.forall_mem_nil _), (List.forall_mem_nil _), (List.forall_mem_nil _), (List.forall_mem_nil _), (List.forall_mem_nil _), (List.forall_mem_nil _)⟩ (List.forall_mem_cons.mpr ⟨⟨⟨_, _, _, rfl, Or.inl w1686⟩, by decide, _, rfl, Or.inl g_fd6_2⟩, (List.forall_mem_nil _)⟩) (fun h => nomatch h) rfl (by decide) (by decide) g_oi g_ar
    (fun s hk _ => (List.forall_mem_cons.mpr ⟨⟨by decide, by decide, am_asg_obj hk (ci := 2) rfl (by decide) w2503⟩, (List.forall_mem_nil _)⟩)) (fun s hk => (List.forall_mem_nil _)) (ck_cms_okG trivial)
    (List.forall_mem_nil _) (List.forall_mem_nil _) (List.forall_mem_nil _) (List.forall_mem_nil _)
    (List.forall_mem_nil _)
    (ck_no5 rfl)
def gc_yJx4a65c_add_9ea2d_zb4 : ck_KK := (([((-2147483648), 2147483647), (10, 24)], [], [(2, 0, 0, 506, (0, 0, (3, []))), (3, 0, 0, 506, (1, 0, (0, [(1, 0)]))), (3, 0, 1, 506, (3, 1, (0, []))), (2, 1, 0, 656, (0, 0, (0, [(1, 1)]))), (3, 0, 2, 506, (1, 0, (4, []))), (6, 1, 4, 656, (0, 0, (4, []))), (2, 2, 0, 41002, (0, 0, (1, [])))], 3, [(3, 0, (0, [])), (3, 2, (0, []))]), ((0, []), (0, [])), [(506, 0), (506, 2), (656, 4)], [], ([((-2147483648), 2147483647)], [], [(3, 0, 0, 506, (1, 0, (0, [(1, 2)]))), (3, 0, 2, 506, (1, 0, (5, []))), (3, 1, 4, 656, (3, 2, (0, []))), (6, 1, 4, 656, (0, 0, (5, [])))], 0, [(1, 0, (1, []))]), [])
def gt_yJx4a65c_add_9ea2d_zb4 : ck_TB := ([], [], [], [(9, 6, 1), (48, 6, 2), (63, 6, 0)], [(63, 6, 0, 0)], [], [], [], ([(131, 0)], [], [], []), [], [], [], 1)
def ge_yJx4a65c_add_9ea2d_zb4 : ck_E := (gTl, [], gc_yJx4a65c_add_9ea2d_zb4, 2, [(0, (0, 5, 0, 0, 1, 0, [])), (1, (0, 12, 0, 0, 2, 0, [])), (2, (7, 6, 0, 0, 5, 0, [])), (5, (0, 0, 0, 1, 6, 0, [])), (6, (0, 15, 0, 0, 7, 0, [])), (7, (8, 6, 0, 0, 10, 0, [])), (10, (0, 5, 0, 0, 11, 0, [])), (11, (0, 5, 1, 0, 12, 0, [])), (12, (0, 5, 0, 0, 13, 0, [])), (13, (7, 6, 1, 0, 16, 0, [])), (16, (0, 5, 0, 0, 17, 0, [])), (17, (7, 6, 2, 0, 20, 0, [])), (20, (16, 0, 0, 0, 23, 0, [])), (23, (0, 0, 0, 1, 24, 0, [])), (24, (14, 0, 0, 1, 0, 0, []))], [(some 6, 4, [gc_yJx4a65c_add_72be8_zb4])], [], [], [])
theorem gk_yJx4a65c_add_9ea2d_zb4 : ck_chk ge_yJx4a65c_add_9ea2d_zb4 20 = true := by decide +kernel
theorem gd_yJx4a65c_add_9ea2d_zb4 : ck_dec prog_46_method_25_code gt_yJx4a65c_add_9ea2d_zb4 ge_yJx4a65c_add_9ea2d_zb4.2.2.2.2.1 = true := by decide +kernel
theorem gm_yJx4a65c_add_9ea2d_zb4 {l : Launch} {G : am_G} {X : ck_XT} (g : gEl l G X) : ck_Con (am_grow (am_cm l G yJx4a65c_add_9ea2d (.code yJx4a65c_add_9ea2d prog_46_method_25_code 2 (some .boolean)) 8 230)) G X gTl gc_yJx4a65c_add_9ea2d_zb4 :=
  ck_methG (E := ge_yJx4a65c_add_9ea2d_zb4) (tb := gt_yJx4a65c_add_9ea2d_zb4) (init := false) (cm := ck_cms [am_cm l G yJx4a65c_add_72be8 (.code yJx4a65c_add_72be8 prog_46_method_24_code 4 none) 7 200]) g.1 g.2.1 g.2.2.1 g.2.2.2 gTl_w (by decide +kernel) rfl rfl rfl (by decide) gk_yJx4a65c_add_9ea2d_zb4 gd_yJx4a65c_add_9ea2d_zb4 ⟨(List.forall_mem_nil _), (List.forall_mem_nil _), (List.forall_mem_nil _), (List.forall_mem_cons.mpr ⟨⟨⟨_, _, _, rfl, Or.inl w1683⟩, by decide, _, _, g_fd6_1⟩, (List.forall_mem_cons.mpr ⟨⟨⟨_, _, _, rfl, Or.inl w1686⟩, by decide, _, _, g_fd6_2⟩, (List.forall_mem_cons.mpr ⟨⟨⟨_, _, _, rfl, Or.inr (Or.inr ⟨_, w1690, w1689⟩)⟩, by decide, _, _, g_fd6_0⟩, (List.forall_mem_nil _)⟩)⟩)⟩), (List.forall_mem_nil _), (List.forall_mem_nil _), (List.forall_mem_nil _), (List.forall_mem_nil _)⟩ (List.forall_mem_cons.mpr ⟨⟨⟨_, _, _, rfl, Or.inr (Or.inr ⟨_, w1690, w1689⟩)⟩, by decide, _, rfl, Or.inl g_fd6_0⟩, (List.forall_mem_nil _)⟩) (fun h => nomatch h) ⟨_, rfl, rfl⟩ (by decide) (by decide) g_oi g_ar
    (fun s hk _ => (List.forall_mem_nil _)) (fun s hk => (List.forall_mem_nil _)) (ck_cms_okG ⟨(List.forall_mem_cons.mpr ⟨((gm_yJx4a65c_add_72be8_zb4 g)), (List.forall_mem_nil _)⟩), trivial⟩)
    (List.forall_mem_cons.mpr ⟨(ck_kV g_y_yJx4a65c_add_72be8 w1821 w1823 w34 (T := TJx4a65c) (N := 3) rfl (by decide) (by decide) (by decide)), (List.forall_mem_nil _)⟩) (List.forall_mem_nil _) (List.forall_mem_nil _) (List.forall_mem_nil _)
    (List.forall_mem_nil _)
    (ck_no5 rfl)
def gc_yJx4a65c_grow_92f84_zse : ck_KK := (([((-2147483648), 2147483647), (1, 1)], [], [(2, 0, 0, 506, (0, 0, (3, []))), (3, 0, 0, 506, (1, 0, (0, [(1, 0)]))), (3, 0, 1, 506, (3, 1, (0, []))), (2, 1, 0, 43056, (0, 0, (0, []))), (3, 0, 2, 506, (1, 0, (0, [])))], 2, [(3, 0, (0, [])), (1, 0, (0, [(1, 1)]))]), ((1, []), (11, [])), [(506, 1)], [], ([(10, 11), (10, 11)], [], [(2, 2, 0, 756, (0, 0, (0, [(1, 2)]))), (5, 2, 0, 0, (0, 0, (0, []))), (6, 2, 4, 756, (0, 0, (0, []))), (3, 0, 1, 506, (3, 2, (0, [])))], 1, [(3, 2, (0, []))]), [])
def gt_yJx4a65c_grow_92f84_zse : ck_TB := ([], [], [], [(9, 6, 1)], [(9, 6, 1, 4)], [], [(7, 56)], [], ([], [], [(79, 0)], []), [], [], [(39, 1, 4)], 4)
def ge_yJx4a65c_grow_92f84_zse : ck_E := (gTl, [], gc_yJx4a65c_grow_92f84_zse, 4, [(0, (0, 5, 0, 0, 1, 0, [])), (1, (7, 6, 1, 0, 4, 0, [])), (4, (11, 0, 0, 0, 5, 0, [])), (5, (0, 6, 2, 0, 6, 0, [])), (6, (0, 3, 2, 0, 7, 0, [])), (7, (1, 4, 0, 0, 10, 20, [])), (10, (0, 5, 0, 0, 11, 0, [])), (11, (7, 6, 1, 0, 14, 0, [])), (14, (0, 22, 4, 0, 17, 0, [])), (17, (20, 1, 0, 0, 20, 45, [])), (45, (0, 5, 0, 0, 46, 0, [])), (46, (0, 0, 0, 10, 48, 0, [])), (48, (0, 3, 1, 0, 49, 0, [])), (49, (16, 0, 0, 0, 52, 0, [])), (52, (10, 56, 756, 2, 55, 0, [])), (55, (0, 13, 0, 0, 56, 0, [])), (56, (8, 6, 1, 4, 59, 0, [])), (59, (14, 0, 0, 4, 0, 0, []))], [(none, 2, [gc_yJ9_max_7cf53_zli])], [], [], [])
theorem gk_yJx4a65c_grow_92f84_zse : ck_chk ge_yJx4a65c_grow_92f84_zse 23 = true := by decide +kernel
theorem gd_yJx4a65c_grow_92f84_zse : ck_dec prog_46_method_6_code gt_yJx4a65c_grow_92f84_zse ge_yJx4a65c_grow_92f84_zse.2.2.2.2.1 = true := by decide +kernel
theorem gm_yJx4a65c_grow_92f84_zse {l : Launch} {G : am_G} {X : ck_XT} (g : gEl l G X) : ck_Con (am_grow (am_cm l G yJx4a65c_grow_92f84 (.code yJx4a65c_grow_92f84 prog_46_method_6_code 4 (some (.array (.object "java/lang/Object")))) 5 140)) G X gTl gc_yJx4a65c_grow_92f84_zse :=
  ck_methG (E := ge_yJx4a65c_grow_92f84_zse) (tb := gt_yJx4a65c_grow_92f84_zse) (init := false) (cm := ck_cms [am_cm l G yJ9_max_7cf53 (.code yJ9_max_7cf53 prog_32_method_65_code 2 (some .int)) 1 20]) g.1 g.2.1 g.2.2.1 g.2.2.2 gTl_w (by decide +kernel) rfl rfl rfl (by decide) gk_yJx4a65c_grow_92f84_zse gd_yJx4a65c_grow_92f84_zse ⟨(List.forall_mem_nil _), (List.forall_mem_nil _), (List.forall_mem_nil _), (List.forall_mem_cons.mpr ⟨⟨⟨_, _, _, rfl, Or.inl w1683⟩, by decide, _, _, g_fd6_1⟩, (List.forall_mem_nil _)⟩), (List.forall_mem_nil _), (List.forall_mem_cons.mpr ⟨Or.inl ⟨_, rfl, by decide, by decide, w1871, w1868⟩, (List.forall_mem_nil _)⟩), (List.forall_mem_nil _), (List.forall_mem_cons.mpr ⟨⟨_, List.mem_of_getElem? (i := 5) rfl, w1681, Or.inr ⟨rfl, 4, rfl, rfl⟩⟩, (List.forall_mem_nil _)⟩)⟩ (List.forall_mem_cons.mpr ⟨⟨⟨_, _, _, rfl, Or.inl w1683⟩, by decide, _, Or.inr ⟨_, rfl⟩, Or.inl g_fd6_1⟩, (List.forall_mem_nil _)⟩) (fun h => nomatch h) ⟨_, rfl, Or.inr ⟨_, rfl⟩⟩ (by decide) (by decide) g_oi g_ar
    (fun s hk _ => (List.forall_mem_nil _)) (fun s hk => (List.forall_mem_nil _)) (ck_cms_okG ⟨(List.forall_mem_cons.mpr ⟨((gm_yJ9_max_7cf53_zli g)), (List.forall_mem_nil _)⟩), trivial⟩)
    (List.forall_mem_nil _) (List.forall_mem_nil _) (List.forall_mem_cons.mpr ⟨(ck_kS g_y_yJ9_max_7cf53 w1870 w516 (by decide) (by decide)), (List.forall_mem_nil _)⟩) (List.forall_mem_nil _)
    (List.forall_mem_nil _)
    (ck_no5 rfl)
def gc_yJx4a65c_grow_d5877_zse : ck_KK := (([((-2147483648), 2147483647)], [], [(2, 0, 0, 506, (0, 0, (3, []))), (3, 0, 0, 506, (1, 0, (0, [(1, 0)]))), (3, 0, 1, 506, (3, 1, (0, []))), (2, 1, 0, 43056, (0, 0, (0, []))), (3, 0, 2, 506, (1, 0, (0, [])))], 2, [(3, 0, (0, []))]), ((1, []), (11, [])), [(506, 1)], [], ([(10, 11), (10, 11)], [], [(2, 2, 0, 756, (0, 0, (0, [(1, 1)]))), (5, 2, 0, 0, (0, 0, (0, []))), (6, 2, 4, 756, (0, 0, (0, []))), (3, 0, 1, 506, (3, 2, (0, [])))], 1, [(3, 2, (0, []))]), [])
def gt_yJx4a65c_grow_d5877_zse : ck_TB := ([], [], [], [(48, 6, 2)], [], [], [], [], ([(69, 0)], [], [], []), [], [], [], 4)
def ge_yJx4a65c_grow_d5877_zse : ck_E := (gTl, [], gc_yJx4a65c_grow_d5877_zse, 1, [(0, (0, 5, 0, 0, 1, 0, [])), (1, (0, 5, 0, 0, 2, 0, [])), (2, (7, 6, 2, 0, 5, 0, [])), (5, (0, 0, 0, 1, 6, 0, [])), (6, (0, 15, 0, 0, 7, 0, [])), (7, (16, 0, 0, 0, 10, 0, [])), (10, (14, 0, 0, 4, 0, 0, []))], [(some 6, 2, [gc_yJx4a65c_grow_92f84_zse])], [], [], [])
theorem gk_yJx4a65c_grow_d5877_zse : ck_chk ge_yJx4a65c_grow_d5877_zse 12 = true := by decide +kernel
theorem gd_yJx4a65c_grow_d5877_zse : ck_dec prog_46_method_7_code gt_yJx4a65c_grow_d5877_zse ge_yJx4a65c_grow_d5877_zse.2.2.2.2.1 = true := by decide +kernel
theorem gm_yJx4a65c_grow_d5877_zse {l : Launch} {G : am_G} {X : ck_XT} (g : gEl l G X) : ck_Con (am_grow (am_cm l G yJx4a65c_grow_d5877 (.code yJx4a65c_grow_d5877 prog_46_method_7_code 1 (some (.array (.object "java/lang/Object")))) 6 170)) G X gTl gc_yJx4a65c_grow_d5877_zse :=
  ck_methG (E := ge_yJx4a65c_grow_d5877_zse) (tb := gt_yJx4a65c_grow_d5877_zse) (init := false) (cm := ck_cms [am_cm l G yJx4a65c_grow_92f84 (.code yJx4a65c_grow_92f84 prog_46_method_6_code 4 (some (.array (.object "java/lang/Object")))) 5 140]) g.1 g.2.1 g.2.2.1 g.2.2.2 gTl_w (by decide +kernel) rfl rfl rfl (by decide) gk_yJx4a65c_grow_d5877_zse gd_yJx4a65c_grow_d5877_zse ⟨(List.forall_mem_nil _), (List.forall_mem_nil _), (List.forall_mem_nil _), (List.forall_mem_cons.mpr ⟨⟨⟨_, _, _, rfl, Or.inl w1686⟩, by decide, _, _, g_fd6_2⟩, (List.forall_mem_nil _)⟩), (List.forall_mem_nil _), (List.forall_mem_nil _), (List.forall_mem_nil _), (List.forall_mem_nil _)⟩ (List.forall_mem_nil _) (fun h => nomatch h) ⟨_, rfl, Or.inr ⟨_, rfl⟩⟩ (by decide) (by decide) g_oi g_ar
    (fun s hk _ => (List.forall_mem_nil _)) (fun s hk => (List.forall_mem_nil _)) (ck_cms_okG ⟨(List.forall_mem_cons.mpr ⟨((gm_yJx4a65c_grow_92f84_zse g)), (List.forall_mem_nil _)⟩), trivial⟩)
    (List.forall_mem_cons.mpr ⟨(ck_kV g_y_yJx4a65c_grow_92f84 w1829 w1831 w36 (T := TJx4a65c) (N := 3) rfl (by decide) (by decide) (by decide)), (List.forall_mem_nil _)⟩) (List.forall_mem_nil _) (List.forall_mem_nil _) (List.forall_mem_nil _)
    (List.forall_mem_nil _)
    (ck_no5 rfl)
def gc_yJx4a65c_add_72be8_zse : ck_KK := (([((-2147483648), 2147483647)], [], [(2, 0, 0, 506, (0, 0, (3, []))), (3, 0, 0, 506, (1, 0, (0, [(1, 0)]))), (3, 0, 1, 506, (3, 1, (0, []))), (2, 1, 0, 43056, (0, 0, (0, []))), (3, 0, 2, 506, (1, 0, (0, []))), (2, 2, 0, 1018, (0, 0, (4, [])))], 3, [(3, 0, (0, [])), (3, 2, (0, [])), (3, 1, (0, [])), (1, 0, (0, []))]), ((1, []), (11, [])), [(506, 1), (506, 2)], [], ([(10, 11)], [], [(3, 0, 1, 506, (3, 3, (0, []))), (2, 3, 0, 756, (0, 0, (0, [(1, 1)]))), (5, 3, 0, 0, (0, 0, (0, []))), (6, 3, 4, 756, (0, 0, (1, []))), (3, 0, 2, 506, (1, 0, (1, []))), (3, 3, 0, 756, (3, 2, (0, [])))], 1, []), [])
def gt_yJx4a65c_add_72be8_zse : ck_TB := ([], [], [], [], [(48, 6, 2, 0)], [], [], [], ([(129, 0)], [], [], []), [], [], [], 9)
def ge_yJx4a65c_add_72be8_zse : ck_E := (gTl, [(56, 18)], gc_yJx4a65c_add_72be8_zse, 4, [(0, (0, 3, 3, 0, 1, 0, [])), (1, (0, 5, 2, 0, 2, 0, [])), (2, (11, 0, 0, 0, 3, 0, [])), (3, (2, 1, 0, 0, 6, 11, [])), (6, (0, 5, 0, 0, 7, 0, [])), (7, (16, 0, 0, 0, 10, 0, [])), (10, (0, 8, 2, 0, 11, 0, [])), (11, (0, 5, 2, 0, 12, 0, [])), (12, (0, 3, 3, 0, 13, 0, [])), (13, (0, 5, 1, 0, 14, 0, [])), (14, (13, 53, 57, 0, 15, 0, [])), (15, (0, 5, 0, 0, 16, 0, [])), (16, (0, 3, 3, 0, 17, 0, [])), (17, (0, 0, 0, 1, 18, 0, [])), (18, (0, 15, 0, 0, 19, 0, [])), (19, (8, 6, 2, 0, 22, 0, [])), (22, (15, 0, 0, 0, 0, 0, []))], [(some 6, 1, [gc_yJx4a65c_grow_d5877_zse])], [], [], [])
theorem gk_yJx4a65c_add_72be8_zse : ck_chk ge_yJx4a65c_add_72be8_zse 22 = true := by decide +kernel
theorem gd_yJx4a65c_add_72be8_zse : ck_dec prog_46_method_24_code gt_yJx4a65c_add_72be8_zse ge_yJx4a65c_add_72be8_zse.2.2.2.2.1 = true := by decide +kernel
theorem gm_yJx4a65c_add_72be8_zse {l : Launch} {G : am_G} {X : ck_XT} (g : gEl l G X) : ck_Con (am_grow (am_cm l G yJx4a65c_add_72be8 (.code yJx4a65c_add_72be8 prog_46_method_24_code 4 none) 7 200)) G X gTl gc_yJx4a65c_add_72be8_zse :=
  ck_methG (E := ge_yJx4a65c_add_72be8_zse) (tb := gt_yJx4a65c_add_72be8_zse) (init := false) (cm := ck_cms [am_cm l G yJx4a65c_grow_d5877 (.code yJx4a65c_grow_d5877 prog_46_method_7_code 1 (some (.array (.object "java/lang/Object")))) 6 170]) g.1 g.2.1 g.2.2.1 g.2.2.2 gTl_w (by decide +kernel) rfl rfl rfl (by decide) gk_yJx4a65c_add_72be8_zse gd_yJx4a65c_add_72be8_zse ⟨(List.forall_mem_nil _), (List.forall_mem_nil _), (List.forall_mem_nil _), (List.forall_mem_nil _), (List.forall_mem_nil _), (List.forall_mem_nil _), (List.forall_mem_nil _), (List.forall_mem_nil _)⟩ (List.forall_mem_cons.mpr ⟨⟨⟨_, _, _, rfl, Or.inl w1686⟩, by decide, _, rfl, Or.inl g_fd6_2⟩, (List.forall_mem_nil _)⟩) (fun h => nomatch h) rfl (by decide) (by decide) g_oi g_ar
    (fun s hk _ => (List.forall_mem_cons.mpr ⟨⟨by decide, by decide, am_asg_obj hk (ci := 18) rfl (by decide) w2513⟩, (List.forall_mem_nil _)⟩)) (fun s hk => (List.forall_mem_nil _)) (ck_cms_okG ⟨(List.forall_mem_cons.mpr ⟨((gm_yJx4a65c_grow_d5877_zse g)), (List.forall_mem_nil _)⟩), trivial⟩)
    (List.forall_mem_cons.mpr ⟨(ck_kV g_y_yJx4a65c_grow_d5877 w1825 w1827 w35 (T := TJx4a65c) (N := 3) rfl (by decide) (by decide) (by decide)), (List.forall_mem_nil _)⟩) (List.forall_mem_nil _) (List.forall_mem_nil _) (List.forall_mem_nil _)
    (List.forall_mem_nil _)
    (ck_no5 rfl)
def gc_yJx4a65c_add_9ea2d_zse : ck_KK := (([((-2147483648), 2147483647)], [], [(2, 0, 0, 506, (0, 0, (3, []))), (3, 0, 0, 506, (1, 0, (0, [(1, 0)]))), (3, 0, 1, 506, (3, 1, (0, []))), (2, 1, 0, 43056, (0, 0, (0, []))), (3, 0, 2, 506, (1, 0, (0, []))), (2, 2, 0, 1018, (0, 0, (4, [])))], 3, [(3, 0, (0, [])), (3, 2, (0, []))]), ((1, []), (11, [])), [(506, 0), (506, 1), (506, 2)], [], ([((-2147483648), 2147483647), (10, 11)], [], [(3, 0, 0, 506, (1, 0, (0, [(1, 1)]))), (3, 0, 1, 506, (3, 3, (0, []))), (2, 3, 0, 756, (0, 0, (0, [(1, 2)]))), (5, 3, 0, 0, (0, 0, (0, []))), (6, 3, 4, 756, (0, 0, (1, []))), (3, 0, 2, 506, (1, 0, (1, []))), (3, 3, 0, 756, (3, 2, (0, [])))], 1, [(1, 0, (1, []))]), [])
def gt_yJx4a65c_add_9ea2d_zse : ck_TB := ([], [], [], [(9, 6, 1), (48, 6, 2), (63, 6, 0)], [(63, 6, 0, 0)], [], [], [], ([(131, 0)], [], [], []), [], [], [], 1)
def ge_yJx4a65c_add_9ea2d_zse : ck_E := (gTl, [], gc_yJx4a65c_add_9ea2d_zse, 2, [(0, (0, 5, 0, 0, 1, 0, [])), (1, (0, 12, 0, 0, 2, 0, [])), (2, (7, 6, 0, 0, 5, 0, [])), (5, (0, 0, 0, 1, 6, 0, [])), (6, (0, 15, 0, 0, 7, 0, [])), (7, (8, 6, 0, 0, 10, 0, [])), (10, (0, 5, 0, 0, 11, 0, [])), (11, (0, 5, 1, 0, 12, 0, [])), (12, (0, 5, 0, 0, 13, 0, [])), (13, (7, 6, 1, 0, 16, 0, [])), (16, (0, 5, 0, 0, 17, 0, [])), (17, (7, 6, 2, 0, 20, 0, [])), (20, (16, 0, 0, 0, 23, 0, [])), (23, (0, 0, 0, 1, 24, 0, [])), (24, (14, 0, 0, 1, 0, 0, []))], [(some 6, 4, [gc_yJx4a65c_add_72be8_zse])], [], [], [])
theorem gk_yJx4a65c_add_9ea2d_zse : ck_chk ge_yJx4a65c_add_9ea2d_zse 20 = true := by decide +kernel
theorem gd_yJx4a65c_add_9ea2d_zse : ck_dec prog_46_method_25_code gt_yJx4a65c_add_9ea2d_zse ge_yJx4a65c_add_9ea2d_zse.2.2.2.2.1 = true := by decide +kernel
theorem gm_yJx4a65c_add_9ea2d_zse {l : Launch} {G : am_G} {X : ck_XT} (g : gEl l G X) : ck_Con (am_grow (am_cm l G yJx4a65c_add_9ea2d (.code yJx4a65c_add_9ea2d prog_46_method_25_code 2 (some .boolean)) 8 230)) G X gTl gc_yJx4a65c_add_9ea2d_zse :=
  ck_methG (E := ge_yJx4a65c_add_9ea2d_zse) (tb := gt_yJx4a65c_add_9ea2d_zse) (init := false) (cm := ck_cms [am_cm l G yJx4a65c_add_72be8 (.code yJx4a65c_add_72be8 prog_46_method_24_code 4 none) 7 200]) g.1 g.2.1 g.2.2.1 g.2.2.2 gTl_w (by decide +kernel) rfl rfl rfl (by decide) gk_yJx4a65c_add_9ea2d_zse gd_yJx4a65c_add_9ea2d_zse ⟨(List.forall_mem_nil _), (List.forall_mem_nil _), (List.forall_mem_nil _), (List.forall_mem_cons.mpr ⟨⟨⟨_, _, _, rfl, Or.inl w1683⟩, by decide, _, _, g_fd6_1⟩, (List.forall_mem_cons.mpr ⟨⟨⟨_, _, _, rfl, Or.inl w1686⟩, by decide, _, _, g_fd6_2⟩, (List.forall_mem_cons.mpr ⟨⟨⟨_, _, _, rfl, Or.inr (Or.inr ⟨_, w1690, w1689⟩)⟩, by decide, _, _, g_fd6_0⟩, (List.forall_mem_nil _)⟩)⟩)⟩), (List.forall_mem_nil _), (List.forall_mem_nil _), (List.forall_mem_nil _), (List.forall_mem_nil _)⟩ (List.forall_mem_cons.mpr ⟨⟨⟨_, _, _, rfl, Or.inr (Or.inr ⟨_, w1690, w1689⟩)⟩, by decide, _, rfl, Or.inl g_fd6_0⟩, (List.forall_mem_nil _)⟩) (fun h => nomatch h) ⟨_, rfl, rfl⟩ (by decide) (by decide) g_oi g_ar
    (fun s hk _ => (List.forall_mem_nil _)) (fun s hk => (List.forall_mem_nil _)) (ck_cms_okG ⟨(List.forall_mem_cons.mpr ⟨((gm_yJx4a65c_add_72be8_zse g)), (List.forall_mem_nil _)⟩), trivial⟩)
    (List.forall_mem_cons.mpr ⟨(ck_kV g_y_yJx4a65c_add_72be8 w1821 w1823 w34 (T := TJx4a65c) (N := 3) rfl (by decide) (by decide) (by decide)), (List.forall_mem_nil _)⟩) (List.forall_mem_nil _) (List.forall_mem_nil _) (List.forall_mem_nil _)
    (List.forall_mem_nil _)
    (ck_no5 rfl)
def gc_yJx4a65c_add_72be8_zs0 : ck_KK := (([((-2147483648), 2147483647), (10, 24)], [], [(2, 0, 0, 506, (0, 0, (3, []))), (3, 0, 0, 506, (1, 0, (0, [(1, 0)]))), (3, 0, 1, 506, (3, 1, (0, []))), (2, 1, 0, 756, (0, 0, (0, [(1, 1)]))), (3, 0, 2, 506, (1, 0, (0, []))), (6, 1, 4, 756, (0, 0, (0, []))), (2, 2, 0, 1018, (0, 0, (4, [])))], 3, [(3, 0, (0, [])), (3, 2, (0, [])), (3, 1, (0, [])), (1, 0, (0, []))]), ((0, []), (0, [])), [(506, 2), (756, 0)], [], ([], [], [(3, 0, 2, 506, (1, 0, (1, []))), (3, 1, 0, 756, (3, 2, (0, []))), (6, 1, 4, 756, (0, 0, (1, [])))], 0, []), [])
def gt_yJx4a65c_add_72be8_zs0 : ck_TB := ([], [], [], [], [(48, 6, 2, 0)], [], [], [], ([], [], [], []), [], [], [], 9)
def ge_yJx4a65c_add_72be8_zs0 : ck_E := (gTl, [(56, 18)], gc_yJx4a65c_add_72be8_zs0, 4, [(0, (0, 3, 3, 0, 1, 0, [])), (1, (0, 5, 2, 0, 2, 0, [])), (2, (11, 0, 0, 0, 3, 0, [])), (3, (2, 1, 0, 0, 6, 11, [])), (11, (0, 5, 2, 0, 12, 0, [])), (12, (0, 3, 3, 0, 13, 0, [])), (13, (0, 5, 1, 0, 14, 0, [])), (14, (13, 53, 57, 0, 15, 0, [])), (15, (0, 5, 0, 0, 16, 0, [])), (16, (0, 3, 3, 0, 17, 0, [])), (17, (0, 0, 0, 1, 18, 0, [])), (18, (0, 15, 0, 0, 19, 0, [])), (19, (8, 6, 2, 0, 22, 0, [])), (22, (15, 0, 0, 0, 0, 0, []))], [], [], [], [])
theorem gk_yJx4a65c_add_72be8_zs0 : ck_chk ge_yJx4a65c_add_72be8_zs0 19 = true := by decide +kernel
theorem gd_yJx4a65c_add_72be8_zs0 : ck_dec prog_46_method_24_code gt_yJx4a65c_add_72be8_zs0 ge_yJx4a65c_add_72be8_zs0.2.2.2.2.1 = true := by decide +kernel
theorem gm_yJx4a65c_add_72be8_zs0 {l : Launch} {G : am_G} {X : ck_XT} (g : gEl l G X) : ck_Con (am_grow (am_cm l G yJx4a65c_add_72be8 (.code yJx4a65c_add_72be8 prog_46_method_24_code 4 none) 7 200)) G X gTl gc_yJx4a65c_add_72be8_zs0 :=
  ck_methG (E := ge_yJx4a65c_add_72be8_zs0) (tb := gt_yJx4a65c_add_72be8_zs0) (init := false) (cm := ck_cms []) g.1 g.2.1 g.2.2.1 g.2.2.2 gTl_w (by decide +kernel) rfl rfl rfl (by decide) gk_yJx4a65c_add_72be8_zs0 gd_yJx4a65c_add_72be8_zs0 ⟨(List.forall_mem_nil _), (List.forall_mem_nil _), (List.forall_mem_nil _), (List.forall_mem_nil _), (List.forall_mem_nil _), (List.forall_mem_nil _), (List.forall_mem_nil _), (List.forall_mem_nil _)⟩ (List.forall_mem_cons.mpr ⟨⟨⟨_, _, _, rfl, Or.inl w1686⟩, by decide, _, rfl, Or.inl g_fd6_2⟩, (List.forall_mem_nil _)⟩) (fun h => nomatch h) rfl (by decide) (by decide) g_oi g_ar
    (fun s hk _ => (List.forall_mem_cons.mpr ⟨⟨by decide, by decide, am_asg_obj hk (ci := 18) rfl (by decide) w2513⟩, (List.forall_mem_nil _)⟩)) (fun s hk => (List.forall_mem_nil _)) (ck_cms_okG trivial)
    (List.forall_mem_nil _) (List.forall_mem_nil _) (List.forall_mem_nil _) (List.forall_mem_nil _)
    (List.forall_mem_nil _)
    (ck_no5 rfl)
def gc_yJx4a65c_add_9ea2d_zs0 : ck_KK := (([((-2147483648), 2147483647), (10, 24)], [], [(2, 0, 0, 506, (0, 0, (3, []))), (3, 0, 0, 506, (1, 0, (0, [(1, 0)]))), (3, 0, 1, 506, (3, 1, (0, []))), (2, 1, 0, 756, (0, 0, (0, [(1, 1)]))), (3, 0, 2, 506, (1, 0, (0, []))), (6, 1, 4, 756, (0, 0, (0, []))), (2, 2, 0, 1018, (0, 0, (4, [])))], 3, [(3, 0, (0, [])), (3, 2, (0, []))]), ((0, []), (0, [])), [(506, 0), (506, 2), (756, 0)], [], ([((-2147483648), 2147483647)], [], [(3, 0, 0, 506, (1, 0, (0, [(1, 2)]))), (3, 0, 2, 506, (1, 0, (1, []))), (3, 1, 0, 756, (3, 2, (0, []))), (6, 1, 4, 756, (0, 0, (1, [])))], 0, [(1, 0, (1, []))]), [])
def gt_yJx4a65c_add_9ea2d_zs0 : ck_TB := ([], [], [], [(9, 6, 1), (48, 6, 2), (63, 6, 0)], [(63, 6, 0, 0)], [], [], [], ([(131, 0)], [], [], []), [], [], [], 1)
def ge_yJx4a65c_add_9ea2d_zs0 : ck_E := (gTl, [], gc_yJx4a65c_add_9ea2d_zs0, 2, [(0, (0, 5, 0, 0, 1, 0, [])), (1, (0, 12, 0, 0, 2, 0, [])), (2, (7, 6, 0, 0, 5, 0, [])), (5, (0, 0, 0, 1, 6, 0, [])), (6, (0, 15, 0, 0, 7, 0, [])), (7, (8, 6, 0, 0, 10, 0, [])), (10, (0, 5, 0, 0, 11, 0, [])), (11, (0, 5, 1, 0, 12, 0, [])), (12, (0, 5, 0, 0, 13, 0, [])), (13, (7, 6, 1, 0, 16, 0, [])), (16, (0, 5, 0, 0, 17, 0, [])), (17, (7, 6, 2, 0, 20, 0, [])), (20, (16, 0, 0, 0, 23, 0, [])), (23, (0, 0, 0, 1, 24, 0, [])), (24, (14, 0, 0, 1, 0, 0, []))], [(some 6, 4, [gc_yJx4a65c_add_72be8_zs0])], [], [], [])
theorem gk_yJx4a65c_add_9ea2d_zs0 : ck_chk ge_yJx4a65c_add_9ea2d_zs0 20 = true := by decide +kernel
theorem gd_yJx4a65c_add_9ea2d_zs0 : ck_dec prog_46_method_25_code gt_yJx4a65c_add_9ea2d_zs0 ge_yJx4a65c_add_9ea2d_zs0.2.2.2.2.1 = true := by decide +kernel
theorem gm_yJx4a65c_add_9ea2d_zs0 {l : Launch} {G : am_G} {X : ck_XT} (g : gEl l G X) : ck_Con (am_grow (am_cm l G yJx4a65c_add_9ea2d (.code yJx4a65c_add_9ea2d prog_46_method_25_code 2 (some .boolean)) 8 230)) G X gTl gc_yJx4a65c_add_9ea2d_zs0 :=
  ck_methG (E := ge_yJx4a65c_add_9ea2d_zs0) (tb := gt_yJx4a65c_add_9ea2d_zs0) (init := false) (cm := ck_cms [am_cm l G yJx4a65c_add_72be8 (.code yJx4a65c_add_72be8 prog_46_method_24_code 4 none) 7 200]) g.1 g.2.1 g.2.2.1 g.2.2.2 gTl_w (by decide +kernel) rfl rfl rfl (by decide) gk_yJx4a65c_add_9ea2d_zs0 gd_yJx4a65c_add_9ea2d_zs0 ⟨(List.forall_mem_nil _), (List.forall_mem_nil _), (List.forall_mem_nil _), (List.forall_mem_cons.mpr ⟨⟨⟨_, _, _, rfl, Or.inl w1683⟩, by decide, _, _, g_fd6_1⟩, (List.forall_mem_cons.mpr ⟨⟨⟨_, _, _, rfl, Or.inl w1686⟩, by decide, _, _, g_fd6_2⟩, (List.forall_mem_cons.mpr ⟨⟨⟨_, _, _, rfl, Or.inr (Or.inr ⟨_, w1690, w1689⟩)⟩, by decide, _, _, g_fd6_0⟩, (List.forall_mem_nil _)⟩)⟩)⟩), (List.forall_mem_nil _), (List.forall_mem_nil _), (List.forall_mem_nil _), (List.forall_mem_nil _)⟩ (List.forall_mem_cons.mpr ⟨⟨⟨_, _, _, rfl, Or.inr (Or.inr ⟨_, w1690, w1689⟩)⟩, by decide, _, rfl, Or.inl g_fd6_0⟩, (List.forall_mem_nil _)⟩) (fun h => nomatch h) ⟨_, rfl, rfl⟩ (by decide) (by decide) g_oi g_ar
    (fun s hk _ => (List.forall_mem_nil _)) (fun s hk => (List.forall_mem_nil _)) (ck_cms_okG ⟨(List.forall_mem_cons.mpr ⟨((gm_yJx4a65c_add_72be8_zs0 g)), (List.forall_mem_nil _)⟩), trivial⟩)
    (List.forall_mem_cons.mpr ⟨(ck_kV g_y_yJx4a65c_add_72be8 w1821 w1823 w34 (T := TJx4a65c) (N := 3) rfl (by decide) (by decide) (by decide)), (List.forall_mem_nil _)⟩) (List.forall_mem_nil _) (List.forall_mem_nil _) (List.forall_mem_nil _)
    (List.forall_mem_nil _)
    (ck_no5 rfl)
def gc_yJx4a65c_add_72be8_zs1 : ck_KK := (([((-2147483648), 2147483647), (10, 24)], [], [(2, 0, 0, 506, (0, 0, (3, []))), (3, 0, 0, 506, (1, 0, (0, [(1, 0)]))), (3, 0, 1, 506, (3, 1, (0, []))), (2, 1, 0, 756, (0, 0, (0, [(1, 1)]))), (3, 0, 2, 506, (1, 0, (1, []))), (6, 1, 4, 756, (0, 0, (1, []))), (2, 2, 0, 1018, (0, 0, (4, [])))], 3, [(3, 0, (0, [])), (3, 2, (0, [])), (3, 1, (0, [])), (1, 0, (1, []))]), ((0, []), (0, [])), [(506, 2), (756, 1)], [], ([], [], [(3, 0, 2, 506, (1, 0, (2, []))), (3, 1, 1, 756, (3, 2, (0, []))), (6, 1, 4, 756, (0, 0, (2, [])))], 0, []), [])
def gt_yJx4a65c_add_72be8_zs1 : ck_TB := ([], [], [], [], [(48, 6, 2, 0)], [], [], [], ([], [], [], []), [], [], [], 9)
def ge_yJx4a65c_add_72be8_zs1 : ck_E := (gTl, [(56, 18)], gc_yJx4a65c_add_72be8_zs1, 4, [(0, (0, 3, 3, 0, 1, 0, [])), (1, (0, 5, 2, 0, 2, 0, [])), (2, (11, 0, 0, 0, 3, 0, [])), (3, (2, 1, 0, 0, 6, 11, [])), (11, (0, 5, 2, 0, 12, 0, [])), (12, (0, 3, 3, 0, 13, 0, [])), (13, (0, 5, 1, 0, 14, 0, [])), (14, (13, 53, 57, 0, 15, 0, [])), (15, (0, 5, 0, 0, 16, 0, [])), (16, (0, 3, 3, 0, 17, 0, [])), (17, (0, 0, 0, 1, 18, 0, [])), (18, (0, 15, 0, 0, 19, 0, [])), (19, (8, 6, 2, 0, 22, 0, [])), (22, (15, 0, 0, 0, 0, 0, []))], [], [], [], [])
theorem gk_yJx4a65c_add_72be8_zs1 : ck_chk ge_yJx4a65c_add_72be8_zs1 19 = true := by decide +kernel
theorem gd_yJx4a65c_add_72be8_zs1 : ck_dec prog_46_method_24_code gt_yJx4a65c_add_72be8_zs1 ge_yJx4a65c_add_72be8_zs1.2.2.2.2.1 = true := by decide +kernel
theorem gm_yJx4a65c_add_72be8_zs1 {l : Launch} {G : am_G} {X : ck_XT} (g : gEl l G X) : ck_Con (am_grow (am_cm l G yJx4a65c_add_72be8 (.code yJx4a65c_add_72be8 prog_46_method_24_code 4 none) 7 200)) G X gTl gc_yJx4a65c_add_72be8_zs1 :=
  ck_methG (E := ge_yJx4a65c_add_72be8_zs1) (tb := gt_yJx4a65c_add_72be8_zs1) (init := false) (cm := ck_cms []) g.1 g.2.1 g.2.2.1 g.2.2.2 gTl_w (by decide +kernel) rfl rfl rfl (by decide) gk_yJx4a65c_add_72be8_zs1 gd_yJx4a65c_add_72be8_zs1 ⟨(List.forall_mem_nil _), (List.forall_mem_nil _), (List.forall_mem_nil _), (List.forall_mem_nil _), (List.forall_mem_nil _), (List.forall_mem_nil _), (List.forall_mem_nil _), (List.forall_mem_nil _)⟩ (List.forall_mem_cons.mpr ⟨⟨⟨_, _, _, rfl, Or.inl w1686⟩, by decide, _, rfl, Or.inl g_fd6_2⟩, (List.forall_mem_nil _)⟩) (fun h => nomatch h) rfl (by decide) (by decide) g_oi g_ar
    (fun s hk _ => (List.forall_mem_cons.mpr ⟨⟨by decide, by decide, am_asg_obj hk (ci := 18) rfl (by decide) w2513⟩, (List.forall_mem_nil _)⟩)) (fun s hk => (List.forall_mem_nil _)) (ck_cms_okG trivial)
    (List.forall_mem_nil _) (List.forall_mem_nil _) (List.forall_mem_nil _) (List.forall_mem_nil _)
    (List.forall_mem_nil _)
    (ck_no5 rfl)
def gc_yJx4a65c_add_9ea2d_zs1 : ck_KK := (([((-2147483648), 2147483647), (10, 24)], [], [(2, 0, 0, 506, (0, 0, (3, []))), (3, 0, 0, 506, (1, 0, (0, [(1, 0)]))), (3, 0, 1, 506, (3, 1, (0, []))), (2, 1, 0, 756, (0, 0, (0, [(1, 1)]))), (3, 0, 2, 506, (1, 0, (1, []))), (6, 1, 4, 756, (0, 0, (1, []))), (2, 2, 0, 1018, (0, 0, (4, [])))], 3, [(3, 0, (0, [])), (3, 2, (0, []))]), ((0, []), (0, [])), [(506, 0), (506, 2), (756, 1)], [], ([((-2147483648), 2147483647)], [], [(3, 0, 0, 506, (1, 0, (0, [(1, 2)]))), (3, 0, 2, 506, (1, 0, (2, []))), (3, 1, 1, 756, (3, 2, (0, []))), (6, 1, 4, 756, (0, 0, (2, [])))], 0, [(1, 0, (1, []))]), [])
def gt_yJx4a65c_add_9ea2d_zs1 : ck_TB := ([], [], [], [(9, 6, 1), (48, 6, 2), (63, 6, 0)], [(63, 6, 0, 0)], [], [], [], ([(131, 0)], [], [], []), [], [], [], 1)
def ge_yJx4a65c_add_9ea2d_zs1 : ck_E := (gTl, [], gc_yJx4a65c_add_9ea2d_zs1, 2, [(0, (0, 5, 0, 0, 1, 0, [])), (1, (0, 12, 0, 0, 2, 0, [])), (2, (7, 6, 0, 0, 5, 0, [])), (5, (0, 0, 0, 1, 6, 0, [])), (6, (0, 15, 0, 0, 7, 0, [])), (7, (8, 6, 0, 0, 10, 0, [])), (10, (0, 5, 0, 0, 11, 0, [])), (11, (0, 5, 1, 0, 12, 0, [])), (12, (0, 5, 0, 0, 13, 0, [])), (13, (7, 6, 1, 0, 16, 0, [])), (16, (0, 5, 0, 0, 17, 0, [])), (17, (7, 6, 2, 0, 20, 0, [])), (20, (16, 0, 0, 0, 23, 0, [])), (23, (0, 0, 0, 1, 24, 0, [])), (24, (14, 0, 0, 1, 0, 0, []))], [(some 6, 4, [gc_yJx4a65c_add_72be8_zs1])], [], [], [])
theorem gk_yJx4a65c_add_9ea2d_zs1 : ck_chk ge_yJx4a65c_add_9ea2d_zs1 20 = true := by decide +kernel
theorem gd_yJx4a65c_add_9ea2d_zs1 : ck_dec prog_46_method_25_code gt_yJx4a65c_add_9ea2d_zs1 ge_yJx4a65c_add_9ea2d_zs1.2.2.2.2.1 = true := by decide +kernel
theorem gm_yJx4a65c_add_9ea2d_zs1 {l : Launch} {G : am_G} {X : ck_XT} (g : gEl l G X) : ck_Con (am_grow (am_cm l G yJx4a65c_add_9ea2d (.code yJx4a65c_add_9ea2d prog_46_method_25_code 2 (some .boolean)) 8 230)) G X gTl gc_yJx4a65c_add_9ea2d_zs1 :=
  ck_methG (E := ge_yJx4a65c_add_9ea2d_zs1) (tb := gt_yJx4a65c_add_9ea2d_zs1) (init := false) (cm := ck_cms [am_cm l G yJx4a65c_add_72be8 (.code yJx4a65c_add_72be8 prog_46_method_24_code 4 none) 7 200]) g.1 g.2.1 g.2.2.1 g.2.2.2 gTl_w (by decide +kernel) rfl rfl rfl (by decide) gk_yJx4a65c_add_9ea2d_zs1 gd_yJx4a65c_add_9ea2d_zs1 ⟨(List.forall_mem_nil _), (List.forall_mem_nil _), (List.forall_mem_nil _), (List.forall_mem_cons.mpr ⟨⟨⟨_, _, _, rfl, Or.inl w1683⟩, by decide, _, _, g_fd6_1⟩, (List.forall_mem_cons.mpr ⟨⟨⟨_, _, _, rfl, Or.inl w1686⟩, by decide, _, _, g_fd6_2⟩, (List.forall_mem_cons.mpr ⟨⟨⟨_, _, _, rfl, Or.inr (Or.inr ⟨_, w1690, w1689⟩)⟩, by decide, _, _, g_fd6_0⟩, (List.forall_mem_nil _)⟩)⟩)⟩), (List.forall_mem_nil _), (List.forall_mem_nil _), (List.forall_mem_nil _), (List.forall_mem_nil _)⟩ (List.forall_mem_cons.mpr ⟨⟨⟨_, _, _, rfl, Or.inr (Or.inr ⟨_, w1690, w1689⟩)⟩, by decide, _, rfl, Or.inl g_fd6_0⟩, (List.forall_mem_nil _)⟩) (fun h => nomatch h) ⟨_, rfl, rfl⟩ (by decide) (by decide) g_oi g_ar
    (fun s hk _ => (List.forall_mem_nil _)) (fun s hk => (List.forall_mem_nil _)) (ck_cms_okG ⟨(List.forall_mem_cons.mpr ⟨((gm_yJx4a65c_add_72be8_zs1 g)), (List.forall_mem_nil _)⟩), trivial⟩)
    (List.forall_mem_cons.mpr ⟨(ck_kV g_y_yJx4a65c_add_72be8 w1821 w1823 w34 (T := TJx4a65c) (N := 3) rfl (by decide) (by decide) (by decide)), (List.forall_mem_nil _)⟩) (List.forall_mem_nil _) (List.forall_mem_nil _) (List.forall_mem_nil _)
    (List.forall_mem_nil _)
    (ck_no5 rfl)
def gc_yJx4a65c_add_72be8_zs2 : ck_KK := (([((-2147483648), 2147483647), (10, 24)], [], [(2, 0, 0, 506, (0, 0, (3, []))), (3, 0, 0, 506, (1, 0, (0, [(1, 0)]))), (3, 0, 1, 506, (3, 1, (0, []))), (2, 1, 0, 756, (0, 0, (0, [(1, 1)]))), (3, 0, 2, 506, (1, 0, (2, []))), (6, 1, 4, 756, (0, 0, (2, []))), (2, 2, 0, 1018, (0, 0, (4, [])))], 3, [(3, 0, (0, [])), (3, 2, (0, [])), (3, 1, (0, [])), (1, 0, (2, []))]), ((0, []), (0, [])), [(506, 2), (756, 2)], [], ([], [], [(3, 0, 2, 506, (1, 0, (3, []))), (3, 1, 2, 756, (3, 2, (0, []))), (6, 1, 4, 756, (0, 0, (3, [])))], 0, []), [])
def gt_yJx4a65c_add_72be8_zs2 : ck_TB := ([], [], [], [], [(48, 6, 2, 0)], [], [], [], ([], [], [], []), [], [], [], 9)
def ge_yJx4a65c_add_72be8_zs2 : ck_E := (gTl, [(56, 18)], gc_yJx4a65c_add_72be8_zs2, 4, [(0, (0, 3, 3, 0, 1, 0, [])), (1, (0, 5, 2, 0, 2, 0, [])), (2, (11, 0, 0, 0, 3, 0, [])), (3, (2, 1, 0, 0, 6, 11, [])), (11, (0, 5, 2, 0, 12, 0, [])), (12, (0, 3, 3, 0, 13, 0, [])), (13, (0, 5, 1, 0, 14, 0, [])), (14, (13, 53, 57, 0, 15, 0, [])), (15, (0, 5, 0, 0, 16, 0, [])), (16, (0, 3, 3, 0, 17, 0, [])), (17, (0, 0, 0, 1, 18, 0, [])), (18, (0, 15, 0, 0, 19, 0, [])), (19, (8, 6, 2, 0, 22, 0, [])), (22, (15, 0, 0, 0, 0, 0, []))], [], [], [], [])
theorem gk_yJx4a65c_add_72be8_zs2 : ck_chk ge_yJx4a65c_add_72be8_zs2 19 = true := by decide +kernel
theorem gd_yJx4a65c_add_72be8_zs2 : ck_dec prog_46_method_24_code gt_yJx4a65c_add_72be8_zs2 ge_yJx4a65c_add_72be8_zs2.2.2.2.2.1 = true := by decide +kernel
theorem gm_yJx4a65c_add_72be8_zs2 {l : Launch} {G : am_G} {X : ck_XT} (g : gEl l G X) : ck_Con (am_grow (am_cm l G yJx4a65c_add_72be8 (.code yJx4a65c_add_72be8 prog_46_method_24_code 4 none) 7 200)) G X gTl gc_yJx4a65c_add_72be8_zs2 :=
  ck_methG (E := ge_yJx4a65c_add_72be8_zs2) (tb := gt_yJx4a65c_add_72be8_zs2) (init := false) (cm := ck_cms []) g.1 g.2.1 g.2.2.1 g.2.2.2 gTl_w (by decide +kernel) rfl rfl rfl (by decide) gk_yJx4a65c_add_72be8_zs2 gd_yJx4a65c_add_72be8_zs2 ⟨(List.forall_mem_nil _), (List.forall_mem_nil _), (List.forall_mem_nil _), (List.forall_mem_nil _), (List.forall_mem_nil _), (List.forall_mem_nil _), (List.forall_mem_nil _), (List.forall_mem_nil _)⟩ (List.forall_mem_cons.mpr ⟨⟨⟨_, _, _, rfl, Or.inl w1686⟩, by decide, _, rfl, Or.inl g_fd6_2⟩, (List.forall_mem_nil _)⟩) (fun h => nomatch h) rfl (by decide) (by decide) g_oi g_ar
    (fun s hk _ => (List.forall_mem_cons.mpr ⟨⟨by decide, by decide, am_asg_obj hk (ci := 18) rfl (by decide) w2513⟩, (List.forall_mem_nil _)⟩)) (fun s hk => (List.forall_mem_nil _)) (ck_cms_okG trivial)
    (List.forall_mem_nil _) (List.forall_mem_nil _) (List.forall_mem_nil _) (List.forall_mem_nil _)
    (List.forall_mem_nil _)
    (ck_no5 rfl)
def gc_yJx4a65c_add_9ea2d_zs2 : ck_KK := (([((-2147483648), 2147483647), (10, 24)], [], [(2, 0, 0, 506, (0, 0, (3, []))), (3, 0, 0, 506, (1, 0, (0, [(1, 0)]))), (3, 0, 1, 506, (3, 1, (0, []))), (2, 1, 0, 756, (0, 0, (0, [(1, 1)]))), (3, 0, 2, 506, (1, 0, (2, []))), (6, 1, 4, 756, (0, 0, (2, []))), (2, 2, 0, 1018, (0, 0, (4, [])))], 3, [(3, 0, (0, [])), (3, 2, (0, []))]), ((0, []), (0, [])), [(506, 0), (506, 2), (756, 2)], [], ([((-2147483648), 2147483647)], [], [(3, 0, 0, 506, (1, 0, (0, [(1, 2)]))), (3, 0, 2, 506, (1, 0, (3, []))), (3, 1, 2, 756, (3, 2, (0, []))), (6, 1, 4, 756, (0, 0, (3, [])))], 0, [(1, 0, (1, []))]), [])
def gt_yJx4a65c_add_9ea2d_zs2 : ck_TB := ([], [], [], [(9, 6, 1), (48, 6, 2), (63, 6, 0)], [(63, 6, 0, 0)], [], [], [], ([(131, 0)], [], [], []), [], [], [], 1)
def ge_yJx4a65c_add_9ea2d_zs2 : ck_E := (gTl, [], gc_yJx4a65c_add_9ea2d_zs2, 2, [(0, (0, 5, 0, 0, 1, 0, [])), (1, (0, 12, 0, 0, 2, 0, [])), (2, (7, 6, 0, 0, 5, 0, [])), (5, (0, 0, 0, 1, 6, 0, [])), (6, (0, 15, 0, 0, 7, 0, [])), (7, (8, 6, 0, 0, 10, 0, [])), (10, (0, 5, 0, 0, 11, 0, [])), (11, (0, 5, 1, 0, 12, 0, [])), (12, (0, 5, 0, 0, 13, 0, [])), (13, (7, 6, 1, 0, 16, 0, [])), (16, (0, 5, 0, 0, 17, 0, [])), (17, (7, 6, 2, 0, 20, 0, [])), (20, (16, 0, 0, 0, 23, 0, [])), (23, (0, 0, 0, 1, 24, 0, [])), (24, (14, 0, 0, 1, 0, 0, []))], [(some 6, 4, [gc_yJx4a65c_add_72be8_zs2])], [], [], [])
theorem gk_yJx4a65c_add_9ea2d_zs2 : ck_chk ge_yJx4a65c_add_9ea2d_zs2 20 = true := by decide +kernel
theorem gd_yJx4a65c_add_9ea2d_zs2 : ck_dec prog_46_method_25_code gt_yJx4a65c_add_9ea2d_zs2 ge_yJx4a65c_add_9ea2d_zs2.2.2.2.2.1 = true := by decide +kernel
theorem gm_yJx4a65c_add_9ea2d_zs2 {l : Launch} {G : am_G} {X : ck_XT} (g : gEl l G X) : ck_Con (am_grow (am_cm l G yJx4a65c_add_9ea2d (.code yJx4a65c_add_9ea2d prog_46_method_25_code 2 (some .boolean)) 8 230)) G X gTl gc_yJx4a65c_add_9ea2d_zs2 :=
  ck_methG (E := ge_yJx4a65c_add_9ea2d_zs2) (tb := gt_yJx4a65c_add_9ea2d_zs2) (init := false) (cm := ck_cms [am_cm l G yJx4a65c_add_72be8 (.code yJx4a65c_add_72be8 prog_46_method_24_code 4 none) 7 200]) g.1 g.2.1 g.2.2.1 g.2.2.2 gTl_w (by decide +kernel) rfl rfl rfl (by decide) gk_yJx4a65c_add_9ea2d_zs2 gd_yJx4a65c_add_9ea2d_zs2 ⟨(List.forall_mem_nil _), (List.forall_mem_nil _), (List.forall_mem_nil _), (List.forall_mem_cons.mpr ⟨⟨⟨_, _, _, rfl, Or.inl w1683⟩, by decide, _, _, g_fd6_1⟩, (List.forall_mem_cons.mpr ⟨⟨⟨_, _, _, rfl, Or.inl w1686⟩, by decide, _, _, g_fd6_2⟩, (List.forall_mem_cons.mpr ⟨⟨⟨_, _, _, rfl, Or.inr (Or.inr ⟨_, w1690, w1689⟩)⟩, by decide, _, _, g_fd6_0⟩, (List.forall_mem_nil _)⟩)⟩)⟩), (List.forall_mem_nil _), (List.forall_mem_nil _), (List.forall_mem_nil _), (List.forall_mem_nil _)⟩ (List.forall_mem_cons.mpr ⟨⟨⟨_, _, _, rfl, Or.inr (Or.inr ⟨_, w1690, w1689⟩)⟩, by decide, _, rfl, Or.inl g_fd6_0⟩, (List.forall_mem_nil _)⟩) (fun h => nomatch h) ⟨_, rfl, rfl⟩ (by decide) (by decide) g_oi g_ar
    (fun s hk _ => (List.forall_mem_nil _)) (fun s hk => (List.forall_mem_nil _)) (ck_cms_okG ⟨(List.forall_mem_cons.mpr ⟨((gm_yJx4a65c_add_72be8_zs2 g)), (List.forall_mem_nil _)⟩), trivial⟩)
    (List.forall_mem_cons.mpr ⟨(ck_kV g_y_yJx4a65c_add_72be8 w1821 w1823 w34 (T := TJx4a65c) (N := 3) rfl (by decide) (by decide) (by decide)), (List.forall_mem_nil _)⟩) (List.forall_mem_nil _) (List.forall_mem_nil _) (List.forall_mem_nil _)
    (List.forall_mem_nil _)
    (ck_no5 rfl)
def gc_yJx4a65c_add_72be8_zs3 : ck_KK := (([((-2147483648), 2147483647), (10, 24)], [], [(2, 0, 0, 506, (0, 0, (3, []))), (3, 0, 0, 506, (1, 0, (0, [(1, 0)]))), (3, 0, 1, 506, (3, 1, (0, []))), (2, 1, 0, 756, (0, 0, (0, [(1, 1)]))), (3, 0, 2, 506, (1, 0, (3, []))), (6, 1, 4, 756, (0, 0, (3, []))), (2, 2, 0, 1018, (0, 0, (4, [])))], 3, [(3, 0, (0, [])), (3, 2, (0, [])), (3, 1, (0, [])), (1, 0, (3, []))]), ((0, []), (0, [])), [(506, 2), (756, 3)], [], ([], [], [(3, 0, 2, 506, (1, 0, (4, []))), (3, 1, 3, 756, (3, 2, (0, []))), (6, 1, 4, 756, (0, 0, (4, [])))], 0, []), [])
def gt_yJx4a65c_add_72be8_zs3 : ck_TB := ([], [], [], [], [(48, 6, 2, 0)], [], [], [], ([], [], [], []), [], [], [], 9)
def ge_yJx4a65c_add_72be8_zs3 : ck_E := (gTl, [(56, 18)], gc_yJx4a65c_add_72be8_zs3, 4, [(0, (0, 3, 3, 0, 1, 0, [])), (1, (0, 5, 2, 0, 2, 0, [])), (2, (11, 0, 0, 0, 3, 0, [])), (3, (2, 1, 0, 0, 6, 11, [])), (11, (0, 5, 2, 0, 12, 0, [])), (12, (0, 3, 3, 0, 13, 0, [])), (13, (0, 5, 1, 0, 14, 0, [])), (14, (13, 53, 57, 0, 15, 0, [])), (15, (0, 5, 0, 0, 16, 0, [])), (16, (0, 3, 3, 0, 17, 0, [])), (17, (0, 0, 0, 1, 18, 0, [])), (18, (0, 15, 0, 0, 19, 0, [])), (19, (8, 6, 2, 0, 22, 0, [])), (22, (15, 0, 0, 0, 0, 0, []))], [], [], [], [])
theorem gk_yJx4a65c_add_72be8_zs3 : ck_chk ge_yJx4a65c_add_72be8_zs3 19 = true := by decide +kernel
theorem gd_yJx4a65c_add_72be8_zs3 : ck_dec prog_46_method_24_code gt_yJx4a65c_add_72be8_zs3 ge_yJx4a65c_add_72be8_zs3.2.2.2.2.1 = true := by decide +kernel
theorem gm_yJx4a65c_add_72be8_zs3 {l : Launch} {G : am_G} {X : ck_XT} (g : gEl l G X) : ck_Con (am_grow (am_cm l G yJx4a65c_add_72be8 (.code yJx4a65c_add_72be8 prog_46_method_24_code 4 none) 7 200)) G X gTl gc_yJx4a65c_add_72be8_zs3 :=
  ck_methG (E := ge_yJx4a65c_add_72be8_zs3) (tb := gt_yJx4a65c_add_72be8_zs3) (init := false) (cm := ck_cms []) g.1 g.2.1 g.2.2.1 g.2.2.2 gTl_w (by decide +kernel) rfl rfl rfl (by decide) gk_yJx4a65c_add_72be8_zs3 gd_yJx4a65c_add_72be8_zs3 ⟨(List.forall_mem_nil _), (List.forall_mem_nil _), (List.forall_mem_nil _), (List.forall_mem_nil _), (List.forall_mem_nil _), (List.forall_mem_nil _), (List.forall_mem_nil _), (List.forall_mem_nil _)⟩ (List.forall_mem_cons.mpr ⟨⟨⟨_, _, _, rfl, Or.inl w1686⟩, by decide, _, rfl, Or.inl g_fd6_2⟩, (List.forall_mem_nil _)⟩) (fun h => nomatch h) rfl (by decide) (by decide) g_oi g_ar
    (fun s hk _ => (List.forall_mem_cons.mpr ⟨⟨by decide, by decide, am_asg_obj hk (ci := 18) rfl (by decide) w2513⟩, (List.forall_mem_nil _)⟩)) (fun s hk => (List.forall_mem_nil _)) (ck_cms_okG trivial)
    (List.forall_mem_nil _) (List.forall_mem_nil _) (List.forall_mem_nil _) (List.forall_mem_nil _)
    (List.forall_mem_nil _)
    (ck_no5 rfl)
def gc_yJx4a65c_add_9ea2d_zs3 : ck_KK := (([((-2147483648), 2147483647), (10, 24)], [], [(2, 0, 0, 506, (0, 0, (3, []))), (3, 0, 0, 506, (1, 0, (0, [(1, 0)]))), (3, 0, 1, 506, (3, 1, (0, []))), (2, 1, 0, 756, (0, 0, (0, [(1, 1)]))), (3, 0, 2, 506, (1, 0, (3, []))), (6, 1, 4, 756, (0, 0, (3, []))), (2, 2, 0, 1018, (0, 0, (4, [])))], 3, [(3, 0, (0, [])), (3, 2, (0, []))]), ((0, []), (0, [])), [(506, 0), (506, 2), (756, 3)], [], ([((-2147483648), 2147483647)], [], [(3, 0, 0, 506, (1, 0, (0, [(1, 2)]))), (3, 0, 2, 506, (1, 0, (4, []))), (3, 1, 3, 756, (3, 2, (0, []))), (6, 1, 4, 756, (0, 0, (4, [])))], 0, [(1, 0, (1, []))]), [])
def gt_yJx4a65c_add_9ea2d_zs3 : ck_TB := ([], [], [], [(9, 6, 1), (48, 6, 2), (63, 6, 0)], [(63, 6, 0, 0)], [], [], [], ([(131, 0)], [], [], []), [], [], [], 1)
def ge_yJx4a65c_add_9ea2d_zs3 : ck_E := (gTl, [], gc_yJx4a65c_add_9ea2d_zs3, 2, [(0, (0, 5, 0, 0, 1, 0, [])), (1, (0, 12, 0, 0, 2, 0, [])), (2, (7, 6, 0, 0, 5, 0, [])), (5, (0, 0, 0, 1, 6, 0, [])), (6, (0, 15, 0, 0, 7, 0, [])), (7, (8, 6, 0, 0, 10, 0, [])), (10, (0, 5, 0, 0, 11, 0, [])), (11, (0, 5, 1, 0, 12, 0, [])), (12, (0, 5, 0, 0, 13, 0, [])), (13, (7, 6, 1, 0, 16, 0, [])), (16, (0, 5, 0, 0, 17, 0, [])), (17, (7, 6, 2, 0, 20, 0, [])), (20, (16, 0, 0, 0, 23, 0, [])), (23, (0, 0, 0, 1, 24, 0, [])), (24, (14, 0, 0, 1, 0, 0, []))], [(some 6, 4, [gc_yJx4a65c_add_72be8_zs3])], [], [], [])
theorem gk_yJx4a65c_add_9ea2d_zs3 : ck_chk ge_yJx4a65c_add_9ea2d_zs3 20 = true := by decide +kernel
theorem gd_yJx4a65c_add_9ea2d_zs3 : ck_dec prog_46_method_25_code gt_yJx4a65c_add_9ea2d_zs3 ge_yJx4a65c_add_9ea2d_zs3.2.2.2.2.1 = true := by decide +kernel
theorem gm_yJx4a65c_add_9ea2d_zs3 {l : Launch} {G : am_G} {X : ck_XT} (g : gEl l G X) : ck_Con (am_grow (am_cm l G yJx4a65c_add_9ea2d (.code yJx4a65c_add_9ea2d prog_46_method_25_code 2 (some .boolean)) 8 230)) G X gTl gc_yJx4a65c_add_9ea2d_zs3 :=
  ck_methG (E := ge_yJx4a65c_add_9ea2d_zs3) (tb := gt_yJx4a65c_add_9ea2d_zs3) (init := false) (cm := ck_cms [am_cm l G yJx4a65c_add_72be8 (.code yJx4a65c_add_72be8 prog_46_method_24_code 4 none) 7 200]) g.1 g.2.1 g.2.2.1 g.2.2.2 gTl_w (by decide +kernel) rfl rfl rfl (by decide) gk_yJx4a65c_add_9ea2d_zs3 gd_yJx4a65c_add_9ea2d_zs3 ⟨(List.forall_mem_nil _), (List.forall_mem_nil _), (List.forall_mem_nil _), (List.forall_mem_cons.mpr ⟨⟨⟨_, _, _, rfl, Or.inl w1683⟩, by decide, _, _, g_fd6_1⟩, (List.forall_mem_cons.mpr ⟨⟨⟨_, _, _, rfl, Or.inl w1686⟩, by decide, _, _, g_fd6_2⟩, (List.forall_mem_cons.mpr ⟨⟨⟨_, _, _, rfl, Or.inr (Or.inr ⟨_, w1690, w1689⟩)⟩, by decide, _, _, g_fd6_0⟩, (List.forall_mem_nil _)⟩)⟩)⟩), (List.forall_mem_nil _), (List.forall_mem_nil _), (List.forall_mem_nil _), (List.forall_mem_nil _)⟩ (List.forall_mem_cons.mpr ⟨⟨⟨_, _, _, rfl, Or.inr (Or.inr ⟨_, w1690, w1689⟩)⟩, by decide, _, rfl, Or.inl g_fd6_0⟩, (List.forall_mem_nil _)⟩) (fun h => nomatch h) ⟨_, rfl, rfl⟩ (by decide) (by decide) g_oi g_ar
    (fun s hk _ => (List.forall_mem_nil _)) (fun s hk => (List.forall_mem_nil _)) (ck_cms_okG ⟨(List.forall_mem_cons.mpr ⟨((gm_yJx4a65c_add_72be8_zs3 g)), (List.forall_mem_nil _)⟩), trivial⟩)
    (List.forall_mem_cons.mpr ⟨(ck_kV g_y_yJx4a65c_add_72be8 w1821 w1823 w34 (T := TJx4a65c) (N := 3) rfl (by decide) (by decide) (by decide)), (List.forall_mem_nil _)⟩) (List.forall_mem_nil _) (List.forall_mem_nil _) (List.forall_mem_nil _)
    (List.forall_mem_nil _)
    (ck_no5 rfl)
def gc_yJx4a65c_add_72be8_zs4 : ck_KK := (([((-2147483648), 2147483647), (10, 24)], [], [(2, 0, 0, 506, (0, 0, (3, []))), (3, 0, 0, 506, (1, 0, (0, [(1, 0)]))), (3, 0, 1, 506, (3, 1, (0, []))), (2, 1, 0, 756, (0, 0, (0, [(1, 1)]))), (3, 0, 2, 506, (1, 0, (4, []))), (6, 1, 4, 756, (0, 0, (4, []))), (2, 2, 0, 1018, (0, 0, (4, [])))], 3, [(3, 0, (0, [])), (3, 2, (0, [])), (3, 1, (0, [])), (1, 0, (4, []))]), ((0, []), (0, [])), [(506, 2), (756, 4)], [], ([], [], [(3, 0, 2, 506, (1, 0, (5, []))), (3, 1, 4, 756, (3, 2, (0, []))), (6, 1, 4, 756, (0, 0, (5, [])))], 0, []), [])
def gt_yJx4a65c_add_72be8_zs4 : ck_TB := ([], [], [], [], [(48, 6, 2, 0)], [], [], [], ([], [], [], []), [], [], [], 9)
def ge_yJx4a65c_add_72be8_zs4 : ck_E := (gTl, [(56, 18)], gc_yJx4a65c_add_72be8_zs4, 4, [(0, (0, 3, 3, 0, 1, 0, [])), (1, (0, 5, 2, 0, 2, 0, [])), (2, (11, 0, 0, 0, 3, 0, [])), (3, (2, 1, 0, 0, 6, 11, [])), (11, (0, 5, 2, 0, 12, 0, [])), (12, (0, 3, 3, 0, 13, 0, [])), (13, (0, 5, 1, 0, 14, 0, [])), (14, (13, 53, 57, 0, 15, 0, [])), (15, (0, 5, 0, 0, 16, 0, [])), (16, (0, 3, 3, 0, 17, 0, [])), (17, (0, 0, 0, 1, 18, 0, [])), (18, (0, 15, 0, 0, 19, 0, [])), (19, (8, 6, 2, 0, 22, 0, [])), (22, (15, 0, 0, 0, 0, 0, []))], [], [], [], [])
theorem gk_yJx4a65c_add_72be8_zs4 : ck_chk ge_yJx4a65c_add_72be8_zs4 19 = true := by decide +kernel
theorem gd_yJx4a65c_add_72be8_zs4 : ck_dec prog_46_method_24_code gt_yJx4a65c_add_72be8_zs4 ge_yJx4a65c_add_72be8_zs4.2.2.2.2.1 = true := by decide +kernel
theorem gm_yJx4a65c_add_72be8_zs4 {l : Launch} {G : am_G} {X : ck_XT} (g : gEl l G X) : ck_Con (am_grow (am_cm l G yJx4a65c_add_72be8 (.code yJx4a65c_add_72be8 prog_46_method_24_code 4 none) 7 200)) G X gTl gc_yJx4a65c_add_72be8_zs4 :=
  ck_methG (E := ge_yJx4a65c_add_72be8_zs4) (tb := gt_yJx4a65c_add_72be8_zs4) (init := false) (cm := ck_cms []) g.1 g.2.1 g.2.2.1 g.2.2.2 gTl_w (by decide +kernel) rfl rfl rfl (by decide) gk_yJx4a65c_add_72be8_zs4 gd_yJx4a65c_add_72be8_zs4 ⟨(List.forall_mem_nil _), (List.forall_mem_nil _), (List.forall_mem_nil _), (List.forall_mem_nil _), (List.forall_mem_nil _), (List.forall_mem_nil _), (List.forall_mem_nil _), (List.forall_mem_nil _)⟩ (List.forall_mem_cons.mpr ⟨⟨⟨_, _, _, rfl, Or.inl w1686⟩, by decide, _, rfl, Or.inl g_fd6_2⟩, (List.forall_mem_nil _)⟩) (fun h => nomatch h) rfl (by decide) (by decide) g_oi g_ar
    (fun s hk _ => (List.forall_mem_cons.mpr ⟨⟨by decide, by decide, am_asg_obj hk (ci := 18) rfl (by decide) w2513⟩, (List.forall_mem_nil _)⟩)) (fun s hk => (List.forall_mem_nil _)) (ck_cms_okG trivial)
    (List.forall_mem_nil _) (List.forall_mem_nil _) (List.forall_mem_nil _) (List.forall_mem_nil _)
    (List.forall_mem_nil _)
    (ck_no5 rfl)
def gc_yJx4a65c_add_9ea2d_zs4 : ck_KK := (([((-2147483648), 2147483647), (10, 24)], [], [(2, 0, 0, 506, (0, 0, (3, []))), (3, 0, 0, 506, (1, 0, (0, [(1, 0)]))), (3, 0, 1, 506, (3, 1, (0, []))), (2, 1, 0, 756, (0, 0, (0, [(1, 1)]))), (3, 0, 2, 506, (1, 0, (4, []))), (6, 1, 4, 756, (0, 0, (4, []))), (2, 2, 0, 1018, (0, 0, (4, [])))], 3, [(3, 0, (0, [])), (3, 2, (0, []))]), ((0, []), (0, [])), [(506, 0), (506, 2), (756, 4)], [], ([((-2147483648), 2147483647)], [], [(3, 0, 0, 506, (1, 0, (0, [(1, 2)]))), (3, 0, 2, 506, (1, 0, (5, []))), (3, 1, 4, 756, (3, 2, (0, []))), (6, 1, 4, 756, (0, 0, (5, [])))], 0, [(1, 0, (1, []))]), [])
def gt_yJx4a65c_add_9ea2d_zs4 : ck_TB := ([], [], [], [(9, 6, 1), (48, 6, 2), (63, 6, 0)], [(63, 6, 0, 0)], [], [], [], ([(131, 0)], [], [], []), [], [], [], 1)
def ge_yJx4a65c_add_9ea2d_zs4 : ck_E := (gTl, [], gc_yJx4a65c_add_9ea2d_zs4, 2, [(0, (0, 5, 0, 0, 1, 0, [])), (1, (0, 12, 0, 0, 2, 0, [])), (2, (7, 6, 0, 0, 5, 0, [])), (5, (0, 0, 0, 1, 6, 0, [])), (6, (0, 15, 0, 0, 7, 0, [])), (7, (8, 6, 0, 0, 10, 0, [])), (10, (0, 5, 0, 0, 11, 0, [])), (11, (0, 5, 1, 0, 12, 0, [])), (12, (0, 5, 0, 0, 13, 0, [])), (13, (7, 6, 1, 0, 16, 0, [])), (16, (0, 5, 0, 0, 17, 0, [])), (17, (7, 6, 2, 0, 20, 0, [])), (20, (16, 0, 0, 0, 23, 0, [])), (23, (0, 0, 0, 1, 24, 0, [])), (24, (14, 0, 0, 1, 0, 0, []))], [(some 6, 4, [gc_yJx4a65c_add_72be8_zs4])], [], [], [])
theorem gk_yJx4a65c_add_9ea2d_zs4 : ck_chk ge_yJx4a65c_add_9ea2d_zs4 20 = true := by decide +kernel
theorem gd_yJx4a65c_add_9ea2d_zs4 : ck_dec prog_46_method_25_code gt_yJx4a65c_add_9ea2d_zs4 ge_yJx4a65c_add_9ea2d_zs4.2.2.2.2.1 = true := by decide +kernel
theorem gm_yJx4a65c_add_9ea2d_zs4 {l : Launch} {G : am_G} {X : ck_XT} (g : gEl l G X) : ck_Con (am_grow (am_cm l G yJx4a65c_add_9ea2d (.code yJx4a65c_add_9ea2d prog_46_method_25_code 2 (some .boolean)) 8 230)) G X gTl gc_yJx4a65c_add_9ea2d_zs4 :=
  ck_methG (E := ge_yJx4a65c_add_9ea2d_zs4) (tb := gt_yJx4a65c_add_9ea2d_zs4) (init := false) (cm := ck_cms [am_cm l G yJx4a65c_add_72be8 (.code yJx4a65c_add_72be8 prog_46_method_24_code 4 none) 7 200]) g.1 g.2.1 g.2.2.1 g.2.2.2 gTl_w (by decide +kernel) rfl rfl rfl (by decide) gk_yJx4a65c_add_9ea2d_zs4 gd_yJx4a65c_add_9ea2d_zs4 ⟨(List.forall_mem_nil _), (List.forall_mem_nil _), (List.forall_mem_nil _), (List.forall_mem_cons.mpr ⟨⟨⟨_, _, _, rfl, Or.inl w1683⟩, by decide, _, _, g_fd6_1⟩, (List.forall_mem_cons.mpr ⟨⟨⟨_, _, _, rfl, Or.inl w1686⟩, by decide, _, _, g_fd6_2⟩, (List.forall_mem_cons.mpr ⟨⟨⟨_, _, _, rfl, Or.inr (Or.inr ⟨_, w1690, w1689⟩)⟩, by decide, _, _, g_fd6_0⟩, (List.forall_mem_nil _)⟩)⟩)⟩), (List.forall_mem_nil _), (List.forall_mem_nil _), (List.forall_mem_nil _), (List.forall_mem_nil _)⟩ (List.forall_mem_cons.mpr ⟨⟨⟨_, _, _, rfl, Or.inr (Or.inr ⟨_, w1690, w1689⟩)⟩, by decide, _, rfl, Or.inl g_fd6_0⟩, (List.forall_mem_nil _)⟩) (fun h => nomatch h) ⟨_, rfl, rfl⟩ (by decide) (by decide) g_oi g_ar
    (fun s hk _ => (List.forall_mem_nil _)) (fun s hk => (List.forall_mem_nil _)) (ck_cms_okG ⟨(List.forall_mem_cons.mpr ⟨((gm_yJx4a65c_add_72be8_zs4 g)), (List.forall_mem_nil _)⟩), trivial⟩)
    (List.forall_mem_cons.mpr ⟨(ck_kV g_y_yJx4a65c_add_72be8 w1821 w1823 w34 (T := TJx4a65c) (N := 3) rfl (by decide) (by decide) (by decide)), (List.forall_mem_nil _)⟩) (List.forall_mem_nil _) (List.forall_mem_nil _) (List.forall_mem_nil _)
    (List.forall_mem_nil _)
    (ck_no5 rfl)
def gc_yJx4a65c_add_72be8_zs5 : ck_KK := (([((-2147483648), 2147483647), (10, 24)], [], [(2, 0, 0, 506, (0, 0, (3, []))), (3, 0, 0, 506, (1, 0, (0, [(1, 0)]))), (3, 0, 1, 506, (3, 1, (0, []))), (2, 1, 0, 756, (0, 0, (0, [(1, 1)]))), (3, 0, 2, 506, (1, 0, (5, []))), (6, 1, 4, 756, (0, 0, (5, []))), (2, 2, 0, 1018, (0, 0, (4, [])))], 3, [(3, 0, (0, [])), (3, 2, (0, [])), (3, 1, (0, [])), (1, 0, (5, []))]), ((0, []), (0, [])), [(506, 2), (756, 5)], [], ([], [], [(3, 0, 2, 506, (1, 0, (6, []))), (3, 1, 5, 756, (3, 2, (0, []))), (6, 1, 4, 756, (0, 0, (6, [])))], 0, []), [])
def gt_yJx4a65c_add_72be8_zs5 : ck_TB := ([], [], [], [], [(48, 6, 2, 0)], [], [], [], ([], [], [], []), [], [], [], 9)
def ge_yJx4a65c_add_72be8_zs5 : ck_E := (gTl, [(56, 18)], gc_yJx4a65c_add_72be8_zs5, 4, [(0, (0, 3, 3, 0, 1, 0, [])), (1, (0, 5, 2, 0, 2, 0, [])), (2, (11, 0, 0, 0, 3, 0, [])), (3, (2, 1, 0, 0, 6, 11, [])), (11, (0, 5, 2, 0, 12, 0, [])), (12, (0, 3, 3, 0, 13, 0, [])), (13, (0, 5, 1, 0, 14, 0, [])), (14, (13, 53, 57, 0, 15, 0, [])), (15, (0, 5, 0, 0, 16, 0, [])), (16, (0, 3, 3, 0, 17, 0, [])), (17, (0, 0, 0, 1, 18, 0, [])), (18, (0, 15, 0, 0, 19, 0, [])), (19, (8, 6, 2, 0, 22, 0, [])), (22, (15, 0, 0, 0, 0, 0, []))], [], [], [], [])
theorem gk_yJx4a65c_add_72be8_zs5 : ck_chk ge_yJx4a65c_add_72be8_zs5 19 = true := by decide +kernel
theorem gd_yJx4a65c_add_72be8_zs5 : ck_dec prog_46_method_24_code gt_yJx4a65c_add_72be8_zs5 ge_yJx4a65c_add_72be8_zs5.2.2.2.2.1 = true := by decide +kernel
theorem gm_yJx4a65c_add_72be8_zs5 {l : Launch} {G : am_G} {X : ck_XT} (g : gEl l G X) : ck_Con (am_grow (am_cm l G yJx4a65c_add_72be8 (.code yJx4a65c_add_72be8 prog_46_method_24_code 4 none) 7 200)) G X gTl gc_yJx4a65c_add_72be8_zs5 :=
  ck_methG (E := ge_yJx4a65c_add_72be8_zs5) (tb := gt_yJx4a65c_add_72be8_zs5) (init := false) (cm := ck_cms []) g.1 g.2.1 g.2.2.1 g.2.2.2 gTl_w (by decide +kernel) rfl rfl rfl (by decide) gk_yJx4a65c_add_72be8_zs5 gd_yJx4a65c_add_72be8_zs5 ⟨(List.forall_mem_nil _), (List.forall_mem_nil _), (List.forall_mem_nil _), (List.forall_mem_nil _), (List.forall_mem_nil _), (List.forall_mem_nil _), (List.forall_mem_nil _), (List.forall_mem_nil _)⟩ (List.forall_mem_cons.mpr ⟨⟨⟨_, _, _, rfl, Or.inl w1686⟩, by decide, _, rfl, Or.inl g_fd6_2⟩, (List.forall_mem_nil _)⟩) (fun h => nomatch h) rfl (by decide) (by decide) g_oi g_ar
    (fun s hk _ => (List.forall_mem_cons.mpr ⟨⟨by decide, by decide, am_asg_obj hk (ci := 18) rfl (by decide) w2513⟩, (List.forall_mem_nil _)⟩)) (fun s hk => (List.forall_mem_nil _)) (ck_cms_okG trivial)
    (List.forall_mem_nil _) (List.forall_mem_nil _) (List.forall_mem_nil _) (List.forall_mem_nil _)
    (List.forall_mem_nil _)
    (ck_no5 rfl)
def gc_yJx4a65c_add_9ea2d_zs5 : ck_KK := (([((-2147483648), 2147483647), (10, 24)], [], [(2, 0, 0, 506, (0, 0, (3, []))), (3, 0, 0, 506, (1, 0, (0, [(1, 0)]))), (3, 0, 1, 506, (3, 1, (0, []))), (2, 1, 0, 756, (0, 0, (0, [(1, 1)]))), (3, 0, 2, 506, (1, 0, (5, []))), (6, 1, 4, 756, (0, 0, (5, []))), (2, 2, 0, 1018, (0, 0, (4, [])))], 3, [(3, 0, (0, [])), (3, 2, (0, []))]), ((0, []), (0, [])), [(506, 0), (506, 2), (756, 5)], [], ([((-2147483648), 2147483647)], [], [(3, 0, 0, 506, (1, 0, (0, [(1, 2)]))), (3, 0, 2, 506, (1, 0, (6, []))), (3, 1, 5, 756, (3, 2, (0, []))), (6, 1, 4, 756, (0, 0, (6, [])))], 0, [(1, 0, (1, []))]), [])
def gt_yJx4a65c_add_9ea2d_zs5 : ck_TB := ([], [], [], [(9, 6, 1), (48, 6, 2), (63, 6, 0)], [(63, 6, 0, 0)], [], [], [], ([(131, 0)], [], [], []), [], [], [], 1)
def ge_yJx4a65c_add_9ea2d_zs5 : ck_E := (gTl, [], gc_yJx4a65c_add_9ea2d_zs5, 2, [(0, (0, 5, 0, 0, 1, 0, [])), (1, (0, 12, 0, 0, 2, 0, [])), (2, (7, 6, 0, 0, 5, 0, [])), (5, (0, 0, 0, 1, 6, 0, [])), (6, (0, 15, 0, 0, 7, 0, [])), (7, (8, 6, 0, 0, 10, 0, [])), (10, (0, 5, 0, 0, 11, 0, [])), (11, (0, 5, 1, 0, 12, 0, [])), (12, (0, 5, 0, 0, 13, 0, [])), (13, (7, 6, 1, 0, 16, 0, [])), (16, (0, 5, 0, 0, 17, 0, [])), (17, (7, 6, 2, 0, 20, 0, [])), (20, (16, 0, 0, 0, 23, 0, [])), (23, (0, 0, 0, 1, 24, 0, [])), (24, (14, 0, 0, 1, 0, 0, []))], [(some 6, 4, [gc_yJx4a65c_add_72be8_zs5])], [], [], [])
theorem gk_yJx4a65c_add_9ea2d_zs5 : ck_chk ge_yJx4a65c_add_9ea2d_zs5 20 = true := by decide +kernel
theorem gd_yJx4a65c_add_9ea2d_zs5 : ck_dec prog_46_method_25_code gt_yJx4a65c_add_9ea2d_zs5 ge_yJx4a65c_add_9ea2d_zs5.2.2.2.2.1 = true := by decide +kernel
theorem gm_yJx4a65c_add_9ea2d_zs5 {l : Launch} {G : am_G} {X : ck_XT} (g : gEl l G X) : ck_Con (am_grow (am_cm l G yJx4a65c_add_9ea2d (.code yJx4a65c_add_9ea2d prog_46_method_25_code 2 (some .boolean)) 8 230)) G X gTl gc_yJx4a65c_add_9ea2d_zs5 :=
  ck_methG (E := ge_yJx4a65c_add_9ea2d_zs5) (tb := gt_yJx4a65c_add_9ea2d_zs5) (init := false) (cm := ck_cms [am_cm l G yJx4a65c_add_72be8 (.code yJx4a65c_add_72be8 prog_46_method_24_code 4 none) 7 200]) g.1 g.2.1 g.2.2.1 g.2.2.2 gTl_w (by decide +kernel) rfl rfl rfl (by decide) gk_yJx4a65c_add_9ea2d_zs5 gd_yJx4a65c_add_9ea2d_zs5 ⟨(List.forall_mem_nil _), (List.forall_mem_nil _), (List.forall_mem_nil _), (List.forall_mem_cons.mpr ⟨⟨⟨_, _, _, rfl, Or.inl w1683⟩, by decide, _, _, g_fd6_1⟩, (List.forall_mem_cons.mpr ⟨⟨⟨_, _, _, rfl, Or.inl w1686⟩, by decide, _, _, g_fd6_2⟩, (List.forall_mem_cons.mpr ⟨⟨⟨_, _, _, rfl, Or.inr (Or.inr ⟨_, w1690, w1689⟩)⟩, by decide, _, _, g_fd6_0⟩, (List.forall_mem_nil _)⟩)⟩)⟩), (List.forall_mem_nil _), (List.forall_mem_nil _), (List.forall_mem_nil _), (List.forall_mem_nil _)⟩ (List.forall_mem_cons.mpr ⟨⟨⟨_, _, _, rfl, Or.inr (Or.inr ⟨_, w1690, w1689⟩)⟩, by decide, _, rfl, Or.inl g_fd6_0⟩, (List.forall_mem_nil _)⟩) (fun h => nomatch h) ⟨_, rfl, rfl⟩ (by decide) (by decide) g_oi g_ar
    (fun s hk _ => (List.forall_mem_nil _)) (fun s hk => (List.forall_mem_nil _)) (ck_cms_okG ⟨(List.forall_mem_cons.mpr ⟨((gm_yJx4a65c_add_72be8_zs5 g)), (List.forall_mem_nil _)⟩), trivial⟩)
    (List.forall_mem_cons.mpr ⟨(ck_kV g_y_yJx4a65c_add_72be8 w1821 w1823 w34 (T := TJx4a65c) (N := 3) rfl (by decide) (by decide) (by decide)), (List.forall_mem_nil _)⟩) (List.forall_mem_nil _) (List.forall_mem_nil _) (List.forall_mem_nil _)
    (List.forall_mem_nil _)
    (ck_no5 rfl)
def gc_yJx4a65c_add_72be8_zs6 : ck_KK := (([((-2147483648), 2147483647), (10, 24)], [], [(2, 0, 0, 506, (0, 0, (3, []))), (3, 0, 0, 506, (1, 0, (0, [(1, 0)]))), (3, 0, 1, 506, (3, 1, (0, []))), (2, 1, 0, 756, (0, 0, (0, [(1, 1)]))), (3, 0, 2, 506, (1, 0, (6, []))), (6, 1, 4, 756, (0, 0, (6, []))), (2, 2, 0, 1018, (0, 0, (4, [])))], 3, [(3, 0, (0, [])), (3, 2, (0, [])), (3, 1, (0, [])), (1, 0, (6, []))]), ((0, []), (0, [])), [(506, 2), (756, 6)], [], ([], [], [(3, 0, 2, 506, (1, 0, (7, []))), (3, 1, 6, 756, (3, 2, (0, []))), (6, 1, 4, 756, (0, 0, (7, [])))], 0, []), [])
def gt_yJx4a65c_add_72be8_zs6 : ck_TB := ([], [], [], [], [(48, 6, 2, 0)], [], [], [], ([], [], [], []), [], [], [], 9)
def ge_yJx4a65c_add_72be8_zs6 : ck_E := (gTl, [(56, 18)], gc_yJx4a65c_add_72be8_zs6, 4, [(0, (0, 3, 3, 0, 1, 0, [])), (1, (0, 5, 2, 0, 2, 0, [])), (2, (11, 0, 0, 0, 3, 0, [])), (3, (2, 1, 0, 0, 6, 11, [])), (11, (0, 5, 2, 0, 12, 0, [])), (12, (0, 3, 3, 0, 13, 0, [])), (13, (0, 5, 1, 0, 14, 0, [])), (14, (13, 53, 57, 0, 15, 0, [])), (15, (0, 5, 0, 0, 16, 0, [])), (16, (0, 3, 3, 0, 17, 0, [])), (17, (0, 0, 0, 1, 18, 0, [])), (18, (0, 15, 0, 0, 19, 0, [])), (19, (8, 6, 2, 0, 22, 0, [])), (22, (15, 0, 0, 0, 0, 0, []))], [], [], [], [])
theorem gk_yJx4a65c_add_72be8_zs6 : ck_chk ge_yJx4a65c_add_72be8_zs6 19 = true := by decide +kernel
theorem gd_yJx4a65c_add_72be8_zs6 : ck_dec prog_46_method_24_code gt_yJx4a65c_add_72be8_zs6 ge_yJx4a65c_add_72be8_zs6.2.2.2.2.1 = true := by decide +kernel
theorem gm_yJx4a65c_add_72be8_zs6 {l : Launch} {G : am_G} {X : ck_XT} (g : gEl l G X) : ck_Con (am_grow (am_cm l G yJx4a65c_add_72be8 (.code yJx4a65c_add_72be8 prog_46_method_24_code 4 none) 7 200)) G X gTl gc_yJx4a65c_add_72be8_zs6 :=
  ck_methG (E := ge_yJx4a65c_add_72be8_zs6) (tb := gt_yJx4a65c_add_72be8_zs6) (init := false) (cm := ck_cms []) g.1 g.2.1 g.2.2.1 g.2.2.2 gTl_w (by decide +kernel) rfl rfl rfl (by decide) gk_yJx4a65c_add_72be8_zs6 gd_yJx4a65c_add_72be8_zs6 ⟨(List.forall_mem_nil _), (List.forall_mem_nil _), (List.forall_mem_nil _), (List.forall_mem_nil _), (List.forall_mem_nil _), (List.forall_mem_nil _), (List.forall_mem_nil _), (List.forall_mem_nil _)⟩ (List.forall_mem_cons.mpr ⟨⟨⟨_, _, _, rfl, Or.inl w1686⟩, by decide, _, rfl, Or.inl g_fd6_2⟩, (List.forall_mem_nil _)⟩) (fun h => nomatch h) rfl (by decide) (by decide) g_oi g_ar
    (fun s hk _ => (List.forall_mem_cons.mpr ⟨⟨by decide, by decide, am_asg_obj hk (ci := 18) rfl (by decide) w2513⟩, (List.forall_mem_nil _)⟩)) (fun s hk => (List.forall_mem_nil _)) (ck_cms_okG trivial)
    (List.forall_mem_nil _) (List.forall_mem_nil _) (List.forall_mem_nil _) (List.forall_mem_nil _)
    (List.forall_mem_nil _)
    (ck_no5 rfl)
def gc_yJx4a65c_add_9ea2d_zs6 : ck_KK := (([((-2147483648), 2147483647), (10, 24)], [], [(2, 0, 0, 506, (0, 0, (3, []))), (3, 0, 0, 506, (1, 0, (0, [(1, 0)]))), (3, 0, 1, 506, (3, 1, (0, []))), (2, 1, 0, 756, (0, 0, (0, [(1, 1)]))), (3, 0, 2, 506, (1, 0, (6, []))), (6, 1, 4, 756, (0, 0, (6, []))), (2, 2, 0, 1018, (0, 0, (4, [])))], 3, [(3, 0, (0, [])), (3, 2, (0, []))]), ((0, []), (0, [])), [(506, 0), (506, 2), (756, 6)], [], ([((-2147483648), 2147483647)], [], [(3, 0, 0, 506, (1, 0, (0, [(1, 2)]))), (3, 0, 2, 506, (1, 0, (7, []))), (3, 1, 6, 756, (3, 2, (0, []))), (6, 1, 4, 756, (0, 0, (7, [])))], 0, [(1, 0, (1, []))]), [])
def gt_yJx4a65c_add_9ea2d_zs6 : ck_TB := ([], [], [], [(9, 6, 1), (48, 6, 2), (63, 6, 0)], [(63, 6, 0, 0)], [], [], [], ([(131, 0)], [], [], []), [], [], [], 1)
def ge_yJx4a65c_add_9ea2d_zs6 : ck_E := (gTl, [], gc_yJx4a65c_add_9ea2d_zs6, 2, [(0, (0, 5, 0, 0, 1, 0, [])), (1, (0, 12, 0, 0, 2, 0, [])), (2, (7, 6, 0, 0, 5, 0, [])), (5, (0, 0, 0, 1, 6, 0, [])), (6, (0, 15, 0, 0, 7, 0, [])), (7, (8, 6, 0, 0, 10, 0, [])), (10, (0, 5, 0, 0, 11, 0, [])), (11, (0, 5, 1, 0, 12, 0, [])), (12, (0, 5, 0, 0, 13, 0, [])), (13, (7, 6, 1, 0, 16, 0, [])), (16, (0, 5, 0, 0, 17, 0, [])), (17, (7, 6, 2, 0, 20, 0, [])), (20, (16, 0, 0, 0, 23, 0, [])), (23, (0, 0, 0, 1, 24, 0, [])), (24, (14, 0, 0, 1, 0, 0, []))], [(some 6, 4, [gc_yJx4a65c_add_72be8_zs6])], [], [], [])
theorem gk_yJx4a65c_add_9ea2d_zs6 : ck_chk ge_yJx4a65c_add_9ea2d_zs6 20 = true := by decide +kernel
theorem gd_yJx4a65c_add_9ea2d_zs6 : ck_dec prog_46_method_25_code gt_yJx4a65c_add_9ea2d_zs6 ge_yJx4a65c_add_9ea2d_zs6.2.2.2.2.1 = true := by decide +kernel
theorem gm_yJx4a65c_add_9ea2d_zs6 {l : Launch} {G : am_G} {X : ck_XT} (g : gEl l G X) : ck_Con (am_grow (am_cm l G yJx4a65c_add_9ea2d (.code yJx4a65c_add_9ea2d prog_46_method_25_code 2 (some .boolean)) 8 230)) G X gTl gc_yJx4a65c_add_9ea2d_zs6 :=
  ck_methG (E := ge_yJx4a65c_add_9ea2d_zs6) (tb := gt_yJx4a65c_add_9ea2d_zs6) (init := false) (cm := ck_cms [am_cm l G yJx4a65c_add_72be8 (.code yJx4a65c_add_72be8 prog_46_method_24_code 4 none) 7 200]) g.1 g.2.1 g.2.2.1 g.2.2.2 gTl_w (by decide +kernel) rfl rfl rfl (by decide) gk_yJx4a65c_add_9ea2d_zs6 gd_yJx4a65c_add_9ea2d_zs6 ⟨(List.forall_mem_nil _), (List.forall_mem_nil _), (List.forall_mem_nil _), (List.forall_mem_cons.mpr ⟨⟨⟨_, _, _, rfl, Or.inl w1683⟩, by decide, _, _, g_fd6_1⟩, (List.forall_mem_cons.mpr ⟨⟨⟨_, _, _, rfl, Or.inl w1686⟩, by decide, _, _, g_fd6_2⟩, (List.forall_mem_cons.mpr ⟨⟨⟨_, _, _, rfl, Or.inr (Or.inr ⟨_, w1690, w1689⟩)⟩, by decide, _, _, g_fd6_0⟩, (List.forall_mem_nil _)⟩)⟩)⟩), (List.forall_mem_nil _), (List.forall_mem_nil _), (List.forall_mem_nil _), (List.forall_mem_nil _)⟩ (List.forall_mem_cons.mpr ⟨⟨⟨_, _, _, rfl, Or.inr (Or.inr ⟨_, w1690, w1689⟩)⟩, by decide, _, rfl, Or.inl g_fd6_0⟩, (List.forall_mem_nil _)⟩) (fun h => nomatch h) ⟨_, rfl, rfl⟩ (by decide) (by decide) g_oi g_ar
    (fun s hk _ => (List.forall_mem_nil _)) (fun s hk => (List.forall_mem_nil _)) (ck_cms_okG ⟨(List.forall_mem_cons.mpr ⟨((gm_yJx4a65c_add_72be8_zs6 g)), (List.forall_mem_nil _)⟩), trivial⟩)
    (List.forall_mem_cons.mpr ⟨(ck_kV g_y_yJx4a65c_add_72be8 w1821 w1823 w34 (T := TJx4a65c) (N := 3) rfl (by decide) (by decide) (by decide)), (List.forall_mem_nil _)⟩) (List.forall_mem_nil _) (List.forall_mem_nil _) (List.forall_mem_nil _)
    (List.forall_mem_nil _)
    (ck_no5 rfl)
def gc_yJx4a65c_add_72be8_zs7 : ck_KK := (([((-2147483648), 2147483647), (10, 24)], [], [(2, 0, 0, 506, (0, 0, (3, []))), (3, 0, 0, 506, (1, 0, (0, [(1, 0)]))), (3, 0, 1, 506, (3, 1, (0, []))), (2, 1, 0, 756, (0, 0, (0, [(1, 1)]))), (3, 0, 2, 506, (1, 0, (7, []))), (6, 1, 4, 756, (0, 0, (7, []))), (2, 2, 0, 1018, (0, 0, (4, [])))], 3, [(3, 0, (0, [])), (3, 2, (0, [])), (3, 1, (0, [])), (1, 0, (7, []))]), ((0, []), (0, [])), [(506, 2), (756, 7)], [], ([], [], [(3, 0, 2, 506, (1, 0, (8, []))), (3, 1, 7, 756, (3, 2, (0, []))), (6, 1, 4, 756, (0, 0, (8, [])))], 0, []), [])
def gt_yJx4a65c_add_72be8_zs7 : ck_TB := ([], [], [], [], [(48, 6, 2, 0)], [], [], [], ([], [], [], []), [], [], [], 9)
def ge_yJx4a65c_add_72be8_zs7 : ck_E := (gTl, [(56, 18)], gc_yJx4a65c_add_72be8_zs7, 4, [(0, (0, 3, 3, 0, 1, 0, [])), (1, (0, 5, 2, 0, 2, 0, [])), (2, (11, 0, 0, 0, 3, 0, [])), (3, (2, 1, 0, 0, 6, 11, [])), (11, (0, 5, 2, 0, 12, 0, [])), (12, (0, 3, 3, 0, 13, 0, [])), (13, (0, 5, 1, 0, 14, 0, [])), (14, (13, 53, 57, 0, 15, 0, [])), (15, (0, 5, 0, 0, 16, 0, [])), (16, (0, 3, 3, 0, 17, 0, [])), (17, (0, 0, 0, 1, 18, 0, [])), (18, (0, 15, 0, 0, 19, 0, [])), (19, (8, 6, 2, 0, 22, 0, [])), (22, (15, 0, 0, 0, 0, 0, []))], [], [], [], [])
theorem gk_yJx4a65c_add_72be8_zs7 : ck_chk ge_yJx4a65c_add_72be8_zs7 19 = true := by decide +kernel
theorem gd_yJx4a65c_add_72be8_zs7 : ck_dec prog_46_method_24_code gt_yJx4a65c_add_72be8_zs7 ge_yJx4a65c_add_72be8_zs7.2.2.2.2.1 = true := by decide +kernel
theorem gm_yJx4a65c_add_72be8_zs7 {l : Launch} {G : am_G} {X : ck_XT} (g : gEl l G X) : ck_Con (am_grow (am_cm l G yJx4a65c_add_72be8 (.code yJx4a65c_add_72be8 prog_46_method_24_code 4 none) 7 200)) G X gTl gc_yJx4a65c_add_72be8_zs7 :=
  ck_methG (E := ge_yJx4a65c_add_72be8_zs7) (tb := gt_yJx4a65c_add_72be8_zs7) (init := false) (cm := ck_cms []) g.1 g.2.1 g.2.2.1 g.2.2.2 gTl_w (by decide +kernel) rfl rfl rfl (by decide) gk_yJx4a65c_add_72be8_zs7 gd_yJx4a65c_add_72be8_zs7 ⟨(List.forall_mem_nil _), (List.forall_mem_nil _), (List.forall_mem_nil _), (List.forall_mem_nil _), (List.forall_mem_nil _), (List.forall_mem_nil _), (List.forall_mem_nil _), (List.forall_mem_nil _)⟩ (List.forall_mem_cons.mpr ⟨⟨⟨_, _, _, rfl, Or.inl w1686⟩, by decide, _, rfl, Or.inl g_fd6_2⟩, (List.forall_mem_nil _)⟩) (fun h => nomatch h) rfl (by decide) (by decide) g_oi g_ar
    (fun s hk _ => (List.forall_mem_cons.mpr ⟨⟨by decide, by decide, am_asg_obj hk (ci := 18) rfl (by decide) w2513⟩, (List.forall_mem_nil _)⟩)) (fun s hk => (List.forall_mem_nil _)) (ck_cms_okG trivial)
    (List.forall_mem_nil _) (List.forall_mem_nil _) (List.forall_mem_nil _) (List.forall_mem_nil _)
    (List.forall_mem_nil _)
    (ck_no5 rfl)
def gc_yJx4a65c_add_9ea2d_zs7 : ck_KK := (([((-2147483648), 2147483647), (10, 24)], [], [(2, 0, 0, 506, (0, 0, (3, []))), (3, 0, 0, 506, (1, 0, (0, [(1, 0)]))), (3, 0, 1, 506, (3, 1, (0, []))), (2, 1, 0, 756, (0, 0, (0, [(1, 1)]))), (3, 0, 2, 506, (1, 0, (7, []))), (6, 1, 4, 756, (0, 0, (7, []))), (2, 2, 0, 1018, (0, 0, (4, [])))], 3, [(3, 0, (0, [])), (3, 2, (0, []))]), ((0, []), (0, [])), [(506, 0), (506, 2), (756, 7)], [], ([((-2147483648), 2147483647)], [], [(3, 0, 0, 506, (1, 0, (0, [(1, 2)]))), (3, 0, 2, 506, (1, 0, (8, []))), (3, 1, 7, 756, (3, 2, (0, []))), (6, 1, 4, 756, (0, 0, (8, [])))], 0, [(1, 0, (1, []))]), [])
def gt_yJx4a65c_add_9ea2d_zs7 : ck_TB := ([], [], [], [(9, 6, 1), (48, 6, 2), (63, 6, 0)], [(63, 6, 0, 0)], [], [], [], ([(131, 0)], [], [], []), [], [], [], 1)
def ge_yJx4a65c_add_9ea2d_zs7 : ck_E := (gTl, [], gc_yJx4a65c_add_9ea2d_zs7, 2, [(0, (0, 5, 0, 0, 1, 0, [])), (1, (0, 12, 0, 0, 2, 0, [])), (2, (7, 6, 0, 0, 5, 0, [])), (5, (0, 0, 0, 1, 6, 0, [])), (6, (0, 15, 0, 0, 7, 0, [])), (7, (8, 6, 0, 0, 10, 0, [])), (10, (0, 5, 0, 0, 11, 0, [])), (11, (0, 5, 1, 0, 12, 0, [])), (12, (0, 5, 0, 0, 13, 0, [])), (13, (7, 6, 1, 0, 16, 0, [])), (16, (0, 5, 0, 0, 17, 0, [])), (17, (7, 6, 2, 0, 20, 0, [])), (20, (16, 0, 0, 0, 23, 0, [])), (23, (0, 0, 0, 1, 24, 0, [])), (24, (14, 0, 0, 1, 0, 0, []))], [(some 6, 4, [gc_yJx4a65c_add_72be8_zs7])], [], [], [])
theorem gk_yJx4a65c_add_9ea2d_zs7 : ck_chk ge_yJx4a65c_add_9ea2d_zs7 20 = true := by decide +kernel
theorem gd_yJx4a65c_add_9ea2d_zs7 : ck_dec prog_46_method_25_code gt_yJx4a65c_add_9ea2d_zs7 ge_yJx4a65c_add_9ea2d_zs7.2.2.2.2.1 = true := by decide +kernel
theorem gm_yJx4a65c_add_9ea2d_zs7 {l : Launch} {G : am_G} {X : ck_XT} (g : gEl l G X) : ck_Con (am_grow (am_cm l G yJx4a65c_add_9ea2d (.code yJx4a65c_add_9ea2d prog_46_method_25_code 2 (some .boolean)) 8 230)) G X gTl gc_yJx4a65c_add_9ea2d_zs7 :=
  ck_methG (E := ge_yJx4a65c_add_9ea2d_zs7) (tb := gt_yJx4a65c_add_9ea2d_zs7) (init := false) (cm := ck_cms [am_cm l G yJx4a65c_add_72be8 (.code yJx4a65c_add_72be8 prog_46_method_24_code 4 none) 7 200]) g.1 g.2.1 g.2.2.1 g.2.2.2 gTl_w (by decide +kernel) rfl rfl rfl (by decide) gk_yJx4a65c_add_9ea2d_zs7 gd_yJx4a65c_add_9ea2d_zs7 ⟨(List.forall_mem_nil _), (List.forall_mem_nil _), (List.forall_mem_nil _), (List.forall_mem_cons.mpr ⟨⟨⟨_, _, _, rfl, Or.inl w1683⟩, by decide, _, _, g_fd6_1⟩, (List.forall_mem_cons.mpr ⟨⟨⟨_, _, _, rfl, Or.inl w1686⟩, by decide, _, _, g_fd6_2⟩, (List.forall_mem_cons.mpr ⟨⟨⟨_, _, _, rfl, Or.inr (Or.inr ⟨_, w1690, w1689⟩)⟩, by decide, _, _, g_fd6_0⟩, (List.forall_mem_nil _)⟩)⟩)⟩), (List.forall_mem_nil _), (List.forall_mem_nil _), (List.forall_mem_nil _), (List.forall_mem_nil _)⟩ (List.forall_mem_cons.mpr ⟨⟨⟨_, _, _, rfl, Or.inr (Or.inr ⟨_, w1690, w1689⟩)⟩, by decide, _, rfl, Or.inl g_fd6_0⟩, (List.forall_mem_nil _)⟩) (fun h => nomatch h) ⟨_, rfl, rfl⟩ (by decide) (by decide) g_oi g_ar
    (fun s hk _ => (List.forall_mem_nil _)) (fun s hk => (List.forall_mem_nil _)) (ck_cms_okG ⟨(List.forall_mem_cons.mpr ⟨((gm_yJx4a65c_add_72be8_zs7 g)), (List.forall_mem_nil _)⟩), trivial⟩)
    (List.forall_mem_cons.mpr ⟨(ck_kV g_y_yJx4a65c_add_72be8 w1821 w1823 w34 (T := TJx4a65c) (N := 3) rfl (by decide) (by decide) (by decide)), (List.forall_mem_nil _)⟩) (List.forall_mem_nil _) (List.forall_mem_nil _) (List.forall_mem_nil _)
    (List.forall_mem_nil _)
    (ck_no5 rfl)
def gc_yJx4a65c_add_72be8_zs8 : ck_KK := (([((-2147483648), 2147483647), (10, 24)], [], [(2, 0, 0, 506, (0, 0, (3, []))), (3, 0, 0, 506, (1, 0, (0, [(1, 0)]))), (3, 0, 1, 506, (3, 1, (0, []))), (2, 1, 0, 756, (0, 0, (0, [(1, 1)]))), (3, 0, 2, 506, (1, 0, (8, []))), (6, 1, 4, 756, (0, 0, (8, []))), (2, 2, 0, 1018, (0, 0, (4, [])))], 3, [(3, 0, (0, [])), (3, 2, (0, [])), (3, 1, (0, [])), (1, 0, (8, []))]), ((0, []), (0, [])), [(506, 2), (756, 8)], [], ([], [], [(3, 0, 2, 506, (1, 0, (9, []))), (3, 1, 8, 756, (3, 2, (0, []))), (6, 1, 4, 756, (0, 0, (9, [])))], 0, []), [])
def gt_yJx4a65c_add_72be8_zs8 : ck_TB := ([], [], [], [], [(48, 6, 2, 0)], [], [], [], ([], [], [], []), [], [], [], 9)
def ge_yJx4a65c_add_72be8_zs8 : ck_E := (gTl, [(56, 18)], gc_yJx4a65c_add_72be8_zs8, 4, [(0, (0, 3, 3, 0, 1, 0, [])), (1, (0, 5, 2, 0, 2, 0, [])), (2, (11, 0, 0, 0, 3, 0, [])), (3, (2, 1, 0, 0, 6, 11, [])), (11, (0, 5, 2, 0, 12, 0, [])), (12, (0, 3, 3, 0, 13, 0, [])), (13, (0, 5, 1, 0, 14, 0, [])), (14, (13, 53, 57, 0, 15, 0, [])), (15, (0, 5, 0, 0, 16, 0, [])), (16, (0, 3, 3, 0, 17, 0, [])), (17, (0, 0, 0, 1, 18, 0, [])), (18, (0, 15, 0, 0, 19, 0, [])), (19, (8, 6, 2, 0, 22, 0, [])), (22, (15, 0, 0, 0, 0, 0, []))], [], [], [], [])
theorem gk_yJx4a65c_add_72be8_zs8 : ck_chk ge_yJx4a65c_add_72be8_zs8 19 = true := by decide +kernel
theorem gd_yJx4a65c_add_72be8_zs8 : ck_dec prog_46_method_24_code gt_yJx4a65c_add_72be8_zs8 ge_yJx4a65c_add_72be8_zs8.2.2.2.2.1 = true := by decide +kernel
theorem gm_yJx4a65c_add_72be8_zs8 {l : Launch} {G : am_G} {X : ck_XT} (g : gEl l G X) : ck_Con (am_grow (am_cm l G yJx4a65c_add_72be8 (.code yJx4a65c_add_72be8 prog_46_method_24_code 4 none) 7 200)) G X gTl gc_yJx4a65c_add_72be8_zs8 :=
  ck_methG (E := ge_yJx4a65c_add_72be8_zs8) (tb := gt_yJx4a65c_add_72be8_zs8) (init := false) (cm := ck_cms []) g.1 g.2.1 g.2.2.1 g.2.2.2 gTl_w (by decide +kernel) rfl rfl rfl (by decide) gk_yJx4a65c_add_72be8_zs8 gd_yJx4a65c_add_72be8_zs8 ⟨(List.forall_mem_nil _), (List.forall_mem_nil _), (List.forall_mem_nil _), (List.forall_mem_nil _), (List.forall_mem_nil _), (List.forall_mem_nil _), (List.forall_mem_nil _), (List.forall_mem_nil _)⟩ (List.forall_mem_cons.mpr ⟨⟨⟨_, _, _, rfl, Or.inl w1686⟩, by decide, _, rfl, Or.inl g_fd6_2⟩, (List.forall_mem_nil _)⟩) (fun h => nomatch h) rfl (by decide) (by decide) g_oi g_ar
    (fun s hk _ => (List.forall_mem_cons.mpr ⟨⟨by decide, by decide, am_asg_obj hk (ci := 18) rfl (by decide) w2513⟩, (List.forall_mem_nil _)⟩)) (fun s hk => (List.forall_mem_nil _)) (ck_cms_okG trivial)
    (List.forall_mem_nil _) (List.forall_mem_nil _) (List.forall_mem_nil _) (List.forall_mem_nil _)
    (List.forall_mem_nil _)
    (ck_no5 rfl)
def gc_yJx4a65c_add_9ea2d_zs8 : ck_KK := (([((-2147483648), 2147483647), (10, 24)], [], [(2, 0, 0, 506, (0, 0, (3, []))), (3, 0, 0, 506, (1, 0, (0, [(1, 0)]))), (3, 0, 1, 506, (3, 1, (0, []))), (2, 1, 0, 756, (0, 0, (0, [(1, 1)]))), (3, 0, 2, 506, (1, 0, (8, []))), (6, 1, 4, 756, (0, 0, (8, []))), (2, 2, 0, 1018, (0, 0, (4, [])))], 3, [(3, 0, (0, [])), (3, 2, (0, []))]), ((0, []), (0, [])), [(506, 0), (506, 2), (756, 8)], [], ([((-2147483648), 2147483647)], [], [(3, 0, 0, 506, (1, 0, (0, [(1, 2)]))), (3, 0, 2, 506, (1, 0, (9, []))), (3, 1, 8, 756, (3, 2, (0, []))), (6, 1, 4, 756, (0, 0, (9, [])))], 0, [(1, 0, (1, []))]), [])
def gt_yJx4a65c_add_9ea2d_zs8 : ck_TB := ([], [], [], [(9, 6, 1), (48, 6, 2), (63, 6, 0)], [(63, 6, 0, 0)], [], [], [], ([(131, 0)], [], [], []), [], [], [], 1)
def ge_yJx4a65c_add_9ea2d_zs8 : ck_E := (gTl, [], gc_yJx4a65c_add_9ea2d_zs8, 2, [(0, (0, 5, 0, 0, 1, 0, [])), (1, (0, 12, 0, 0, 2, 0, [])), (2, (7, 6, 0, 0, 5, 0, [])), (5, (0, 0, 0, 1, 6, 0, [])), (6, (0, 15, 0, 0, 7, 0, [])), (7, (8, 6, 0, 0, 10, 0, [])), (10, (0, 5, 0, 0, 11, 0, [])), (11, (0, 5, 1, 0, 12, 0, [])), (12, (0, 5, 0, 0, 13, 0, [])), (13, (7, 6, 1, 0, 16, 0, [])), (16, (0, 5, 0, 0, 17, 0, [])), (17, (7, 6, 2, 0, 20, 0, [])), (20, (16, 0, 0, 0, 23, 0, [])), (23, (0, 0, 0, 1, 24, 0, [])), (24, (14, 0, 0, 1, 0, 0, []))], [(some 6, 4, [gc_yJx4a65c_add_72be8_zs8])], [], [], [])
theorem gk_yJx4a65c_add_9ea2d_zs8 : ck_chk ge_yJx4a65c_add_9ea2d_zs8 20 = true := by decide +kernel
theorem gd_yJx4a65c_add_9ea2d_zs8 : ck_dec prog_46_method_25_code gt_yJx4a65c_add_9ea2d_zs8 ge_yJx4a65c_add_9ea2d_zs8.2.2.2.2.1 = true := by decide +kernel
theorem gm_yJx4a65c_add_9ea2d_zs8 {l : Launch} {G : am_G} {X : ck_XT} (g : gEl l G X) : ck_Con (am_grow (am_cm l G yJx4a65c_add_9ea2d (.code yJx4a65c_add_9ea2d prog_46_method_25_code 2 (some .boolean)) 8 230)) G X gTl gc_yJx4a65c_add_9ea2d_zs8 :=
  ck_methG (E := ge_yJx4a65c_add_9ea2d_zs8) (tb := gt_yJx4a65c_add_9ea2d_zs8) (init := false) (cm := ck_cms [am_cm l G yJx4a65c_add_72be8 (.code yJx4a65c_add_72be8 prog_46_method_24_code 4 none) 7 200]) g.1 g.2.1 g.2.2.1 g.2.2.2 gTl_w (by decide +kernel) rfl rfl rfl (by decide) gk_yJx4a65c_add_9ea2d_zs8 gd_yJx4a65c_add_9ea2d_zs8 ⟨(List.forall_mem_nil _), (List.forall_mem_nil _), (List.forall_mem_nil _), (List.forall_mem_cons.mpr ⟨⟨⟨_, _, _, rfl, Or.inl w1683⟩, by decide, _, _, g_fd6_1⟩, (List.forall_mem_cons.mpr ⟨⟨⟨_, _, _, rfl, Or.inl w1686⟩, by decide, _, _, g_fd6_2⟩, (List.forall_mem_cons.mpr ⟨⟨⟨_, _, _, rfl, Or.inr (Or.inr ⟨_, w1690, w1689⟩)⟩, by decide, _, _, g_fd6_0⟩, (List.forall_mem_nil _)⟩)⟩)⟩), (List.forall_mem_nil _), (List.forall_mem_nil _), (List.forall_mem_nil _), (List.forall_mem_nil _)⟩ (List.forall_mem_cons.mpr ⟨⟨⟨_, _, _, rfl, Or.inr (Or.inr ⟨_, w1690, w1689⟩)⟩, by decide, _, rfl, Or.inl g_fd6_0⟩, (List.forall_mem_nil _)⟩) (fun h => nomatch h) ⟨_, rfl, rfl⟩ (by decide) (by decide) g_oi g_ar
    (fun s hk _ => (List.forall_mem_nil _)) (fun s hk => (List.forall_mem_nil _)) (ck_cms_okG ⟨(List.forall_mem_cons.mpr ⟨((gm_yJx4a65c_add_72be8_zs8 g)), (List.forall_mem_nil _)⟩), trivial⟩)
    (List.forall_mem_cons.mpr ⟨(ck_kV g_y_yJx4a65c_add_72be8 w1821 w1823 w34 (T := TJx4a65c) (N := 3) rfl (by decide) (by decide) (by decide)), (List.forall_mem_nil _)⟩) (List.forall_mem_nil _) (List.forall_mem_nil _) (List.forall_mem_nil _)
    (List.forall_mem_nil _)
    (ck_no5 rfl)
def gc_yJx4a65c_add_72be8_zs9 : ck_KK := (([((-2147483648), 2147483647), (10, 24)], [], [(2, 0, 0, 506, (0, 0, (3, []))), (3, 0, 0, 506, (1, 0, (0, [(1, 0)]))), (3, 0, 1, 506, (3, 1, (0, []))), (2, 1, 0, 756, (0, 0, (0, [(1, 1)]))), (3, 0, 2, 506, (1, 0, (9, []))), (6, 1, 4, 756, (0, 0, (9, []))), (2, 2, 0, 1018, (0, 0, (4, [])))], 3, [(3, 0, (0, [])), (3, 2, (0, [])), (3, 1, (0, [])), (1, 0, (9, []))]), ((0, []), (0, [])), [(506, 2), (756, 9)], [], ([], [], [(3, 0, 2, 506, (1, 0, (10, []))), (3, 1, 9, 756, (3, 2, (0, []))), (6, 1, 4, 756, (0, 0, (10, [])))], 0, []), [])
def gt_yJx4a65c_add_72be8_zs9 : ck_TB := ([], [], [], [], [(48, 6, 2, 0)], [], [], [], ([], [], [], []), [], [], [], 9)
def ge_yJx4a65c_add_72be8_zs9 : ck_E := (gTl, [(56, 18)], gc_yJx4a65c_add_72be8_zs9, 4, [(0, (0, 3, 3, 0, 1, 0, [])), (1, (0, 5, 2, 0, 2, 0, [])), (2, (11, 0, 0, 0, 3, 0, [])), (3, (2, 1, 0, 0, 6, 11, [])), (11, (0, 5, 2, 0, 12, 0, [])), (12, (0, 3, 3, 0, 13, 0, [])), (13, (0, 5, 1, 0, 14, 0, [])), (14, (13, 53, 57, 0, 15, 0, [])), (15, (0, 5, 0, 0, 16, 0, [])), (16, (0, 3, 3, 0, 17, 0, [])), (17, (0, 0, 0, 1, 18, 0, [])), (18, (0, 15, 0, 0, 19, 0, [])), (19, (8, 6, 2, 0, 22, 0, [])), (22, (15, 0, 0, 0, 0, 0, []))], [], [], [], [])
theorem gk_yJx4a65c_add_72be8_zs9 : ck_chk ge_yJx4a65c_add_72be8_zs9 19 = true := by decide +kernel
theorem gd_yJx4a65c_add_72be8_zs9 : ck_dec prog_46_method_24_code gt_yJx4a65c_add_72be8_zs9 ge_yJx4a65c_add_72be8_zs9.2.2.2.2.1 = true := by decide +kernel
theorem gm_yJx4a65c_add_72be8_zs9 {l : Launch} {G : am_G} {X : ck_XT} (g : gEl l G X) : ck_Con (am_grow (am_cm l G yJx4a65c_add_72be8 (.code yJx4a65c_add_72be8 prog_46_method_24_code 4 none) 7 200)) G X gTl gc_yJx4a65c_add_72be8_zs9 :=
  ck_methG (E := ge_yJx4a65c_add_72be8_zs9) (tb := gt_yJx4a65c_add_72be8_zs9) (init := false) (cm := ck_cms []) g.1 g.2.1 g.2.2.1 g.2.2.2 gTl_w (by decide +kernel) rfl rfl rfl (by decide) gk_yJx4a65c_add_72be8_zs9 gd_yJx4a65c_add_72be8_zs9 ⟨(List.forall_mem_nil _), (List.forall_mem_nil _), (List.forall_mem_nil _), (List.forall_mem_nil _), (List.forall_mem_nil _), (List.forall_mem_nil _), (List.forall_mem_nil _), (List.forall_mem_nil _)⟩ (List.forall_mem_cons.mpr ⟨⟨⟨_, _, _, rfl, Or.inl w1686⟩, by decide, _, rfl, Or.inl g_fd6_2⟩, (List.forall_mem_nil _)⟩) (fun h => nomatch h) rfl (by decide) (by decide) g_oi g_ar
    (fun s hk _ => (List.forall_mem_cons.mpr ⟨⟨by decide, by decide, am_asg_obj hk (ci := 18) rfl (by decide) w2513⟩, (List.forall_mem_nil _)⟩)) (fun s hk => (List.forall_mem_nil _)) (ck_cms_okG trivial)
    (List.forall_mem_nil _) (List.forall_mem_nil _) (List.forall_mem_nil _) (List.forall_mem_nil _)
    (List.forall_mem_nil _)
    (ck_no5 rfl)
def gc_yJx4a65c_add_9ea2d_zs9 : ck_KK := (([((-2147483648), 2147483647), (10, 24)], [], [(2, 0, 0, 506, (0, 0, (3, []))), (3, 0, 0, 506, (1, 0, (0, [(1, 0)]))), (3, 0, 1, 506, (3, 1, (0, []))), (2, 1, 0, 756, (0, 0, (0, [(1, 1)]))), (3, 0, 2, 506, (1, 0, (9, []))), (6, 1, 4, 756, (0, 0, (9, []))), (2, 2, 0, 1018, (0, 0, (4, [])))], 3, [(3, 0, (0, [])), (3, 2, (0, []))]), ((0, []), (0, [])), [(506, 0), (506, 2), (756, 9)], [], ([((-2147483648), 2147483647)], [], [(3, 0, 0, 506, (1, 0, (0, [(1, 2)]))), (3, 0, 2, 506, (1, 0, (10, []))), (3, 1, 9, 756, (3, 2, (0, []))), (6, 1, 4, 756, (0, 0, (10, [])))], 0, [(1, 0, (1, []))]), [])
def gt_yJx4a65c_add_9ea2d_zs9 : ck_TB := ([], [], [], [(9, 6, 1), (48, 6, 2), (63, 6, 0)], [(63, 6, 0, 0)], [], [], [], ([(131, 0)], [], [], []), [], [], [], 1)
def ge_yJx4a65c_add_9ea2d_zs9 : ck_E := (gTl, [], gc_yJx4a65c_add_9ea2d_zs9, 2, [(0, (0, 5, 0, 0, 1, 0, [])), (1, (0, 12, 0, 0, 2, 0, [])), (2, (7, 6, 0, 0, 5, 0, [])), (5, (0, 0, 0, 1, 6, 0, [])), (6, (0, 15, 0, 0, 7, 0, [])), (7, (8, 6, 0, 0, 10, 0, [])), (10, (0, 5, 0, 0, 11, 0, [])), (11, (0, 5, 1, 0, 12, 0, [])), (12, (0, 5, 0, 0, 13, 0, [])), (13, (7, 6, 1, 0, 16, 0, [])), (16, (0, 5, 0, 0, 17, 0, [])), (17, (7, 6, 2, 0, 20, 0, [])), (20, (16, 0, 0, 0, 23, 0, [])), (23, (0, 0, 0, 1, 24, 0, [])), (24, (14, 0, 0, 1, 0, 0, []))], [(some 6, 4, [gc_yJx4a65c_add_72be8_zs9])], [], [], [])
theorem gk_yJx4a65c_add_9ea2d_zs9 : ck_chk ge_yJx4a65c_add_9ea2d_zs9 20 = true := by decide +kernel
theorem gd_yJx4a65c_add_9ea2d_zs9 : ck_dec prog_46_method_25_code gt_yJx4a65c_add_9ea2d_zs9 ge_yJx4a65c_add_9ea2d_zs9.2.2.2.2.1 = true := by decide +kernel
theorem gm_yJx4a65c_add_9ea2d_zs9 {l : Launch} {G : am_G} {X : ck_XT} (g : gEl l G X) : ck_Con (am_grow (am_cm l G yJx4a65c_add_9ea2d (.code yJx4a65c_add_9ea2d prog_46_method_25_code 2 (some .boolean)) 8 230)) G X gTl gc_yJx4a65c_add_9ea2d_zs9 :=
  ck_methG (E := ge_yJx4a65c_add_9ea2d_zs9) (tb := gt_yJx4a65c_add_9ea2d_zs9) (init := false) (cm := ck_cms [am_cm l G yJx4a65c_add_72be8 (.code yJx4a65c_add_72be8 prog_46_method_24_code 4 none) 7 200]) g.1 g.2.1 g.2.2.1 g.2.2.2 gTl_w (by decide +kernel) rfl rfl rfl (by decide) gk_yJx4a65c_add_9ea2d_zs9 gd_yJx4a65c_add_9ea2d_zs9 ⟨(List.forall_mem_nil _), (List.forall_mem_nil _), (List.forall_mem_nil _), (List.forall_mem_cons.mpr ⟨⟨⟨_, _, _, rfl, Or.inl w1683⟩, by decide, _, _, g_fd6_1⟩, (List.forall_mem_cons.mpr ⟨⟨⟨_, _, _, rfl, Or.inl w1686⟩, by decide, _, _, g_fd6_2⟩, (List.forall_mem_cons.mpr ⟨⟨⟨_, _, _, rfl, Or.inr (Or.inr ⟨_, w1690, w1689⟩)⟩, by decide, _, _, g_fd6_0⟩, (List.forall_mem_nil _)⟩)⟩)⟩), (List.forall_mem_nil _), (List.forall_mem_nil _), (List.forall_mem_nil _), (List.forall_mem_nil _)⟩ (List.forall_mem_cons.mpr ⟨⟨⟨_, _, _, rfl, Or.inr (Or.inr ⟨_, w1690, w1689⟩)⟩, by decide, _, rfl, Or.inl g_fd6_0⟩, (List.forall_mem_nil _)⟩) (fun h => nomatch h) ⟨_, rfl, rfl⟩ (by decide) (by decide) g_oi g_ar
    (fun s hk _ => (List.forall_mem_nil _)) (fun s hk => (List.forall_mem_nil _)) (ck_cms_okG ⟨(List.forall_mem_cons.mpr ⟨((gm_yJx4a65c_add_72be8_zs9 g)), (List.forall_mem_nil _)⟩), trivial⟩)
    (List.forall_mem_cons.mpr ⟨(ck_kV g_y_yJx4a65c_add_72be8 w1821 w1823 w34 (T := TJx4a65c) (N := 3) rfl (by decide) (by decide) (by decide)), (List.forall_mem_nil _)⟩) (List.forall_mem_nil _) (List.forall_mem_nil _) (List.forall_mem_nil _)
    (List.forall_mem_nil _)
    (ck_no5 rfl)
def gc_yJx4a65c_add_72be8_zs10 : ck_KK := (([((-2147483648), 2147483647), (11, 24)], [], [(2, 0, 0, 506, (0, 0, (3, []))), (3, 0, 0, 506, (1, 0, (0, [(1, 0)]))), (3, 0, 1, 506, (3, 1, (0, []))), (2, 1, 0, 756, (0, 0, (0, [(1, 1)]))), (3, 0, 2, 506, (1, 0, (10, []))), (6, 1, 4, 756, (0, 0, (10, []))), (2, 2, 0, 1018, (0, 0, (4, [])))], 3, [(3, 0, (0, [])), (3, 2, (0, [])), (3, 1, (0, [])), (1, 0, (10, []))]), ((0, []), (0, [])), [(506, 2), (756, 10)], [], ([], [], [(3, 0, 2, 506, (1, 0, (11, []))), (3, 1, 10, 756, (3, 2, (0, []))), (6, 1, 4, 756, (0, 0, (11, [])))], 0, []), [])
def gt_yJx4a65c_add_72be8_zs10 : ck_TB := ([], [], [], [], [(48, 6, 2, 0)], [], [], [], ([], [], [], []), [], [], [], 9)
def ge_yJx4a65c_add_72be8_zs10 : ck_E := (gTl, [(56, 18)], gc_yJx4a65c_add_72be8_zs10, 4, [(0, (0, 3, 3, 0, 1, 0, [])), (1, (0, 5, 2, 0, 2, 0, [])), (2, (11, 0, 0, 0, 3, 0, [])), (3, (2, 1, 0, 0, 6, 11, [])), (11, (0, 5, 2, 0, 12, 0, [])), (12, (0, 3, 3, 0, 13, 0, [])), (13, (0, 5, 1, 0, 14, 0, [])), (14, (13, 53, 57, 0, 15, 0, [])), (15, (0, 5, 0, 0, 16, 0, [])), (16, (0, 3, 3, 0, 17, 0, [])), (17, (0, 0, 0, 1, 18, 0, [])), (18, (0, 15, 0, 0, 19, 0, [])), (19, (8, 6, 2, 0, 22, 0, [])), (22, (15, 0, 0, 0, 0, 0, []))], [], [], [], [])
theorem gk_yJx4a65c_add_72be8_zs10 : ck_chk ge_yJx4a65c_add_72be8_zs10 19 = true := by decide +kernel
theorem gd_yJx4a65c_add_72be8_zs10 : ck_dec prog_46_method_24_code gt_yJx4a65c_add_72be8_zs10 ge_yJx4a65c_add_72be8_zs10.2.2.2.2.1 = true := by decide +kernel
theorem gm_yJx4a65c_add_72be8_zs10 {l : Launch} {G : am_G} {X : ck_XT} (g : gEl l G X) : ck_Con (am_grow (am_cm l G yJx4a65c_add_72be8 (.code yJx4a65c_add_72be8 prog_46_method_24_code 4 none) 7 200)) G X gTl gc_yJx4a65c_add_72be8_zs10 :=
  ck_methG (E := ge_yJx4a65c_add_72be8_zs10) (tb := gt_yJx4a65c_add_72be8_zs10) (init := false) (cm := ck_cms []) g.1 g.2.1 g.2.2.1 g.2.2.2 gTl_w (by decide +kernel) rfl rfl rfl (by decide) gk_yJx4a65c_add_72be8_zs10 gd_yJx4a65c_add_72be8_zs10 ⟨(List.forall_mem_nil _), (List.forall_mem_nil _), (List.forall_mem_nil _), (List.forall_mem_nil _), (List.forall_mem_nil _), (List.forall_mem_nil _), (List.forall_mem_nil _), (List.forall_mem_nil _)⟩ (List.forall_mem_cons.mpr ⟨⟨⟨_, _, _, rfl, Or.inl w1686⟩, by decide, _, rfl, Or.inl g_fd6_2⟩, (List.forall_mem_nil _)⟩) (fun h => nomatch h) rfl (by decide) (by decide) g_oi g_ar
    (fun s hk _ => (List.forall_mem_cons.mpr ⟨⟨by decide, by decide, am_asg_obj hk (ci := 18) rfl (by decide) w2513⟩, (List.forall_mem_nil _)⟩)) (fun s hk => (List.forall_mem_nil _)) (ck_cms_okG trivial)
    (List.forall_mem_nil _) (List.forall_mem_nil _) (List.forall_mem_nil _) (List.forall_mem_nil _)
    (List.forall_mem_nil _)
    (ck_no5 rfl)
def gc_yJx4a65c_add_9ea2d_zs10 : ck_KK := (([((-2147483648), 2147483647), (11, 24)], [], [(2, 0, 0, 506, (0, 0, (3, []))), (3, 0, 0, 506, (1, 0, (0, [(1, 0)]))), (3, 0, 1, 506, (3, 1, (0, []))), (2, 1, 0, 756, (0, 0, (0, [(1, 1)]))), (3, 0, 2, 506, (1, 0, (10, []))), (6, 1, 4, 756, (0, 0, (10, []))), (2, 2, 0, 1018, (0, 0, (4, [])))], 3, [(3, 0, (0, [])), (3, 2, (0, []))]), ((0, []), (0, [])), [(506, 0), (506, 2), (756, 10)], [], ([((-2147483648), 2147483647)], [], [(3, 0, 0, 506, (1, 0, (0, [(1, 2)]))), (3, 0, 2, 506, (1, 0, (11, []))), (3, 1, 10, 756, (3, 2, (0, []))), (6, 1, 4, 756, (0, 0, (11, [])))], 0, [(1, 0, (1, []))]), [])
def gt_yJx4a65c_add_9ea2d_zs10 : ck_TB := ([], [], [], [(9, 6, 1), (48, 6, 2), (63, 6, 0)], [(63, 6, 0, 0)], [], [], [], ([(131, 0)], [], [], []), [], [], [], 1)
def ge_yJx4a65c_add_9ea2d_zs10 : ck_E := (gTl, [], gc_yJx4a65c_add_9ea2d_zs10, 2, [(0, (0, 5, 0, 0, 1, 0, [])), (1, (0, 12, 0, 0, 2, 0, [])), (2, (7, 6, 0, 0, 5, 0, [])), (5, (0, 0, 0, 1, 6, 0, [])), (6, (0, 15, 0, 0, 7, 0, [])), (7, (8, 6, 0, 0, 10, 0, [])), (10, (0, 5, 0, 0, 11, 0, [])), (11, (0, 5, 1, 0, 12, 0, [])), (12, (0, 5, 0, 0, 13, 0, [])), (13, (7, 6, 1, 0, 16, 0, [])), (16, (0, 5, 0, 0, 17, 0, [])), (17, (7, 6, 2, 0, 20, 0, [])), (20, (16, 0, 0, 0, 23, 0, [])), (23, (0, 0, 0, 1, 24, 0, [])), (24, (14, 0, 0, 1, 0, 0, []))], [(some 6, 4, [gc_yJx4a65c_add_72be8_zs10])], [], [], [])
theorem gk_yJx4a65c_add_9ea2d_zs10 : ck_chk ge_yJx4a65c_add_9ea2d_zs10 20 = true := by decide +kernel
theorem gd_yJx4a65c_add_9ea2d_zs10 : ck_dec prog_46_method_25_code gt_yJx4a65c_add_9ea2d_zs10 ge_yJx4a65c_add_9ea2d_zs10.2.2.2.2.1 = true := by decide +kernel
theorem gm_yJx4a65c_add_9ea2d_zs10 {l : Launch} {G : am_G} {X : ck_XT} (g : gEl l G X) : ck_Con (am_grow (am_cm l G yJx4a65c_add_9ea2d (.code yJx4a65c_add_9ea2d prog_46_method_25_code 2 (some .boolean)) 8 230)) G X gTl gc_yJx4a65c_add_9ea2d_zs10 :=
  ck_methG (E := ge_yJx4a65c_add_9ea2d_zs10) (tb := gt_yJx4a65c_add_9ea2d_zs10) (init := false) (cm := ck_cms [am_cm l G yJx4a65c_add_72be8 (.code yJx4a65c_add_72be8 prog_46_method_24_code 4 none) 7 200]) g.1 g.2.1 g.2.2.1 g.2.2.2 gTl_w (by decide +kernel) rfl rfl rfl (by decide) gk_yJx4a65c_add_9ea2d_zs10 gd_yJx4a65c_add_9ea2d_zs10 ⟨(List.forall_mem_nil _), (List.forall_mem_nil _), (List.forall_mem_nil _), (List.forall_mem_cons.mpr ⟨⟨⟨_, _, _, rfl, Or.inl w1683⟩, by decide, _, _, g_fd6_1⟩, (List.forall_mem_cons.mpr ⟨⟨⟨_, _, _, rfl, Or.inl w1686⟩, by decide, _, _, g_fd6_2⟩, (List.forall_mem_cons.mpr ⟨⟨⟨_, _, _, rfl, Or.inr (Or.inr ⟨_, w1690, w1689⟩)⟩, by decide, _, _, g_fd6_0⟩, (List.forall_mem_nil _)⟩)⟩)⟩), (List.forall_mem_nil _), (List.forall_mem_nil _), (List.forall_mem_nil _), (List.forall_mem_nil _)⟩ (List.forall_mem_cons.mpr ⟨⟨⟨_, _, _, rfl, Or.inr (Or.inr ⟨_, w1690, w1689⟩)⟩, by decide, _, rfl, Or.inl g_fd6_0⟩, (List.forall_mem_nil _)⟩) (fun h => nomatch h) ⟨_, rfl, rfl⟩ (by decide) (by decide) g_oi g_ar
    (fun s hk _ => (List.forall_mem_nil _)) (fun s hk => (List.forall_mem_nil _)) (ck_cms_okG ⟨(List.forall_mem_cons.mpr ⟨((gm_yJx4a65c_add_72be8_zs10 g)), (List.forall_mem_nil _)⟩), trivial⟩)
    (List.forall_mem_cons.mpr ⟨(ck_kV g_y_yJx4a65c_add_72be8 w1821 w1823 w34 (T := TJx4a65c) (N := 3) rfl (by decide) (by decide) (by decide)), (List.forall_mem_nil _)⟩) (List.forall_mem_nil _) (List.forall_mem_nil _) (List.forall_mem_nil _)
    (List.forall_mem_nil _)
    (ck_no5 rfl)
def gc_yJx4a65c_grow_92f84_zg10 : ck_KK := (([((-2147483648), 2147483647)], [], [(2, 0, 0, 506, (0, 0, (3, []))), (3, 0, 0, 506, (1, 0, (0, [(1, 0)]))), (3, 0, 1, 506, (3, 1, (0, []))), (2, 1, 0, 756, (0, 0, (10, []))), (3, 0, 2, 506, (1, 0, (10, []))), (6, 1, 4, 756, (0, 0, (10, [])))], 2, [(3, 0, (0, [])), (1, 0, (11, []))]), ((1, []), (20, [])), [(506, 1), (756, 1000)], [], ([(15, 20), (15, 20)], [], [(2, 2, 0, 756, (0, 0, (0, [(1, 1)]))), (5, 2, 0, 0, (0, 0, (0, []))), (6, 2, 4, 756, (0, 0, (10, []))), (3, 0, 1, 506, (3, 2, (0, [])))], 1, [(3, 2, (0, []))]), [])
def gt_yJx4a65c_grow_92f84_zg10 : ck_TB := ([], [], [], [(9, 6, 1)], [(9, 6, 1, 4)], [], [], [], ([], [], [(66, 1), (73, 0)], []), [], [], [], 4)
def ge_yJx4a65c_grow_92f84_zg10 : ck_E := (gTl, [], gc_yJx4a65c_grow_92f84_zg10, 4, [(0, (0, 5, 0, 0, 1, 0, [])), (1, (7, 6, 1, 0, 4, 0, [])), (4, (11, 0, 0, 0, 5, 0, [])), (5, (0, 6, 2, 0, 6, 0, [])), (6, (0, 3, 2, 0, 7, 0, [])), (7, (1, 4, 0, 0, 10, 20, [])), (20, (0, 3, 2, 0, 21, 0, [])), (21, (0, 3, 1, 0, 22, 0, [])), (22, (0, 3, 2, 0, 23, 0, [])), (23, (0, 15, 1, 0, 24, 0, [])), (24, (0, 3, 2, 0, 25, 0, [])), (25, (0, 0, 0, 1, 26, 0, [])), (26, (0, 15, 9, 0, 27, 0, [])), (27, (16, 0, 0, 0, 30, 0, [])), (30, (0, 6, 3, 0, 31, 0, [])), (31, (0, 5, 0, 0, 32, 0, [])), (32, (0, 5, 0, 0, 33, 0, [])), (33, (7, 6, 1, 0, 36, 0, [])), (36, (0, 3, 3, 0, 37, 0, [])), (37, (16, 1, 0, 0, 40, 0, [])), (40, (0, 13, 0, 0, 41, 0, [])), (41, (8, 6, 1, 4, 44, 0, [])), (44, (14, 0, 0, 4, 0, 0, []))], [(none, 3, [gc_yJ8_newLength_cabcc_zli]), (none, 2, [gc_yJ7_copyOf_1904c_zs])], [], [], [])
theorem gk_yJx4a65c_grow_92f84_zg10 : ck_chk ge_yJx4a65c_grow_92f84_zg10 28 = true := by decide +kernel
theorem gd_yJx4a65c_grow_92f84_zg10 : ck_dec prog_46_method_6_code gt_yJx4a65c_grow_92f84_zg10 ge_yJx4a65c_grow_92f84_zg10.2.2.2.2.1 = true := by decide +kernel
theorem gm_yJx4a65c_grow_92f84_zg10 {l : Launch} {G : am_G} {X : ck_XT} (g : gEl l G X) : ck_Con (am_grow (am_cm l G yJx4a65c_grow_92f84 (.code yJx4a65c_grow_92f84 prog_46_method_6_code 4 (some (.array (.object "java/lang/Object")))) 5 140)) G X gTl gc_yJx4a65c_grow_92f84_zg10 :=
  ck_methG (E := ge_yJx4a65c_grow_92f84_zg10) (tb := gt_yJx4a65c_grow_92f84_zg10) (init := false) (cm := ck_cms [am_cm l G yJ8_newLength_cabcc (.code yJ8_newLength_cabcc prog_55_method_27_code 4 (some .int)) 2 41, am_cm l G yJ7_copyOf_1904c (.code yJ7_copyOf_1904c prog_48_method_119_code 2 (some (.array (.object "java/lang/Object")))) 3 82]) g.1 g.2.1 g.2.2.1 g.2.2.2 gTl_w (by decide +kernel) rfl rfl rfl (by decide) gk_yJx4a65c_grow_92f84_zg10 gd_yJx4a65c_grow_92f84_zg10 ⟨(List.forall_mem_nil _), (List.forall_mem_nil _), (List.forall_mem_nil _), (List.forall_mem_cons.mpr ⟨⟨⟨_, _, _, rfl, Or.inl w1683⟩, by decide, _, _, g_fd6_1⟩, (List.forall_mem_nil _)⟩), (List.forall_mem_nil _), (List.forall_mem_nil _), (List.forall_mem_nil _), (List.forall_mem_nil _)⟩ (List.forall_mem_cons.mpr ⟨⟨⟨_, _, _, rfl, Or.inl w1683⟩, by decide, _, Or.inr ⟨_, rfl⟩, Or.inl g_fd6_1⟩, (List.forall_mem_nil _)⟩) (fun h => nomatch h) ⟨_, rfl, Or.inr ⟨_, rfl⟩⟩ (by decide) (by decide) g_oi g_ar
    (fun s hk _ => (List.forall_mem_nil _)) (fun s hk => (List.forall_mem_nil _)) (ck_cms_okG ⟨(List.forall_mem_cons.mpr ⟨((gm_yJ8_newLength_cabcc_zli g)), (List.forall_mem_nil _)⟩), (List.forall_mem_cons.mpr ⟨((gm_yJ7_copyOf_1904c_zs g)), (List.forall_mem_nil _)⟩), trivial⟩)
    (List.forall_mem_nil _) (List.forall_mem_nil _) (List.forall_mem_cons.mpr ⟨(ck_kS g_y_yJ7_copyOf_1904c w1834 w1835 (by decide) (by decide)), (List.forall_mem_cons.mpr ⟨(ck_kS g_y_yJ8_newLength_cabcc w1833 w513 (by decide) (by decide)), (List.forall_mem_nil _)⟩)⟩) (List.forall_mem_nil _)
    (List.forall_mem_nil _)
    (ck_no5 rfl)
def gc_yJx4a65c_grow_d5877_zg10 : ck_KK := (([((-2147483648), 2147483647)], [], [(2, 0, 0, 506, (0, 0, (3, []))), (3, 0, 0, 506, (1, 0, (0, [(1, 0)]))), (3, 0, 1, 506, (3, 1, (0, []))), (2, 1, 0, 756, (0, 0, (10, []))), (3, 0, 2, 506, (1, 0, (10, []))), (6, 1, 4, 756, (0, 0, (10, [])))], 2, [(3, 0, (0, []))]), ((1, []), (20, [])), [(506, 1), (756, 1000)], [], ([(15, 20), (15, 20)], [], [(2, 2, 0, 756, (0, 0, (0, [(1, 1)]))), (5, 2, 0, 0, (0, 0, (0, []))), (6, 2, 4, 756, (0, 0, (10, []))), (3, 0, 1, 506, (3, 2, (0, [])))], 1, [(3, 2, (0, []))]), [])
def gt_yJx4a65c_grow_d5877_zg10 : ck_TB := ([], [], [], [(48, 6, 2)], [], [], [], [], ([(69, 0)], [], [], []), [], [], [], 4)
def ge_yJx4a65c_grow_d5877_zg10 : ck_E := (gTl, [], gc_yJx4a65c_grow_d5877_zg10, 1, [(0, (0, 5, 0, 0, 1, 0, [])), (1, (0, 5, 0, 0, 2, 0, [])), (2, (7, 6, 2, 0, 5, 0, [])), (5, (0, 0, 0, 1, 6, 0, [])), (6, (0, 15, 0, 0, 7, 0, [])), (7, (16, 0, 0, 0, 10, 0, [])), (10, (14, 0, 0, 4, 0, 0, []))], [(some 6, 2, [gc_yJx4a65c_grow_92f84_zg10])], [], [], [])
theorem gk_yJx4a65c_grow_d5877_zg10 : ck_chk ge_yJx4a65c_grow_d5877_zg10 12 = true := by decide +kernel
theorem gd_yJx4a65c_grow_d5877_zg10 : ck_dec prog_46_method_7_code gt_yJx4a65c_grow_d5877_zg10 ge_yJx4a65c_grow_d5877_zg10.2.2.2.2.1 = true := by decide +kernel
theorem gm_yJx4a65c_grow_d5877_zg10 {l : Launch} {G : am_G} {X : ck_XT} (g : gEl l G X) : ck_Con (am_grow (am_cm l G yJx4a65c_grow_d5877 (.code yJx4a65c_grow_d5877 prog_46_method_7_code 1 (some (.array (.object "java/lang/Object")))) 6 170)) G X gTl gc_yJx4a65c_grow_d5877_zg10 :=
  ck_methG (E := ge_yJx4a65c_grow_d5877_zg10) (tb := gt_yJx4a65c_grow_d5877_zg10) (init := false) (cm := ck_cms [am_cm l G yJx4a65c_grow_92f84 (.code yJx4a65c_grow_92f84 prog_46_method_6_code 4 (some (.array (.object "java/lang/Object")))) 5 140]) g.1 g.2.1 g.2.2.1 g.2.2.2 gTl_w (by decide +kernel) rfl rfl rfl (by decide) gk_yJx4a65c_grow_d5877_zg10 gd_yJx4a65c_grow_d5877_zg10 ⟨(List.forall_mem_nil _), (List.forall_mem_nil _), (List.forall_mem_nil _), (List.forall_mem_cons.mpr ⟨⟨⟨_, _, _, rfl, Or.inl w1686⟩, by decide, _, _, g_fd6_2⟩, (List.forall_mem_nil _)⟩), (List.forall_mem_nil _), (List.forall_mem_nil _), (List.forall_mem_nil _), (List.forall_mem_nil _)⟩ (List.forall_mem_nil _) (fun h => nomatch h) ⟨_, rfl, Or.inr ⟨_, rfl⟩⟩ (by decide) (by decide) g_oi g_ar
    (fun s hk _ => (List.forall_mem_nil _)) (fun s hk => (List.forall_mem_nil _)) (ck_cms_okG ⟨(List.forall_mem_cons.mpr ⟨((gm_yJx4a65c_grow_92f84_zg10 g)), (List.forall_mem_nil _)⟩), trivial⟩)
    (List.forall_mem_cons.mpr ⟨(ck_kV g_y_yJx4a65c_grow_92f84 w1829 w1831 w36 (T := TJx4a65c) (N := 3) rfl (by decide) (by decide) (by decide)), (List.forall_mem_nil _)⟩) (List.forall_mem_nil _) (List.forall_mem_nil _) (List.forall_mem_nil _)
    (List.forall_mem_nil _)
    (ck_no5 rfl)
def gc_yJx4a65c_add_72be8_zg10 : ck_KK := (([((-2147483648), 2147483647)], [], [(2, 0, 0, 506, (0, 0, (3, []))), (3, 0, 0, 506, (1, 0, (0, [(1, 0)]))), (3, 0, 1, 506, (3, 1, (0, []))), (2, 1, 0, 756, (0, 0, (10, []))), (3, 0, 2, 506, (1, 0, (10, []))), (6, 1, 4, 756, (0, 0, (10, []))), (2, 2, 0, 1018, (0, 0, (4, [])))], 3, [(3, 0, (0, [])), (3, 2, (0, [])), (3, 1, (0, [])), (1, 0, (10, []))]), ((1, []), (20, [])), [(506, 1), (506, 2), (756, 1000)], [], ([(15, 20)], [], [(3, 0, 1, 506, (3, 3, (0, []))), (2, 3, 0, 756, (0, 0, (0, [(1, 1)]))), (5, 3, 0, 0, (0, 0, (0, []))), (6, 3, 4, 756, (0, 0, (11, []))), (3, 0, 2, 506, (1, 0, (11, [])))], 1, []), [])
def gt_yJx4a65c_add_72be8_zg10 : ck_TB := ([], [], [], [], [(48, 6, 2, 0)], [], [], [], ([(129, 0)], [], [], []), [], [], [], 9)
def ge_yJx4a65c_add_72be8_zg10 : ck_E := (gTl, [(56, 18)], gc_yJx4a65c_add_72be8_zg10, 4, [(0, (0, 3, 3, 0, 1, 0, [])), (1, (0, 5, 2, 0, 2, 0, [])), (2, (11, 0, 0, 0, 3, 0, [])), (3, (2, 1, 0, 0, 6, 11, [])), (6, (0, 5, 0, 0, 7, 0, [])), (7, (16, 0, 0, 0, 10, 0, [])), (10, (0, 8, 2, 0, 11, 0, [])), (11, (0, 5, 2, 0, 12, 0, [])), (12, (0, 3, 3, 0, 13, 0, [])), (13, (0, 5, 1, 0, 14, 0, [])), (14, (13, 53, 57, 0, 15, 0, [])), (15, (0, 5, 0, 0, 16, 0, [])), (16, (0, 3, 3, 0, 17, 0, [])), (17, (0, 0, 0, 1, 18, 0, [])), (18, (0, 15, 0, 0, 19, 0, [])), (19, (8, 6, 2, 0, 22, 0, [])), (22, (15, 0, 0, 0, 0, 0, []))], [(some 6, 1, [gc_yJx4a65c_grow_d5877_zg10])], [], [], [])
theorem gk_yJx4a65c_add_72be8_zg10 : ck_chk ge_yJx4a65c_add_72be8_zg10 22 = true := by decide +kernel
theorem gd_yJx4a65c_add_72be8_zg10 : ck_dec prog_46_method_24_code gt_yJx4a65c_add_72be8_zg10 ge_yJx4a65c_add_72be8_zg10.2.2.2.2.1 = true := by decide +kernel
theorem gm_yJx4a65c_add_72be8_zg10 {l : Launch} {G : am_G} {X : ck_XT} (g : gEl l G X) : ck_Con (am_grow (am_cm l G yJx4a65c_add_72be8 (.code yJx4a65c_add_72be8 prog_46_method_24_code 4 none) 7 200)) G X gTl gc_yJx4a65c_add_72be8_zg10 :=
  ck_methG (E := ge_yJx4a65c_add_72be8_zg10) (tb := gt_yJx4a65c_add_72be8_zg10) (init := false) (cm := ck_cms [am_cm l G yJx4a65c_grow_d5877 (.code yJx4a65c_grow_d5877 prog_46_method_7_code 1 (some (.array (.object "java/lang/Object")))) 6 170]) g.1 g.2.1 g.2.2.1 g.2.2.2 gTl_w (by decide +kernel) rfl rfl rfl (by decide) gk_yJx4a65c_add_72be8_zg10 gd_yJx4a65c_add_72be8_zg10 ⟨(List.forall_mem_nil _), (List.forall_mem_nil _), (List.forall_mem_nil _), (List.forall_mem_nil _), (List.forall_mem_nil _), (List.forall_mem_nil _), (List.forall_mem_nil _), (List.forall_mem_nil _)⟩ (List.forall_mem_cons.mpr ⟨⟨⟨_, _, _, rfl, Or.inl w1686⟩, by decide, _, rfl, Or.inl g_fd6_2⟩, (List.forall_mem_nil _)⟩) (fun h => nomatch h) rfl (by decide) (by decide) g_oi g_ar
    (fun s hk _ => (List.forall_mem_cons.mpr ⟨⟨by decide, by decide, am_asg_obj hk (ci := 18) rfl (by decide) w2513⟩, (List.forall_mem_nil _)⟩)) (fun s hk => (List.forall_mem_nil _)) (ck_cms_okG ⟨(List.forall_mem_cons.mpr ⟨((gm_yJx4a65c_grow_d5877_zg10 g)), (List.forall_mem_nil _)⟩), trivial⟩)
    (List.forall_mem_cons.mpr ⟨(ck_kV g_y_yJx4a65c_grow_d5877 w1825 w1827 w35 (T := TJx4a65c) (N := 3) rfl (by decide) (by decide) (by decide)), (List.forall_mem_nil _)⟩) (List.forall_mem_nil _) (List.forall_mem_nil _) (List.forall_mem_nil _)
    (List.forall_mem_nil _)
    (ck_no5 rfl)
def gc_yJx4a65c_add_9ea2d_zg10 : ck_KK := (([((-2147483648), 2147483647)], [], [(2, 0, 0, 506, (0, 0, (3, []))), (3, 0, 0, 506, (1, 0, (0, [(1, 0)]))), (3, 0, 1, 506, (3, 1, (0, []))), (2, 1, 0, 756, (0, 0, (10, []))), (3, 0, 2, 506, (1, 0, (10, []))), (6, 1, 4, 756, (0, 0, (10, []))), (2, 2, 0, 1018, (0, 0, (4, [])))], 3, [(3, 0, (0, [])), (3, 2, (0, []))]), ((1, []), (20, [])), [(506, 0), (506, 1), (506, 2), (756, 1000)], [], ([((-2147483648), 2147483647), (15, 20)], [], [(3, 0, 0, 506, (1, 0, (0, [(1, 1)]))), (3, 0, 1, 506, (3, 3, (0, []))), (2, 3, 0, 756, (0, 0, (0, [(1, 2)]))), (5, 3, 0, 0, (0, 0, (0, []))), (6, 3, 4, 756, (0, 0, (11, []))), (3, 0, 2, 506, (1, 0, (11, [])))], 1, [(1, 0, (1, []))]), [])
def gt_yJx4a65c_add_9ea2d_zg10 : ck_TB := ([], [], [], [(9, 6, 1), (48, 6, 2), (63, 6, 0)], [(63, 6, 0, 0)], [], [], [], ([(131, 0)], [], [], []), [], [], [], 1)
def ge_yJx4a65c_add_9ea2d_zg10 : ck_E := (gTl, [], gc_yJx4a65c_add_9ea2d_zg10, 2, [(0, (0, 5, 0, 0, 1, 0, [])), (1, (0, 12, 0, 0, 2, 0, [])), (2, (7, 6, 0, 0, 5, 0, [])), (5, (0, 0, 0, 1, 6, 0, [])), (6, (0, 15, 0, 0, 7, 0, [])), (7, (8, 6, 0, 0, 10, 0, [])), (10, (0, 5, 0, 0, 11, 0, [])), (11, (0, 5, 1, 0, 12, 0, [])), (12, (0, 5, 0, 0, 13, 0, [])), (13, (7, 6, 1, 0, 16, 0, [])), (16, (0, 5, 0, 0, 17, 0, [])), (17, (7, 6, 2, 0, 20, 0, [])), (20, (16, 0, 0, 0, 23, 0, [])), (23, (0, 0, 0, 1, 24, 0, [])), (24, (14, 0, 0, 1, 0, 0, []))], [(some 6, 4, [gc_yJx4a65c_add_72be8_zg10])], [], [], [])
theorem gk_yJx4a65c_add_9ea2d_zg10 : ck_chk ge_yJx4a65c_add_9ea2d_zg10 20 = true := by decide +kernel
theorem gd_yJx4a65c_add_9ea2d_zg10 : ck_dec prog_46_method_25_code gt_yJx4a65c_add_9ea2d_zg10 ge_yJx4a65c_add_9ea2d_zg10.2.2.2.2.1 = true := by decide +kernel
theorem gm_yJx4a65c_add_9ea2d_zg10 {l : Launch} {G : am_G} {X : ck_XT} (g : gEl l G X) : ck_Con (am_grow (am_cm l G yJx4a65c_add_9ea2d (.code yJx4a65c_add_9ea2d prog_46_method_25_code 2 (some .boolean)) 8 230)) G X gTl gc_yJx4a65c_add_9ea2d_zg10 :=
  ck_methG (E := ge_yJx4a65c_add_9ea2d_zg10) (tb := gt_yJx4a65c_add_9ea2d_zg10) (init := false) (cm := ck_cms [am_cm l G yJx4a65c_add_72be8 (.code yJx4a65c_add_72be8 prog_46_method_24_code 4 none) 7 200]) g.1 g.2.1 g.2.2.1 g.2.2.2 gTl_w (by decide +kernel) rfl rfl rfl (by decide) gk_yJx4a65c_add_9ea2d_zg10 gd_yJx4a65c_add_9ea2d_zg10 ⟨(List.forall_mem_nil _), (List.forall_mem_nil _), (List.forall_mem_nil _), (List.forall_mem_cons.mpr ⟨⟨⟨_, _, _, rfl, Or.inl w1683⟩, by decide, _, _, g_fd6_1⟩, (List.forall_mem_cons.mpr ⟨⟨⟨_, _, _, rfl, Or.inl w1686⟩, by decide, _, _, g_fd6_2⟩, (List.forall_mem_cons.mpr ⟨⟨⟨_, _, _, rfl, Or.inr (Or.inr ⟨_, w1690, w1689⟩)⟩, by decide, _, _, g_fd6_0⟩, (List.forall_mem_nil _)⟩)⟩)⟩), (List.forall_mem_nil _), (List.forall_mem_nil _), (List.forall_mem_nil _), (List.forall_mem_nil _)⟩ (List.forall_mem_cons.mpr ⟨⟨⟨_, _, _, rfl, Or.inr (Or.inr ⟨_, w1690, w1689⟩)⟩, by decide, _, rfl, Or.inl g_fd6_0⟩, (List.forall_mem_nil _)⟩) (fun h => nomatch h) ⟨_, rfl, rfl⟩ (by decide) (by decide) g_oi g_ar
    (fun s hk _ => (List.forall_mem_nil _)) (fun s hk => (List.forall_mem_nil _)) (ck_cms_okG ⟨(List.forall_mem_cons.mpr ⟨((gm_yJx4a65c_add_72be8_zg10 g)), (List.forall_mem_nil _)⟩), trivial⟩)
    (List.forall_mem_cons.mpr ⟨(ck_kV g_y_yJx4a65c_add_72be8 w1821 w1823 w34 (T := TJx4a65c) (N := 3) rfl (by decide) (by decide) (by decide)), (List.forall_mem_nil _)⟩) (List.forall_mem_nil _) (List.forall_mem_nil _) (List.forall_mem_nil _)
    (List.forall_mem_nil _)
    (ck_no5 rfl)
def gc_yJx4a65c_add_72be8_zs11 : ck_KK := (([((-2147483648), 2147483647), (12, 24)], [], [(2, 0, 0, 506, (0, 0, (3, []))), (3, 0, 0, 506, (1, 0, (0, [(1, 0)]))), (3, 0, 1, 506, (3, 1, (0, []))), (2, 1, 0, 756, (0, 0, (0, [(1, 1)]))), (3, 0, 2, 506, (1, 0, (11, []))), (6, 1, 4, 756, (0, 0, (11, []))), (2, 2, 0, 1018, (0, 0, (4, [])))], 3, [(3, 0, (0, [])), (3, 2, (0, [])), (3, 1, (0, [])), (1, 0, (11, []))]), ((0, []), (0, [])), [(506, 2), (756, 11)], [], ([], [], [(3, 0, 2, 506, (1, 0, (12, []))), (3, 1, 11, 756, (3, 2, (0, []))), (6, 1, 4, 756, (0, 0, (12, [])))], 0, []), [])
def gt_yJx4a65c_add_72be8_zs11 : ck_TB := ([], [], [], [], [(48, 6, 2, 0)], [], [], [], ([], [], [], []), [], [], [], 9)
def ge_yJx4a65c_add_72be8_zs11 : ck_E := (gTl, [(56, 18)], gc_yJx4a65c_add_72be8_zs11, 4, [(0, (0, 3, 3, 0, 1, 0, [])), (1, (0, 5, 2, 0, 2, 0, [])), (2, (11, 0, 0, 0, 3, 0, [])), (3, (2, 1, 0, 0, 6, 11, [])), (11, (0, 5, 2, 0, 12, 0, [])), (12, (0, 3, 3, 0, 13, 0, [])), (13, (0, 5, 1, 0, 14, 0, [])), (14, (13, 53, 57, 0, 15, 0, [])), (15, (0, 5, 0, 0, 16, 0, [])), (16, (0, 3, 3, 0, 17, 0, [])), (17, (0, 0, 0, 1, 18, 0, [])), (18, (0, 15, 0, 0, 19, 0, [])), (19, (8, 6, 2, 0, 22, 0, [])), (22, (15, 0, 0, 0, 0, 0, []))], [], [], [], [])
theorem gk_yJx4a65c_add_72be8_zs11 : ck_chk ge_yJx4a65c_add_72be8_zs11 19 = true := by decide +kernel
theorem gd_yJx4a65c_add_72be8_zs11 : ck_dec prog_46_method_24_code gt_yJx4a65c_add_72be8_zs11 ge_yJx4a65c_add_72be8_zs11.2.2.2.2.1 = true := by decide +kernel
theorem gm_yJx4a65c_add_72be8_zs11 {l : Launch} {G : am_G} {X : ck_XT} (g : gEl l G X) : ck_Con (am_grow (am_cm l G yJx4a65c_add_72be8 (.code yJx4a65c_add_72be8 prog_46_method_24_code 4 none) 7 200)) G X gTl gc_yJx4a65c_add_72be8_zs11 :=
  ck_methG (E := ge_yJx4a65c_add_72be8_zs11) (tb := gt_yJx4a65c_add_72be8_zs11) (init := false) (cm := ck_cms []) g.1 g.2.1 g.2.2.1 g.2.2.2 gTl_w (by decide +kernel) rfl rfl rfl (by decide) gk_yJx4a65c_add_72be8_zs11 gd_yJx4a65c_add_72be8_zs11 ⟨(List.forall_mem_nil _), (List.forall_mem_nil _), (List.forall_mem_nil _), (List.forall_mem_nil _), (List.forall_mem_nil _), (List.forall_mem_nil _), (List.forall_mem_nil _), (List.forall_mem_nil _)⟩ (List.forall_mem_cons.mpr ⟨⟨⟨_, _, _, rfl, Or.inl w1686⟩, by decide, _, rfl, Or.inl g_fd6_2⟩, (List.forall_mem_nil _)⟩) (fun h => nomatch h) rfl (by decide) (by decide) g_oi g_ar
    (fun s hk _ => (List.forall_mem_cons.mpr ⟨⟨by decide, by decide, am_asg_obj hk (ci := 18) rfl (by decide) w2513⟩, (List.forall_mem_nil _)⟩)) (fun s hk => (List.forall_mem_nil _)) (ck_cms_okG trivial)
    (List.forall_mem_nil _) (List.forall_mem_nil _) (List.forall_mem_nil _) (List.forall_mem_nil _)
    (List.forall_mem_nil _)
    (ck_no5 rfl)
def gc_yJx4a65c_add_9ea2d_zs11 : ck_KK := (([((-2147483648), 2147483647), (12, 24)], [], [(2, 0, 0, 506, (0, 0, (3, []))), (3, 0, 0, 506, (1, 0, (0, [(1, 0)]))), (3, 0, 1, 506, (3, 1, (0, []))), (2, 1, 0, 756, (0, 0, (0, [(1, 1)]))), (3, 0, 2, 506, (1, 0, (11, []))), (6, 1, 4, 756, (0, 0, (11, []))), (2, 2, 0, 1018, (0, 0, (4, [])))], 3, [(3, 0, (0, [])), (3, 2, (0, []))]), ((0, []), (0, [])), [(506, 0), (506, 2), (756, 11)], [], ([((-2147483648), 2147483647)], [], [(3, 0, 0, 506, (1, 0, (0, [(1, 2)]))), (3, 0, 2, 506, (1, 0, (12, []))), (3, 1, 11, 756, (3, 2, (0, []))), (6, 1, 4, 756, (0, 0, (12, [])))], 0, [(1, 0, (1, []))]), [])
def gt_yJx4a65c_add_9ea2d_zs11 : ck_TB := ([], [], [], [(9, 6, 1), (48, 6, 2), (63, 6, 0)], [(63, 6, 0, 0)], [], [], [], ([(131, 0)], [], [], []), [], [], [], 1)
def ge_yJx4a65c_add_9ea2d_zs11 : ck_E := (gTl, [], gc_yJx4a65c_add_9ea2d_zs11, 2, [(0, (0, 5, 0, 0, 1, 0, [])), (1, (0, 12, 0, 0, 2, 0, [])), (2, (7, 6, 0, 0, 5, 0, [])), (5, (0, 0, 0, 1, 6, 0, [])), (6, (0, 15, 0, 0, 7, 0, [])), (7, (8, 6, 0, 0, 10, 0, [])), (10, (0, 5, 0, 0, 11, 0, [])), (11, (0, 5, 1, 0, 12, 0, [])), (12, (0, 5, 0, 0, 13, 0, [])), (13, (7, 6, 1, 0, 16, 0, [])), (16, (0, 5, 0, 0, 17, 0, [])), (17, (7, 6, 2, 0, 20, 0, [])), (20, (16, 0, 0, 0, 23, 0, [])), (23, (0, 0, 0, 1, 24, 0, [])), (24, (14, 0, 0, 1, 0, 0, []))], [(some 6, 4, [gc_yJx4a65c_add_72be8_zs11])], [], [], [])
theorem gk_yJx4a65c_add_9ea2d_zs11 : ck_chk ge_yJx4a65c_add_9ea2d_zs11 20 = true := by decide +kernel
theorem gd_yJx4a65c_add_9ea2d_zs11 : ck_dec prog_46_method_25_code gt_yJx4a65c_add_9ea2d_zs11 ge_yJx4a65c_add_9ea2d_zs11.2.2.2.2.1 = true := by decide +kernel
theorem gm_yJx4a65c_add_9ea2d_zs11 {l : Launch} {G : am_G} {X : ck_XT} (g : gEl l G X) : ck_Con (am_grow (am_cm l G yJx4a65c_add_9ea2d (.code yJx4a65c_add_9ea2d prog_46_method_25_code 2 (some .boolean)) 8 230)) G X gTl gc_yJx4a65c_add_9ea2d_zs11 :=
  ck_methG (E := ge_yJx4a65c_add_9ea2d_zs11) (tb := gt_yJx4a65c_add_9ea2d_zs11) (init := false) (cm := ck_cms [am_cm l G yJx4a65c_add_72be8 (.code yJx4a65c_add_72be8 prog_46_method_24_code 4 none) 7 200]) g.1 g.2.1 g.2.2.1 g.2.2.2 gTl_w (by decide +kernel) rfl rfl rfl (by decide) gk_yJx4a65c_add_9ea2d_zs11 gd_yJx4a65c_add_9ea2d_zs11 ⟨(List.forall_mem_nil _), (List.forall_mem_nil _), (List.forall_mem_nil _), (List.forall_mem_cons.mpr ⟨⟨⟨_, _, _, rfl, Or.inl w1683⟩, by decide, _, _, g_fd6_1⟩, (List.forall_mem_cons.mpr ⟨⟨⟨_, _, _, rfl, Or.inl w1686⟩, by decide, _, _, g_fd6_2⟩, (List.forall_mem_cons.mpr ⟨⟨⟨_, _, _, rfl, Or.inr (Or.inr ⟨_, w1690, w1689⟩)⟩, by decide, _, _, g_fd6_0⟩, (List.forall_mem_nil _)⟩)⟩)⟩), (List.forall_mem_nil _), (List.forall_mem_nil _), (List.forall_mem_nil _), (List.forall_mem_nil _)⟩ (List.forall_mem_cons.mpr ⟨⟨⟨_, _, _, rfl, Or.inr (Or.inr ⟨_, w1690, w1689⟩)⟩, by decide, _, rfl, Or.inl g_fd6_0⟩, (List.forall_mem_nil _)⟩) (fun h => nomatch h) ⟨_, rfl, rfl⟩ (by decide) (by decide) g_oi g_ar
    (fun s hk _ => (List.forall_mem_nil _)) (fun s hk => (List.forall_mem_nil _)) (ck_cms_okG ⟨(List.forall_mem_cons.mpr ⟨((gm_yJx4a65c_add_72be8_zs11 g)), (List.forall_mem_nil _)⟩), trivial⟩)
    (List.forall_mem_cons.mpr ⟨(ck_kV g_y_yJx4a65c_add_72be8 w1821 w1823 w34 (T := TJx4a65c) (N := 3) rfl (by decide) (by decide) (by decide)), (List.forall_mem_nil _)⟩) (List.forall_mem_nil _) (List.forall_mem_nil _) (List.forall_mem_nil _)
    (List.forall_mem_nil _)
    (ck_no5 rfl)
def gc_yJx4a65c_grow_92f84_zg11 : ck_KK := (([((-2147483648), 2147483647)], [], [(2, 0, 0, 506, (0, 0, (3, []))), (3, 0, 0, 506, (1, 0, (0, [(1, 0)]))), (3, 0, 1, 506, (3, 1, (0, []))), (2, 1, 0, 756, (0, 0, (11, []))), (3, 0, 2, 506, (1, 0, (11, []))), (6, 1, 4, 756, (0, 0, (11, [])))], 2, [(3, 0, (0, [])), (1, 0, (12, []))]), ((1, []), (20, [])), [(506, 1), (756, 1000)], [], ([(15, 20), (15, 20)], [], [(2, 2, 0, 756, (0, 0, (0, [(1, 1)]))), (5, 2, 0, 0, (0, 0, (0, []))), (6, 2, 4, 756, (0, 0, (11, []))), (3, 0, 1, 506, (3, 2, (0, [])))], 1, [(3, 2, (0, []))]), [])
def gt_yJx4a65c_grow_92f84_zg11 : ck_TB := ([], [], [], [(9, 6, 1)], [(9, 6, 1, 4)], [], [], [], ([], [], [(66, 1), (73, 0)], []), [], [], [], 4)
def ge_yJx4a65c_grow_92f84_zg11 : ck_E := (gTl, [], gc_yJx4a65c_grow_92f84_zg11, 4, [(0, (0, 5, 0, 0, 1, 0, [])), (1, (7, 6, 1, 0, 4, 0, [])), (4, (11, 0, 0, 0, 5, 0, [])), (5, (0, 6, 2, 0, 6, 0, [])), (6, (0, 3, 2, 0, 7, 0, [])), (7, (1, 4, 0, 0, 10, 20, [])), (20, (0, 3, 2, 0, 21, 0, [])), (21, (0, 3, 1, 0, 22, 0, [])), (22, (0, 3, 2, 0, 23, 0, [])), (23, (0, 15, 1, 0, 24, 0, [])), (24, (0, 3, 2, 0, 25, 0, [])), (25, (0, 0, 0, 1, 26, 0, [])), (26, (0, 15, 9, 0, 27, 0, [])), (27, (16, 0, 0, 0, 30, 0, [])), (30, (0, 6, 3, 0, 31, 0, [])), (31, (0, 5, 0, 0, 32, 0, [])), (32, (0, 5, 0, 0, 33, 0, [])), (33, (7, 6, 1, 0, 36, 0, [])), (36, (0, 3, 3, 0, 37, 0, [])), (37, (16, 1, 0, 0, 40, 0, [])), (40, (0, 13, 0, 0, 41, 0, [])), (41, (8, 6, 1, 4, 44, 0, [])), (44, (14, 0, 0, 4, 0, 0, []))], [(none, 3, [gc_yJ8_newLength_cabcc_zli]), (none, 2, [gc_yJ7_copyOf_1904c_zs])], [], [], [])
theorem gk_yJx4a65c_grow_92f84_zg11 : ck_chk ge_yJx4a65c_grow_92f84_zg11 28 = true := by decide +kernel
theorem gd_yJx4a65c_grow_92f84_zg11 : ck_dec prog_46_method_6_code gt_yJx4a65c_grow_92f84_zg11 ge_yJx4a65c_grow_92f84_zg11.2.2.2.2.1 = true := by decide +kernel
theorem gm_yJx4a65c_grow_92f84_zg11 {l : Launch} {G : am_G} {X : ck_XT} (g : gEl l G X) : ck_Con (am_grow (am_cm l G yJx4a65c_grow_92f84 (.code yJx4a65c_grow_92f84 prog_46_method_6_code 4 (some (.array (.object "java/lang/Object")))) 5 140)) G X gTl gc_yJx4a65c_grow_92f84_zg11 :=
  ck_methG (E := ge_yJx4a65c_grow_92f84_zg11) (tb := gt_yJx4a65c_grow_92f84_zg11) (init := false) (cm := ck_cms [am_cm l G yJ8_newLength_cabcc (.code yJ8_newLength_cabcc prog_55_method_27_code 4 (some .int)) 2 41, am_cm l G yJ7_copyOf_1904c (.code yJ7_copyOf_1904c prog_48_method_119_code 2 (some (.array (.object "java/lang/Object")))) 3 82]) g.1 g.2.1 g.2.2.1 g.2.2.2 gTl_w (by decide +kernel) rfl rfl rfl (by decide) gk_yJx4a65c_grow_92f84_zg11 gd_yJx4a65c_grow_92f84_zg11 ⟨(List.forall_mem_nil _), (List.forall_mem_nil _), (List.forall_mem_nil _), (List.forall_mem_cons.mpr ⟨⟨⟨_, _, _, rfl, Or.inl w1683⟩, by decide, _, _, g_fd6_1⟩, (List.forall_mem_nil _)⟩), (List.forall_mem_nil _), (List.forall_mem_nil _), (List.forall_mem_nil _), (List.forall_mem_nil _)⟩ (List.forall_mem_cons.mpr ⟨⟨⟨_, _, _, rfl, Or.inl w1683⟩, by decide, _, Or.inr ⟨_, rfl⟩, Or.inl g_fd6_1⟩, (List.forall_mem_nil _)⟩) (fun h => nomatch h) ⟨_, rfl, Or.inr ⟨_, rfl⟩⟩ (by decide) (by decide) g_oi g_ar
    (fun s hk _ => (List.forall_mem_nil _)) (fun s hk => (List.forall_mem_nil _)) (ck_cms_okG ⟨(List.forall_mem_cons.mpr ⟨((gm_yJ8_newLength_cabcc_zli g)), (List.forall_mem_nil _)⟩), (List.forall_mem_cons.mpr ⟨((gm_yJ7_copyOf_1904c_zs g)), (List.forall_mem_nil _)⟩), trivial⟩)
    (List.forall_mem_nil _) (List.forall_mem_nil _) (List.forall_mem_cons.mpr ⟨(ck_kS g_y_yJ7_copyOf_1904c w1834 w1835 (by decide) (by decide)), (List.forall_mem_cons.mpr ⟨(ck_kS g_y_yJ8_newLength_cabcc w1833 w513 (by decide) (by decide)), (List.forall_mem_nil _)⟩)⟩) (List.forall_mem_nil _)
    (List.forall_mem_nil _)
    (ck_no5 rfl)
def gc_yJx4a65c_grow_d5877_zg11 : ck_KK := (([((-2147483648), 2147483647)], [], [(2, 0, 0, 506, (0, 0, (3, []))), (3, 0, 0, 506, (1, 0, (0, [(1, 0)]))), (3, 0, 1, 506, (3, 1, (0, []))), (2, 1, 0, 756, (0, 0, (11, []))), (3, 0, 2, 506, (1, 0, (11, []))), (6, 1, 4, 756, (0, 0, (11, [])))], 2, [(3, 0, (0, []))]), ((1, []), (20, [])), [(506, 1), (756, 1000)], [], ([(15, 20), (15, 20)], [], [(2, 2, 0, 756, (0, 0, (0, [(1, 1)]))), (5, 2, 0, 0, (0, 0, (0, []))), (6, 2, 4, 756, (0, 0, (11, []))), (3, 0, 1, 506, (3, 2, (0, [])))], 1, [(3, 2, (0, []))]), [])
def gt_yJx4a65c_grow_d5877_zg11 : ck_TB := ([], [], [], [(48, 6, 2)], [], [], [], [], ([(69, 0)], [], [], []), [], [], [], 4)
def ge_yJx4a65c_grow_d5877_zg11 : ck_E := (gTl, [], gc_yJx4a65c_grow_d5877_zg11, 1, [(0, (0, 5, 0, 0, 1, 0, [])), (1, (0, 5, 0, 0, 2, 0, [])), (2, (7, 6, 2, 0, 5, 0, [])), (5, (0, 0, 0, 1, 6, 0, [])), (6, (0, 15, 0, 0, 7, 0, [])), (7, (16, 0, 0, 0, 10, 0, [])), (10, (14, 0, 0, 4, 0, 0, []))], [(some 6, 2, [gc_yJx4a65c_grow_92f84_zg11])], [], [], [])
theorem gk_yJx4a65c_grow_d5877_zg11 : ck_chk ge_yJx4a65c_grow_d5877_zg11 12 = true := by decide +kernel
theorem gd_yJx4a65c_grow_d5877_zg11 : ck_dec prog_46_method_7_code gt_yJx4a65c_grow_d5877_zg11 ge_yJx4a65c_grow_d5877_zg11.2.2.2.2.1 = true := by decide +kernel
theorem gm_yJx4a65c_grow_d5877_zg11 {l : Launch} {G : am_G} {X : ck_XT} (g : gEl l G X) : ck_Con (am_grow (am_cm l G yJx4a65c_grow_d5877 (.code yJx4a65c_grow_d5877 prog_46_method_7_code 1 (some (.array (.object "java/lang/Object")))) 6 170)) G X gTl gc_yJx4a65c_grow_d5877_zg11 :=
  ck_methG (E := ge_yJx4a65c_grow_d5877_zg11) (tb := gt_yJx4a65c_grow_d5877_zg11) (init := false) (cm := ck_cms [am_cm l G yJx4a65c_grow_92f84 (.code yJx4a65c_grow_92f84 prog_46_method_6_code 4 (some (.array (.object "java/lang/Object")))) 5 140]) g.1 g.2.1 g.2.2.1 g.2.2.2 gTl_w (by decide +kernel) rfl rfl rfl (by decide) gk_yJx4a65c_grow_d5877_zg11 gd_yJx4a65c_grow_d5877_zg11 ⟨(List.forall_mem_nil _), (List.forall_mem_nil _), (List.forall_mem_nil _), (List.forall_mem_cons.mpr ⟨⟨⟨_, _, _, rfl, Or.inl w1686⟩, by decide, _, _, g_fd6_2⟩, (List.forall_mem_nil _)⟩), (List.forall_mem_nil _), (List.forall_mem_nil _), (List.forall_mem_nil _), (List.forall_mem_nil _)⟩ (List.forall_mem_nil _) (fun h => nomatch h) ⟨_, rfl, Or.inr ⟨_, rfl⟩⟩ (by decide) (by decide) g_oi g_ar
    (fun s hk _ => (List.forall_mem_nil _)) (fun s hk => (List.forall_mem_nil _)) (ck_cms_okG ⟨(List.forall_mem_cons.mpr ⟨((gm_yJx4a65c_grow_92f84_zg11 g)), (List.forall_mem_nil _)⟩), trivial⟩)
    (List.forall_mem_cons.mpr ⟨(ck_kV g_y_yJx4a65c_grow_92f84 w1829 w1831 w36 (T := TJx4a65c) (N := 3) rfl (by decide) (by decide) (by decide)), (List.forall_mem_nil _)⟩) (List.forall_mem_nil _) (List.forall_mem_nil _) (List.forall_mem_nil _)
    (List.forall_mem_nil _)
    (ck_no5 rfl)
def gc_yJx4a65c_add_72be8_zg11 : ck_KK := (([((-2147483648), 2147483647)], [], [(2, 0, 0, 506, (0, 0, (3, []))), (3, 0, 0, 506, (1, 0, (0, [(1, 0)]))), (3, 0, 1, 506, (3, 1, (0, []))), (2, 1, 0, 756, (0, 0, (11, []))), (3, 0, 2, 506, (1, 0, (11, []))), (6, 1, 4, 756, (0, 0, (11, []))), (2, 2, 0, 1018, (0, 0, (4, [])))], 3, [(3, 0, (0, [])), (3, 2, (0, [])), (3, 1, (0, [])), (1, 0, (11, []))]), ((1, []), (20, [])), [(506, 1), (506, 2), (756, 1000)], [], ([(15, 20)], [], [(3, 0, 1, 506, (3, 3, (0, []))), (2, 3, 0, 756, (0, 0, (0, [(1, 1)]))), (5, 3, 0, 0, (0, 0, (0, []))), (6, 3, 4, 756, (0, 0, (12, []))), (3, 0, 2, 506, (1, 0, (12, [])))], 1, []), [])
def gt_yJx4a65c_add_72be8_zg11 : ck_TB := ([], [], [], [], [(48, 6, 2, 0)], [], [], [], ([(129, 0)], [], [], []), [], [], [], 9)
def ge_yJx4a65c_add_72be8_zg11 : ck_E := (gTl, [(56, 18)], gc_yJx4a65c_add_72be8_zg11, 4, [(0, (0, 3, 3, 0, 1, 0, [])), (1, (0, 5, 2, 0, 2, 0, [])), (2, (11, 0, 0, 0, 3, 0, [])), (3, (2, 1, 0, 0, 6, 11, [])), (6, (0, 5, 0, 0, 7, 0, [])), (7, (16, 0, 0, 0, 10, 0, [])), (10, (0, 8, 2, 0, 11, 0, [])), (11, (0, 5, 2, 0, 12, 0, [])), (12, (0, 3, 3, 0, 13, 0, [])), (13, (0, 5, 1, 0, 14, 0, [])), (14, (13, 53, 57, 0, 15, 0, [])), (15, (0, 5, 0, 0, 16, 0, [])), (16, (0, 3, 3, 0, 17, 0, [])), (17, (0, 0, 0, 1, 18, 0, [])), (18, (0, 15, 0, 0, 19, 0, [])), (19, (8, 6, 2, 0, 22, 0, [])), (22, (15, 0, 0, 0, 0, 0, []))], [(some 6, 1, [gc_yJx4a65c_grow_d5877_zg11])], [], [], [])
theorem gk_yJx4a65c_add_72be8_zg11 : ck_chk ge_yJx4a65c_add_72be8_zg11 22 = true := by decide +kernel
theorem gd_yJx4a65c_add_72be8_zg11 : ck_dec prog_46_method_24_code gt_yJx4a65c_add_72be8_zg11 ge_yJx4a65c_add_72be8_zg11.2.2.2.2.1 = true := by decide +kernel
theorem gm_yJx4a65c_add_72be8_zg11 {l : Launch} {G : am_G} {X : ck_XT} (g : gEl l G X) : ck_Con (am_grow (am_cm l G yJx4a65c_add_72be8 (.code yJx4a65c_add_72be8 prog_46_method_24_code 4 none) 7 200)) G X gTl gc_yJx4a65c_add_72be8_zg11 :=
  ck_methG (E := ge_yJx4a65c_add_72be8_zg11) (tb := gt_yJx4a65c_add_72be8_zg11) (init := false) (cm := ck_cms [am_cm l G yJx4a65c_grow_d5877 (.code yJx4a65c_grow_d5877 prog_46_method_7_code 1 (some (.array (.object "java/lang/Object")))) 6 170]) g.1 g.2.1 g.2.2.1 g.2.2.2 gTl_w (by decide +kernel) rfl rfl rfl (by decide) gk_yJx4a65c_add_72be8_zg11 gd_yJx4a65c_add_72be8_zg11 ⟨(List.forall_mem_nil _), (List.forall_mem_nil _), (List.forall_mem_nil _), (List.forall_mem_nil _), (List.forall_mem_nil _), (List.forall_mem_nil _), (List.forall_mem_nil _), (List.forall_mem_nil _)⟩ (List.forall_mem_cons.mpr ⟨⟨⟨_, _, _, rfl, Or.inl w1686⟩, by decide, _, rfl, Or.inl g_fd6_2⟩, (List.forall_mem_nil _)⟩) (fun h => nomatch h) rfl (by decide) (by decide) g_oi g_ar
    (fun s hk _ => (List.forall_mem_cons.mpr ⟨⟨by decide, by decide, am_asg_obj hk (ci := 18) rfl (by decide) w2513⟩, (List.forall_mem_nil _)⟩)) (fun s hk => (List.forall_mem_nil _)) (ck_cms_okG ⟨(List.forall_mem_cons.mpr ⟨((gm_yJx4a65c_grow_d5877_zg11 g)), (List.forall_mem_nil _)⟩), trivial⟩)
    (List.forall_mem_cons.mpr ⟨(ck_kV g_y_yJx4a65c_grow_d5877 w1825 w1827 w35 (T := TJx4a65c) (N := 3) rfl (by decide) (by decide) (by decide)), (List.forall_mem_nil _)⟩) (List.forall_mem_nil _) (List.forall_mem_nil _) (List.forall_mem_nil _)
    (List.forall_mem_nil _)
    (ck_no5 rfl)
def gc_yJx4a65c_add_9ea2d_zg11 : ck_KK := (([((-2147483648), 2147483647)], [], [(2, 0, 0, 506, (0, 0, (3, []))), (3, 0, 0, 506, (1, 0, (0, [(1, 0)]))), (3, 0, 1, 506, (3, 1, (0, []))), (2, 1, 0, 756, (0, 0, (11, []))), (3, 0, 2, 506, (1, 0, (11, []))), (6, 1, 4, 756, (0, 0, (11, []))), (2, 2, 0, 1018, (0, 0, (4, [])))], 3, [(3, 0, (0, [])), (3, 2, (0, []))]), ((1, []), (20, [])), [(506, 0), (506, 1), (506, 2), (756, 1000)], [], ([((-2147483648), 2147483647), (15, 20)], [], [(3, 0, 0, 506, (1, 0, (0, [(1, 1)]))), (3, 0, 1, 506, (3, 3, (0, []))), (2, 3, 0, 756, (0, 0, (0, [(1, 2)]))), (5, 3, 0, 0, (0, 0, (0, []))), (6, 3, 4, 756, (0, 0, (12, []))), (3, 0, 2, 506, (1, 0, (12, [])))], 1, [(1, 0, (1, []))]), [])
def gt_yJx4a65c_add_9ea2d_zg11 : ck_TB := ([], [], [], [(9, 6, 1), (48, 6, 2), (63, 6, 0)], [(63, 6, 0, 0)], [], [], [], ([(131, 0)], [], [], []), [], [], [], 1)
def ge_yJx4a65c_add_9ea2d_zg11 : ck_E := (gTl, [], gc_yJx4a65c_add_9ea2d_zg11, 2, [(0, (0, 5, 0, 0, 1, 0, [])), (1, (0, 12, 0, 0, 2, 0, [])), (2, (7, 6, 0, 0, 5, 0, [])), (5, (0, 0, 0, 1, 6, 0, [])), (6, (0, 15, 0, 0, 7, 0, [])), (7, (8, 6, 0, 0, 10, 0, [])), (10, (0, 5, 0, 0, 11, 0, [])), (11, (0, 5, 1, 0, 12, 0, [])), (12, (0, 5, 0, 0, 13, 0, [])), (13, (7, 6, 1, 0, 16, 0, [])), (16, (0, 5, 0, 0, 17, 0, [])), (17, (7, 6, 2, 0, 20, 0, [])), (20, (16, 0, 0, 0, 23, 0, [])), (23, (0, 0, 0, 1, 24, 0, [])), (24, (14, 0, 0, 1, 0, 0, []))], [(some 6, 4, [gc_yJx4a65c_add_72be8_zg11])], [], [], [])
theorem gk_yJx4a65c_add_9ea2d_zg11 : ck_chk ge_yJx4a65c_add_9ea2d_zg11 20 = true := by decide +kernel
theorem gd_yJx4a65c_add_9ea2d_zg11 : ck_dec prog_46_method_25_code gt_yJx4a65c_add_9ea2d_zg11 ge_yJx4a65c_add_9ea2d_zg11.2.2.2.2.1 = true := by decide +kernel
theorem gm_yJx4a65c_add_9ea2d_zg11 {l : Launch} {G : am_G} {X : ck_XT} (g : gEl l G X) : ck_Con (am_grow (am_cm l G yJx4a65c_add_9ea2d (.code yJx4a65c_add_9ea2d prog_46_method_25_code 2 (some .boolean)) 8 230)) G X gTl gc_yJx4a65c_add_9ea2d_zg11 :=
  ck_methG (E := ge_yJx4a65c_add_9ea2d_zg11) (tb := gt_yJx4a65c_add_9ea2d_zg11) (init := false) (cm := ck_cms [am_cm l G yJx4a65c_add_72be8 (.code yJx4a65c_add_72be8 prog_46_method_24_code 4 none) 7 200]) g.1 g.2.1 g.2.2.1 g.2.2.2 gTl_w (by decide +kernel) rfl rfl rfl (by decide) gk_yJx4a65c_add_9ea2d_zg11 gd_yJx4a65c_add_9ea2d_zg11 ⟨(List.forall_mem_nil _), (List.forall_mem_nil _), (List.forall_mem_nil _), (List.forall_mem_cons.mpr ⟨⟨⟨_, _, _, rfl, Or.inl w1683⟩, by decide, _, _, g_fd6_1⟩, (List.forall_mem_cons.mpr ⟨⟨⟨_, _, _, rfl, Or.inl w1686⟩, by decide, _, _, g_fd6_2⟩, (List.forall_mem_cons.mpr ⟨⟨⟨_, _, _, rfl, Or.inr (Or.inr ⟨_, w1690, w1689⟩)⟩, by decide, _, _, g_fd6_0⟩, (List.forall_mem_nil _)⟩)⟩)⟩), (List.forall_mem_nil _), (List.forall_mem_nil _), (List.forall_mem_nil _), (List.forall_mem_nil _)⟩ (List.forall_mem_cons.mpr ⟨⟨⟨_, _, _, rfl, Or.inr (Or.inr ⟨_, w1690, w1689⟩)⟩, by decide, _, rfl, Or.inl g_fd6_0⟩, (List.forall_mem_nil _)⟩) (fun h => nomatch h) ⟨_, rfl, rfl⟩ (by decide) (by decide) g_oi g_ar
    (fun s hk _ => (List.forall_mem_nil _)) (fun s hk => (List.forall_mem_nil _)) (ck_cms_okG ⟨(List.forall_mem_cons.mpr ⟨((gm_yJx4a65c_add_72be8_zg11 g)), (List.forall_mem_nil _)⟩), trivial⟩)
    (List.forall_mem_cons.mpr ⟨(ck_kV g_y_yJx4a65c_add_72be8 w1821 w1823 w34 (T := TJx4a65c) (N := 3) rfl (by decide) (by decide) (by decide)), (List.forall_mem_nil _)⟩) (List.forall_mem_nil _) (List.forall_mem_nil _) (List.forall_mem_nil _)
    (List.forall_mem_nil _)
    (ck_no5 rfl)
def gc_yJx4a65c_add_72be8_zs12 : ck_KK := (([((-2147483648), 2147483647), (13, 24)], [], [(2, 0, 0, 506, (0, 0, (3, []))), (3, 0, 0, 506, (1, 0, (0, [(1, 0)]))), (3, 0, 1, 506, (3, 1, (0, []))), (2, 1, 0, 756, (0, 0, (0, [(1, 1)]))), (3, 0, 2, 506, (1, 0, (12, []))), (6, 1, 4, 756, (0, 0, (12, []))), (2, 2, 0, 1018, (0, 0, (4, [])))], 3, [(3, 0, (0, [])), (3, 2, (0, [])), (3, 1, (0, [])), (1, 0, (12, []))]), ((0, []), (0, [])), [(506, 2), (756, 12)], [], ([], [], [(3, 0, 2, 506, (1, 0, (13, []))), (3, 1, 12, 756, (3, 2, (0, []))), (6, 1, 4, 756, (0, 0, (13, [])))], 0, []), [])
def gt_yJx4a65c_add_72be8_zs12 : ck_TB := ([], [], [], [], [(48, 6, 2, 0)], [], [], [], ([], [], [], []), [], [], [], 9)
def ge_yJx4a65c_add_72be8_zs12 : ck_E := (gTl, [(56, 18)], gc_yJx4a65c_add_72be8_zs12, 4, [(0, (0, 3, 3, 0, 1, 0, [])), (1, (0, 5, 2, 0, 2, 0, [])), (2, (11, 0, 0, 0, 3, 0, [])), (3, (2, 1, 0, 0, 6, 11, [])), (11, (0, 5, 2, 0, 12, 0, [])), (12, (0, 3, 3, 0, 13, 0, [])), (13, (0, 5, 1, 0, 14, 0, [])), (14, (13, 53, 57, 0, 15, 0, [])), (15, (0, 5, 0, 0, 16, 0, [])), (16, (0, 3, 3, 0, 17, 0, [])), (17, (0, 0, 0, 1, 18, 0, [])), (18, (0, 15, 0, 0, 19, 0, [])), (19, (8, 6, 2, 0, 22, 0, [])), (22, (15, 0, 0, 0, 0, 0, []))], [], [], [], [])
theorem gk_yJx4a65c_add_72be8_zs12 : ck_chk ge_yJx4a65c_add_72be8_zs12 19 = true := by decide +kernel
theorem gd_yJx4a65c_add_72be8_zs12 : ck_dec prog_46_method_24_code gt_yJx4a65c_add_72be8_zs12 ge_yJx4a65c_add_72be8_zs12.2.2.2.2.1 = true := by decide +kernel
theorem gm_yJx4a65c_add_72be8_zs12 {l : Launch} {G : am_G} {X : ck_XT} (g : gEl l G X) : ck_Con (am_grow (am_cm l G yJx4a65c_add_72be8 (.code yJx4a65c_add_72be8 prog_46_method_24_code 4 none) 7 200)) G X gTl gc_yJx4a65c_add_72be8_zs12 :=
  ck_methG (E := ge_yJx4a65c_add_72be8_zs12) (tb := gt_yJx4a65c_add_72be8_zs12) (init := false) (cm := ck_cms []) g.1 g.2.1 g.2.2.1 g.2.2.2 gTl_w (by decide +kernel) rfl rfl rfl (by decide) gk_yJx4a65c_add_72be8_zs12 gd_yJx4a65c_add_72be8_zs12 ⟨(List.forall_mem_nil _), (List.forall_mem_nil _), (List.forall_mem_nil _), (List.forall_mem_nil _), (List.forall_mem_nil _), (List.forall_mem_nil _), (List.forall_mem_nil _), (List.forall_mem_nil _)⟩ (List.forall_mem_cons.mpr ⟨⟨⟨_, _, _, rfl, Or.inl w1686⟩, by decide, _, rfl, Or.inl g_fd6_2⟩, (List.forall_mem_nil _)⟩) (fun h => nomatch h) rfl (by decide) (by decide) g_oi g_ar
    (fun s hk _ => (List.forall_mem_cons.mpr ⟨⟨by decide, by decide, am_asg_obj hk (ci := 18) rfl (by decide) w2513⟩, (List.forall_mem_nil _)⟩)) (fun s hk => (List.forall_mem_nil _)) (ck_cms_okG trivial)
    (List.forall_mem_nil _) (List.forall_mem_nil _) (List.forall_mem_nil _) (List.forall_mem_nil _)
    (List.forall_mem_nil _)
    (ck_no5 rfl)
def gc_yJx4a65c_add_9ea2d_zs12 : ck_KK := (([((-2147483648), 2147483647), (13, 24)], [], [(2, 0, 0, 506, (0, 0, (3, []))), (3, 0, 0, 506, (1, 0, (0, [(1, 0)]))), (3, 0, 1, 506, (3, 1, (0, []))), (2, 1, 0, 756, (0, 0, (0, [(1, 1)]))), (3, 0, 2, 506, (1, 0, (12, []))), (6, 1, 4, 756, (0, 0, (12, []))), (2, 2, 0, 1018, (0, 0, (4, [])))], 3, [(3, 0, (0, [])), (3, 2, (0, []))]), ((0, []), (0, [])), [(506, 0), (506, 2), (756, 12)], [], ([((-2147483648), 2147483647)], [], [(3, 0, 0, 506, (1, 0, (0, [(1, 2)]))), (3, 0, 2, 506, (1, 0, (13, []))), (3, 1, 12, 756, (3, 2, (0, []))), (6, 1, 4, 756, (0, 0, (13, [])))], 0, [(1, 0, (1, []))]), [])
def gt_yJx4a65c_add_9ea2d_zs12 : ck_TB := ([], [], [], [(9, 6, 1), (48, 6, 2), (63, 6, 0)], [(63, 6, 0, 0)], [], [], [], ([(131, 0)], [], [], []), [], [], [], 1)
def ge_yJx4a65c_add_9ea2d_zs12 : ck_E := (gTl, [], gc_yJx4a65c_add_9ea2d_zs12, 2, [(0, (0, 5, 0, 0, 1, 0, [])), (1, (0, 12, 0, 0, 2, 0, [])), (2, (7, 6, 0, 0, 5, 0, [])), (5, (0, 0, 0, 1, 6, 0, [])), (6, (0, 15, 0, 0, 7, 0, [])), (7, (8, 6, 0, 0, 10, 0, [])), (10, (0, 5, 0, 0, 11, 0, [])), (11, (0, 5, 1, 0, 12, 0, [])), (12, (0, 5, 0, 0, 13, 0, [])), (13, (7, 6, 1, 0, 16, 0, [])), (16, (0, 5, 0, 0, 17, 0, [])), (17, (7, 6, 2, 0, 20, 0, [])), (20, (16, 0, 0, 0, 23, 0, [])), (23, (0, 0, 0, 1, 24, 0, [])), (24, (14, 0, 0, 1, 0, 0, []))], [(some 6, 4, [gc_yJx4a65c_add_72be8_zs12])], [], [], [])
theorem gk_yJx4a65c_add_9ea2d_zs12 : ck_chk ge_yJx4a65c_add_9ea2d_zs12 20 = true := by decide +kernel
theorem gd_yJx4a65c_add_9ea2d_zs12 : ck_dec prog_46_method_25_code gt_yJx4a65c_add_9ea2d_zs12 ge_yJx4a65c_add_9ea2d_zs12.2.2.2.2.1 = true := by decide +kernel
theorem gm_yJx4a65c_add_9ea2d_zs12 {l : Launch} {G : am_G} {X : ck_XT} (g : gEl l G X) : ck_Con (am_grow (am_cm l G yJx4a65c_add_9ea2d (.code yJx4a65c_add_9ea2d prog_46_method_25_code 2 (some .boolean)) 8 230)) G X gTl gc_yJx4a65c_add_9ea2d_zs12 :=
  ck_methG (E := ge_yJx4a65c_add_9ea2d_zs12) (tb := gt_yJx4a65c_add_9ea2d_zs12) (init := false) (cm := ck_cms [am_cm l G yJx4a65c_add_72be8 (.code yJx4a65c_add_72be8 prog_46_method_24_code 4 none) 7 200]) g.1 g.2.1 g.2.2.1 g.2.2.2 gTl_w (by decide +kernel) rfl rfl rfl (by decide) gk_yJx4a65c_add_9ea2d_zs12 gd_yJx4a65c_add_9ea2d_zs12 ⟨(List.forall_mem_nil _), (List.forall_mem_nil _), (List.forall_mem_nil _), (List.forall_mem_cons.mpr ⟨⟨⟨_, _, _, rfl, Or.inl w1683⟩, by decide, _, _, g_fd6_1⟩, (List.forall_mem_cons.mpr ⟨⟨⟨_, _, _, rfl, Or.inl w1686⟩, by decide, _, _, g_fd6_2⟩, (List.forall_mem_cons.mpr ⟨⟨⟨_, _, _, rfl, Or.inr (Or.inr ⟨_, w1690, w1689⟩)⟩, by decide, _, _, g_fd6_0⟩, (List.forall_mem_nil _)⟩)⟩)⟩), (List.forall_mem_nil _), (List.forall_mem_nil _), (List.forall_mem_nil _), (List.forall_mem_nil _)⟩ (List.forall_mem_cons.mpr ⟨⟨⟨_, _, _, rfl, Or.inr (Or.inr ⟨_, w1690, w1689⟩)⟩, by decide, _, rfl, Or.inl g_fd6_0⟩, (List.forall_mem_nil _)⟩) (fun h => nomatch h) ⟨_, rfl, rfl⟩ (by decide) (by decide) g_oi g_ar
    (fun s hk _ => (List.forall_mem_nil _)) (fun s hk => (List.forall_mem_nil _)) (ck_cms_okG ⟨(List.forall_mem_cons.mpr ⟨((gm_yJx4a65c_add_72be8_zs12 g)), (List.forall_mem_nil _)⟩), trivial⟩)
    (List.forall_mem_cons.mpr ⟨(ck_kV g_y_yJx4a65c_add_72be8 w1821 w1823 w34 (T := TJx4a65c) (N := 3) rfl (by decide) (by decide) (by decide)), (List.forall_mem_nil _)⟩) (List.forall_mem_nil _) (List.forall_mem_nil _) (List.forall_mem_nil _)
    (List.forall_mem_nil _)
    (ck_no5 rfl)
def gc_yJx4a65c_grow_92f84_zg12 : ck_KK := (([((-2147483648), 2147483647)], [], [(2, 0, 0, 506, (0, 0, (3, []))), (3, 0, 0, 506, (1, 0, (0, [(1, 0)]))), (3, 0, 1, 506, (3, 1, (0, []))), (2, 1, 0, 756, (0, 0, (12, []))), (3, 0, 2, 506, (1, 0, (12, []))), (6, 1, 4, 756, (0, 0, (12, [])))], 2, [(3, 0, (0, [])), (1, 0, (13, []))]), ((1, []), (20, [])), [(506, 1), (756, 1000)], [], ([(15, 20), (15, 20)], [], [(2, 2, 0, 756, (0, 0, (0, [(1, 1)]))), (5, 2, 0, 0, (0, 0, (0, []))), (6, 2, 4, 756, (0, 0, (12, []))), (3, 0, 1, 506, (3, 2, (0, [])))], 1, [(3, 2, (0, []))]), [])
def gt_yJx4a65c_grow_92f84_zg12 : ck_TB := ([], [], [], [(9, 6, 1)], [(9, 6, 1, 4)], [], [], [], ([], [], [(66, 1), (73, 0)], []), [], [], [], 4)
def ge_yJx4a65c_grow_92f84_zg12 : ck_E := (gTl, [], gc_yJx4a65c_grow_92f84_zg12, 4, [(0, (0, 5, 0, 0, 1, 0, [])), (1, (7, 6, 1, 0, 4, 0, [])), (4, (11, 0, 0, 0, 5, 0, [])), (5, (0, 6, 2, 0, 6, 0, [])), (6, (0, 3, 2, 0, 7, 0, [])), (7, (1, 4, 0, 0, 10, 20, [])), (20, (0, 3, 2, 0, 21, 0, [])), (21, (0, 3, 1, 0, 22, 0, [])), (22, (0, 3, 2, 0, 23, 0, [])), (23, (0, 15, 1, 0, 24, 0, [])), (24, (0, 3, 2, 0, 25, 0, [])), (25, (0, 0, 0, 1, 26, 0, [])), (26, (0, 15, 9, 0, 27, 0, [])), (27, (16, 0, 0, 0, 30, 0, [])), (30, (0, 6, 3, 0, 31, 0, [])), (31, (0, 5, 0, 0, 32, 0, [])), (32, (0, 5, 0, 0, 33, 0, [])), (33, (7, 6, 1, 0, 36, 0, [])), (36, (0, 3, 3, 0, 37, 0, [])), (37, (16, 1, 0, 0, 40, 0, [])), (40, (0, 13, 0, 0, 41, 0, [])), (41, (8, 6, 1, 4, 44, 0, [])), (44, (14, 0, 0, 4, 0, 0, []))], [(none, 3, [gc_yJ8_newLength_cabcc_zli]), (none, 2, [gc_yJ7_copyOf_1904c_zs])], [], [], [])
theorem gk_yJx4a65c_grow_92f84_zg12 : ck_chk ge_yJx4a65c_grow_92f84_zg12 28 = true := by decide +kernel
theorem gd_yJx4a65c_grow_92f84_zg12 : ck_dec prog_46_method_6_code gt_yJx4a65c_grow_92f84_zg12 ge_yJx4a65c_grow_92f84_zg12.2.2.2.2.1 = true := by decide +kernel
theorem gm_yJx4a65c_grow_92f84_zg12 {l : Launch} {G : am_G} {X : ck_XT} (g : gEl l G X) : ck_Con (am_grow (am_cm l G yJx4a65c_grow_92f84 (.code yJx4a65c_grow_92f84 prog_46_method_6_code 4 (some (.array (.object "java/lang/Object")))) 5 140)) G X gTl gc_yJx4a65c_grow_92f84_zg12 :=
  ck_methG (E := ge_yJx4a65c_grow_92f84_zg12) (tb := gt_yJx4a65c_grow_92f84_zg12) (init := false) (cm := ck_cms [am_cm l G yJ8_newLength_cabcc (.code yJ8_newLength_cabcc prog_55_method_27_code 4 (some .int)) 2 41, am_cm l G yJ7_copyOf_1904c (.code yJ7_copyOf_1904c prog_48_method_119_code 2 (some (.array (.object "java/lang/Object")))) 3 82]) g.1 g.2.1 g.2.2.1 g.2.2.2 gTl_w (by decide +kernel) rfl rfl rfl (by decide) gk_yJx4a65c_grow_92f84_zg12 gd_yJx4a65c_grow_92f84_zg12 ⟨(List.forall_mem_nil _), (List.forall_mem_nil _), (List.forall_mem_nil _), (List.forall_mem_cons.mpr ⟨⟨⟨_, _, _, rfl, Or.inl w1683⟩, by decide, _, _, g_fd6_1⟩, (List.forall_mem_nil _)⟩), (List.forall_mem_nil _), (List.forall_mem_nil _), (List.forall_mem_nil _), (List.forall_mem_nil _)⟩ (List.forall_mem_cons.mpr ⟨⟨⟨_, _, _, rfl, Or.inl w1683⟩, by decide, _, Or.inr ⟨_, rfl⟩, Or.inl g_fd6_1⟩, (List.forall_mem_nil _)⟩) (fun h => nomatch h) ⟨_, rfl, Or.inr ⟨_, rfl⟩⟩ (by decide) (by decide) g_oi g_ar
    (fun s hk _ => (List.forall_mem_nil _)) (fun s hk => (List.forall_mem_nil _)) (ck_cms_okG ⟨(List.forall_mem_cons.mpr ⟨((gm_yJ8_newLength_cabcc_zli g)), (List.forall_mem_nil _)⟩), (List.forall_mem_cons.mpr ⟨((gm_yJ7_copyOf_1904c_zs g)), (List.forall_mem_nil _)⟩), trivial⟩)
    (List.forall_mem_nil _) (List.forall_mem_nil _) (List.forall_mem_cons.mpr ⟨(ck_kS g_y_yJ7_copyOf_1904c w1834 w1835 (by decide) (by decide)), (List.forall_mem_cons.mpr ⟨(ck_kS g_y_yJ8_newLength_cabcc w1833 w513 (by decide) (by decide)), (List.forall_mem_nil _)⟩)⟩) (List.forall_mem_nil _)
    (List.forall_mem_nil _)
    (ck_no5 rfl)
def gc_yJx4a65c_grow_d5877_zg12 : ck_KK := (([((-2147483648), 2147483647)], [], [(2, 0, 0, 506, (0, 0, (3, []))), (3, 0, 0, 506, (1, 0, (0, [(1, 0)]))), (3, 0, 1, 506, (3, 1, (0, []))), (2, 1, 0, 756, (0, 0, (12, []))), (3, 0, 2, 506, (1, 0, (12, []))), (6, 1, 4, 756, (0, 0, (12, [])))], 2, [(3, 0, (0, []))]), ((1, []), (20, [])), [(506, 1), (756, 1000)], [], ([(15, 20), (15, 20)], [], [(2, 2, 0, 756, (0, 0, (0, [(1, 1)]))), (5, 2, 0, 0, (0, 0, (0, []))), (6, 2, 4, 756, (0, 0, (12, []))), (3, 0, 1, 506, (3, 2, (0, [])))], 1, [(3, 2, (0, []))]), [])
def gt_yJx4a65c_grow_d5877_zg12 : ck_TB := ([], [], [], [(48, 6, 2)], [], [], [], [], ([(69, 0)], [], [], []), [], [], [], 4)
def ge_yJx4a65c_grow_d5877_zg12 : ck_E := (gTl, [], gc_yJx4a65c_grow_d5877_zg12, 1, [(0, (0, 5, 0, 0, 1, 0, [])), (1, (0, 5, 0, 0, 2, 0, [])), (2, (7, 6, 2, 0, 5, 0, [])), (5, (0, 0, 0, 1, 6, 0, [])), (6, (0, 15, 0, 0, 7, 0, [])), (7, (16, 0, 0, 0, 10, 0, [])), (10, (14, 0, 0, 4, 0, 0, []))], [(some 6, 2, [gc_yJx4a65c_grow_92f84_zg12])], [], [], [])
theorem gk_yJx4a65c_grow_d5877_zg12 : ck_chk ge_yJx4a65c_grow_d5877_zg12 12 = true := by decide +kernel
theorem gd_yJx4a65c_grow_d5877_zg12 : ck_dec prog_46_method_7_code gt_yJx4a65c_grow_d5877_zg12 ge_yJx4a65c_grow_d5877_zg12.2.2.2.2.1 = true := by decide +kernel
theorem gm_yJx4a65c_grow_d5877_zg12 {l : Launch} {G : am_G} {X : ck_XT} (g : gEl l G X) : ck_Con (am_grow (am_cm l G yJx4a65c_grow_d5877 (.code yJx4a65c_grow_d5877 prog_46_method_7_code 1 (some (.array (.object "java/lang/Object")))) 6 170)) G X gTl gc_yJx4a65c_grow_d5877_zg12 :=
  ck_methG (E := ge_yJx4a65c_grow_d5877_zg12) (tb := gt_yJx4a65c_grow_d5877_zg12) (init := false) (cm := ck_cms [am_cm l G yJx4a65c_grow_92f84 (.code yJx4a65c_grow_92f84 prog_46_method_6_code 4 (some (.array (.object "java/lang/Object")))) 5 140]) g.1 g.2.1 g.2.2.1 g.2.2.2 gTl_w (by decide +kernel) rfl rfl rfl (by decide) gk_yJx4a65c_grow_d5877_zg12 gd_yJx4a65c_grow_d5877_zg12 ⟨(List.forall_mem_nil _), (List.forall_mem_nil _), (List.forall_mem_nil _), (List.forall_mem_cons.mpr ⟨⟨⟨_, _, _, rfl, Or.inl w1686⟩, by decide, _, _, g_fd6_2⟩, (List.forall_mem_nil _)⟩), (List.forall_mem_nil _), (List.forall_mem_nil _), (List.forall_mem_nil _), (List.forall_mem_nil _)⟩ (List.forall_mem_nil _) (fun h => nomatch h) ⟨_, rfl, Or.inr ⟨_, rfl⟩⟩ (by decide) (by decide) g_oi g_ar
    (fun s hk _ => (List.forall_mem_nil _)) (fun s hk => (List.forall_mem_nil _)) (ck_cms_okG ⟨(List.forall_mem_cons.mpr ⟨((gm_yJx4a65c_grow_92f84_zg12 g)), (List.forall_mem_nil _)⟩), trivial⟩)
    (List.forall_mem_cons.mpr ⟨(ck_kV g_y_yJx4a65c_grow_92f84 w1829 w1831 w36 (T := TJx4a65c) (N := 3) rfl (by decide) (by decide) (by decide)), (List.forall_mem_nil _)⟩) (List.forall_mem_nil _) (List.forall_mem_nil _) (List.forall_mem_nil _)
    (List.forall_mem_nil _)
    (ck_no5 rfl)
def gc_yJx4a65c_add_72be8_zg12 : ck_KK := (([((-2147483648), 2147483647)], [], [(2, 0, 0, 506, (0, 0, (3, []))), (3, 0, 0, 506, (1, 0, (0, [(1, 0)]))), (3, 0, 1, 506, (3, 1, (0, []))), (2, 1, 0, 756, (0, 0, (12, []))), (3, 0, 2, 506, (1, 0, (12, []))), (6, 1, 4, 756, (0, 0, (12, []))), (2, 2, 0, 1018, (0, 0, (4, [])))], 3, [(3, 0, (0, [])), (3, 2, (0, [])), (3, 1, (0, [])), (1, 0, (12, []))]), ((1, []), (20, [])), [(506, 1), (506, 2), (756, 1000)], [], ([(15, 20)], [], [(3, 0, 1, 506, (3, 3, (0, []))), (2, 3, 0, 756, (0, 0, (0, [(1, 1)]))), (5, 3, 0, 0, (0, 0, (0, []))), (6, 3, 4, 756, (0, 0, (13, []))), (3, 0, 2, 506, (1, 0, (13, [])))], 1, []), [])
def gt_yJx4a65c_add_72be8_zg12 : ck_TB := ([], [], [], [], [(48, 6, 2, 0)], [], [], [], ([(129, 0)], [], [], []), [], [], [], 9)
def ge_yJx4a65c_add_72be8_zg12 : ck_E := (gTl, [(56, 18)], gc_yJx4a65c_add_72be8_zg12, 4, [(0, (0, 3, 3, 0, 1, 0, [])), (1, (0, 5, 2, 0, 2, 0, [])), (2, (11, 0, 0, 0, 3, 0, [])), (3, (2, 1, 0, 0, 6, 11, [])), (6, (0, 5, 0, 0, 7, 0, [])), (7, (16, 0, 0, 0, 10, 0, [])), (10, (0, 8, 2, 0, 11, 0, [])), (11, (0, 5, 2, 0, 12, 0, [])), (12, (0, 3, 3, 0, 13, 0, [])), (13, (0, 5, 1, 0, 14, 0, [])), (14, (13, 53, 57, 0, 15, 0, [])), (15, (0, 5, 0, 0, 16, 0, [])), (16, (0, 3, 3, 0, 17, 0, [])), (17, (0, 0, 0, 1, 18, 0, [])), (18, (0, 15, 0, 0, 19, 0, [])), (19, (8, 6, 2, 0, 22, 0, [])), (22, (15, 0, 0, 0, 0, 0, []))], [(some 6, 1, [gc_yJx4a65c_grow_d5877_zg12])], [], [], [])
theorem gk_yJx4a65c_add_72be8_zg12 : ck_chk ge_yJx4a65c_add_72be8_zg12 22 = true := by decide +kernel
theorem gd_yJx4a65c_add_72be8_zg12 : ck_dec prog_46_method_24_code gt_yJx4a65c_add_72be8_zg12 ge_yJx4a65c_add_72be8_zg12.2.2.2.2.1 = true := by decide +kernel
theorem gm_yJx4a65c_add_72be8_zg12 {l : Launch} {G : am_G} {X : ck_XT} (g : gEl l G X) : ck_Con (am_grow (am_cm l G yJx4a65c_add_72be8 (.code yJx4a65c_add_72be8 prog_46_method_24_code 4 none) 7 200)) G X gTl gc_yJx4a65c_add_72be8_zg12 :=
  ck_methG (E := ge_yJx4a65c_add_72be8_zg12) (tb := gt_yJx4a65c_add_72be8_zg12) (init := false) (cm := ck_cms [am_cm l G yJx4a65c_grow_d5877 (.code yJx4a65c_grow_d5877 prog_46_method_7_code 1 (some (.array (.object "java/lang/Object")))) 6 170]) g.1 g.2.1 g.2.2.1 g.2.2.2 gTl_w (by decide +kernel) rfl rfl rfl (by decide) gk_yJx4a65c_add_72be8_zg12 gd_yJx4a65c_add_72be8_zg12 ⟨(List.forall_mem_nil _), (List.forall_mem_nil _), (List.forall_mem_nil _), (List.forall_mem_nil _), (List.forall_mem_nil _), (List.forall_mem_nil _), (List.forall_mem_nil _), (List.forall_mem_nil _)⟩ (List.forall_mem_cons.mpr ⟨⟨⟨_, _, _, rfl, Or.inl w1686⟩, by decide, _, rfl, Or.inl g_fd6_2⟩, (List.forall_mem_nil _)⟩) (fun h => nomatch h) rfl (by decide) (by decide) g_oi g_ar
    (fun s hk _ => (List.forall_mem_cons.mpr ⟨⟨by decide, by decide, am_asg_obj hk (ci := 18) rfl (by decide) w2513⟩, (List.forall_mem_nil _)⟩)) (fun s hk => (List.forall_mem_nil _)) (ck_cms_okG ⟨(List.forall_mem_cons.mpr ⟨((gm_yJx4a65c_grow_d5877_zg12 g)), (List.forall_mem_nil _)⟩), trivial⟩)
    (List.forall_mem_cons.mpr ⟨(ck_kV g_y_yJx4a65c_grow_d5877 w1825 w1827 w35 (T := TJx4a65c) (N := 3) rfl (by decide) (by decide) (by decide)), (List.forall_mem_nil _)⟩) (List.forall_mem_nil _) (List.forall_mem_nil _) (List.forall_mem_nil _)
    (List.forall_mem_nil _)
    (ck_no5 rfl)
def gc_yJx4a65c_add_9ea2d_zg12 : ck_KK := (([((-2147483648), 2147483647)], [], [(2, 0, 0, 506, (0, 0, (3, []))), (3, 0, 0, 506, (1, 0, (0, [(1, 0)]))), (3, 0, 1, 506, (3, 1, (0, []))), (2, 1, 0, 756, (0, 0, (12, []))), (3, 0, 2, 506, (1, 0, (12, []))), (6, 1, 4, 756, (0, 0, (12, []))), (2, 2, 0, 1018, (0, 0, (4, [])))], 3, [(3, 0, (0, [])), (3, 2, (0, []))]), ((1, []), (20, [])), [(506, 0), (506, 1), (506, 2), (756, 1000)], [], ([((-2147483648), 2147483647), (15, 20)], [], [(3, 0, 0, 506, (1, 0, (0, [(1, 1)]))), (3, 0, 1, 506, (3, 3, (0, []))), (2, 3, 0, 756, (0, 0, (0, [(1, 2)]))), (5, 3, 0, 0, (0, 0, (0, []))), (6, 3, 4, 756, (0, 0, (13, []))), (3, 0, 2, 506, (1, 0, (13, [])))], 1, [(1, 0, (1, []))]), [])
def gt_yJx4a65c_add_9ea2d_zg12 : ck_TB := ([], [], [], [(9, 6, 1), (48, 6, 2), (63, 6, 0)], [(63, 6, 0, 0)], [], [], [], ([(131, 0)], [], [], []), [], [], [], 1)
def ge_yJx4a65c_add_9ea2d_zg12 : ck_E := (gTl, [], gc_yJx4a65c_add_9ea2d_zg12, 2, [(0, (0, 5, 0, 0, 1, 0, [])), (1, (0, 12, 0, 0, 2, 0, [])), (2, (7, 6, 0, 0, 5, 0, [])), (5, (0, 0, 0, 1, 6, 0, [])), (6, (0, 15, 0, 0, 7, 0, [])), (7, (8, 6, 0, 0, 10, 0, [])), (10, (0, 5, 0, 0, 11, 0, [])), (11, (0, 5, 1, 0, 12, 0, [])), (12, (0, 5, 0, 0, 13, 0, [])), (13, (7, 6, 1, 0, 16, 0, [])), (16, (0, 5, 0, 0, 17, 0, [])), (17, (7, 6, 2, 0, 20, 0, [])), (20, (16, 0, 0, 0, 23, 0, [])), (23, (0, 0, 0, 1, 24, 0, [])), (24, (14, 0, 0, 1, 0, 0, []))], [(some 6, 4, [gc_yJx4a65c_add_72be8_zg12])], [], [], [])
theorem gk_yJx4a65c_add_9ea2d_zg12 : ck_chk ge_yJx4a65c_add_9ea2d_zg12 20 = true := by decide +kernel
theorem gd_yJx4a65c_add_9ea2d_zg12 : ck_dec prog_46_method_25_code gt_yJx4a65c_add_9ea2d_zg12 ge_yJx4a65c_add_9ea2d_zg12.2.2.2.2.1 = true := by decide +kernel
theorem gm_yJx4a65c_add_9ea2d_zg12 {l : Launch} {G : am_G} {X : ck_XT} (g : gEl l G X) : ck_Con (am_grow (am_cm l G yJx4a65c_add_9ea2d (.code yJx4a65c_add_9ea2d prog_46_method_25_code 2 (some .boolean)) 8 230)) G X gTl gc_yJx4a65c_add_9ea2d_zg12 :=
  ck_methG (E := ge_yJx4a65c_add_9ea2d_zg12) (tb := gt_yJx4a65c_add_9ea2d_zg12) (init := false) (cm := ck_cms [am_cm l G yJx4a65c_add_72be8 (.code yJx4a65c_add_72be8 prog_46_method_24_code 4 none) 7 200]) g.1 g.2.1 g.2.2.1 g.2.2.2 gTl_w (by decide +kernel) rfl rfl rfl (by decide) gk_yJx4a65c_add_9ea2d_zg12 gd_yJx4a65c_add_9ea2d_zg12 ⟨(List.forall_mem_nil _), (List.forall_mem_nil _), (List.forall_mem_nil _), (List.forall_mem_cons.mpr ⟨⟨⟨_, _, _, rfl, Or.inl w1683⟩, by decide, _, _, g_fd6_1⟩, (List.forall_mem_cons.mpr ⟨⟨⟨_, _, _, rfl, Or.inl w1686⟩, by decide, _, _, g_fd6_2⟩, (List.forall_mem_cons.mpr ⟨⟨⟨_, _, _, rfl, Or.inr (Or.inr ⟨_, w1690, w1689⟩)⟩, by decide, _, _, g_fd6_0⟩, (List.forall_mem_nil _)⟩)⟩)⟩), (List.forall_mem_nil _), (List.forall_mem_nil _), (List.forall_mem_nil _), (List.forall_mem_nil _)⟩ (List.forall_mem_cons.mpr ⟨⟨⟨_, _, _, rfl, Or.inr (Or.inr ⟨_, w1690, w1689⟩)⟩, by decide, _, rfl, Or.inl g_fd6_0⟩, (List.forall_mem_nil _)⟩) (fun h => nomatch h) ⟨_, rfl, rfl⟩ (by decide) (by decide) g_oi g_ar
    (fun s hk _ => (List.forall_mem_nil _)) (fun s hk => (List.forall_mem_nil _)) (ck_cms_okG ⟨(List.forall_mem_cons.mpr ⟨((gm_yJx4a65c_add_72be8_zg12 g)), (List.forall_mem_nil _)⟩), trivial⟩)
    (List.forall_mem_cons.mpr ⟨(ck_kV g_y_yJx4a65c_add_72be8 w1821 w1823 w34 (T := TJx4a65c) (N := 3) rfl (by decide) (by decide) (by decide)), (List.forall_mem_nil _)⟩) (List.forall_mem_nil _) (List.forall_mem_nil _) (List.forall_mem_nil _)
    (List.forall_mem_nil _)
    (ck_no5 rfl)
theorem g_y_yJ3_checkIndex_8e157 : ck_y yJ3_checkIndex_8e157 prog_56_method_11_code 3 3 (some .int) := ⟨w847, w114, by decide +kernel, by decide +kernel, by decide +kernel⟩
def gc_yJ3_checkIndex_8e157_za : ck_KK := (([(0, 13), (0, 13)], [((-1), [((-1), 0), (1, 1)])], [], 0, [(1, 0, (0, [(1, 0)])), (1, 0, (0, [(1, 1)])), (4, 0, (0, []))]), ((0, []), (0, [])), [], [], ([], [], [], 0, [(1, 0, (0, [(1, 0)]))]), [])
def gt_yJ3_checkIndex_8e157_za : ck_TB := ([], [], [], [], [], [], [], [], ([], [], [], []), [], [], [], 0)
def ge_yJ3_checkIndex_8e157_za : ck_E := (gTl, [], gc_yJ3_checkIndex_8e157_za, 3, [(0, (0, 3, 0, 0, 1, 0, [])), (1, (1, 2, 0, 0, 4, 9, [])), (4, (0, 3, 0, 0, 5, 0, [])), (5, (0, 3, 1, 0, 6, 0, [])), (6, (2, 2, 0, 0, 9, 16, [])), (16, (0, 3, 0, 0, 17, 0, [])), (17, (14, 0, 0, 0, 0, 0, []))], [], [], [], [])
theorem gk_yJ3_checkIndex_8e157_za : ck_chk ge_yJ3_checkIndex_8e157_za 12 = true := by decide +kernel
theorem gd_yJ3_checkIndex_8e157_za : ck_dec prog_56_method_11_code gt_yJ3_checkIndex_8e157_za ge_yJ3_checkIndex_8e157_za.2.2.2.2.1 = true := by decide +kernel
theorem gm_yJ3_checkIndex_8e157_za {l : Launch} {G : am_G} {X : ck_XT} (g : gEl l G X) : ck_Con (am_grow (am_cm l G yJ3_checkIndex_8e157 (.code yJ3_checkIndex_8e157 prog_56_method_11_code 3 (some .int)) 1 20)) G X gTl gc_yJ3_checkIndex_8e157_za :=
  ck_methG (E := ge_yJ3_checkIndex_8e157_za) (tb := gt_yJ3_checkIndex_8e157_za) (init := false) (cm := ck_cms []) g.1 g.2.1 g.2.2.1 g.2.2.2 gTl_w (by decide +kernel) rfl rfl rfl (by decide) gk_yJ3_checkIndex_8e157_za gd_yJ3_checkIndex_8e157_za ⟨(List.forall_mem_nil _), (List.forall_mem_nil _), (List.forall_mem_nil _), (List.forall_mem_nil _), (List.forall_mem_nil _), (List.forall_mem_nil _), (List.forall_mem_nil _), (List.forall_mem_nil _)⟩ (List.forall_mem_nil _) (fun h => nomatch h) ⟨_, rfl, rfl⟩ (by decide) (by decide) g_oi g_ar
    (fun s hk _ => (List.forall_mem_nil _)) (fun s hk => (List.forall_mem_nil _)) (ck_cms_okG trivial)
    (List.forall_mem_nil _) (List.forall_mem_nil _) (List.forall_mem_nil _) (List.forall_mem_nil _)
    (List.forall_mem_nil _)
    (ck_no5 rfl)
theorem g_y_yJ15_checkIndex_7cf53 : ck_y yJ15_checkIndex_7cf53 prog_52_method_17_code 2 2 (some .int) := ⟨w1908, w113, by decide +kernel, by decide +kernel, by decide +kernel⟩
def gc_yJ15_checkIndex_7cf53_za : ck_KK := (([(0, 13), (0, 13)], [((-1), [((-1), 0), (1, 1)])], [], 0, [(1, 0, (0, [(1, 0)])), (1, 0, (0, [(1, 1)]))]), ((0, []), (0, [])), [], [], ([], [], [], 0, [(1, 0, (0, [(1, 0)]))]), [])
def gt_yJ15_checkIndex_7cf53_za : ck_TB := ([], [], [], [], [], [], [], [], ([], [], [(105, 0)], []), [], [], [], 0)
def ge_yJ15_checkIndex_7cf53_za : ck_E := (gTl, [], gc_yJ15_checkIndex_7cf53_za, 2, [(0, (0, 3, 0, 0, 1, 0, [])), (1, (0, 3, 1, 0, 2, 0, [])), (2, (0, 2, 0, 0, 3, 0, [])), (3, (16, 0, 0, 0, 6, 0, [])), (6, (14, 0, 0, 0, 0, 0, []))], [(none, 3, [gc_yJ3_checkIndex_8e157_za])], [], [], [])
theorem gk_yJ15_checkIndex_7cf53_za : ck_chk ge_yJ15_checkIndex_7cf53_za 10 = true := by decide +kernel
theorem gd_yJ15_checkIndex_7cf53_za : ck_dec prog_52_method_17_code gt_yJ15_checkIndex_7cf53_za ge_yJ15_checkIndex_7cf53_za.2.2.2.2.1 = true := by decide +kernel
theorem gm_yJ15_checkIndex_7cf53_za {l : Launch} {G : am_G} {X : ck_XT} (g : gEl l G X) : ck_Con (am_grow (am_cm l G yJ15_checkIndex_7cf53 (.code yJ15_checkIndex_7cf53 prog_52_method_17_code 2 (some .int)) 2 42)) G X gTl gc_yJ15_checkIndex_7cf53_za :=
  ck_methG (E := ge_yJ15_checkIndex_7cf53_za) (tb := gt_yJ15_checkIndex_7cf53_za) (init := false) (cm := ck_cms [am_cm l G yJ3_checkIndex_8e157 (.code yJ3_checkIndex_8e157 prog_56_method_11_code 3 (some .int)) 1 20]) g.1 g.2.1 g.2.2.1 g.2.2.2 gTl_w (by decide +kernel) rfl rfl rfl (by decide) gk_yJ15_checkIndex_7cf53_za gd_yJ15_checkIndex_7cf53_za ⟨(List.forall_mem_nil _), (List.forall_mem_nil _), (List.forall_mem_nil _), (List.forall_mem_nil _), (List.forall_mem_nil _), (List.forall_mem_nil _), (List.forall_mem_nil _), (List.forall_mem_nil _)⟩ (List.forall_mem_nil _) (fun h => nomatch h) ⟨_, rfl, rfl⟩ (by decide) (by decide) g_oi g_ar
    (fun s hk _ => (List.forall_mem_nil _)) (fun s hk => (List.forall_mem_nil _)) (ck_cms_okG ⟨(List.forall_mem_cons.mpr ⟨((gm_yJ3_checkIndex_8e157_za g)), (List.forall_mem_nil _)⟩), trivial⟩)
    (List.forall_mem_nil _) (List.forall_mem_nil _) (List.forall_mem_cons.mpr ⟨(ck_kS g_y_yJ3_checkIndex_8e157 w1909 w846 (by decide) (by decide)), (List.forall_mem_nil _)⟩) (List.forall_mem_nil _)
    (List.forall_mem_nil _)
    (ck_no5 rfl)
theorem g_y_yJx4a65c_fastRemove_b59b0 : ck_y yJx4a65c_fastRemove_b59b0 prog_46_method_39_code 4 2 none := ⟨w1913, w99, by decide +kernel, by decide +kernel, by decide +kernel⟩
def gc_yJx4a65c_fastRemove_b59b0_zr : ck_KK := (([((-2147483648), 2147483647), (10, 24), (1, 13), (0, 12)], [(0, [(1, 1), ((-1), 2)]), ((-1), [(1, 2), ((-1), 3)])], [(2, 0, 0, 506, (0, 0, (3, []))), (3, 0, 0, 506, (1, 0, (0, [(1, 0)]))), (3, 0, 1, 506, (3, 1, (0, []))), (2, 1, 0, 556, (0, 0, (0, [(1, 1)]))), (3, 0, 2, 506, (1, 0, (0, [(1, 2)]))), (6, 1, 4, 556, (0, 0, (0, [(1, 2)])))], 2, [(3, 0, (0, [])), (3, 1, (0, [])), (1, 0, (0, [(1, 3)]))]), ((0, []), (0, [])), [(506, 0), (506, 2), (556, 1000)], [], ([((-2147483648), 2147483647)], [], [(3, 0, 0, 506, (1, 0, (0, [(1, 4)]))), (3, 0, 2, 506, (1, 0, ((-1), [(1, 2)]))), (6, 1, 4, 556, (0, 0, ((-1), [(1, 2)])))], 0, []), [])
def gt_yJx4a65c_fastRemove_b59b0_zr : ck_TB := ([], [], [], [(48, 6, 2), (63, 6, 0)], [(48, 6, 2, 0), (63, 6, 0, 0)], [], [], [], ([], [], [(112, 0)], []), [], [], [], 9)
def ge_yJx4a65c_fastRemove_b59b0_zr : ck_E := (gTl, [], gc_yJx4a65c_fastRemove_b59b0_zr, 4, [(0, (0, 5, 0, 0, 1, 0, [])), (1, (0, 12, 0, 0, 2, 0, [])), (2, (7, 6, 0, 0, 5, 0, [])), (5, (0, 0, 0, 1, 6, 0, [])), (6, (0, 15, 0, 0, 7, 0, [])), (7, (8, 6, 0, 0, 10, 0, [])), (10, (0, 5, 0, 0, 11, 0, [])), (11, (7, 6, 2, 0, 14, 0, [])), (14, (0, 0, 0, 1, 15, 0, [])), (15, (0, 15, 1, 0, 16, 0, [])), (16, (0, 12, 0, 0, 17, 0, [])), (17, (0, 6, 3, 0, 18, 0, [])), (18, (0, 3, 2, 0, 19, 0, [])), (19, (2, 5, 0, 0, 22, 34, [])), (22, (0, 5, 1, 0, 23, 0, [])), (23, (0, 3, 2, 0, 24, 0, [])), (24, (0, 0, 0, 1, 25, 0, [])), (25, (0, 15, 0, 0, 26, 0, [])), (26, (0, 5, 1, 0, 27, 0, [])), (27, (0, 3, 2, 0, 28, 0, [])), (28, (0, 3, 3, 0, 29, 0, [])), (29, (0, 3, 2, 0, 30, 0, [])), (30, (0, 15, 1, 0, 31, 0, [])), (31, (16, 0, 0, 0, 34, 0, [])), (34, (0, 5, 1, 0, 35, 0, [])), (35, (0, 5, 0, 0, 36, 0, [])), (36, (0, 3, 3, 0, 37, 0, [])), (37, (0, 13, 0, 0, 38, 0, [])), (38, (8, 6, 2, 0, 41, 0, [])), (41, (0, 2, 0, 0, 42, 0, [])), (42, (13, 53, 57, 0, 43, 0, [])), (43, (15, 0, 0, 0, 0, 0, []))], [(none, 5, [(ck_arK 556)])], [], [], [])
theorem gk_yJx4a65c_fastRemove_b59b0_zr : ck_chk ge_yJx4a65c_fastRemove_b59b0_zr 45 = true := by decide +kernel
theorem gd_yJx4a65c_fastRemove_b59b0_zr : ck_dec prog_46_method_39_code gt_yJx4a65c_fastRemove_b59b0_zr ge_yJx4a65c_fastRemove_b59b0_zr.2.2.2.2.1 = true := by decide +kernel
theorem gm_yJx4a65c_fastRemove_b59b0_zr {l : Launch} {G : am_G} {X : ck_XT} (g : gEl l G X) : ck_Con (am_grow (am_cm l G yJx4a65c_fastRemove_b59b0 (.code yJx4a65c_fastRemove_b59b0 prog_46_method_39_code 4 none) 2 59)) G X gTl gc_yJx4a65c_fastRemove_b59b0_zr :=
  ck_methG (E := ge_yJx4a65c_fastRemove_b59b0_zr) (tb := gt_yJx4a65c_fastRemove_b59b0_zr) (init := false) (cm := ck_cms [ck_arM G]) g.1 g.2.1 g.2.2.1 g.2.2.2 gTl_w (by decide +kernel) rfl rfl rfl (by decide) gk_yJx4a65c_fastRemove_b59b0_zr gd_yJx4a65c_fastRemove_b59b0_zr ⟨(List.forall_mem_nil _), (List.forall_mem_nil _), (List.forall_mem_nil _), (List.forall_mem_cons.mpr ⟨⟨⟨_, _, _, rfl, Or.inl w1686⟩, by decide, _, _, g_fd6_2⟩, (List.forall_mem_cons.mpr ⟨⟨⟨_, _, _, rfl, Or.inr (Or.inr ⟨_, w1690, w1689⟩)⟩, by decide, _, _, g_fd6_0⟩, (List.forall_mem_nil _)⟩)⟩), (List.forall_mem_nil _), (List.forall_mem_nil _), (List.forall_mem_nil _), (List.forall_mem_nil _)⟩ (List.forall_mem_cons.mpr ⟨⟨⟨_, _, _, rfl, Or.inl w1686⟩, by decide, _, rfl, Or.inl g_fd6_2⟩, (List.forall_mem_cons.mpr ⟨⟨⟨_, _, _, rfl, Or.inr (Or.inr ⟨_, w1690, w1689⟩)⟩, by decide, _, rfl, Or.inl g_fd6_0⟩, (List.forall_mem_nil _)⟩)⟩) (fun h => nomatch h) rfl (by decide) (by decide) g_oi g_ar
    (fun s hk _ => (List.forall_mem_nil _)) (fun s hk => (List.forall_mem_nil _)) (ck_cms_okG ⟨(List.forall_mem_cons.mpr ⟨(ck_ar_con g.2.1 g.2.2.1 (by decide +kernel)), (List.forall_mem_nil _)⟩), trivial⟩)
    (List.forall_mem_nil _) (List.forall_mem_nil _) (List.forall_mem_cons.mpr ⟨(ck_kAR w1914 w538 w537 w105 w2528 w2503 w2513 (by decide) (by decide +kernel)), (List.forall_mem_nil _)⟩) (List.forall_mem_nil _)
    (List.forall_mem_nil _)
    (ck_no5 rfl)
theorem g_y_yJx4a65c_remove_915e3 : ck_y yJx4a65c_remove_915e3 prog_46_method_29_code 4 1 (some (.object "java/lang/Object")) := ⟨w1905, w99, by decide +kernel, by decide +kernel, by decide +kernel⟩
def gc_yJx4a65c_remove_915e3_zr : ck_KK := (([((-2147483648), 2147483647), (10, 24), (1, 13), (0, 12)], [(0, [(1, 1), ((-1), 2)]), ((-1), [(1, 2), ((-1), 3)])], [(2, 0, 0, 506, (0, 0, (3, []))), (3, 0, 0, 506, (1, 0, (0, [(1, 0)]))), (3, 0, 1, 506, (3, 1, (0, []))), (2, 1, 0, 556, (0, 0, (0, [(1, 1)]))), (3, 0, 2, 506, (1, 0, (0, [(1, 2)]))), (6, 1, 4, 556, (0, 0, (0, [(1, 2)])))], 2, [(3, 0, (0, [])), (1, 0, (0, [(1, 3)]))]), ((0, []), (0, [])), [(506, 0), (506, 2), (556, 1000)], [], ([((-2147483648), 2147483647)], [], [(2, 2, 0, 2550, (0, 0, (2, []))), (3, 0, 0, 506, (1, 0, (0, [(1, 4)]))), (3, 0, 2, 506, (1, 0, ((-1), [(1, 2)]))), (6, 1, 4, 556, (0, 0, ((-1), [(1, 2)])))], 1, [(3, 2, (0, []))]), [])
def gt_yJx4a65c_remove_915e3_zr : ck_TB := ([], [], [], [(9, 6, 1), (48, 6, 2)], [], [], [], [], ([(144, 1)], [], [(118, 0)], []), [], [], [], 4)
def ge_yJx4a65c_remove_915e3_zr : ck_E := (gTl, [], gc_yJx4a65c_remove_915e3_zr, 4, [(0, (0, 3, 1, 0, 1, 0, [])), (1, (0, 5, 0, 0, 2, 0, [])), (2, (7, 6, 2, 0, 5, 0, [])), (5, (16, 0, 0, 0, 8, 0, [])), (8, (0, 10, 0, 0, 9, 0, [])), (9, (0, 5, 0, 0, 10, 0, [])), (10, (7, 6, 1, 0, 13, 0, [])), (13, (0, 8, 2, 0, 14, 0, [])), (14, (0, 5, 2, 0, 15, 0, [])), (15, (0, 3, 1, 0, 16, 0, [])), (16, (12, 53, 58, 0, 17, 0, [])), (17, (0, 8, 3, 0, 18, 0, [])), (18, (0, 5, 0, 0, 19, 0, [])), (19, (0, 5, 2, 0, 20, 0, [])), (20, (0, 3, 1, 0, 21, 0, [])), (21, (16, 1, 0, 0, 24, 0, [])), (24, (0, 5, 3, 0, 25, 0, [])), (25, (14, 0, 0, 4, 0, 0, []))], [(none, 2, [gc_yJ15_checkIndex_7cf53_za]), (some 6, 3, [gc_yJx4a65c_fastRemove_b59b0_zr])], [], [], [])
theorem gk_yJx4a65c_remove_915e3_zr : ck_chk ge_yJx4a65c_remove_915e3_zr 23 = true := by decide +kernel
theorem gd_yJx4a65c_remove_915e3_zr : ck_dec prog_46_method_29_code gt_yJx4a65c_remove_915e3_zr ge_yJx4a65c_remove_915e3_zr.2.2.2.2.1 = true := by decide +kernel
theorem gm_yJx4a65c_remove_915e3_zr {l : Launch} {G : am_G} {X : ck_XT} (g : gEl l G X) : ck_Con (am_grow (am_cm l G yJx4a65c_remove_915e3 (.code yJx4a65c_remove_915e3 prog_46_method_29_code 4 (some (.object "java/lang/Object"))) 3 82)) G X gTl gc_yJx4a65c_remove_915e3_zr :=
  ck_methG (E := ge_yJx4a65c_remove_915e3_zr) (tb := gt_yJx4a65c_remove_915e3_zr) (init := false) (cm := ck_cms [am_cm l G yJ15_checkIndex_7cf53 (.code yJ15_checkIndex_7cf53 prog_52_method_17_code 2 (some .int)) 2 42, am_cm l G yJx4a65c_fastRemove_b59b0 (.code yJx4a65c_fastRemove_b59b0 prog_46_method_39_code 4 none) 2 59]) g.1 g.2.1 g.2.2.1 g.2.2.2 gTl_w (by decide +kernel) rfl rfl rfl (by decide) gk_yJx4a65c_remove_915e3_zr gd_yJx4a65c_remove_915e3_zr ⟨(List.forall_mem_nil _), (List.forall_mem_nil _), (List.forall_mem_nil _), (List.forall_mem_cons.mpr ⟨⟨⟨_, _, _, rfl, Or.inl w1683⟩, by decide, _, _, g_fd6_1⟩, (List.forall_mem_cons.mpr ⟨⟨⟨_, _, _, rfl, Or.inl w1686⟩, by decide, _, _, g_fd6_2⟩, (List.forall_mem_nil _)⟩)⟩), (List.forall_mem_nil _), (List.forall_mem_nil _), (List.forall_mem_nil _), (List.forall_mem_nil _)⟩ (List.forall_mem_nil _) (fun h => nomatch h) ⟨_, rfl, Or.inl ⟨_, rfl⟩⟩ (by decide) (by decide) g_oi g_ar
    (fun s hk _ => (List.forall_mem_nil _)) (fun s hk => (List.forall_mem_nil _)) (ck_cms_okG ⟨(List.forall_mem_cons.mpr ⟨((gm_yJ15_checkIndex_7cf53_za g)), (List.forall_mem_nil _)⟩), (List.forall_mem_cons.mpr ⟨((gm_yJx4a65c_fastRemove_b59b0_zr g)), (List.forall_mem_nil _)⟩), trivial⟩)
    (List.forall_mem_cons.mpr ⟨(ck_kV g_y_yJx4a65c_fastRemove_b59b0 w1910 w1912 w37 (T := TJx4a65c) (N := 3) rfl (by decide) (by decide) (by decide)), (List.forall_mem_nil _)⟩) (List.forall_mem_nil _) (List.forall_mem_cons.mpr ⟨(ck_kS g_y_yJ15_checkIndex_7cf53 w1906 w1907 (by decide) (by decide)), (List.forall_mem_nil _)⟩) (List.forall_mem_nil _)
    (List.forall_mem_nil _)
    (ck_no5 rfl)
def gc_yJx4a65c_fastRemove_b59b0_zb1 : ck_KK := (([((-2147483648), 2147483647), (10, 24)], [], [(2, 0, 0, 506, (0, 0, (3, []))), (3, 0, 0, 506, (1, 0, (0, [(1, 0)]))), (3, 0, 1, 506, (3, 1, (0, []))), (2, 1, 0, 656, (0, 0, (0, [(1, 1)]))), (3, 0, 2, 506, (1, 0, (1, []))), (6, 1, 4, 656, (0, 0, (1, [])))], 2, [(3, 0, (0, [])), (3, 1, (0, [])), (1, 0, (0, []))]), ((0, []), (0, [])), [(506, 0), (506, 2), (656, 0)], [], ([((-2147483648), 2147483647)], [], [(3, 0, 0, 506, (1, 0, (0, [(1, 2)]))), (3, 0, 2, 506, (1, 0, (0, []))), (6, 1, 4, 656, (0, 0, (0, [])))], 0, []), [])
def gt_yJx4a65c_fastRemove_b59b0_zb1 : ck_TB := ([], [], [], [(48, 6, 2), (63, 6, 0)], [(48, 6, 2, 0), (63, 6, 0, 0)], [], [], [], ([], [], [], []), [], [], [], 9)
def ge_yJx4a65c_fastRemove_b59b0_zb1 : ck_E := (gTl, [], gc_yJx4a65c_fastRemove_b59b0_zb1, 4, [(0, (0, 5, 0, 0, 1, 0, [])), (1, (0, 12, 0, 0, 2, 0, [])), (2, (7, 6, 0, 0, 5, 0, [])), (5, (0, 0, 0, 1, 6, 0, [])), (6, (0, 15, 0, 0, 7, 0, [])), (7, (8, 6, 0, 0, 10, 0, [])), (10, (0, 5, 0, 0, 11, 0, [])), (11, (7, 6, 2, 0, 14, 0, [])), (14, (0, 0, 0, 1, 15, 0, [])), (15, (0, 15, 1, 0, 16, 0, [])), (16, (0, 12, 0, 0, 17, 0, [])), (17, (0, 6, 3, 0, 18, 0, [])), (18, (0, 3, 2, 0, 19, 0, [])), (19, (2, 5, 0, 0, 22, 34, [])), (34, (0, 5, 1, 0, 35, 0, [])), (35, (0, 5, 0, 0, 36, 0, [])), (36, (0, 3, 3, 0, 37, 0, [])), (37, (0, 13, 0, 0, 38, 0, [])), (38, (8, 6, 2, 0, 41, 0, [])), (41, (0, 2, 0, 0, 42, 0, [])), (42, (13, 53, 57, 0, 43, 0, [])), (43, (15, 0, 0, 0, 0, 0, []))], [], [], [], [])
theorem gk_yJx4a65c_fastRemove_b59b0_zb1 : ck_chk ge_yJx4a65c_fastRemove_b59b0_zb1 27 = true := by decide +kernel
theorem gd_yJx4a65c_fastRemove_b59b0_zb1 : ck_dec prog_46_method_39_code gt_yJx4a65c_fastRemove_b59b0_zb1 ge_yJx4a65c_fastRemove_b59b0_zb1.2.2.2.2.1 = true := by decide +kernel
theorem gm_yJx4a65c_fastRemove_b59b0_zb1 {l : Launch} {G : am_G} {X : ck_XT} (g : gEl l G X) : ck_Con (am_grow (am_cm l G yJx4a65c_fastRemove_b59b0 (.code yJx4a65c_fastRemove_b59b0 prog_46_method_39_code 4 none) 2 59)) G X gTl gc_yJx4a65c_fastRemove_b59b0_zb1 :=
  ck_methG (E := ge_yJx4a65c_fastRemove_b59b0_zb1) (tb := gt_yJx4a65c_fastRemove_b59b0_zb1) (init := false) (cm := ck_cms []) g.1 g.2.1 g.2.2.1 g.2.2.2 gTl_w (by decide +kernel) rfl rfl rfl (by decide) gk_yJx4a65c_fastRemove_b59b0_zb1 gd_yJx4a65c_fastRemove_b59b0_zb1 ⟨(List.forall_mem_nil _), (List.forall_mem_nil _), (List.forall_mem_nil _), (List.forall_mem_cons.mpr ⟨⟨⟨_, _, _, rfl, Or.inl w1686⟩, by decide, _, _, g_fd6_2⟩, (List.forall_mem_cons.mpr ⟨⟨⟨_, _, _, rfl, Or.inr (Or.inr ⟨_, w1690, w1689⟩)⟩, by decide, _, _, g_fd6_0⟩, (List.forall_mem_nil _)⟩)⟩), (List.forall_mem_nil _), (List.forall_mem_nil _), (List.forall_mem_nil _), (List.forall_mem_nil _)⟩ (List.forall_mem_cons.mpr ⟨⟨⟨_, _, _, rfl, Or.inl w1686⟩, by decide, _, rfl, Or.inl g_fd6_2⟩, (List.forall_mem_cons.mpr ⟨⟨⟨_, _, _, rfl, Or.inr (Or.inr ⟨_, w1690, w1689⟩)⟩, by decide, _, rfl, Or.inl g_fd6_0⟩, (List.forall_mem_nil _)⟩)⟩) (fun h => nomatch h) rfl (by decide) (by decide) g_oi g_ar
    (fun s hk _ => (List.forall_mem_nil _)) (fun s hk => (List.forall_mem_nil _)) (ck_cms_okG trivial)
    (List.forall_mem_nil _) (List.forall_mem_nil _) (List.forall_mem_nil _) (List.forall_mem_nil _)
    (List.forall_mem_nil _)
    (ck_no5 rfl)
def gc_yJx4a65c_remove_915e3_zb1 : ck_KK := (([((-2147483648), 2147483647), (10, 24)], [], [(2, 0, 0, 506, (0, 0, (3, []))), (3, 0, 0, 506, (1, 0, (0, [(1, 0)]))), (3, 0, 1, 506, (3, 1, (0, []))), (2, 1, 0, 656, (0, 0, (0, [(1, 1)]))), (3, 0, 2, 506, (1, 0, (1, []))), (6, 1, 4, 656, (0, 0, (1, [])))], 2, [(3, 0, (0, [])), (1, 0, (0, []))]), ((0, []), (0, [])), [(506, 0), (506, 2), (656, 0)], [], ([((-2147483648), 2147483647)], [], [(2, 2, 0, 41002, (0, 0, (1, []))), (3, 0, 0, 506, (1, 0, (0, [(1, 2)]))), (3, 0, 2, 506, (1, 0, (0, []))), (6, 1, 4, 656, (0, 0, (0, [])))], 1, [(3, 2, (0, []))]), [])
def gt_yJx4a65c_remove_915e3_zb1 : ck_TB := ([], [], [], [(9, 6, 1), (48, 6, 2)], [], [], [], [], ([(144, 1)], [], [(118, 0)], []), [], [], [], 4)
def ge_yJx4a65c_remove_915e3_zb1 : ck_E := (gTl, [], gc_yJx4a65c_remove_915e3_zb1, 4, [(0, (0, 3, 1, 0, 1, 0, [])), (1, (0, 5, 0, 0, 2, 0, [])), (2, (7, 6, 2, 0, 5, 0, [])), (5, (16, 0, 0, 0, 8, 0, [])), (8, (0, 10, 0, 0, 9, 0, [])), (9, (0, 5, 0, 0, 10, 0, [])), (10, (7, 6, 1, 0, 13, 0, [])), (13, (0, 8, 2, 0, 14, 0, [])), (14, (0, 5, 2, 0, 15, 0, [])), (15, (0, 3, 1, 0, 16, 0, [])), (16, (12, 53, 58, 0, 17, 0, [])), (17, (0, 8, 3, 0, 18, 0, [])), (18, (0, 5, 0, 0, 19, 0, [])), (19, (0, 5, 2, 0, 20, 0, [])), (20, (0, 3, 1, 0, 21, 0, [])), (21, (16, 1, 0, 0, 24, 0, [])), (24, (0, 5, 3, 0, 25, 0, [])), (25, (14, 0, 0, 4, 0, 0, []))], [(none, 2, [gc_yJ15_checkIndex_7cf53_za]), (some 6, 3, [gc_yJx4a65c_fastRemove_b59b0_zb1])], [], [], [])
theorem gk_yJx4a65c_remove_915e3_zb1 : ck_chk ge_yJx4a65c_remove_915e3_zb1 23 = true := by decide +kernel
theorem gd_yJx4a65c_remove_915e3_zb1 : ck_dec prog_46_method_29_code gt_yJx4a65c_remove_915e3_zb1 ge_yJx4a65c_remove_915e3_zb1.2.2.2.2.1 = true := by decide +kernel
theorem gm_yJx4a65c_remove_915e3_zb1 {l : Launch} {G : am_G} {X : ck_XT} (g : gEl l G X) : ck_Con (am_grow (am_cm l G yJx4a65c_remove_915e3 (.code yJx4a65c_remove_915e3 prog_46_method_29_code 4 (some (.object "java/lang/Object"))) 3 82)) G X gTl gc_yJx4a65c_remove_915e3_zb1 :=
  ck_methG (E := ge_yJx4a65c_remove_915e3_zb1) (tb := gt_yJx4a65c_remove_915e3_zb1) (init := false) (cm := ck_cms [am_cm l G yJ15_checkIndex_7cf53 (.code yJ15_checkIndex_7cf53 prog_52_method_17_code 2 (some .int)) 2 42, am_cm l G yJx4a65c_fastRemove_b59b0 (.code yJx4a65c_fastRemove_b59b0 prog_46_method_39_code 4 none) 2 59]) g.1 g.2.1 g.2.2.1 g.2.2.2 gTl_w (by decide +kernel) rfl rfl rfl (by decide) gk_yJx4a65c_remove_915e3_zb1 gd_yJx4a65c_remove_915e3_zb1 ⟨(List.forall_mem_nil _), (List.forall_mem_nil _), (List.forall_mem_nil _), (List.forall_mem_cons.mpr ⟨⟨⟨_, _, _, rfl, Or.inl w1683⟩, by decide, _, _, g_fd6_1⟩, (List.forall_mem_cons.mpr ⟨⟨⟨_, _, _, rfl, Or.inl w1686⟩, by decide, _, _, g_fd6_2⟩, (List.forall_mem_nil _)⟩)⟩), (List.forall_mem_nil _), (List.forall_mem_nil _), (List.forall_mem_nil _), (List.forall_mem_nil _)⟩ (List.forall_mem_nil _) (fun h => nomatch h) ⟨_, rfl, Or.inl ⟨_, rfl⟩⟩ (by decide) (by decide) g_oi g_ar
    (fun s hk _ => (List.forall_mem_nil _)) (fun s hk => (List.forall_mem_nil _)) (ck_cms_okG ⟨(List.forall_mem_cons.mpr ⟨((gm_yJ15_checkIndex_7cf53_za g)), (List.forall_mem_nil _)⟩), (List.forall_mem_cons.mpr ⟨((gm_yJx4a65c_fastRemove_b59b0_zb1 g)), (List.forall_mem_nil _)⟩), trivial⟩)
    (List.forall_mem_cons.mpr ⟨(ck_kV g_y_yJx4a65c_fastRemove_b59b0 w1910 w1912 w37 (T := TJx4a65c) (N := 3) rfl (by decide) (by decide) (by decide)), (List.forall_mem_nil _)⟩) (List.forall_mem_nil _) (List.forall_mem_cons.mpr ⟨(ck_kS g_y_yJ15_checkIndex_7cf53 w1906 w1907 (by decide) (by decide)), (List.forall_mem_nil _)⟩) (List.forall_mem_nil _)
    (List.forall_mem_nil _)
    (ck_no5 rfl)
def gc_yJx4a65c_fastRemove_b59b0_zb2 : ck_KK := (([((-2147483648), 2147483647), (10, 24)], [], [(2, 0, 0, 506, (0, 0, (3, []))), (3, 0, 0, 506, (1, 0, (0, [(1, 0)]))), (3, 0, 1, 506, (3, 1, (0, []))), (2, 1, 0, 656, (0, 0, (0, [(1, 1)]))), (3, 0, 2, 506, (1, 0, (2, []))), (6, 1, 4, 656, (0, 0, (2, [])))], 2, [(3, 0, (0, [])), (3, 1, (0, [])), (1, 0, (1, []))]), ((0, []), (0, [])), [(506, 0), (506, 2), (656, 1)], [], ([((-2147483648), 2147483647)], [], [(3, 0, 0, 506, (1, 0, (0, [(1, 2)]))), (3, 0, 2, 506, (1, 0, (1, []))), (6, 1, 4, 656, (0, 0, (1, [])))], 0, []), [])
def gt_yJx4a65c_fastRemove_b59b0_zb2 : ck_TB := ([], [], [], [(48, 6, 2), (63, 6, 0)], [(48, 6, 2, 0), (63, 6, 0, 0)], [], [], [], ([], [], [], []), [], [], [], 9)
def ge_yJx4a65c_fastRemove_b59b0_zb2 : ck_E := (gTl, [], gc_yJx4a65c_fastRemove_b59b0_zb2, 4, [(0, (0, 5, 0, 0, 1, 0, [])), (1, (0, 12, 0, 0, 2, 0, [])), (2, (7, 6, 0, 0, 5, 0, [])), (5, (0, 0, 0, 1, 6, 0, [])), (6, (0, 15, 0, 0, 7, 0, [])), (7, (8, 6, 0, 0, 10, 0, [])), (10, (0, 5, 0, 0, 11, 0, [])), (11, (7, 6, 2, 0, 14, 0, [])), (14, (0, 0, 0, 1, 15, 0, [])), (15, (0, 15, 1, 0, 16, 0, [])), (16, (0, 12, 0, 0, 17, 0, [])), (17, (0, 6, 3, 0, 18, 0, [])), (18, (0, 3, 2, 0, 19, 0, [])), (19, (2, 5, 0, 0, 22, 34, [])), (34, (0, 5, 1, 0, 35, 0, [])), (35, (0, 5, 0, 0, 36, 0, [])), (36, (0, 3, 3, 0, 37, 0, [])), (37, (0, 13, 0, 0, 38, 0, [])), (38, (8, 6, 2, 0, 41, 0, [])), (41, (0, 2, 0, 0, 42, 0, [])), (42, (13, 53, 57, 0, 43, 0, [])), (43, (15, 0, 0, 0, 0, 0, []))], [], [], [], [])
theorem gk_yJx4a65c_fastRemove_b59b0_zb2 : ck_chk ge_yJx4a65c_fastRemove_b59b0_zb2 27 = true := by decide +kernel
theorem gd_yJx4a65c_fastRemove_b59b0_zb2 : ck_dec prog_46_method_39_code gt_yJx4a65c_fastRemove_b59b0_zb2 ge_yJx4a65c_fastRemove_b59b0_zb2.2.2.2.2.1 = true := by decide +kernel
theorem gm_yJx4a65c_fastRemove_b59b0_zb2 {l : Launch} {G : am_G} {X : ck_XT} (g : gEl l G X) : ck_Con (am_grow (am_cm l G yJx4a65c_fastRemove_b59b0 (.code yJx4a65c_fastRemove_b59b0 prog_46_method_39_code 4 none) 2 59)) G X gTl gc_yJx4a65c_fastRemove_b59b0_zb2 :=
  ck_methG (E := ge_yJx4a65c_fastRemove_b59b0_zb2) (tb := gt_yJx4a65c_fastRemove_b59b0_zb2) (init := false) (cm := ck_cms []) g.1 g.2.1 g.2.2.1 g.2.2.2 gTl_w (by decide +kernel) rfl rfl rfl (by decide) gk_yJx4a65c_fastRemove_b59b0_zb2 gd_yJx4a65c_fastRemove_b59b0_zb2 ⟨(List.forall_mem_nil _), (List.forall_mem_nil _), (List.forall_mem_nil _), (List.forall_mem_cons.mpr ⟨⟨⟨_, _, _, rfl, Or.inl w1686⟩, by decide, _, _, g_fd6_2⟩, (List.forall_mem_cons.mpr ⟨⟨⟨_, _, _, rfl, Or.inr (Or.inr ⟨_, w1690, w1689⟩)⟩, by decide, _, _, g_fd6_0⟩, (List.forall_mem_nil _)⟩)⟩), (List.forall_mem_nil _), (List.forall_mem_nil _), (List.forall_mem_nil _), (List.forall_mem_nil _)⟩ (List.forall_mem_cons.mpr ⟨⟨⟨_, _, _, rfl, Or.inl w1686⟩, by decide, _, rfl, Or.inl g_fd6_2⟩, (List.forall_mem_cons.mpr ⟨⟨⟨_, _, _, rfl, Or.inr (Or.inr ⟨_, w1690, w1689⟩)⟩, by decide, _, rfl, Or.inl g_fd6_0⟩, (List.forall_mem_nil _)⟩)⟩) (fun h => nomatch h) rfl (by decide) (by decide) g_oi g_ar
    (fun s hk _ => (List.forall_mem_nil _)) (fun s hk => (List.forall_mem_nil _)) (ck_cms_okG trivial)
    (List.forall_mem_nil _) (List.forall_mem_nil _) (List.forall_mem_nil _) (List.forall_mem_nil _)
    (List.forall_mem_nil _)
    (ck_no5 rfl)
def gc_yJx4a65c_remove_915e3_zb2 : ck_KK := (([((-2147483648), 2147483647), (10, 24)], [], [(2, 0, 0, 506, (0, 0, (3, []))), (3, 0, 0, 506, (1, 0, (0, [(1, 0)]))), (3, 0, 1, 506, (3, 1, (0, []))), (2, 1, 0, 656, (0, 0, (0, [(1, 1)]))), (3, 0, 2, 506, (1, 0, (2, []))), (6, 1, 4, 656, (0, 0, (2, [])))], 2, [(3, 0, (0, [])), (1, 0, (1, []))]), ((0, []), (0, [])), [(506, 0), (506, 2), (656, 1)], [], ([((-2147483648), 2147483647)], [], [(2, 2, 0, 41002, (0, 0, (1, []))), (3, 0, 0, 506, (1, 0, (0, [(1, 2)]))), (3, 0, 2, 506, (1, 0, (1, []))), (6, 1, 4, 656, (0, 0, (1, [])))], 1, [(3, 2, (0, []))]), [])
def gt_yJx4a65c_remove_915e3_zb2 : ck_TB := ([], [], [], [(9, 6, 1), (48, 6, 2)], [], [], [], [], ([(144, 1)], [], [(118, 0)], []), [], [], [], 4)
def ge_yJx4a65c_remove_915e3_zb2 : ck_E := (gTl, [], gc_yJx4a65c_remove_915e3_zb2, 4, [(0, (0, 3, 1, 0, 1, 0, [])), (1, (0, 5, 0, 0, 2, 0, [])), (2, (7, 6, 2, 0, 5, 0, [])), (5, (16, 0, 0, 0, 8, 0, [])), (8, (0, 10, 0, 0, 9, 0, [])), (9, (0, 5, 0, 0, 10, 0, [])), (10, (7, 6, 1, 0, 13, 0, [])), (13, (0, 8, 2, 0, 14, 0, [])), (14, (0, 5, 2, 0, 15, 0, [])), (15, (0, 3, 1, 0, 16, 0, [])), (16, (12, 53, 58, 0, 17, 0, [])), (17, (0, 8, 3, 0, 18, 0, [])), (18, (0, 5, 0, 0, 19, 0, [])), (19, (0, 5, 2, 0, 20, 0, [])), (20, (0, 3, 1, 0, 21, 0, [])), (21, (16, 1, 0, 0, 24, 0, [])), (24, (0, 5, 3, 0, 25, 0, [])), (25, (14, 0, 0, 4, 0, 0, []))], [(none, 2, [gc_yJ15_checkIndex_7cf53_za]), (some 6, 3, [gc_yJx4a65c_fastRemove_b59b0_zb2])], [], [], [])
theorem gk_yJx4a65c_remove_915e3_zb2 : ck_chk ge_yJx4a65c_remove_915e3_zb2 23 = true := by decide +kernel
theorem gd_yJx4a65c_remove_915e3_zb2 : ck_dec prog_46_method_29_code gt_yJx4a65c_remove_915e3_zb2 ge_yJx4a65c_remove_915e3_zb2.2.2.2.2.1 = true := by decide +kernel
theorem gm_yJx4a65c_remove_915e3_zb2 {l : Launch} {G : am_G} {X : ck_XT} (g : gEl l G X) : ck_Con (am_grow (am_cm l G yJx4a65c_remove_915e3 (.code yJx4a65c_remove_915e3 prog_46_method_29_code 4 (some (.object "java/lang/Object"))) 3 82)) G X gTl gc_yJx4a65c_remove_915e3_zb2 :=
  ck_methG (E := ge_yJx4a65c_remove_915e3_zb2) (tb := gt_yJx4a65c_remove_915e3_zb2) (init := false) (cm := ck_cms [am_cm l G yJ15_checkIndex_7cf53 (.code yJ15_checkIndex_7cf53 prog_52_method_17_code 2 (some .int)) 2 42, am_cm l G yJx4a65c_fastRemove_b59b0 (.code yJx4a65c_fastRemove_b59b0 prog_46_method_39_code 4 none) 2 59]) g.1 g.2.1 g.2.2.1 g.2.2.2 gTl_w (by decide +kernel) rfl rfl rfl (by decide) gk_yJx4a65c_remove_915e3_zb2 gd_yJx4a65c_remove_915e3_zb2 ⟨(List.forall_mem_nil _), (List.forall_mem_nil _), (List.forall_mem_nil _), (List.forall_mem_cons.mpr ⟨⟨⟨_, _, _, rfl, Or.inl w1683⟩, by decide, _, _, g_fd6_1⟩, (List.forall_mem_cons.mpr ⟨⟨⟨_, _, _, rfl, Or.inl w1686⟩, by decide, _, _, g_fd6_2⟩, (List.forall_mem_nil _)⟩)⟩), (List.forall_mem_nil _), (List.forall_mem_nil _), (List.forall_mem_nil _), (List.forall_mem_nil _)⟩ (List.forall_mem_nil _) (fun h => nomatch h) ⟨_, rfl, Or.inl ⟨_, rfl⟩⟩ (by decide) (by decide) g_oi g_ar
    (fun s hk _ => (List.forall_mem_nil _)) (fun s hk => (List.forall_mem_nil _)) (ck_cms_okG ⟨(List.forall_mem_cons.mpr ⟨((gm_yJ15_checkIndex_7cf53_za g)), (List.forall_mem_nil _)⟩), (List.forall_mem_cons.mpr ⟨((gm_yJx4a65c_fastRemove_b59b0_zb2 g)), (List.forall_mem_nil _)⟩), trivial⟩)
    (List.forall_mem_cons.mpr ⟨(ck_kV g_y_yJx4a65c_fastRemove_b59b0 w1910 w1912 w37 (T := TJx4a65c) (N := 3) rfl (by decide) (by decide) (by decide)), (List.forall_mem_nil _)⟩) (List.forall_mem_nil _) (List.forall_mem_cons.mpr ⟨(ck_kS g_y_yJ15_checkIndex_7cf53 w1906 w1907 (by decide) (by decide)), (List.forall_mem_nil _)⟩) (List.forall_mem_nil _)
    (List.forall_mem_nil _)
    (ck_no5 rfl)
def gc_yJx4a65c_fastRemove_b59b0_zb3 : ck_KK := (([((-2147483648), 2147483647), (10, 24)], [], [(2, 0, 0, 506, (0, 0, (3, []))), (3, 0, 0, 506, (1, 0, (0, [(1, 0)]))), (3, 0, 1, 506, (3, 1, (0, []))), (2, 1, 0, 656, (0, 0, (0, [(1, 1)]))), (3, 0, 2, 506, (1, 0, (3, []))), (6, 1, 4, 656, (0, 0, (3, [])))], 2, [(3, 0, (0, [])), (3, 1, (0, [])), (1, 0, (2, []))]), ((0, []), (0, [])), [(506, 0), (506, 2), (656, 2)], [], ([((-2147483648), 2147483647)], [], [(3, 0, 0, 506, (1, 0, (0, [(1, 2)]))), (3, 0, 2, 506, (1, 0, (2, []))), (6, 1, 4, 656, (0, 0, (2, [])))], 0, []), [])
def gt_yJx4a65c_fastRemove_b59b0_zb3 : ck_TB := ([], [], [], [(48, 6, 2), (63, 6, 0)], [(48, 6, 2, 0), (63, 6, 0, 0)], [], [], [], ([], [], [], []), [], [], [], 9)
def ge_yJx4a65c_fastRemove_b59b0_zb3 : ck_E := (gTl, [], gc_yJx4a65c_fastRemove_b59b0_zb3, 4, [(0, (0, 5, 0, 0, 1, 0, [])), (1, (0, 12, 0, 0, 2, 0, [])), (2, (7, 6, 0, 0, 5, 0, [])), (5, (0, 0, 0, 1, 6, 0, [])), (6, (0, 15, 0, 0, 7, 0, [])), (7, (8, 6, 0, 0, 10, 0, [])), (10, (0, 5, 0, 0, 11, 0, [])), (11, (7, 6, 2, 0, 14, 0, [])), (14, (0, 0, 0, 1, 15, 0, [])), (15, (0, 15, 1, 0, 16, 0, [])), (16, (0, 12, 0, 0, 17, 0, [])), (17, (0, 6, 3, 0, 18, 0, [])), (18, (0, 3, 2, 0, 19, 0, [])), (19, (2, 5, 0, 0, 22, 34, [])), (34, (0, 5, 1, 0, 35, 0, [])), (35, (0, 5, 0, 0, 36, 0, [])), (36, (0, 3, 3, 0, 37, 0, [])), (37, (0, 13, 0, 0, 38, 0, [])), (38, (8, 6, 2, 0, 41, 0, [])), (41, (0, 2, 0, 0, 42, 0, [])), (42, (13, 53, 57, 0, 43, 0, [])), (43, (15, 0, 0, 0, 0, 0, []))], [], [], [], [])
theorem gk_yJx4a65c_fastRemove_b59b0_zb3 : ck_chk ge_yJx4a65c_fastRemove_b59b0_zb3 27 = true := by decide +kernel
theorem gd_yJx4a65c_fastRemove_b59b0_zb3 : ck_dec prog_46_method_39_code gt_yJx4a65c_fastRemove_b59b0_zb3 ge_yJx4a65c_fastRemove_b59b0_zb3.2.2.2.2.1 = true := by decide +kernel
theorem gm_yJx4a65c_fastRemove_b59b0_zb3 {l : Launch} {G : am_G} {X : ck_XT} (g : gEl l G X) : ck_Con (am_grow (am_cm l G yJx4a65c_fastRemove_b59b0 (.code yJx4a65c_fastRemove_b59b0 prog_46_method_39_code 4 none) 2 59)) G X gTl gc_yJx4a65c_fastRemove_b59b0_zb3 :=
  ck_methG (E := ge_yJx4a65c_fastRemove_b59b0_zb3) (tb := gt_yJx4a65c_fastRemove_b59b0_zb3) (init := false) (cm := ck_cms []) g.1 g.2.1 g.2.2.1 g.2.2.2 gTl_w (by decide +kernel) rfl rfl rfl (by decide) gk_yJx4a65c_fastRemove_b59b0_zb3 gd_yJx4a65c_fastRemove_b59b0_zb3 ⟨(List.forall_mem_nil _), (List.forall_mem_nil _), (List.forall_mem_nil _), (List.forall_mem_cons.mpr ⟨⟨⟨_, _, _, rfl, Or.inl w1686⟩, by decide, _, _, g_fd6_2⟩, (List.forall_mem_cons.mpr ⟨⟨⟨_, _, _, rfl, Or.inr (Or.inr ⟨_, w1690, w1689⟩)⟩, by decide, _, _, g_fd6_0⟩, (List.forall_mem_nil _)⟩)⟩), (List.forall_mem_nil _), (List.forall_mem_nil _), (List.forall_mem_nil _), (List.forall_mem_nil _)⟩ (List.forall_mem_cons.mpr ⟨⟨⟨_, _, _, rfl, Or.inl w1686⟩, by decide, _, rfl, Or.inl g_fd6_2⟩, (List.forall_mem_cons.mpr ⟨⟨⟨_, _, _, rfl, Or.inr (Or.inr ⟨_, w1690, w1689⟩)⟩, by decide, _, rfl, Or.inl g_fd6_0⟩, (List.forall_mem_nil _)⟩)⟩) (fun h => nomatch h) rfl (by decide) (by decide) g_oi g_ar
    (fun s hk _ => (List.forall_mem_nil _)) (fun s hk => (List.forall_mem_nil _)) (ck_cms_okG trivial)
    (List.forall_mem_nil _) (List.forall_mem_nil _) (List.forall_mem_nil _) (List.forall_mem_nil _)
    (List.forall_mem_nil _)
    (ck_no5 rfl)
def gc_yJx4a65c_remove_915e3_zb3 : ck_KK := (([((-2147483648), 2147483647), (10, 24)], [], [(2, 0, 0, 506, (0, 0, (3, []))), (3, 0, 0, 506, (1, 0, (0, [(1, 0)]))), (3, 0, 1, 506, (3, 1, (0, []))), (2, 1, 0, 656, (0, 0, (0, [(1, 1)]))), (3, 0, 2, 506, (1, 0, (3, []))), (6, 1, 4, 656, (0, 0, (3, [])))], 2, [(3, 0, (0, [])), (1, 0, (2, []))]), ((0, []), (0, [])), [(506, 0), (506, 2), (656, 2)], [], ([((-2147483648), 2147483647)], [], [(2, 2, 0, 41002, (0, 0, (1, []))), (3, 0, 0, 506, (1, 0, (0, [(1, 2)]))), (3, 0, 2, 506, (1, 0, (2, []))), (6, 1, 4, 656, (0, 0, (2, [])))], 1, [(3, 2, (0, []))]), [])
def gt_yJx4a65c_remove_915e3_zb3 : ck_TB := ([], [], [], [(9, 6, 1), (48, 6, 2)], [], [], [], [], ([(144, 1)], [], [(118, 0)], []), [], [], [], 4)
def ge_yJx4a65c_remove_915e3_zb3 : ck_E := (gTl, [], gc_yJx4a65c_remove_915e3_zb3, 4, [(0, (0, 3, 1, 0, 1, 0, [])), (1, (0, 5, 0, 0, 2, 0, [])), (2, (7, 6, 2, 0, 5, 0, [])), (5, (16, 0, 0, 0, 8, 0, [])), (8, (0, 10, 0, 0, 9, 0, [])), (9, (0, 5, 0, 0, 10, 0, [])), (10, (7, 6, 1, 0, 13, 0, [])), (13, (0, 8, 2, 0, 14, 0, [])), (14, (0, 5, 2, 0, 15, 0, [])), (15, (0, 3, 1, 0, 16, 0, [])), (16, (12, 53, 58, 0, 17, 0, [])), (17, (0, 8, 3, 0, 18, 0, [])), (18, (0, 5, 0, 0, 19, 0, [])), (19, (0, 5, 2, 0, 20, 0, [])), (20, (0, 3, 1, 0, 21, 0, [])), (21, (16, 1, 0, 0, 24, 0, [])), (24, (0, 5, 3, 0, 25, 0, [])), (25, (14, 0, 0, 4, 0, 0, []))], [(none, 2, [gc_yJ15_checkIndex_7cf53_za]), (some 6, 3, [gc_yJx4a65c_fastRemove_b59b0_zb3])], [], [], [])
theorem gk_yJx4a65c_remove_915e3_zb3 : ck_chk ge_yJx4a65c_remove_915e3_zb3 23 = true := by decide +kernel
theorem gd_yJx4a65c_remove_915e3_zb3 : ck_dec prog_46_method_29_code gt_yJx4a65c_remove_915e3_zb3 ge_yJx4a65c_remove_915e3_zb3.2.2.2.2.1 = true := by decide +kernel
theorem gm_yJx4a65c_remove_915e3_zb3 {l : Launch} {G : am_G} {X : ck_XT} (g : gEl l G X) : ck_Con (am_grow (am_cm l G yJx4a65c_remove_915e3 (.code yJx4a65c_remove_915e3 prog_46_method_29_code 4 (some (.object "java/lang/Object"))) 3 82)) G X gTl gc_yJx4a65c_remove_915e3_zb3 :=
  ck_methG (E := ge_yJx4a65c_remove_915e3_zb3) (tb := gt_yJx4a65c_remove_915e3_zb3) (init := false) (cm := ck_cms [am_cm l G yJ15_checkIndex_7cf53 (.code yJ15_checkIndex_7cf53 prog_52_method_17_code 2 (some .int)) 2 42, am_cm l G yJx4a65c_fastRemove_b59b0 (.code yJx4a65c_fastRemove_b59b0 prog_46_method_39_code 4 none) 2 59]) g.1 g.2.1 g.2.2.1 g.2.2.2 gTl_w (by decide +kernel) rfl rfl rfl (by decide) gk_yJx4a65c_remove_915e3_zb3 gd_yJx4a65c_remove_915e3_zb3 ⟨(List.forall_mem_nil _), (List.forall_mem_nil _), (List.forall_mem_nil _), (List.forall_mem_cons.mpr ⟨⟨⟨_, _, _, rfl, Or.inl w1683⟩, by decide, _, _, g_fd6_1⟩, (List.forall_mem_cons.mpr ⟨⟨⟨_, _, _, rfl, Or.inl w1686⟩, by decide, _, _, g_fd6_2⟩, (List.forall_mem_nil _)⟩)⟩), (List.forall_mem_nil _), (List.forall_mem_nil _), (List.forall_mem_nil _), (List.forall_mem_nil _)⟩ (List.forall_mem_nil _) (fun h => nomatch h) ⟨_, rfl, Or.inl ⟨_, rfl⟩⟩ (by decide) (by decide) g_oi g_ar
    (fun s hk _ => (List.forall_mem_nil _)) (fun s hk => (List.forall_mem_nil _)) (ck_cms_okG ⟨(List.forall_mem_cons.mpr ⟨((gm_yJ15_checkIndex_7cf53_za g)), (List.forall_mem_nil _)⟩), (List.forall_mem_cons.mpr ⟨((gm_yJx4a65c_fastRemove_b59b0_zb3 g)), (List.forall_mem_nil _)⟩), trivial⟩)
    (List.forall_mem_cons.mpr ⟨(ck_kV g_y_yJx4a65c_fastRemove_b59b0 w1910 w1912 w37 (T := TJx4a65c) (N := 3) rfl (by decide) (by decide) (by decide)), (List.forall_mem_nil _)⟩) (List.forall_mem_nil _) (List.forall_mem_cons.mpr ⟨(ck_kS g_y_yJ15_checkIndex_7cf53 w1906 w1907 (by decide) (by decide)), (List.forall_mem_nil _)⟩) (List.forall_mem_nil _)
    (List.forall_mem_nil _)
    (ck_no5 rfl)
def gc_yJx4a65c_fastRemove_b59b0_zb4 : ck_KK := (([((-2147483648), 2147483647), (10, 24)], [], [(2, 0, 0, 506, (0, 0, (3, []))), (3, 0, 0, 506, (1, 0, (0, [(1, 0)]))), (3, 0, 1, 506, (3, 1, (0, []))), (2, 1, 0, 656, (0, 0, (0, [(1, 1)]))), (3, 0, 2, 506, (1, 0, (4, []))), (6, 1, 4, 656, (0, 0, (4, [])))], 2, [(3, 0, (0, [])), (3, 1, (0, [])), (1, 0, (3, []))]), ((0, []), (0, [])), [(506, 0), (506, 2), (656, 3)], [], ([((-2147483648), 2147483647)], [], [(3, 0, 0, 506, (1, 0, (0, [(1, 2)]))), (3, 0, 2, 506, (1, 0, (3, []))), (6, 1, 4, 656, (0, 0, (3, [])))], 0, []), [])
def gt_yJx4a65c_fastRemove_b59b0_zb4 : ck_TB := ([], [], [], [(48, 6, 2), (63, 6, 0)], [(48, 6, 2, 0), (63, 6, 0, 0)], [], [], [], ([], [], [], []), [], [], [], 9)
def ge_yJx4a65c_fastRemove_b59b0_zb4 : ck_E := (gTl, [], gc_yJx4a65c_fastRemove_b59b0_zb4, 4, [(0, (0, 5, 0, 0, 1, 0, [])), (1, (0, 12, 0, 0, 2, 0, [])), (2, (7, 6, 0, 0, 5, 0, [])), (5, (0, 0, 0, 1, 6, 0, [])), (6, (0, 15, 0, 0, 7, 0, [])), (7, (8, 6, 0, 0, 10, 0, [])), (10, (0, 5, 0, 0, 11, 0, [])), (11, (7, 6, 2, 0, 14, 0, [])), (14, (0, 0, 0, 1, 15, 0, [])), (15, (0, 15, 1, 0, 16, 0, [])), (16, (0, 12, 0, 0, 17, 0, [])), (17, (0, 6, 3, 0, 18, 0, [])), (18, (0, 3, 2, 0, 19, 0, [])), (19, (2, 5, 0, 0, 22, 34, [])), (34, (0, 5, 1, 0, 35, 0, [])), (35, (0, 5, 0, 0, 36, 0, [])), (36, (0, 3, 3, 0, 37, 0, [])), (37, (0, 13, 0, 0, 38, 0, [])), (38, (8, 6, 2, 0, 41, 0, [])), (41, (0, 2, 0, 0, 42, 0, [])), (42, (13, 53, 57, 0, 43, 0, [])), (43, (15, 0, 0, 0, 0, 0, []))], [], [], [], [])
theorem gk_yJx4a65c_fastRemove_b59b0_zb4 : ck_chk ge_yJx4a65c_fastRemove_b59b0_zb4 27 = true := by decide +kernel
theorem gd_yJx4a65c_fastRemove_b59b0_zb4 : ck_dec prog_46_method_39_code gt_yJx4a65c_fastRemove_b59b0_zb4 ge_yJx4a65c_fastRemove_b59b0_zb4.2.2.2.2.1 = true := by decide +kernel
theorem gm_yJx4a65c_fastRemove_b59b0_zb4 {l : Launch} {G : am_G} {X : ck_XT} (g : gEl l G X) : ck_Con (am_grow (am_cm l G yJx4a65c_fastRemove_b59b0 (.code yJx4a65c_fastRemove_b59b0 prog_46_method_39_code 4 none) 2 59)) G X gTl gc_yJx4a65c_fastRemove_b59b0_zb4 :=
  ck_methG (E := ge_yJx4a65c_fastRemove_b59b0_zb4) (tb := gt_yJx4a65c_fastRemove_b59b0_zb4) (init := false) (cm := ck_cms []) g.1 g.2.1 g.2.2.1 g.2.2.2 gTl_w (by decide +kernel) rfl rfl rfl (by decide) gk_yJx4a65c_fastRemove_b59b0_zb4 gd_yJx4a65c_fastRemove_b59b0_zb4 ⟨(List.forall_mem_nil _), (List.forall_mem_nil _), (List.forall_mem_nil _), (List.forall_mem_cons.mpr ⟨⟨⟨_, _, _, rfl, Or.inl w1686⟩, by decide, _, _, g_fd6_2⟩, (List.forall_mem_cons.mpr ⟨⟨⟨_, _, _, rfl, Or.inr (Or.inr ⟨_, w1690, w1689⟩)⟩, by decide, _, _, g_fd6_0⟩, (List.forall_mem_nil _)⟩)⟩), (List.forall_mem_nil _), (List.forall_mem_nil _), (List.forall_mem_nil _), (List.forall_mem_nil _)⟩ (List.forall_mem_cons.mpr ⟨⟨⟨_, _, _, rfl, Or.inl w1686⟩, by decide, _, rfl, Or.inl g_fd6_2⟩, (List.forall_mem_cons.mpr ⟨⟨⟨_, _, _, rfl, Or.inr (Or.inr ⟨_, w1690, w1689⟩)⟩, by decide, _, rfl, Or.inl g_fd6_0⟩, (List.forall_mem_nil _)⟩)⟩) (fun h => nomatch h) rfl (by decide) (by decide) g_oi g_ar
    (fun s hk _ => (List.forall_mem_nil _)) (fun s hk => (List.forall_mem_nil _)) (ck_cms_okG trivial)
    (List.forall_mem_nil _) (List.forall_mem_nil _) (List.forall_mem_nil _) (List.forall_mem_nil _)
    (List.forall_mem_nil _)
    (ck_no5 rfl)
def gc_yJx4a65c_remove_915e3_zb4 : ck_KK := (([((-2147483648), 2147483647), (10, 24)], [], [(2, 0, 0, 506, (0, 0, (3, []))), (3, 0, 0, 506, (1, 0, (0, [(1, 0)]))), (3, 0, 1, 506, (3, 1, (0, []))), (2, 1, 0, 656, (0, 0, (0, [(1, 1)]))), (3, 0, 2, 506, (1, 0, (4, []))), (6, 1, 4, 656, (0, 0, (4, [])))], 2, [(3, 0, (0, [])), (1, 0, (3, []))]), ((0, []), (0, [])), [(506, 0), (506, 2), (656, 3)], [], ([((-2147483648), 2147483647)], [], [(2, 2, 0, 41002, (0, 0, (1, []))), (3, 0, 0, 506, (1, 0, (0, [(1, 2)]))), (3, 0, 2, 506, (1, 0, (3, []))), (6, 1, 4, 656, (0, 0, (3, [])))], 1, [(3, 2, (0, []))]), [])
def gt_yJx4a65c_remove_915e3_zb4 : ck_TB := ([], [], [], [(9, 6, 1), (48, 6, 2)], [], [], [], [], ([(144, 1)], [], [(118, 0)], []), [], [], [], 4)
def ge_yJx4a65c_remove_915e3_zb4 : ck_E := (gTl, [], gc_yJx4a65c_remove_915e3_zb4, 4, [(0, (0, 3, 1, 0, 1, 0, [])), (1, (0, 5, 0, 0, 2, 0, [])), (2, (7, 6, 2, 0, 5, 0, [])), (5, (16, 0, 0, 0, 8, 0, [])), (8, (0, 10, 0, 0, 9, 0, [])), (9, (0, 5, 0, 0, 10, 0, [])), (10, (7, 6, 1, 0, 13, 0, [])), (13, (0, 8, 2, 0, 14, 0, [])), (14, (0, 5, 2, 0, 15, 0, [])), (15, (0, 3, 1, 0, 16, 0, [])), (16, (12, 53, 58, 0, 17, 0, [])), (17, (0, 8, 3, 0, 18, 0, [])), (18, (0, 5, 0, 0, 19, 0, [])), (19, (0, 5, 2, 0, 20, 0, [])), (20, (0, 3, 1, 0, 21, 0, [])), (21, (16, 1, 0, 0, 24, 0, [])), (24, (0, 5, 3, 0, 25, 0, [])), (25, (14, 0, 0, 4, 0, 0, []))], [(none, 2, [gc_yJ15_checkIndex_7cf53_za]), (some 6, 3, [gc_yJx4a65c_fastRemove_b59b0_zb4])], [], [], [])
theorem gk_yJx4a65c_remove_915e3_zb4 : ck_chk ge_yJx4a65c_remove_915e3_zb4 23 = true := by decide +kernel
theorem gd_yJx4a65c_remove_915e3_zb4 : ck_dec prog_46_method_29_code gt_yJx4a65c_remove_915e3_zb4 ge_yJx4a65c_remove_915e3_zb4.2.2.2.2.1 = true := by decide +kernel
theorem gm_yJx4a65c_remove_915e3_zb4 {l : Launch} {G : am_G} {X : ck_XT} (g : gEl l G X) : ck_Con (am_grow (am_cm l G yJx4a65c_remove_915e3 (.code yJx4a65c_remove_915e3 prog_46_method_29_code 4 (some (.object "java/lang/Object"))) 3 82)) G X gTl gc_yJx4a65c_remove_915e3_zb4 :=
  ck_methG (E := ge_yJx4a65c_remove_915e3_zb4) (tb := gt_yJx4a65c_remove_915e3_zb4) (init := false) (cm := ck_cms [am_cm l G yJ15_checkIndex_7cf53 (.code yJ15_checkIndex_7cf53 prog_52_method_17_code 2 (some .int)) 2 42, am_cm l G yJx4a65c_fastRemove_b59b0 (.code yJx4a65c_fastRemove_b59b0 prog_46_method_39_code 4 none) 2 59]) g.1 g.2.1 g.2.2.1 g.2.2.2 gTl_w (by decide +kernel) rfl rfl rfl (by decide) gk_yJx4a65c_remove_915e3_zb4 gd_yJx4a65c_remove_915e3_zb4 ⟨(List.forall_mem_nil _), (List.forall_mem_nil _), (List.forall_mem_nil _), (List.forall_mem_cons.mpr ⟨⟨⟨_, _, _, rfl, Or.inl w1683⟩, by decide, _, _, g_fd6_1⟩, (List.forall_mem_cons.mpr ⟨⟨⟨_, _, _, rfl, Or.inl w1686⟩, by decide, _, _, g_fd6_2⟩, (List.forall_mem_nil _)⟩)⟩), (List.forall_mem_nil _), (List.forall_mem_nil _), (List.forall_mem_nil _), (List.forall_mem_nil _)⟩ (List.forall_mem_nil _) (fun h => nomatch h) ⟨_, rfl, Or.inl ⟨_, rfl⟩⟩ (by decide) (by decide) g_oi g_ar
    (fun s hk _ => (List.forall_mem_nil _)) (fun s hk => (List.forall_mem_nil _)) (ck_cms_okG ⟨(List.forall_mem_cons.mpr ⟨((gm_yJ15_checkIndex_7cf53_za g)), (List.forall_mem_nil _)⟩), (List.forall_mem_cons.mpr ⟨((gm_yJx4a65c_fastRemove_b59b0_zb4 g)), (List.forall_mem_nil _)⟩), trivial⟩)
    (List.forall_mem_cons.mpr ⟨(ck_kV g_y_yJx4a65c_fastRemove_b59b0 w1910 w1912 w37 (T := TJx4a65c) (N := 3) rfl (by decide) (by decide) (by decide)), (List.forall_mem_nil _)⟩) (List.forall_mem_nil _) (List.forall_mem_cons.mpr ⟨(ck_kS g_y_yJ15_checkIndex_7cf53 w1906 w1907 (by decide) (by decide)), (List.forall_mem_nil _)⟩) (List.forall_mem_nil _)
    (List.forall_mem_nil _)
    (ck_no5 rfl)
def gc_yJx4a65c_fastRemove_b59b0_zb5 : ck_KK := (([((-2147483648), 2147483647), (10, 24)], [], [(2, 0, 0, 506, (0, 0, (3, []))), (3, 0, 0, 506, (1, 0, (0, [(1, 0)]))), (3, 0, 1, 506, (3, 1, (0, []))), (2, 1, 0, 656, (0, 0, (0, [(1, 1)]))), (3, 0, 2, 506, (1, 0, (5, []))), (6, 1, 4, 656, (0, 0, (5, [])))], 2, [(3, 0, (0, [])), (3, 1, (0, [])), (1, 0, (4, []))]), ((0, []), (0, [])), [(506, 0), (506, 2), (656, 4)], [], ([((-2147483648), 2147483647)], [], [(3, 0, 0, 506, (1, 0, (0, [(1, 2)]))), (3, 0, 2, 506, (1, 0, (4, []))), (6, 1, 4, 656, (0, 0, (4, [])))], 0, []), [])
def gt_yJx4a65c_fastRemove_b59b0_zb5 : ck_TB := ([], [], [], [(48, 6, 2), (63, 6, 0)], [(48, 6, 2, 0), (63, 6, 0, 0)], [], [], [], ([], [], [], []), [], [], [], 9)
def ge_yJx4a65c_fastRemove_b59b0_zb5 : ck_E := (gTl, [], gc_yJx4a65c_fastRemove_b59b0_zb5, 4, [(0, (0, 5, 0, 0, 1, 0, [])), (1, (0, 12, 0, 0, 2, 0, [])), (2, (7, 6, 0, 0, 5, 0, [])), (5, (0, 0, 0, 1, 6, 0, [])), (6, (0, 15, 0, 0, 7, 0, [])), (7, (8, 6, 0, 0, 10, 0, [])), (10, (0, 5, 0, 0, 11, 0, [])), (11, (7, 6, 2, 0, 14, 0, [])), (14, (0, 0, 0, 1, 15, 0, [])), (15, (0, 15, 1, 0, 16, 0, [])), (16, (0, 12, 0, 0, 17, 0, [])), (17, (0, 6, 3, 0, 18, 0, [])), (18, (0, 3, 2, 0, 19, 0, [])), (19, (2, 5, 0, 0, 22, 34, [])), (34, (0, 5, 1, 0, 35, 0, [])), (35, (0, 5, 0, 0, 36, 0, [])), (36, (0, 3, 3, 0, 37, 0, [])), (37, (0, 13, 0, 0, 38, 0, [])), (38, (8, 6, 2, 0, 41, 0, [])), (41, (0, 2, 0, 0, 42, 0, [])), (42, (13, 53, 57, 0, 43, 0, [])), (43, (15, 0, 0, 0, 0, 0, []))], [], [], [], [])
theorem gk_yJx4a65c_fastRemove_b59b0_zb5 : ck_chk ge_yJx4a65c_fastRemove_b59b0_zb5 27 = true := by decide +kernel
theorem gd_yJx4a65c_fastRemove_b59b0_zb5 : ck_dec prog_46_method_39_code gt_yJx4a65c_fastRemove_b59b0_zb5 ge_yJx4a65c_fastRemove_b59b0_zb5.2.2.2.2.1 = true := by decide +kernel
theorem gm_yJx4a65c_fastRemove_b59b0_zb5 {l : Launch} {G : am_G} {X : ck_XT} (g : gEl l G X) : ck_Con (am_grow (am_cm l G yJx4a65c_fastRemove_b59b0 (.code yJx4a65c_fastRemove_b59b0 prog_46_method_39_code 4 none) 2 59)) G X gTl gc_yJx4a65c_fastRemove_b59b0_zb5 :=
  ck_methG (E := ge_yJx4a65c_fastRemove_b59b0_zb5) (tb := gt_yJx4a65c_fastRemove_b59b0_zb5) (init := false) (cm := ck_cms []) g.1 g.2.1 g.2.2.1 g.2.2.2 gTl_w (by decide +kernel) rfl rfl rfl (by decide) gk_yJx4a65c_fastRemove_b59b0_zb5 gd_yJx4a65c_fastRemove_b59b0_zb5 ⟨(List.forall_mem_nil _), (List.forall_mem_nil _), (List.forall_mem_nil _), (List.forall_mem_cons.mpr ⟨⟨⟨_, _, _, rfl, Or.inl w1686⟩, by decide, _, _, g_fd6_2⟩, (List.forall_mem_cons.mpr ⟨⟨⟨_, _, _, rfl, Or.inr (Or.inr ⟨_, w1690, w1689⟩)⟩, by decide, _, _, g_fd6_0⟩, (List.forall_mem_nil _)⟩)⟩), (List.forall_mem_nil _), (List.forall_mem_nil _), (List.forall_mem_nil _), (List.forall_mem_nil _)⟩ (List.forall_mem_cons.mpr ⟨⟨⟨_, _, _, rfl, Or.inl w1686⟩, by decide, _, rfl, Or.inl g_fd6_2⟩, (List.forall_mem_cons.mpr ⟨⟨⟨_, _, _, rfl, Or.inr (Or.inr ⟨_, w1690, w1689⟩)⟩, by decide, _, rfl, Or.inl g_fd6_0⟩, (List.forall_mem_nil _)⟩)⟩) (fun h => nomatch h) rfl (by decide) (by decide) g_oi g_ar
    (fun s hk _ => (List.forall_mem_nil _)) (fun s hk => (List.forall_mem_nil _)) (ck_cms_okG trivial)
    (List.forall_mem_nil _) (List.forall_mem_nil _) (List.forall_mem_nil _) (List.forall_mem_nil _)
    (List.forall_mem_nil _)
    (ck_no5 rfl)
def gc_yJx4a65c_remove_915e3_zb5 : ck_KK := (([((-2147483648), 2147483647), (10, 24)], [], [(2, 0, 0, 506, (0, 0, (3, []))), (3, 0, 0, 506, (1, 0, (0, [(1, 0)]))), (3, 0, 1, 506, (3, 1, (0, []))), (2, 1, 0, 656, (0, 0, (0, [(1, 1)]))), (3, 0, 2, 506, (1, 0, (5, []))), (6, 1, 4, 656, (0, 0, (5, [])))], 2, [(3, 0, (0, [])), (1, 0, (4, []))]), ((0, []), (0, [])), [(506, 0), (506, 2), (656, 4)], [], ([((-2147483648), 2147483647)], [], [(2, 2, 0, 41002, (0, 0, (1, []))), (3, 0, 0, 506, (1, 0, (0, [(1, 2)]))), (3, 0, 2, 506, (1, 0, (4, []))), (6, 1, 4, 656, (0, 0, (4, [])))], 1, [(3, 2, (0, []))]), [])
def gt_yJx4a65c_remove_915e3_zb5 : ck_TB := ([], [], [], [(9, 6, 1), (48, 6, 2)], [], [], [], [], ([(144, 1)], [], [(118, 0)], []), [], [], [], 4)
def ge_yJx4a65c_remove_915e3_zb5 : ck_E := (gTl, [], gc_yJx4a65c_remove_915e3_zb5, 4, [(0, (0, 3, 1, 0, 1, 0, [])), (1, (0, 5, 0, 0, 2, 0, [])), (2, (7, 6, 2, 0, 5, 0, [])), (5, (16, 0, 0, 0, 8, 0, [])), (8, (0, 10, 0, 0, 9, 0, [])), (9, (0, 5, 0, 0, 10, 0, [])), (10, (7, 6, 1, 0, 13, 0, [])), (13, (0, 8, 2, 0, 14, 0, [])), (14, (0, 5, 2, 0, 15, 0, [])), (15, (0, 3, 1, 0, 16, 0, [])), (16, (12, 53, 58, 0, 17, 0, [])), (17, (0, 8, 3, 0, 18, 0, [])), (18, (0, 5, 0, 0, 19, 0, [])), (19, (0, 5, 2, 0, 20, 0, [])), (20, (0, 3, 1, 0, 21, 0, [])), (21, (16, 1, 0, 0, 24, 0, [])), (24, (0, 5, 3, 0, 25, 0, [])), (25, (14, 0, 0, 4, 0, 0, []))], [(none, 2, [gc_yJ15_checkIndex_7cf53_za]), (some 6, 3, [gc_yJx4a65c_fastRemove_b59b0_zb5])], [], [], [])
theorem gk_yJx4a65c_remove_915e3_zb5 : ck_chk ge_yJx4a65c_remove_915e3_zb5 23 = true := by decide +kernel
theorem gd_yJx4a65c_remove_915e3_zb5 : ck_dec prog_46_method_29_code gt_yJx4a65c_remove_915e3_zb5 ge_yJx4a65c_remove_915e3_zb5.2.2.2.2.1 = true := by decide +kernel
theorem gm_yJx4a65c_remove_915e3_zb5 {l : Launch} {G : am_G} {X : ck_XT} (g : gEl l G X) : ck_Con (am_grow (am_cm l G yJx4a65c_remove_915e3 (.code yJx4a65c_remove_915e3 prog_46_method_29_code 4 (some (.object "java/lang/Object"))) 3 82)) G X gTl gc_yJx4a65c_remove_915e3_zb5 :=
  ck_methG (E := ge_yJx4a65c_remove_915e3_zb5) (tb := gt_yJx4a65c_remove_915e3_zb5) (init := false) (cm := ck_cms [am_cm l G yJ15_checkIndex_7cf53 (.code yJ15_checkIndex_7cf53 prog_52_method_17_code 2 (some .int)) 2 42, am_cm l G yJx4a65c_fastRemove_b59b0 (.code yJx4a65c_fastRemove_b59b0 prog_46_method_39_code 4 none) 2 59]) g.1 g.2.1 g.2.2.1 g.2.2.2 gTl_w (by decide +kernel) rfl rfl rfl (by decide) gk_yJx4a65c_remove_915e3_zb5 gd_yJx4a65c_remove_915e3_zb5 ⟨(List.forall_mem_nil _), (List.forall_mem_nil _), (List.forall_mem_nil _), (List.forall_mem_cons.mpr ⟨⟨⟨_, _, _, rfl, Or.inl w1683⟩, by decide, _, _, g_fd6_1⟩, (List.forall_mem_cons.mpr ⟨⟨⟨_, _, _, rfl, Or.inl w1686⟩, by decide, _, _, g_fd6_2⟩, (List.forall_mem_nil _)⟩)⟩), (List.forall_mem_nil _), (List.forall_mem_nil _), (List.forall_mem_nil _), (List.forall_mem_nil _)⟩ (List.forall_mem_nil _) (fun h => nomatch h) ⟨_, rfl, Or.inl ⟨_, rfl⟩⟩ (by decide) (by decide) g_oi g_ar
    (fun s hk _ => (List.forall_mem_nil _)) (fun s hk => (List.forall_mem_nil _)) (ck_cms_okG ⟨(List.forall_mem_cons.mpr ⟨((gm_yJ15_checkIndex_7cf53_za g)), (List.forall_mem_nil _)⟩), (List.forall_mem_cons.mpr ⟨((gm_yJx4a65c_fastRemove_b59b0_zb5 g)), (List.forall_mem_nil _)⟩), trivial⟩)
    (List.forall_mem_cons.mpr ⟨(ck_kV g_y_yJx4a65c_fastRemove_b59b0 w1910 w1912 w37 (T := TJx4a65c) (N := 3) rfl (by decide) (by decide) (by decide)), (List.forall_mem_nil _)⟩) (List.forall_mem_nil _) (List.forall_mem_cons.mpr ⟨(ck_kS g_y_yJ15_checkIndex_7cf53 w1906 w1907 (by decide) (by decide)), (List.forall_mem_nil _)⟩) (List.forall_mem_nil _)
    (List.forall_mem_nil _)
    (ck_no5 rfl)
def gc_yJx4a65c_fastRemove_b59b0_zs : ck_KK := (([((-2147483648), 2147483647), (10, 24), (1, 13), (0, 12)], [(0, [(1, 1), ((-1), 2)]), ((-1), [(1, 2), ((-1), 3)])], [(2, 0, 0, 506, (0, 0, (3, []))), (3, 0, 0, 506, (1, 0, (0, [(1, 0)]))), (3, 0, 1, 506, (3, 1, (0, []))), (2, 1, 0, 756, (0, 0, (0, [(1, 1)]))), (3, 0, 2, 506, (1, 0, (0, [(1, 2)]))), (6, 1, 4, 756, (0, 0, (0, [(1, 2)])))], 2, [(3, 0, (0, [])), (3, 1, (0, [])), (1, 0, (0, [(1, 3)]))]), ((0, []), (0, [])), [(506, 0), (506, 2), (756, 1000)], [], ([((-2147483648), 2147483647)], [], [(3, 0, 0, 506, (1, 0, (0, [(1, 4)]))), (3, 0, 2, 506, (1, 0, ((-1), [(1, 2)]))), (6, 1, 4, 756, (0, 0, ((-1), [(1, 2)])))], 0, []), [])
def gt_yJx4a65c_fastRemove_b59b0_zs : ck_TB := ([], [], [], [(48, 6, 2), (63, 6, 0)], [(48, 6, 2, 0), (63, 6, 0, 0)], [], [], [], ([], [], [(112, 0)], []), [], [], [], 9)
def ge_yJx4a65c_fastRemove_b59b0_zs : ck_E := (gTl, [], gc_yJx4a65c_fastRemove_b59b0_zs, 4, [(0, (0, 5, 0, 0, 1, 0, [])), (1, (0, 12, 0, 0, 2, 0, [])), (2, (7, 6, 0, 0, 5, 0, [])), (5, (0, 0, 0, 1, 6, 0, [])), (6, (0, 15, 0, 0, 7, 0, [])), (7, (8, 6, 0, 0, 10, 0, [])), (10, (0, 5, 0, 0, 11, 0, [])), (11, (7, 6, 2, 0, 14, 0, [])), (14, (0, 0, 0, 1, 15, 0, [])), (15, (0, 15, 1, 0, 16, 0, [])), (16, (0, 12, 0, 0, 17, 0, [])), (17, (0, 6, 3, 0, 18, 0, [])), (18, (0, 3, 2, 0, 19, 0, [])), (19, (2, 5, 0, 0, 22, 34, [])), (22, (0, 5, 1, 0, 23, 0, [])), (23, (0, 3, 2, 0, 24, 0, [])), (24, (0, 0, 0, 1, 25, 0, [])), (25, (0, 15, 0, 0, 26, 0, [])), (26, (0, 5, 1, 0, 27, 0, [])), (27, (0, 3, 2, 0, 28, 0, [])), (28, (0, 3, 3, 0, 29, 0, [])), (29, (0, 3, 2, 0, 30, 0, [])), (30, (0, 15, 1, 0, 31, 0, [])), (31, (16, 0, 0, 0, 34, 0, [])), (34, (0, 5, 1, 0, 35, 0, [])), (35, (0, 5, 0, 0, 36, 0, [])), (36, (0, 3, 3, 0, 37, 0, [])), (37, (0, 13, 0, 0, 38, 0, [])), (38, (8, 6, 2, 0, 41, 0, [])), (41, (0, 2, 0, 0, 42, 0, [])), (42, (13, 53, 57, 0, 43, 0, [])), (43, (15, 0, 0, 0, 0, 0, []))], [(none, 5, [(ck_arK 756)])], [], [], [])
theorem gk_yJx4a65c_fastRemove_b59b0_zs : ck_chk ge_yJx4a65c_fastRemove_b59b0_zs 45 = true := by decide +kernel
theorem gd_yJx4a65c_fastRemove_b59b0_zs : ck_dec prog_46_method_39_code gt_yJx4a65c_fastRemove_b59b0_zs ge_yJx4a65c_fastRemove_b59b0_zs.2.2.2.2.1 = true := by decide +kernel
theorem gm_yJx4a65c_fastRemove_b59b0_zs {l : Launch} {G : am_G} {X : ck_XT} (g : gEl l G X) : ck_Con (am_grow (am_cm l G yJx4a65c_fastRemove_b59b0 (.code yJx4a65c_fastRemove_b59b0 prog_46_method_39_code 4 none) 2 59)) G X gTl gc_yJx4a65c_fastRemove_b59b0_zs :=
  ck_methG (E := ge_yJx4a65c_fastRemove_b59b0_zs) (tb := gt_yJx4a65c_fastRemove_b59b0_zs) (init := false) (cm := ck_cms [ck_arM G]) g.1 g.2.1 g.2.2.1 g.2.2.2 gTl_w (by decide +kernel) rfl rfl rfl (by decide) gk_yJx4a65c_fastRemove_b59b0_zs gd_yJx4a65c_fastRemove_b59b0_zs ⟨(List.forall_mem_nil _), (List.forall_mem_nil _), (List.forall_mem_nil _), (List.forall_mem_cons.mpr ⟨⟨⟨_, _, _, rfl, Or.inl w1686⟩, by decide, _, _, g_fd6_2⟩, (List.forall_mem_cons.mpr ⟨⟨⟨_, _, _, rfl, Or.inr (Or.inr ⟨_, w1690, w1689⟩)⟩, by decide, _, _, g_fd6_0⟩, (List.forall_mem_nil _)⟩)⟩), (List.forall_mem_nil _), (List.forall_mem_nil _), (List.forall_mem_nil _), (List.forall_mem_nil _)⟩ (List.forall_mem_cons.mpr ⟨⟨⟨_, _, _, rfl, Or.inl w1686⟩, by decide, _, rfl, Or.inl g_fd6_2⟩, (List.forall_mem_cons.mpr ⟨⟨⟨_, _, _, rfl, Or.inr (Or.inr ⟨_, w1690, w1689⟩)⟩, by decide, _, rfl, Or.inl g_fd6_0⟩, (List.forall_mem_nil _)⟩)⟩) (fun h => nomatch h) rfl (by decide) (by decide) g_oi g_ar
    (fun s hk _ => (List.forall_mem_nil _)) (fun s hk => (List.forall_mem_nil _)) (ck_cms_okG ⟨(List.forall_mem_cons.mpr ⟨(ck_ar_con g.2.1 g.2.2.1 (by decide +kernel)), (List.forall_mem_nil _)⟩), trivial⟩)
    (List.forall_mem_nil _) (List.forall_mem_nil _) (List.forall_mem_cons.mpr ⟨(ck_kAR w1914 w538 w537 w105 w2528 w2503 w2513 (by decide) (by decide +kernel)), (List.forall_mem_nil _)⟩) (List.forall_mem_nil _)
    (List.forall_mem_nil _)
    (ck_no5 rfl)
def gc_yJx4a65c_remove_915e3_zs : ck_KK := (([((-2147483648), 2147483647), (10, 24), (1, 13), (0, 12)], [(0, [(1, 1), ((-1), 2)]), ((-1), [(1, 2), ((-1), 3)])], [(2, 0, 0, 506, (0, 0, (3, []))), (3, 0, 0, 506, (1, 0, (0, [(1, 0)]))), (3, 0, 1, 506, (3, 1, (0, []))), (2, 1, 0, 756, (0, 0, (0, [(1, 1)]))), (3, 0, 2, 506, (1, 0, (0, [(1, 2)]))), (6, 1, 4, 756, (0, 0, (0, [(1, 2)])))], 2, [(3, 0, (0, [])), (1, 0, (0, [(1, 3)]))]), ((0, []), (0, [])), [(506, 0), (506, 2), (756, 1000)], [], ([((-2147483648), 2147483647)], [], [(2, 2, 0, 1018, (0, 0, (4, []))), (3, 0, 0, 506, (1, 0, (0, [(1, 4)]))), (3, 0, 2, 506, (1, 0, ((-1), [(1, 2)]))), (6, 1, 4, 756, (0, 0, ((-1), [(1, 2)])))], 1, [(3, 2, (0, []))]), [])
def gt_yJx4a65c_remove_915e3_zs : ck_TB := ([], [], [], [(9, 6, 1), (48, 6, 2)], [], [], [], [], ([(144, 1)], [], [(118, 0)], []), [], [], [], 4)
def ge_yJx4a65c_remove_915e3_zs : ck_E := (gTl, [], gc_yJx4a65c_remove_915e3_zs, 4, [(0, (0, 3, 1, 0, 1, 0, [])), (1, (0, 5, 0, 0, 2, 0, [])), (2, (7, 6, 2, 0, 5, 0, [])), (5, (16, 0, 0, 0, 8, 0, [])), (8, (0, 10, 0, 0, 9, 0, [])), (9, (0, 5, 0, 0, 10, 0, [])), (10, (7, 6, 1, 0, 13, 0, [])), (13, (0, 8, 2, 0, 14, 0, [])), (14, (0, 5, 2, 0, 15, 0, [])), (15, (0, 3, 1, 0, 16, 0, [])), (16, (12, 53, 58, 0, 17, 0, [])), (17, (0, 8, 3, 0, 18, 0, [])), (18, (0, 5, 0, 0, 19, 0, [])), (19, (0, 5, 2, 0, 20, 0, [])), (20, (0, 3, 1, 0, 21, 0, [])), (21, (16, 1, 0, 0, 24, 0, [])), (24, (0, 5, 3, 0, 25, 0, [])), (25, (14, 0, 0, 4, 0, 0, []))], [(none, 2, [gc_yJ15_checkIndex_7cf53_za]), (some 6, 3, [gc_yJx4a65c_fastRemove_b59b0_zs])], [], [], [])
theorem gk_yJx4a65c_remove_915e3_zs : ck_chk ge_yJx4a65c_remove_915e3_zs 23 = true := by decide +kernel
theorem gd_yJx4a65c_remove_915e3_zs : ck_dec prog_46_method_29_code gt_yJx4a65c_remove_915e3_zs ge_yJx4a65c_remove_915e3_zs.2.2.2.2.1 = true := by decide +kernel
theorem gm_yJx4a65c_remove_915e3_zs {l : Launch} {G : am_G} {X : ck_XT} (g : gEl l G X) : ck_Con (am_grow (am_cm l G yJx4a65c_remove_915e3 (.code yJx4a65c_remove_915e3 prog_46_method_29_code 4 (some (.object "java/lang/Object"))) 3 82)) G X gTl gc_yJx4a65c_remove_915e3_zs :=
  ck_methG (E := ge_yJx4a65c_remove_915e3_zs) (tb := gt_yJx4a65c_remove_915e3_zs) (init := false) (cm := ck_cms [am_cm l G yJ15_checkIndex_7cf53 (.code yJ15_checkIndex_7cf53 prog_52_method_17_code 2 (some .int)) 2 42, am_cm l G yJx4a65c_fastRemove_b59b0 (.code yJx4a65c_fastRemove_b59b0 prog_46_method_39_code 4 none) 2 59]) g.1 g.2.1 g.2.2.1 g.2.2.2 gTl_w (by decide +kernel) rfl rfl rfl (by decide) gk_yJx4a65c_remove_915e3_zs gd_yJx4a65c_remove_915e3_zs ⟨(List.forall_mem_nil _), (List.forall_mem_nil _), (List.forall_mem_nil _), (List.forall_mem_cons.mpr ⟨⟨⟨_, _, _, rfl, Or.inl w1683⟩, by decide, _, _, g_fd6_1⟩, (List.forall_mem_cons.mpr ⟨⟨⟨_, _, _, rfl, Or.inl w1686⟩, by decide, _, _, g_fd6_2⟩, (List.forall_mem_nil _)⟩)⟩), (List.forall_mem_nil _), (List.forall_mem_nil _), (List.forall_mem_nil _), (List.forall_mem_nil _)⟩ (List.forall_mem_nil _) (fun h => nomatch h) ⟨_, rfl, Or.inl ⟨_, rfl⟩⟩ (by decide) (by decide) g_oi g_ar
    (fun s hk _ => (List.forall_mem_nil _)) (fun s hk => (List.forall_mem_nil _)) (ck_cms_okG ⟨(List.forall_mem_cons.mpr ⟨((gm_yJ15_checkIndex_7cf53_za g)), (List.forall_mem_nil _)⟩), (List.forall_mem_cons.mpr ⟨((gm_yJx4a65c_fastRemove_b59b0_zs g)), (List.forall_mem_nil _)⟩), trivial⟩)
    (List.forall_mem_cons.mpr ⟨(ck_kV g_y_yJx4a65c_fastRemove_b59b0 w1910 w1912 w37 (T := TJx4a65c) (N := 3) rfl (by decide) (by decide) (by decide)), (List.forall_mem_nil _)⟩) (List.forall_mem_nil _) (List.forall_mem_cons.mpr ⟨(ck_kS g_y_yJ15_checkIndex_7cf53 w1906 w1907 (by decide) (by decide)), (List.forall_mem_nil _)⟩) (List.forall_mem_nil _)
    (List.forall_mem_nil _)
    (ck_no5 rfl)
end
section
/-! LISTS: WHAT IS KEPT OF THEM -/
/-- a list: its changes, its row, how many; the row is the empty one, or so many references are ahead in it -/
def li_ok (g : ck_g) (tr : Nat) (vs : List Value) : Prop := ∃ (mc n : Int32) (r : Nat), vs = [.int mc, .ref r, .int n] ∧ 0 ≤ n.toInt ∧ ((g r = some (43056, []) ∧ n.toInt = 0) ∨ ∃ ws : List Value, g r = some (tr, ws) ∧ n.toInt ≤ (ws.length : Int) ∧ ∀ k : Nat, (k : Int) < n.toInt → ∃ q : Nat, ws[k]? = some (.ref q))
/-- the families: the list's kind, its row's, the raw row's, the elements' kind and length, how many at most -/
abbrev li_F : Type := Nat × Nat × Nat × Nat × Nat × Int
def li_fr : li_F := (41006, 40056, 556, 2550, 2, 6)
def li_fb : li_F := (41106, 40156, 656, 41002, 1, 5)
def li_fs : li_F := (41206, 40256, 756, 1018, 4, 13)
def li_Fs : List li_F := [li_fr, li_fb, li_fs]
def li_own (g : ck_g) : Prop := ∀ (q q' t t' r tr : Nat) (vs vs' ws : List Value), (∃ F ∈ li_Fs, F.1 = t) → (∃ F ∈ li_Fs, F.1 = t') → g q = some (t, vs) → g q' = some (t', vs') → vs[1]? = some (.ref r) → vs'[1]? = some (.ref r) → g r = some (tr, ws) → 40000 ≤ tr → tr ≠ 43056 → q = q'
def li_val (g : ck_g) (ws : List Value) (i : Nat) (x : Int) : Prop := ∃ (a : Nat) (u : Int32), ws[i]? = some (.ref a) ∧ g a = some (41002, [.int u]) ∧ u.toInt = x
def li_cp (g : ck_g) (n : Int) (ws : List Value) : Prop := (∀ i : Nat, (i : Int) < n → ∃ x, li_val g ws i x ∧ 2 ≤ x ∧ x ≤ 999) ∧ ∀ (i j : Nat) (x y : Int), i < j → (j : Int) < n → li_val g ws i x → li_val g ws j y → Nat.gcd x.toNat y.toNat = 1
def li_cop (g : ck_g) : Prop := ∀ (q r : Nat) (mc n : Int32) (ws : List Value), g q = some (41106, [.int mc, .ref r, .int n]) → g r = some (40156, ws) → li_cp g n.toInt ws
def li_one (g : ck_g) : Prop := ∀ (t q q' : Nat) (vs vs' : List Value), (t = 43099 ∨ t = 43056) → g q = some (t, vs) → g q' = some (t, vs') → q = q'
/-- rows of digits without needless zeros -/
def li_top (g : ck_g) : Prop := ∀ (q t : Nat) (vs : List Value), (t = 42150 ∨ t = 42350) → g q = some (t, vs) → ∀ v : Value, vs.getLast? = some v → v ≠ .int 0
def li_X : ck_XT := fun g => (∀ F ∈ li_Fs, ∀ (q : Nat) (vs : List Value), g q = some (F.1, vs) → li_ok g F.2.1 vs) ∧ li_own g ∧ li_cop g ∧ li_one g ∧ li_top g
def li_XL : ck_XT := li_one
theorem li_e {g g' : ck_g} (h : ck_Ex2 g g') : ∀ (q t : Nat) (vs : List Value), 40000 ≤ t → (g' q = some (t, vs) ↔ g q = some (t, vs)) :=
  fun q t vs ht => ⟨fun z => h.2 q t vs z ht, fun z => by obtain ⟨vs', a, -, c⟩ := h.1 q t vs z (by omega); rw [c ht] at a; exact a⟩
theorem li_val.tr {g g' : ck_g} (e : ∀ (q : Nat) (vs : List Value), g q = some (41002, vs) → g' q = some (41002, vs)) {ws : List Value} {i : Nat} {x : Int} (h : li_val g ws i x) : li_val g' ws i x := by
  obtain ⟨a, u, h1, h2, h3⟩ := h
  exact ⟨a, u, h1, e _ _ h2, h3⟩
theorem li_cp.tr {g g' : ck_g} (e : ∀ (q : Nat) (vs : List Value), g q = some (41002, vs) ↔ g' q = some (41002, vs)) {n : Int} {ws : List Value} (h : li_cp g n ws) : li_cp g' n ws := by
  refine ⟨fun i hi => ?_, fun i j x y h1 h2 h3 h4 => h.2 i j x y h1 h2 (h3.tr fun q vs => (e q vs).mpr) (h4.tr fun q vs => (e q vs).mpr)⟩
  obtain ⟨x, x1, x2⟩ := h.1 i hi
  exact ⟨x, x1.tr fun q vs => (e q vs).mp, x2⟩
theorem li_one.tr {g g' : ck_g} (e : ∀ (q t : Nat) (vs : List Value), 40000 ≤ t → (g' q = some (t, vs) ↔ g q = some (t, vs))) (h : li_one g) : li_one g' := by
  intro t q q' vs vs' ht h1 h2
  have h40 : 40000 ≤ t := by rcases ht with rfl | rfl <;> decide
  exact h t q q' vs vs' ht ((e _ _ _ h40).mp h1) ((e _ _ _ h40).mp h2)
theorem li_top.tr {g g' : ck_g} (e : ∀ (q t : Nat) (vs : List Value), (t = 42150 ∨ t = 42350) → g' q = some (t, vs) → g q = some (t, vs)) (h : li_top g) : li_top g' := fun q t vs ht h1 => h q t vs ht (e q t vs ht h1)
theorem li_Fs_ge {F : li_F} (h : F ∈ li_Fs) : 40000 ≤ F.1 ∧ 40000 ≤ F.2.1 ∧ F.2.1 ≠ 43056 := by
  have : ∀ F ∈ li_Fs, 40000 ≤ F.1 ∧ 40000 ≤ F.2.1 ∧ F.2.1 ≠ 43056 := by decide
  exact this F h
theorem li_ok.tr {g g' : ck_g} (e : ∀ (q t : Nat) (vs : List Value), 40000 ≤ t → (g' q = some (t, vs) ↔ g q = some (t, vs))) {tr : Nat} (ht : 40000 ≤ tr) {vs : List Value} (h : li_ok g tr vs) : li_ok g' tr vs := by
  obtain ⟨mc, n, r, h1, h2, h3⟩ := h
  refine ⟨mc, n, r, h1, h2, h3.imp (fun z => ⟨(e _ _ _ (by decide)).mpr z.1, z.2⟩) fun ⟨ws, z1, z2⟩ => ⟨ws, (e _ _ _ ht).mpr z1, z2⟩⟩
theorem li_X.tr {g g' : ck_g} (e : ∀ (q t : Nat) (vs : List Value), 40000 ≤ t → (g' q = some (t, vs) ↔ g q = some (t, vs))) (h : li_X g) : li_X g' := by
  obtain ⟨h1, h2, h3, h4, h5⟩ := h
  refine ⟨fun F hF q vs hq => (h1 F hF q vs ((e _ _ _ (li_Fs_ge hF).1).mp hq)).tr e (li_Fs_ge hF).2.1, ?_, ?_, h4.tr e, h5.tr fun q t vs ht z => (e _ _ _ (by rcases ht with rfl | rfl <;> decide)).mp z⟩
  · intro q q' t t' r tr vs vs' ws ht ht' g1 g2 g3 g4 g5 g6 g7
    have k1 : 40000 ≤ t := by obtain ⟨F, f1, rfl⟩ := ht; exact (li_Fs_ge f1).1
    have k2 : 40000 ≤ t' := by obtain ⟨F, f1, rfl⟩ := ht'; exact (li_Fs_ge f1).1
    exact h2 q q' t t' r tr vs vs' ws ht ht' ((e _ _ _ k1).mp g1) ((e _ _ _ k2).mp g2) g3 g4 ((e _ _ _ g6).mp g5) g6 g7
  · intro q r mc n ws g1 g2
    exact (h3 q r mc n ws ((e _ _ _ (by decide)).mp g1) ((e _ _ _ (by decide)).mp g2)).tr fun q vs => (e q _ vs (by decide)).symm
theorem li_XO : ck_XO li_X := fun _ _ h => li_X.tr (li_e h)
theorem li_X0 : ck_X0 li_X := fun _ h t q q' vs vs' ht => h.2.2.2.1 t q q' vs vs' ht
theorem li_XLO : ck_XO li_XL := fun _ _ h => li_one.tr (li_e h)
theorem li_XL0 : ck_X0 li_XL := fun _ h t q q' vs vs' ht => h t q q' vs vs' ht
theorem ck_lk_mem {T : ck_TT} {t : Nat} {d : ck_D} (h : ck_lk T t = some d) : (t, d) ∈ T := by
  induction T with
  | nil => cases h
  | cons x u ih =>
    unfold ck_lk at h
    cases hc : Nat.beq x.1 t
    · rw [hc, cond_false] at h
      exact List.mem_cons_of_mem _ (ih h)
    · rw [hc, cond_true] at h
      have e1 := ck_beq hc
      have e2 : x.2 = d := Option.some.inj h
      rw [← e1, ← e2]
      exact List.mem_cons_self
/-- what the table says of a family -/
theorem li_row {F : li_F} (h : F ∈ li_Fs) : ck_lk gT F.1 = some (0, 3, 3, [(1, 0, -2147483648, 2147483647), (8, 0, 0, 0), (1, 0, 0, F.2.2.2.2.2)]) ∧ ck_lk gT F.2.1 = some (1, 10, 24, [(5, F.2.2.2.1, 0, 0)]) ∧ ck_lk gT F.2.2.1 = some (1, 0, 80, [(5, F.2.2.2.1, 0, 0)]) ∧ ck_lk gT 506 = none := by
  unfold li_Fs at h
  rcases List.mem_cons.mp h with rfl | h
  · exact ⟨rfl, rfl, rfl, rfl⟩
  rcases List.mem_cons.mp h with rfl | h
  · exact ⟨rfl, rfl, rfl, rfl⟩
  rcases List.mem_cons.mp h with rfl | h
  · exact ⟨rfl, rfl, rfl, rfl⟩
  cases h
theorem li_nums {F : li_F} (h : F ∈ li_Fs) : F.1 % 100 = 6 ∧ F.2.1 % 100 = 56 ∧ F.2.2.1 % 100 = 56 ∧ F.2.2.1 < 1000 ∧ 500 ≤ F.2.2.1 ∧ F.2.2.1 ≠ 506 ∧ 1000 ≤ F.2.2.2.1 ∧ F.2.2.2.1 ≠ F.1 ∧ F.2.2.2.1 ≠ F.2.1 ∧ F.1 ≠ F.2.1 ∧ (∀ F' ∈ li_Fs, F.1 ≠ F'.2.1 ∧ F'.1 ≠ F.2.1) ∧ F.1 ≠ 41002 ∧ F.2.1 ≠ 41002 ∧ F.1 ≠ 43056 ∧ F.2.1 ≠ 43099 ∧ F.1 ≠ 43099 := by
  have : ∀ F ∈ li_Fs, F.1 % 100 = 6 ∧ F.2.1 % 100 = 56 ∧ F.2.2.1 % 100 = 56 ∧ F.2.2.1 < 1000 ∧ 500 ≤ F.2.2.1 ∧ F.2.2.1 ≠ 506 ∧ 1000 ≤ F.2.2.2.1 ∧ F.2.2.2.1 ≠ F.1 ∧ F.2.2.2.1 ≠ F.2.1 ∧ F.1 ≠ F.2.1 ∧ (∀ F' ∈ li_Fs, F.1 ≠ F'.2.1 ∧ F'.1 ≠ F.2.1) ∧ F.1 ≠ 41002 ∧ F.2.1 ≠ 41002 ∧ F.1 ≠ 43056 ∧ F.2.1 ≠ 43099 ∧ F.1 ≠ 43099 := by decide
  exact this F h
/-- the heap with one list written anew is as it should be -/
theorem li_up {K : Int32} {g g2 : ck_g} {F : li_F} (hF : F ∈ li_Fs) (hH : ck_HT li_X gT K g)
    {q : Nat} {mc n : Int32} {p : Nat} (hq : g q = some (F.1, [.int mc, .ref p, .int n]))
    {mc2 n2 : Int32} {p2 : Nat} {w2 : List Value} (hq2 : g2 q = some (F.1, [.int mc2, .ref p2, .int n2])) (hn2 : 0 ≤ n2.toInt) (hm2 : n2.toInt ≤ F.2.2.2.2.2)
    (hp2 : g2 p2 = some (F.2.1, w2)) (hl2 : 10 ≤ w2.length ∧ w2.length ≤ 24) (hk2 : n2.toInt ≤ (w2.length : Int) ∧ ∀ k : Nat, (k : Int) < n2.toInt → ∃ q : Nat, w2[k]? = some (.ref q)) (hnew : p2 = p ∨ g p2 = none)
    (ho : ∀ (m t : Nat) (vs : List Value), g m = some (t, vs) → m ≠ q → ¬ (m = p ∧ t = F.2.1) → ∃ vs' : List Value, g2 m = some (t, vs') ∧ vs'.length = vs.length ∧ (t ≠ 506 → t ≠ F.2.2.1 → vs' = vs))
    (hp : ∀ vs : List Value, g p = some (F.2.1, vs) → ∃ vs' : List Value, g2 p = some (F.2.1, vs') ∧ vs'.length = vs.length)
    (hb : ∀ (m t : Nat) (vs : List Value), g2 m = some (t, vs) → (∃ vs' : List Value, g m = some (t, vs')) ∨ m = p2)
    (hty : ∀ (m t : Nat) (vs : List Value), g2 m = some (t, vs) → (t = F.2.1 ∧ (m = p ∨ m = p2)) ∨ t = F.2.2.1 → ∀ (j : Nat) (v : Value), vs[j]? = some v → ck_ty K g2 (5, F.2.2.2.1, 0, 0) v)
    (h999 : g2 999 = none) (hge : 1000 ≤ p2) (hcop : F.1 = 41106 → li_cp g2 n2.toInt w2) : ck_HT li_X gT K g2 := by
  obtain ⟨⟨h0, hX1, hX2, hX3, hX4, hX5⟩, hT⟩ := hH
  obtain ⟨r1, r2, r3, r4⟩ := li_row hF
  obtain ⟨u1, u2, u3, u4, u5, u6, u7, u8, u9, u10, u11, u12, u13, u14, u15, u16⟩ := li_nums hF
  obtain ⟨k1, k2, k3⟩ := li_Fs_ge hF
  have hex : ∀ (a b : Nat) (c : List Value), g a = some (b, c) → 1000 ≤ b → ∃ vs' : List Value, g2 a = some (b, vs') ∧ vs'.length = c.length := by
    intro a b c e1 e2
    by_cases hqa : a = q
    · subst hqa
      rw [hq] at e1
      cases e1
      exact ⟨_, hq2, rfl⟩
    · by_cases hpa : a = p ∧ b = F.2.1
      · obtain ⟨rfl, rfl⟩ := hpa
        exact hp c e1
      · obtain ⟨vs', z1, z2, -⟩ := ho a b c e1 hqa hpa
        exact ⟨vs', z1, z2⟩
  -- what is the same, both ways
  have hsame : ∀ (m t : Nat) (vs : List Value), t ≠ 506 → t ≠ F.2.2.1 → m ≠ q → ¬ (t = F.2.1 ∧ (m = p ∨ m = p2)) → (g2 m = some (t, vs) ↔ g m = some (t, vs)) := by
    intro m t vs t1 t2 m1 m2
    constructor
    · intro e
      rcases hb m t vs e with ⟨vs', e2⟩ | e2
      · obtain ⟨vs9, z1, z2, z3⟩ := ho m t vs' e2 m1 (fun z => m2 ⟨z.2, Or.inl z.1⟩)
        rw [z3 t1 t2] at z1
        rw [z1] at e
        cases e
        exact e2
      · exfalso
        subst e2
        rw [hp2] at e
        cases e
        exact m2 ⟨rfl, Or.inr rfl⟩
    · intro e
      obtain ⟨vs9, z1, z2, z3⟩ := ho m t vs e m1 (fun z => m2 ⟨z.2, Or.inl z.1⟩)
      rw [z3 t1 t2] at z1
      exact z1
  have hlist : ∀ F' ∈ li_Fs, ∀ (m : Nat) (vs : List Value), m ≠ q → (g2 m = some (F'.1, vs) ↔ g m = some (F'.1, vs)) := fun F' hF' m vs hm =>
    hsame m F'.1 vs (by have := (li_Fs_ge hF').1; omega) (by have := (li_Fs_ge hF').1; omega) hm (fun z => (u11 F' hF').2 z.1)
  -- the row of another list
  have hrow : ∀ (F' : li_F), F' ∈ li_Fs → ∀ (m : Nat) (mc' n' : Int32) (r : Nat), m ≠ q → g m = some (F'.1, [.int mc', .ref r, .int n']) → (∃ tr ws, 40000 ≤ tr ∧ g r = some (tr, ws) ∧ g2 r = some (tr, ws)) ∧ r ≠ p2 ∨ g r = some (43056, []) ∧ g2 r = some (43056, []) := by
    intro F' hF' m mc' n' r hm e
    obtain ⟨mc9, n9, r9, e1, -, e2⟩ := hX1 F' hF' m _ e
    cases e1
    obtain ⟨f1, f2, f3⟩ := li_Fs_ge hF'
    rcases e2 with ⟨e3, -⟩ | ⟨ws, e3, -⟩
    · right
      refine ⟨e3, (hsame r 43056 [] (by decide) (by omega) (fun z => ?_) (fun z => absurd z.1 (Ne.symm k3))).mpr e3⟩
      subst z
      rw [hq] at e3
      exact u14 (Prod.mk.inj (Option.some.inj e3)).1
    · left
      have hnp : ¬ (F'.2.1 = F.2.1 ∧ r = p) := by
        rintro ⟨z1, rfl⟩
        exact hm (hX2 m q F'.1 F.1 r F'.2.1 _ _ _ ⟨F', hF', rfl⟩ ⟨F, hF, rfl⟩ e hq rfl rfl e3 f2 f3)
      have hnp' : r ≠ p := by
        rintro rfl
        exact hm (hX2 m q F'.1 F.1 r F'.2.1 _ _ _ ⟨F', hF', rfl⟩ ⟨F, hF, rfl⟩ e hq rfl rfl e3 f2 f3)
      have hnp2 : r ≠ p2 := by
        rintro rfl
        rcases hnew with z | z
        · exact hnp' z
        · rw [z] at e3; cases e3
      refine ⟨⟨F'.2.1, ws, f2, e3, (hsame r F'.2.1 ws (by omega) (by omega) (fun z => ?_) (fun z => ?_)).mpr e3⟩, hnp2⟩
      · subst z
        rw [hq] at e3
        exact (u11 F' hF').1 (Prod.mk.inj (Option.some.inj e3)).1
      · rcases z.2 with z | z
        · exact hnp' z
        · exact hnp2 z
  have hint : ∀ (a : Nat) (vs : List Value), g a = some (41002, vs) ↔ g2 a = some (41002, vs) := fun a vs => by
    by_cases ha : a = q
    · subst ha
      rw [hq, hq2]
      constructor <;> intro z <;> exact absurd (Prod.mk.inj (Option.some.inj z)).1 u12
    · exact (hsame a 41002 vs (by decide) (by omega) ha (fun z => u13 z.1.symm)).symm
  refine ⟨⟨h999, ?_, ?_, ?_, ?_, ?_⟩, ?_⟩
  · -- each list
    intro F' hF' m vs e
    by_cases hm : m = q
    · subst hm
      rw [hq2] at e
      obtain ⟨e1, e2⟩ := Prod.mk.inj (Option.some.inj e)
      subst e2
      have hFF : F'.2.1 = F.2.1 := by
        have : ∀ F ∈ li_Fs, ∀ F' ∈ li_Fs, F.1 = F'.1 → F'.2.1 = F.2.1 := by decide
        exact this F hF F' hF' e1
      rw [hFF]
      exact ⟨mc2, n2, p2, rfl, hn2, Or.inr ⟨w2, hp2, hk2⟩⟩
    · have e1 := (hlist F' hF' m vs hm).mp e
      obtain ⟨mc9, n9, r9, rfl, f2, f3⟩ := hX1 F' hF' m vs e1
      refine ⟨mc9, n9, r9, rfl, f2, ?_⟩
      rcases hrow F' hF' m mc9 n9 r9 hm e1 with ⟨⟨tr, ws, z1, z2, z3⟩, -⟩ | ⟨z2, z3⟩
      · rcases f3 with ⟨f4, f5⟩ | ⟨ws', f4, f5⟩
        · rw [z2] at f4
          cases f4
          exact Or.inl ⟨z3, f5⟩
        · rw [z2] at f4
          cases f4
          exact Or.inr ⟨ws, z3, f5⟩
      · rcases f3 with ⟨f4, f5⟩ | ⟨ws', f4, f5⟩
        · exact Or.inl ⟨z3, f5⟩
        · rw [z2] at f4
          exact absurd (Prod.mk.inj (Option.some.inj f4)).1.symm (li_Fs_ge hF').2.2
  · -- no row of two lists
    intro m m' t t' r tr vs vs' ws ht ht' e1 e2 e3 e4 e5 e6 e7
    obtain ⟨F1, hF1, rfl⟩ := ht
    obtain ⟨F2, hF2, rfl⟩ := ht'
    have key : ∀ (F' : li_F), F' ∈ li_Fs → ∀ (m : Nat) (vs : List Value), m ≠ q → g2 m = some (F'.1, vs) → vs[1]? = some (.ref r) → g m = some (F'.1, vs) ∧ (∃ tr ws, 40000 ≤ tr ∧ tr ≠ 43056 ∧ g r = some (tr, ws)) ∧ r ≠ p2 := by
      intro F' hF' m vs hm e e'
      have e1 := (hlist F' hF' m vs hm).mp e
      obtain ⟨mc9, n9, r9, rfl, f2, f3⟩ := hX1 F' hF' m vs e1
      have e' : some (Value.ref r9) = some (.ref r) := e'
      cases e'
      rcases hrow F' hF' m mc9 n9 r hm e1 with ⟨⟨tr9, ws9, z1, z2, z3⟩, z4⟩ | ⟨z2, z3⟩
      · refine ⟨e1, ⟨tr9, ws9, z1, ?_, z2⟩, z4⟩
        rw [e5] at z3
        cases z3
        exact e7
      · rw [e5] at z3
        cases z3
        exact absurd rfl e7
    by_cases hm : m = q <;> by_cases hm' : m' = q
    · rw [hm, hm']
    · subst hm
      rw [hq2] at e1
      obtain ⟨-, e1⟩ := Prod.mk.inj (Option.some.inj e1)
      subst e1
      have e3 : some (Value.ref p2) = some (.ref r) := e3
      cases e3
      exact absurd rfl (key F2 hF2 m' vs' hm' e2 e4).2.2
    · subst hm'
      rw [hq2] at e2
      obtain ⟨-, e2⟩ := Prod.mk.inj (Option.some.inj e2)
      subst e2
      have e4 : some (Value.ref p2) = some (.ref r) := e4
      cases e4
      exact absurd rfl (key F1 hF1 m vs hm e1 e3).2.2
    · obtain ⟨a1, ⟨tr9, ws9, a2, a3, a4⟩, -⟩ := key F1 hF1 m vs hm e1 e3
      obtain ⟨b1, -⟩ := key F2 hF2 m' vs' hm' e2 e4
      exact hX2 m m' F1.1 F2.1 r tr9 vs vs' ws9 ⟨F1, hF1, rfl⟩ ⟨F2, hF2, rfl⟩ a1 b1 e3 e4 a4 a2 a3
  · -- the bases
    intro m r mc9 n9 ws e1 e2
    by_cases hm : m = q
    · subst hm
      rw [hq2] at e1
      obtain ⟨e3, e4⟩ := Prod.mk.inj (Option.some.inj e1)
      cases e4
      have hFF : F = li_fb := by
        have : ∀ F ∈ li_Fs, F.1 = 41106 → F = li_fb := by decide
        exact this F hF e3
      rw [hFF] at hp2
      rw [hp2] at e2
      cases e2
      exact hcop e3
    · have e3 := (hlist li_fb (by decide) m _ hm).mp e1
      rcases hrow li_fb (by decide) m mc9 n9 r hm e3 with ⟨⟨tr, ws', z1, z2, z3⟩, -⟩ | ⟨z2, z3⟩
      · rw [e2] at z3
        cases z3
        exact (hX3 m r mc9 n9 ws e3 z2).tr hint
      · rw [e2] at z3
        cases z3
  · -- cells of which there is one
    intro t m m' vs vs' ht e1 e2
    have key : ∀ (m : Nat) (vs : List Value), g2 m = some (t, vs) → g m = some (t, vs) := by
      intro m vs e
      by_cases hm : m = q
      · subst hm
        rw [hq2] at e
        have := (Prod.mk.inj (Option.some.inj e)).1
        rcases ht with rfl | rfl
        · exact absurd this u16
        · exact absurd this u14
      · refine (hsame m t vs (by rcases ht with rfl | rfl <;> decide) (by rcases ht with rfl | rfl <;> omega) hm (fun z => ?_)).mp e
        rcases ht with rfl | rfl
        · exact u15 z.1.symm
        · exact k3 z.1.symm
    exact hX4 t m m' vs vs' ht (key m vs e1) (key m' vs' e2)
  · -- rows of digits
    refine hX5.tr fun m t vs ht e => ?_
    have hF9 : F.1 ≠ 42150 ∧ F.1 ≠ 42350 ∧ F.2.1 ≠ 42150 ∧ F.2.1 ≠ 42350 := by
      have : ∀ F ∈ li_Fs, F.1 ≠ 42150 ∧ F.1 ≠ 42350 ∧ F.2.1 ≠ 42150 ∧ F.2.1 ≠ 42350 := by decide
      exact this F hF
    by_cases hm : m = q
    · subst hm
      rw [hq2] at e
      have := (Prod.mk.inj (Option.some.inj e)).1
      rcases ht with rfl | rfl
      · exact absurd this hF9.1
      · exact absurd this hF9.2.1
    · refine (hsame m t vs (by rcases ht with rfl | rfl <;> decide) (by rcases ht with rfl | rfl <;> omega) hm (fun z => ?_)).mp e
      rcases ht with rfl | rfl
      · exact hF9.2.2.1 z.1.symm
      · exact hF9.2.2.2 z.1.symm
  · -- every cell is as its kind wants
    intro m t vs e
    have old : ∀ vs0 : List Value, g m = some (t, vs0) → vs = vs0 → ck_ce gT K g2 t vs ∧ True ∧ (ck_wr gT t = true → 1000 ≤ m) := by
      intro vs0 e0 ev
      subst ev
      obtain ⟨f1, -, f3⟩ := hT m t _ e0
      refine ⟨fun d hd => ⟨(f1 d hd).1, fun j v hv => ?_⟩, trivial, f3⟩
      obtain ⟨y, y1, y2⟩ := (f1 d hd).2 j v hv
      exact ⟨y, y1, y2.ex hex⟩
    by_cases hm : m = q
    · subst hm
      rw [hq2] at e
      cases e
      refine ⟨fun d hd => ?_, trivial, fun z => (hT m _ _ hq).2.2 z⟩
      rw [r1] at hd
      cases hd
      refine ⟨⟨(by decide : (3 : Int) ≤ ((3 : Nat) : Int)), (by decide : ((3 : Nat) : Int) ≤ 3)⟩, fun j v hv => ?_⟩
      match j, hv with
      | 0, hv => cases hv; exact ⟨_, rfl, mc2, rfl, Int32.le_toInt mc2, Int32.toInt_le mc2⟩
      | 1, hv => cases hv; exact ⟨_, rfl, trivial⟩
      | 2, hv => cases hv; exact ⟨_, rfl, n2, rfl, hn2, hm2⟩
      | j + 3, hv => cases hv
    · by_cases hr : t = F.2.1 ∧ (m = p ∨ m = p2)
      · obtain ⟨rfl, hr⟩ := hr
        refine ⟨fun d hd => ?_, trivial, fun z => ?_⟩
        · rw [r2] at hd
          cases hd
          refine ⟨?_, fun j v hv => ⟨_, rfl, hty m _ vs e (Or.inl ⟨rfl, hr⟩) j v hv⟩⟩
          by_cases h2 : m = p2
          · subst h2
            rw [hp2] at e
            cases e
            exact ⟨by show (10 : Int) ≤ _; omega, by show _ ≤ (24 : Int); omega⟩
          · rcases hb m _ vs e with ⟨vs', e2⟩ | e2
            · have hmp : m = p := hr.resolve_right h2
              subst hmp
              obtain ⟨vs9, z1, z2⟩ := hp vs' e2
              rw [e] at z1
              cases z1
              have := ((hT m _ _ e2).1 _ r2).1
              rw [z2]
              exact this
            · exact absurd e2 h2
        · by_cases h2 : m = p2
          · rw [h2]; exact hge
          · rcases hb m _ vs e with ⟨vs', e2⟩ | e2
            · exact (hT m _ _ e2).2.2 z
            · exact absurd e2 h2
      · by_cases ht1 : t = 506 ∨ t = F.2.2.1
        · rcases hb m t vs e with ⟨vs', e2⟩ | e2
          · obtain ⟨vs9, z1, z2, -⟩ := ho m t vs' e2 hm (fun z => hr ⟨z.2, Or.inl z.1⟩)
            rw [e] at z1
            cases z1
            refine ⟨fun d hd => ?_, trivial, (hT m t _ e2).2.2⟩
            rcases ht1 with rfl | rfl
            · rw [r4] at hd; cases hd
            · rw [r3] at hd
              cases hd
              refine ⟨?_, fun j v hv => ⟨_, rfl, hty m _ vs e (Or.inr rfl) j v hv⟩⟩
              have := ((hT m _ _ e2).1 _ r3).1
              rw [z2]
              exact this
          · exfalso
            subst e2
            rw [hp2] at e
            cases e
            rcases ht1 with z | z
            · omega
            · omega
        · exact old vs ((hsame m t vs (fun z => ht1 (Or.inl z)) (fun z => ht1 (Or.inr z)) hm hr).mp e) rfl
end
section
/-! LISTS: FROM RAW ONES TO KEPT ONES -/
def ck_lift (G : am_G) (CM : ck_CM) : ck_CM := fun a h mc ms P => ∃ (h1 : List am_C) (mc' ms' : Nat) (P1 : am_O → List am_C → Prop), ck_rh G h h1 ∧ mc' ≤ mc ∧ ms' ≤ ms ∧ CM a h1 mc' ms' P1 ∧ ∀ (o : am_O) (h' : List am_C), P1 o h' → ∃ h'' : List am_C, ck_rh G h' h'' ∧ P o h''
theorem ck_rh.rf {G : am_G} (h : List am_C) : ck_rh G h h := ⟨[], rfl⟩
theorem ck_con_lift {G : am_G} {CM : ck_CM} {X : ck_XT} {T : ck_TT} {c : ck_KK} (h : ck_Con CM G X T c) : ck_Con (ck_lift G CM) G X T c :=
  fun K r s a h' h1 h2 h3 h4 h5 h6 mc ms h7 h8 => ⟨h', mc, ms, _, ck_rh.rf _, Nat.le_refl _, Nat.le_refl _, h K r s a h' h1 h2 h3 h4 h5 h6 mc ms h7 h8, fun o h'' hp => ⟨h'', ck_rh.rf _, hp⟩⟩
theorem ck_rh.kind {G : am_G} {h h' : List am_C} (H : ck_rh G h h') {b t : Nat} {vs : List Value} (e : am_g G h b = some (t, vs)) : ∃ t', am_g G h' b = some (t', vs) ∧ t' % 100 = t % 100 := by
  obtain ⟨l, H⟩ := H
  induction l generalizing h t with
  | nil =>
    have H : h' = h := H
    rw [H]; exact ⟨t, e, rfl⟩
  | cons x u ih =>
    obtain ⟨t0, vs0, e1, hq, ht, H⟩ := H
    have hlt := am_g_lt hq e1
    by_cases hb : b = x.1
    · rw [hb, e1] at e
      cases e
      obtain ⟨t', z1, z2⟩ := ih (t := x.2) (by rw [am_g_s hq hlt, if_pos hb]) H
      exact ⟨t', z1, z2.trans ht⟩
    · exact ih (by rw [am_g_s hq hlt, if_neg hb]; exact e) H
theorem ck_any_lift {l : Launch} {G : am_G} {own : String} {nL fr lo : Nat} {ins : Instr} {len : Nat} {rc : Option Nat} {na : Nat} {CM : ck_CM} (h : ck_any l G own nL fr lo ins len rc na CM) (hx : ∀ (a : List Value) (h : List am_C) (mc ms : Nat) (P : am_O → List am_C → Prop), CM a h mc ms P → ∀ (E : String) (h' : List am_C), ¬ P (.inr E) h') : ck_any l G own nL fr lo ins len rc na (ck_lift G CM) := by
  intro p e s m args below meth c mc ms Post cc ret pc X d a L st h' k n mc' ms' P hM hna hL hst hrc hk hn kr kx
  obtain ⟨h1, mc1, ms1, P1, z1, z2, z3, z4, z5⟩ := hM
  refine z1.S am_s_retag (h p e s m args below meth c mc ms Post cc ret pc X d a L st h1 k n mc1 ms1 P1 z4 hna hL hst ?_ (by omega) (by omega) (fun v h2 hp => ?_) (fun E h2 hp => absurd hp (hx _ _ _ _ _ z4 E h2)))
  · unfold ck_rcv at hrc ⊢
    cases rc with
    | none => trivial
    | some ci =>
      obtain ⟨b, tb, vb, b1, b2, b3⟩ := hrc
      obtain ⟨t', c1, c2⟩ := z1.kind b2
      exact ⟨b, t', vb, b1, c1, c2.trans b3⟩
  · obtain ⟨h3, y1, y2⟩ := z5 _ h2 hp
    exact y1.S am_s_retag (am_R.widen (by omega) (by omega) (kr v h3 y2))
theorem ck_cn_nx {l : Launch} {G : am_G} {y : MethodName} {cw : Jvm.Cond} {fr lo : Nat} (a : List Value) (h : List am_C) (mc ms : Nat) (P : am_O → List am_C → Prop) (H : am_cn l G y cw fr lo a h mc ms P) : ∀ (E : String) (h' : List am_C), ¬ P (.inr E) h' := H.2
/-- lemmas that are called like methods -/
def ck_lem (G : am_G) : ck_CM := fun _ h _ _ P => ∃ h' : List am_C, ck_rh G h h' ∧ P (.inl none) h'
theorem ck_lem_nop {G : am_G} : ck_nopP G (ck_lem G) := fun _ _ _ _ _ h => h
-- the lists' world
theorem li_lrows {t : Nat} {d : ck_D} (h : ck_lk gTl t = some d) : (t = 1018 ∧ d = (2, 4, 4, [(8, 0, 0, 0), (8, 0, 0, 0), (8, 0, 0, 0), (8, 0, 0, 0)])) ∨ (ck_lk gT t = some d ∧ ∀ y ∈ d.2.2.2, ∀ F ∈ li_Fs, y.2.1 ≠ F.1 ∧ y.2.1 ≠ F.2.1) := by
  have h := ck_lk_mem h
  unfold gTl at h
  repeat (rcases List.mem_cons.mp h with e | h; · (cases e; first | exact Or.inl ⟨rfl, rfl⟩ | exact Or.inr ⟨rfl, by decide⟩))
  cases h
theorem li_lwr {t : Nat} (h : ck_wr gTl t = true) : ck_wr gT t = true := by
  have key : (gT.all fun x => Nat.blt x.2.1 2 || !(ck_wr gTl x.1)) = true := by decide +kernel
  unfold ck_wr
  cases hd : ck_lk gT t with
  | none => rfl
  | some d =>
    have := List.all_eq_true.mp key _ (ck_lk_mem hd)
    rcases Bool.or_eq_true_iff.mp this with z | z
    · exact z
    · have z : (!(ck_wr gTl t)) = true := z
      rw [h] at z
      cases z
theorem ck_ty.ex1 {K : Int32} {g g' : ck_g} {y : ck_Y} {v : Value} (h : ck_ty K g y v) (e : ∀ (q : Nat) (vs : List Value), g q = some (y.2.1, vs) → ∃ vs' : List Value, g' q = some (y.2.1, vs')) : ck_ty K g' y v := by
  unfold ck_ty at h ⊢
  split at h
  · exact h
  · exact h
  · obtain ⟨h0, q, vs, h1, h2⟩ := h
    obtain ⟨vs', h3⟩ := e _ _ h2
    exact ⟨h0, q, vs', h1, h3⟩
  · obtain ⟨h0, h⟩ := h
    refine ⟨h0, h.imp id fun ⟨q, vs, h1, h2⟩ => ?_⟩
    obtain ⟨vs', h3⟩ := e _ _ h2
    exact ⟨q, vs', h1, h3⟩
  · exact h
  · trivial
  · exact h.elim
theorem li_lrow {F : li_F} (h : F ∈ li_Fs) : ck_lk gTl F.2.2.1 = some (1, 0, 80, [(5, F.2.2.2.1, 0, 0)]) ∧ ck_lk gTl 506 = none := by
  unfold li_Fs at h
  rcases List.mem_cons.mp h with rfl | h
  · exact ⟨rfl, rfl⟩
  rcases List.mem_cons.mp h with rfl | h
  · exact ⟨rfl, rfl⟩
  rcases List.mem_cons.mp h with rfl | h
  · exact ⟨rfl, rfl⟩
  cases h
theorem li_te {F : li_F} (h : F ∈ li_Fs) : (∀ F' ∈ li_Fs, F.2.2.2.1 ≠ F'.1 ∧ F.2.2.2.1 ≠ F'.2.1) ∧ F.2.2.2.1 ≠ 506 ∧ F.2.2.2.1 ≠ F.2.2.1 ∧ (∃ d, ck_lk gTl F.2.2.2.1 = some d ∧ d.2.1 = (F.2.2.2.2.1 : Int) ∧ d.2.2.1 = (F.2.2.2.2.1 : Int)) ∧ (∃ d, ck_lk gT F.2.2.2.1 = some d ∧ d.2.1 = (F.2.2.2.2.1 : Int) ∧ d.2.2.1 = (F.2.2.2.2.1 : Int)) := by
  unfold li_Fs at h
  rcases List.mem_cons.mp h with rfl | h
  · exact ⟨by decide, by decide, by decide, ⟨_, rfl, rfl, rfl⟩, ⟨_, rfl, rfl, rfl⟩⟩
  rcases List.mem_cons.mp h with rfl | h
  · exact ⟨by decide, by decide, by decide, ⟨_, rfl, rfl, rfl⟩, ⟨_, rfl, rfl, rfl⟩⟩
  rcases List.mem_cons.mp h with rfl | h
  · exact ⟨by decide, by decide, by decide, ⟨_, rfl, rfl, rfl⟩, ⟨_, rfl, rfl, rfl⟩⟩
  cases h
theorem li_down {K : Int32} {g g1 : ck_g} {F : li_F} (hF : F ∈ li_Fs) (hH : ck_HT li_X gT K g) {q p : Nat} {vq : List Value} (hq : g q = some (F.1, vq))
    (ha : ∀ (m t : Nat) (vs : List Value), g1 m = some (t, vs) → (m = q ∧ t = 506) ∨ (m = p ∧ t = F.2.2.1 ∧ g m = some (F.2.1, vs)) ∨ g m = some (t, vs))
    (hb : ∀ (m t : Nat) (vs : List Value), g m = some (t, vs) → t ≠ F.1 → t ≠ F.2.1 → g1 m = some (t, vs)) (h999 : g1 999 = none) : ck_HT li_XL gTl K g1 := by
  obtain ⟨⟨h0, hX1, hX2, hX3, hX4, -⟩, hT⟩ := hH
  obtain ⟨r1, r2, r3, r4⟩ := li_row hF
  obtain ⟨u1, u2, u3, u4, u5, u6, u7, u8, u9, u10, u11, u12, u13, u14, u15, u16⟩ := li_nums hF
  obtain ⟨l1, l2⟩ := li_lrow hF
  obtain ⟨e1, e2, e3, -, -⟩ := li_te hF
  refine ⟨⟨h999, ?_⟩, fun m t vs e => ?_⟩
  · intro t m m' vs vs' ht z1 z2
    have key : ∀ (m : Nat) (vs : List Value), g1 m = some (t, vs) → g m = some (t, vs) := by
      intro m vs e
      rcases ha m t vs e with ⟨-, z⟩ | ⟨-, z, -⟩ | z
      · rcases ht with rfl | rfl <;> omega
      · rcases ht with rfl | rfl <;> omega
      · exact z
    exact hX4 t m m' vs vs' ht (key m vs z1) (key m' vs' z2)
  · rcases ha m t vs e with ⟨rfl, rfl⟩ | ⟨rfl, rfl, z⟩ | z
    · refine ⟨fun d hd => ?_, trivial, fun _ => (hT m _ _ hq).2.2 (by unfold ck_wr; rw [r1]; rfl)⟩
      rw [l2] at hd
      cases hd
    · refine ⟨fun d hd => ?_, trivial, fun _ => (hT m _ _ z).2.2 (by unfold ck_wr; rw [r2]; rfl)⟩
      rw [l1] at hd
      cases hd
      obtain ⟨f1, f2⟩ := (hT m _ _ z).1 _ r2
      refine ⟨⟨Int.natCast_nonneg _, Int.le_trans f1.2 (show (24 : Int) ≤ 80 by decide)⟩, fun j v hv => ?_⟩
      obtain ⟨y, y1, y2⟩ := f2 j v hv
      have y1 : some ((5, F.2.2.2.1, 0, 0) : ck_Y) = some y := y1
      cases y1
      refine ⟨_, rfl, y2.ex1 fun a c ea => ⟨c, hb a _ c ea ?_ ?_⟩⟩
      · exact (e1 F hF).1
      · exact (e1 F hF).2
    · obtain ⟨f1, -, f3⟩ := hT m t vs z
      refine ⟨fun d hd => ?_, trivial, fun w => f3 (li_lwr w)⟩
      rcases li_lrows hd with ⟨rfl, rfl⟩ | ⟨hd2, hy⟩
      · obtain ⟨d0, d1, d2, d3⟩ := (li_te (F := li_fs) (by decide)).2.2.2.2
        have f4 := (f1 d0 d1).1
        have f5 : (4 : Int) ≤ vs.length := by have := f4.1; rw [d2] at this; exact this
        have f6 : (vs.length : Int) ≤ 4 := by have := f4.2; rw [d3] at this; exact this
        refine ⟨⟨f5, f6⟩, fun j v hv => ?_⟩
        have hj : j < 4 := by have := (List.getElem?_eq_some_iff.mp hv).1; omega
        match j, hj with
        | 0, _ => exact ⟨_, rfl, trivial⟩
        | 1, _ => exact ⟨_, rfl, trivial⟩
        | 2, _ => exact ⟨_, rfl, trivial⟩
        | 3, _ => exact ⟨_, rfl, trivial⟩
      · refine ⟨(f1 d hd2).1, fun j v hv => ?_⟩
        obtain ⟨y, y1, y2⟩ := (f1 d hd2).2 j v hv
        have hm : y ∈ d.2.2.2 := by
          unfold ck_yt at y1
          cases hc : Nat.beq (d.1 % 2) 0
          · rw [hc, cond_false] at y1; exact List.mem_of_getElem? y1
          · rw [hc, cond_true] at y1; exact List.mem_of_getElem? y1
        exact ⟨y, y1, y2.ex1 fun a c ea => ⟨c, hb a _ c ea (hy y hm F hF).1 (hy y hm F hF).2⟩⟩
/-- cells get their kinds back -/
theorem li_re {G : am_G} {F : li_F} (hF : F ∈ li_Fs) {h' : List am_C} {q p p2 : Nat} {vq w2 : List Value} (hq : am_g G h' q = some (506, vq)) (hq1 : 1000 ≤ q) (hp2 : am_g G h' p2 = some (F.2.2.1, w2)) (hp21 : 1000 ≤ p2) (hp : (∃ w, am_g G h' p = some (F.2.2.1, w) ∧ 1000 ≤ p) ∨ ∃ t w, am_g G h' p = some (t, w) ∧ t ≠ F.2.2.1) (hpq : p ≠ q) :
    ∃ h'' : List am_C, ck_rh G h' h'' ∧ h''.length = h'.length ∧ am_g G h'' q = some (F.1, vq) ∧
      (∀ (m : Nat) (w : List Value), (m = p ∨ m = p2) → am_g G h' m = some (F.2.2.1, w) → am_g G h'' m = some (F.2.1, w)) ∧
      (∀ (m t : Nat) (w : List Value), m ≠ q → ¬ ((m = p ∨ m = p2) ∧ t = F.2.2.1) → am_g G h' m = some (t, w) → am_g G h'' m = some (t, w)) ∧
      (∀ (m t : Nat) (w : List Value), am_g G h'' m = some (t, w) → (m = q ∧ t = F.1) ∨ (m ≠ q ∧ (m = p ∨ m = p2) ∧ t = F.2.1 ∧ am_g G h' m = some (F.2.2.1, w)) ∨ (m ≠ q ∧ am_g G h' m = some (t, w) ∧ ¬ ((m = p ∨ m = p2) ∧ t = F.2.2.1))) := by
  obtain ⟨u1, u2, u3, u4, u5, u6, u7, u8, u9, u10, u11, u12, u13, u14, u15, u16⟩ := li_nums hF
  have hp2q : p2 ≠ q := by rintro rfl; rw [hq] at hp2; exact u6 (Prod.mk.inj (Option.some.inj hp2)).1.symm
  have hlq := am_g_lt hq1 hq
  have g1 : ∀ m, am_g G (am_s h' q (F.1, vq)) m = if m = q then some (F.1, vq) else am_g G h' m := fun m => am_g_s hq1 hlq
  have hl2 : p2 - 1000 < (am_s h' q (F.1, vq)).length := by rw [am_s_len]; exact am_g_lt hp21 hp2
  have g2 : ∀ m, am_g G (am_s (am_s h' q (F.1, vq)) p2 (F.2.1, w2)) m = if m = p2 then some (F.2.1, w2) else am_g G (am_s h' q (F.1, vq)) m := fun m => am_g_s hp21 hl2
  by_cases hc : (∃ w, am_g G h' p = some (F.2.2.1, w) ∧ 1000 ≤ p) ∧ p ≠ p2
  · obtain ⟨⟨w, hp, hp1⟩, hne⟩ := hc
    have hl3 : p - 1000 < (am_s (am_s h' q (F.1, vq)) p2 (F.2.1, w2)).length := by rw [am_s_len, am_s_len]; exact am_g_lt hp1 hp
    have g3 : ∀ m, am_g G (am_s (am_s (am_s h' q (F.1, vq)) p2 (F.2.1, w2)) p (F.2.1, w)) m = if m = p then some (F.2.1, w) else am_g G (am_s (am_s h' q (F.1, vq)) p2 (F.2.1, w2)) m := fun m => am_g_s hp1 hl3
    refine ⟨_, ⟨[(q, F.1), (p2, F.2.1), (p, F.2.1)], 506, vq, hq, hq1, by show F.1 % 100 = 6; exact u1, F.2.2.1, w2, by rw [g1, if_neg hp2q]; exact hp2, hp21, by show F.2.1 % 100 = _; rw [u2, u3], F.2.2.1, w, by rw [g2, if_neg hne, g1, if_neg hpq]; exact hp, hp1, by show F.2.1 % 100 = _; rw [u2, u3], rfl⟩, by rw [am_s_len, am_s_len, am_s_len], ?_, ?_, ?_, ?_⟩
    · rw [g3, if_neg (Ne.symm hpq), g2, if_neg (Ne.symm hp2q), g1, if_pos rfl]
    · rintro m w' (rfl | rfl) e
      · rw [g3, if_pos rfl]; rw [hp] at e; cases e; rfl
      · rw [g3, if_neg (Ne.symm hne), g2, if_pos rfl]; rw [hp2] at e; cases e; rfl
    · intro m t w' m1 m2 e
      have n1 : m ≠ p := by rintro rfl; rw [hp] at e; cases e; exact m2 ⟨Or.inl rfl, rfl⟩
      have n2 : m ≠ p2 := by rintro rfl; rw [hp2] at e; cases e; exact m2 ⟨Or.inr rfl, rfl⟩
      rw [g3, if_neg n1, g2, if_neg n2, g1, if_neg m1]; exact e
    · intro m t w' e
      rw [g3] at e
      by_cases n1 : m = p
      · rw [if_pos n1] at e
        cases e
        exact Or.inr (Or.inl ⟨by rw [n1]; exact hpq, Or.inl n1, rfl, by rw [n1]; exact hp⟩)
      · rw [if_neg n1, g2] at e
        by_cases n2 : m = p2
        · rw [if_pos n2] at e
          cases e
          exact Or.inr (Or.inl ⟨by rw [n2]; exact hp2q, Or.inr n2, rfl, by rw [n2]; exact hp2⟩)
        · rw [if_neg n2, g1] at e
          by_cases n3 : m = q
          · rw [if_pos n3] at e; cases e; exact Or.inl ⟨n3, rfl⟩
          · rw [if_neg n3] at e
            exact Or.inr (Or.inr ⟨n3, e, fun z => z.1.elim n1 n2⟩)
  · have hpp : ∀ w, am_g G h' p = some (F.2.2.1, w) → p = p2 := by
      intro w e
      rcases hp with ⟨w', e1, e2⟩ | ⟨t, w', e1, e2⟩
      · by_cases z : p = p2
        · exact z
        · exact absurd ⟨⟨w', e1, e2⟩, z⟩ hc
      · rw [e] at e1; cases e1; exact absurd rfl e2
    refine ⟨_, ⟨[(q, F.1), (p2, F.2.1)], 506, vq, hq, hq1, by show F.1 % 100 = 6; exact u1, F.2.2.1, w2, by rw [g1, if_neg hp2q]; exact hp2, hp21, by show F.2.1 % 100 = _; rw [u2, u3], rfl⟩, by rw [am_s_len, am_s_len], ?_, ?_, ?_, ?_⟩
    · rw [g2, if_neg (Ne.symm hp2q), g1, if_pos rfl]
    · rintro m w' hm e
      have hm2 : m = p2 := by
        rcases hm with rfl | rfl
        · exact hpp w' e
        · rfl
      subst hm2
      rw [g2, if_pos rfl]; rw [hp2] at e; cases e; rfl
    · intro m t w' m1 m2 e
      have n2 : m ≠ p2 := by rintro rfl; rw [hp2] at e; cases e; exact m2 ⟨Or.inr rfl, rfl⟩
      rw [g2, if_neg n2, g1, if_neg m1]; exact e
    · intro m t w' e
      rw [g2] at e
      by_cases n2 : m = p2
      · rw [if_pos n2] at e
        cases e
        exact Or.inr (Or.inl ⟨by rw [n2]; exact hp2q, Or.inr n2, rfl, by rw [n2]; exact hp2⟩)
      · rw [if_neg n2, g1] at e
        by_cases n3 : m = q
        · rw [if_pos n3] at e; cases e; exact Or.inl ⟨n3, rfl⟩
        · rw [if_neg n3] at e
          refine Or.inr (Or.inr ⟨n3, e, fun z => ?_⟩)
          obtain ⟨z1, rfl⟩ := z
          rcases z1 with rfl | z1
          · exact n2 (hpp w' e)
          · exact n2 z1
def li_mods (F : li_F) : List (Nat × Nat) := [(F.1, 0), (F.1, 1), (F.1, 2), (F.2.1, 1000), (506, 1000), (F.2.2.1, 1000)]
set_option maxHeartbeats 4000000 in
/-- what a raw method left, as kept lists have it -/
theorem li_core {G : am_G} {K : Int32} {F : li_F} (hF : F ∈ li_Fs) {h h1 h' : List am_C} (hH : ck_HT li_X gT K (am_g G h)) {q p : Nat} {mc n : Int32} (hq : am_g G h q = some (F.1, [.int mc, .ref p, .int n]))
    (hrow : (∃ ws, am_g G h p = some (F.2.1, ws) ∧ am_g G h1 p = some (F.2.2.1, ws)) ∨ (am_g G h p = some (43056, []) ∧ am_g G h1 p = some (43056, [])))
    (hq1 : am_g G h1 q = some (506, [.int mc, .ref p, .int n])) (hsame : ∀ (m t : Nat) (vs : List Value), m ≠ q → ¬ (m = p ∧ t = F.2.1) → am_g G h m = some (t, vs) → am_g G h1 m = some (t, vs)) (hlen1 : h1.length = h.length)
    (hT : ck_HT li_XL gTl K (am_g G h')) {M : List (Nat × Nat)} (hM : ∀ (t j : Nat), t ≠ 506 → t ≠ F.2.2.1 → ck_inM M t j = false) (hKp : ck_Kp M [] (am_g G h1) (am_g G h')) {mc2 n2 : Int32} {p2 : Nat} {w2 : List Value} (hq2 : am_g G h' q = some (506, [.int mc2, .ref p2, .int n2]))
    (hp2 : am_g G h' p2 = some (F.2.2.1, w2)) (hn2 : 0 ≤ n2.toInt) (hm2 : n2.toInt ≤ F.2.2.2.2.2) (hl2 : 10 ≤ w2.length ∧ w2.length ≤ 24) (hk2 : n2.toInt ≤ (w2.length : Int) ∧ ∀ k : Nat, (k : Int) < n2.toInt → ∃ q : Nat, w2[k]? = some (.ref q))
    (hnew : (p2 = p ∧ h'.length = h.length) ∨ (p2 = 1000 + h.length ∧ h'.length = h.length + 1)) (hcop : F.1 = 41106 → ∀ g2 : ck_g, (∀ (a : Nat) (vs : List Value), am_g G h a = some (41002, vs) ↔ g2 a = some (41002, vs)) → li_cp g2 n2.toInt w2) :
    ∃ h'' : List am_C, ck_rh G h' h'' ∧ ck_HT li_X gT K (am_g G h'') ∧ ck_Kp (li_mods F) [] (am_g G h) (am_g G h'') ∧ h.length ≤ h''.length ∧ am_g G h'' q = some (F.1, [.int mc2, .ref p2, .int n2]) := by
  obtain ⟨u1, u2, u3, u4, u5, u6, u7, u8, u9, u10, u11, u12, u13, u14, u15, u16⟩ := li_nums hF
  obtain ⟨k1, k2, k3⟩ := li_Fs_ge hF
  obtain ⟨r1, r2, r3, r4⟩ := li_row hF
  obtain ⟨l1, l2⟩ := li_lrow hF
  obtain ⟨e1, e2, e3, -, -⟩ := li_te hF
  have hge : ∀ (m : Nat) (w : List Value), am_g G h' m = some (F.2.2.1, w) → 1000 ≤ m := fun m w e => (hT.2 m _ w e).2.2 (by unfold ck_wr; rw [l1]; rfl)
  have hq1000 : 1000 ≤ q := (hH.2 q _ _ hq).2.2 (by unfold ck_wr; rw [r1]; rfl)
  have hpq : p ≠ q := by
    rintro rfl
    rcases hrow with ⟨ws, z, -⟩ | ⟨z, -⟩
    · rw [hq] at z; exact u10 (Prod.mk.inj (Option.some.inj z)).1
    · rw [hq] at z; exact u14 (Prod.mk.inj (Option.some.inj z)).1
  -- from h1 to h'
  have hstep : ∀ (m t : Nat) (vs : List Value), am_g G h1 m = some (t, vs) → ∃ vs' : List Value, am_g G h' m = some (t, vs') ∧ vs'.length = vs.length ∧ (t ≠ 506 → t ≠ F.2.2.1 → vs' = vs) := by
    intro m t vs e
    rcases hKp m t vs e with ⟨z, -⟩ | ⟨vs', z1, z2, z3⟩
    · cases z
    · exact ⟨vs', z1, z2, fun t1 t2 => List.ext_getElem? fun j => z3 j (hM t j t1 t2)⟩
  have hp : (∃ w, am_g G h' p = some (F.2.2.1, w) ∧ 1000 ≤ p) ∨ ∃ t w, am_g G h' p = some (t, w) ∧ t ≠ F.2.2.1 := by
    rcases hrow with ⟨ws, -, z⟩ | ⟨-, z⟩
    · obtain ⟨vs', z1, -, -⟩ := hstep p _ ws z
      exact Or.inl ⟨vs', z1, hge p _ z1⟩
    · obtain ⟨vs', z1, -, -⟩ := hstep p _ _ z
      exact Or.inr ⟨43056, vs', z1, by omega⟩
  obtain ⟨h'', d0, d00, d1, d2, d3, d4⟩ := li_re hF hq2 hq1000 hp2 (hge p2 _ hp2) hp hpq
  have hlen : h.length ≤ h'.length := by rcases hnew with ⟨-, z⟩ | ⟨-, z⟩ <;> omega
  -- cells that were there
  have ho : ∀ (m t : Nat) (vs : List Value), am_g G h m = some (t, vs) → m ≠ q → ¬ (m = p ∧ t = F.2.1) → ∃ vs' : List Value, am_g G h'' m = some (t, vs') ∧ vs'.length = vs.length ∧ (t ≠ 506 → t ≠ F.2.2.1 → vs' = vs) := by
    intro m t vs e m1 m2
    obtain ⟨vs', z1, z2, z3⟩ := hstep m t vs (hsame m t vs m1 m2 e)
    refine ⟨vs', d3 m t vs' m1 (fun z => ?_) z1, z2, z3⟩
    obtain ⟨z4, rfl⟩ := z
    rcases z4 with rfl | rfl
    · rcases hrow with ⟨ws, y, -⟩ | ⟨y, -⟩
      · rw [y] at e; exact m2 ⟨rfl, (Prod.mk.inj (Option.some.inj e)).1.symm⟩
      · rw [y] at e; have := (Prod.mk.inj (Option.some.inj e)).1; omega
    · rcases hnew with ⟨rfl, -⟩ | ⟨y, -⟩
      · rcases hrow with ⟨ws, y, -⟩ | ⟨y, -⟩
        · rw [y] at e; exact m2 ⟨rfl, (Prod.mk.inj (Option.some.inj e)).1.symm⟩
        · rw [y] at e; have := (Prod.mk.inj (Option.some.inj e)).1; omega
      · have := am_g_lt (by omega) e
        omega
  have hpp : ∀ vs : List Value, am_g G h p = some (F.2.1, vs) → ∃ vs' : List Value, am_g G h'' p = some (F.2.1, vs') ∧ vs'.length = vs.length := by
    intro vs e
    rcases hrow with ⟨ws, y, z⟩ | ⟨y, -⟩
    · rw [y] at e
      cases e
      obtain ⟨vs', z1, z2, -⟩ := hstep p _ _ z
      exact ⟨vs', d2 p vs' (Or.inl rfl) z1, z2⟩
    · rw [y] at e
      exact absurd (Prod.mk.inj (Option.some.inj e)).1.symm k3
  have hback : ∀ (m t : Nat) (vs : List Value), am_g G h'' m = some (t, vs) → (∃ vs' : List Value, am_g G h m = some (t, vs')) ∨ m = p2 := by
    intro m t vs e
    by_cases hm2 : m = p2
    · exact Or.inr hm2
    left
    have hold : ∃ c, am_g G h m = some c := by
      by_cases hm : m < 1000
      · have : am_g G h'' m = am_g G h m := by unfold am_g; rw [if_pos hm, if_pos hm]
        exact ⟨_, this ▸ e⟩
      · have hl := am_g_lt (by omega) e
        rw [d00] at hl
        have hlt : m - 1000 < h.length := by rcases hnew with ⟨-, z⟩ | ⟨z1, z⟩ <;> omega
        refine ⟨h[m - 1000], ?_⟩
        unfold am_g
        rw [if_neg hm]
        exact List.getElem?_eq_getElem hlt
    obtain ⟨⟨t0, vs0⟩, e0⟩ := hold
    by_cases hmq : m = q
    · subst hmq
      rw [d1] at e
      cases e
      exact ⟨_, hq⟩
    · by_cases hpm : m = p ∧ t0 = F.2.1
      · obtain ⟨rfl, rfl⟩ := hpm
        obtain ⟨vs', z1, -⟩ := hpp vs0 e0
        rw [z1] at e
        cases e
        exact ⟨_, e0⟩
      · obtain ⟨vs', z1, -, -⟩ := ho m t0 vs0 e0 hmq hpm
        rw [z1] at e
        cases e
        exact ⟨_, e0⟩
  have hp2' : am_g G h'' p2 = some (F.2.1, w2) := d2 p2 w2 (Or.inr rfl) hp2
  have hnew' : p2 = p ∨ am_g G h p2 = none := by
    rcases hnew with ⟨z, -⟩ | ⟨z, -⟩
    · exact Or.inl z
    · right
      unfold am_g
      rw [if_neg (by omega)]
      exact List.getElem?_eq_none (by omega)
  have hte : ∀ (a : Nat) (c : List Value), am_g G h' a = some (F.2.2.2.1, c) → am_g G h'' a = some (F.2.2.2.1, c) := by
    intro a c e
    refine d3 a _ c (fun z => ?_) (fun z => e3 z.2) e
    subst z
    rw [hq2] at e
    exact e2 (Prod.mk.inj (Option.some.inj e)).1.symm
  have hty : ∀ (m t : Nat) (vs : List Value), am_g G h'' m = some (t, vs) → (t = F.2.1 ∧ (m = p ∨ m = p2)) ∨ t = F.2.2.1 → ∀ (j : Nat) (v : Value), vs[j]? = some v → ck_ty K (am_g G h'') (5, F.2.2.2.1, 0, 0) v := by
    intro m t vs e ht j v hv
    have hr : am_g G h' m = some (F.2.2.1, vs) := by
      rcases d4 m t vs e with ⟨z1, z2⟩ | ⟨z1, z2, z3, z4⟩ | ⟨z1, z2, z3⟩
      · exfalso
        rcases ht with ⟨y, -⟩ | y <;> omega
      · exact z4
      · rcases ht with ⟨rfl, y⟩ | rfl
        · exfalso
          rcases y with rfl | rfl
          · rcases hp with ⟨w, y1, -⟩ | ⟨t', w, y1, y2⟩
            · rw [y1] at z2; have := (Prod.mk.inj (Option.some.inj z2)).1; omega
            · rw [y1] at z2
              cases z2
              rcases hrow with ⟨ws, y3, y4⟩ | ⟨y3, y4⟩
              · obtain ⟨vs', x1, -, -⟩ := hstep _ _ _ y4
                rw [x1] at y1; exact y2 (Prod.mk.inj (Option.some.inj y1)).1.symm
              · obtain ⟨vs', x1, -, -⟩ := hstep _ _ _ y4
                rw [x1] at y1
                exact k3 (Prod.mk.inj (Option.some.inj y1)).1.symm
          · rw [hp2] at z2; have := (Prod.mk.inj (Option.some.inj z2)).1; omega
        · exact z2
    obtain ⟨y, y1, y2⟩ := ((hT.2 m _ vs hr).1 _ l1).2 j v hv
    have y1 : some ((5, F.2.2.2.1, 0, 0) : ck_Y) = some y := y1
    cases y1
    exact y2.ex1 fun a c ea => ⟨c, hte a c ea⟩
  have h999 : am_g G h'' 999 = none := by
    have : am_g G h'' 999 = am_g G h 999 := by unfold am_g; rw [if_pos (by decide), if_pos (by decide)]
    rw [this]
    exact hH.1.1
  have hint : ∀ (a : Nat) (vs : List Value), am_g G h a = some (41002, vs) ↔ am_g G h'' a = some (41002, vs) := by
    intro a vs
    constructor
    · intro e
      obtain ⟨vs', z1, -, z3⟩ := ho a 41002 vs e (fun z => by subst z; rw [hq] at e; exact u12 (Prod.mk.inj (Option.some.inj e)).1) (fun z => u13 z.2.symm)
      rw [z3 (by decide) (by omega)] at z1
      exact z1
    · intro e
      rcases hback a _ vs e with ⟨vs', z⟩ | z
      · obtain ⟨vs9, z1, -, z3⟩ := ho a 41002 vs' z (fun z' => by subst z'; rw [hq] at z; exact u12 (Prod.mk.inj (Option.some.inj z)).1) (fun z' => u13 z'.2.symm)
        rw [z3 (by decide) (by omega), e] at z1
        cases z1
        exact z
      · exfalso
        subst z
        rw [hp2'] at e
        exact u13 (Prod.mk.inj (Option.some.inj e)).1
  refine ⟨h'', d0, li_up hF hH hq d1 hn2 hm2 hp2' hl2 hk2 hnew' ho hpp hback hty h999 (hge p2 _ hp2) (fun z => hcop z _ hint), ?_, by omega, d1⟩
  intro m t vs e
  right
  have in1 : ∀ (x : Nat × Nat), x ∈ li_mods F → x.1 = t → x.2 = 1000 → ∀ j, ck_inM (li_mods F) t j = false → False := by
    intro x x1 x2 x3 j hj
    have : ck_inM (li_mods F) t j = true := List.any_eq_true.mpr ⟨x, x1, by rw [x2, x3]; simp⟩
    rw [this] at hj
    cases hj
  by_cases hmq : m = q
  · subst hmq
    rw [hq] at e
    cases e
    refine ⟨_, d1, rfl, fun j hj => ?_⟩
    have key : ∀ x ∈ li_mods F, x.1 = F.1 → x.2 = j → False := by
      intro x x1 x2 x3
      have : ck_inM (li_mods F) F.1 j = true := List.any_eq_true.mpr ⟨x, x1, by rw [x2, x3]; simp⟩
      rw [this] at hj
      cases hj
    match j, key with
    | 0, key => exact (key (F.1, 0) (by unfold li_mods; simp) rfl rfl).elim
    | 1, key => exact (key (F.1, 1) (by unfold li_mods; simp) rfl rfl).elim
    | 2, key => exact (key (F.1, 2) (by unfold li_mods; simp) rfl rfl).elim
    | j + 3, _ => rfl
  · by_cases hpm : m = p ∧ t = F.2.1
    · obtain ⟨rfl, rfl⟩ := hpm
      obtain ⟨vs', z1, z2⟩ := hpp vs e
      exact ⟨vs', z1, z2, fun j hj => (in1 (F.2.1, 1000) (by unfold li_mods; simp) rfl rfl j hj).elim⟩
    · obtain ⟨vs', z1, z2, z3⟩ := ho m t vs e hmq hpm
      refine ⟨vs', z1, z2, fun j hj => ?_⟩
      by_cases t1 : t = 506
      · exact (in1 (506, 1000) (by unfold li_mods; simp) t1.symm rfl j hj).elim
      · by_cases t2 : t = F.2.2.1
        · exact (in1 (F.2.2.1, 1000) (by unfold li_mods; simp) t2.symm rfl j hj).elim
        · rw [z3 t1 t2]
end
