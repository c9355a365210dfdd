/-! KEPT LISTS -/
theorem li_kt {G : am_G} (h : ck_KT G gT) : ck_KT G gTl := fun n d hd => by
  rcases li_lrows hd with ⟨z, -⟩ | ⟨z, -⟩
  · omega
  · exact h n d z
theorem li_gEl {l : Launch} {G : am_G} {X : ck_XT} (g : gE l G X) : gEl l G li_XL := ⟨g.1, li_XLO, li_XL0, li_kt g.2.2.2⟩
theorem li_add_r {l : Launch} {G : am_G} {X : ck_XT} (g : gE l G X) : ck_Con (ck_lift G (am_cn l G yJx4a65c_add_9ea2d (.code yJx4a65c_add_9ea2d prog_46_method_25_code 2 (some .boolean)) 8 230)) G li_X gT (li_addK li_fr) :=
  li_add_con (by decide) (by decide) (by decide) (am_cnG_ok (gm_yJx4a65c_add_9ea2d_zre (li_gEl g)) rfl) (fun k hk => by
    match k, hk with
    | 0, _ => exact ⟨10, by decide, by decide, am_cnG_ok (gm_yJx4a65c_add_9ea2d_zr0 (li_gEl g)) rfl⟩
    | 1, _ => exact ⟨10, by decide, by decide, am_cnG_ok (gm_yJx4a65c_add_9ea2d_zr1 (li_gEl g)) rfl⟩
    | 2, _ => exact ⟨10, by decide, by decide, am_cnG_ok (gm_yJx4a65c_add_9ea2d_zr2 (li_gEl g)) rfl⟩
    | 3, _ => exact ⟨10, by decide, by decide, am_cnG_ok (gm_yJx4a65c_add_9ea2d_zr3 (li_gEl g)) rfl⟩
    | 4, _ => exact ⟨10, by decide, by decide, am_cnG_ok (gm_yJx4a65c_add_9ea2d_zr4 (li_gEl g)) rfl⟩
    | 5, _ => exact ⟨10, by decide, by decide, am_cnG_ok (gm_yJx4a65c_add_9ea2d_zr5 (li_gEl g)) rfl⟩
    | k + 6, hk => exact absurd hk (by show ¬ (((k + 6 : Nat) : Int) < 6); omega)) (fun k h1 h2 => absurd h2 (by show ¬ ((k : Int) < 6); omega))
theorem li_rem_r {l : Launch} {G : am_G} {X : ck_XT} (g : gE l G X) : ck_Con (ck_lift G (am_cn l G yJx4a65c_remove_915e3 (.code yJx4a65c_remove_915e3 prog_46_method_29_code 4 (some (.object "java/lang/Object"))) 3 82)) G li_X gT (li_remK li_fr) :=
  li_rem_con (by decide) (by decide) (by decide) (am_cnG_ok (gm_yJx4a65c_remove_915e3_zr (li_gEl g)) rfl)
theorem li_add_s {l : Launch} {G : am_G} {X : ck_XT} (g : gE l G X) : ck_Con (ck_lift G (am_cn l G yJx4a65c_add_9ea2d (.code yJx4a65c_add_9ea2d prog_46_method_25_code 2 (some .boolean)) 8 230)) G li_X gT (li_addK li_fs) :=
  li_add_con (by decide) (by decide) (by decide) (am_cnG_ok (gm_yJx4a65c_add_9ea2d_zse (li_gEl g)) rfl) (fun k hk => by
    match k, hk with
    | 0, _ => exact ⟨10, by decide, by decide, am_cnG_ok (gm_yJx4a65c_add_9ea2d_zs0 (li_gEl g)) rfl⟩
    | 1, _ => exact ⟨10, by decide, by decide, am_cnG_ok (gm_yJx4a65c_add_9ea2d_zs1 (li_gEl g)) rfl⟩
    | 2, _ => exact ⟨10, by decide, by decide, am_cnG_ok (gm_yJx4a65c_add_9ea2d_zs2 (li_gEl g)) rfl⟩
    | 3, _ => exact ⟨10, by decide, by decide, am_cnG_ok (gm_yJx4a65c_add_9ea2d_zs3 (li_gEl g)) rfl⟩
    | 4, _ => exact ⟨10, by decide, by decide, am_cnG_ok (gm_yJx4a65c_add_9ea2d_zs4 (li_gEl g)) rfl⟩
    | 5, _ => exact ⟨10, by decide, by decide, am_cnG_ok (gm_yJx4a65c_add_9ea2d_zs5 (li_gEl g)) rfl⟩
    | 6, _ => exact ⟨10, by decide, by decide, am_cnG_ok (gm_yJx4a65c_add_9ea2d_zs6 (li_gEl g)) rfl⟩
    | 7, _ => exact ⟨10, by decide, by decide, am_cnG_ok (gm_yJx4a65c_add_9ea2d_zs7 (li_gEl g)) rfl⟩
    | 8, _ => exact ⟨10, by decide, by decide, am_cnG_ok (gm_yJx4a65c_add_9ea2d_zs8 (li_gEl g)) rfl⟩
    | 9, _ => exact ⟨10, by decide, by decide, am_cnG_ok (gm_yJx4a65c_add_9ea2d_zs9 (li_gEl g)) rfl⟩
    | 10, _ => exact ⟨11, by decide, by decide, am_cnG_ok (gm_yJx4a65c_add_9ea2d_zs10 (li_gEl g)) rfl⟩
    | 11, _ => exact ⟨12, by decide, by decide, am_cnG_ok (gm_yJx4a65c_add_9ea2d_zs11 (li_gEl g)) rfl⟩
    | 12, _ => exact ⟨13, by decide, by decide, am_cnG_ok (gm_yJx4a65c_add_9ea2d_zs12 (li_gEl g)) rfl⟩
    | k + 13, hk => exact absurd hk (by show ¬ (((k + 13 : Nat) : Int) < 13); omega)) (fun k h1 h2 => by
    match k, h1, h2 with
    | 10, _, _ => exact am_cnG_ok (gm_yJx4a65c_add_9ea2d_zg10 (li_gEl g)) rfl
    | 11, _, _ => exact am_cnG_ok (gm_yJx4a65c_add_9ea2d_zg11 (li_gEl g)) rfl
    | 12, _, _ => exact am_cnG_ok (gm_yJx4a65c_add_9ea2d_zg12 (li_gEl g)) rfl
    | 0, h1, _ => exact absurd h1 (by decide)
    | 1, h1, _ => exact absurd h1 (by decide)
    | 2, h1, _ => exact absurd h1 (by decide)
    | 3, h1, _ => exact absurd h1 (by decide)
    | 4, h1, _ => exact absurd h1 (by decide)
    | 5, h1, _ => exact absurd h1 (by decide)
    | 6, h1, _ => exact absurd h1 (by decide)
    | 7, h1, _ => exact absurd h1 (by decide)
    | 8, h1, _ => exact absurd h1 (by decide)
    | 9, h1, _ => exact absurd h1 (by decide)
    | k + 13, _, h2 => exact absurd h2 (by show ¬ (((k + 13 : Nat) : Int) < 13); omega))
theorem li_rem_s {l : Launch} {G : am_G} {X : ck_XT} (g : gE l G X) : ck_Con (ck_lift G (am_cn l G yJx4a65c_remove_915e3 (.code yJx4a65c_remove_915e3 prog_46_method_29_code 4 (some (.object "java/lang/Object"))) 3 82)) G li_X gT (li_remK li_fs) :=
  li_rem_con (by decide) (by decide) (by decide) (am_cnG_ok (gm_yJx4a65c_remove_915e3_zs (li_gEl g)) rfl)
theorem li_addb_0 {l : Launch} {G : am_G} {X : ck_XT} (g : gE l G X) : ck_Con (ck_lift G (am_cn l G yJx4a65c_add_9ea2d (.code yJx4a65c_add_9ea2d prog_46_method_25_code 2 (some .boolean)) 8 230)) G li_X gT (li_addbK 0) :=
  li_addb_con (by decide) (am_cnG_ok (gm_yJx4a65c_add_9ea2d_zbe (li_gEl g)) rfl) (fun k hk => by
    match k, hk with
    | 0, _ => exact ⟨10, by decide, by decide, am_cnG_ok (gm_yJx4a65c_add_9ea2d_zb0 (li_gEl g)) rfl⟩
    | 1, _ => exact ⟨10, by decide, by decide, am_cnG_ok (gm_yJx4a65c_add_9ea2d_zb1 (li_gEl g)) rfl⟩
    | 2, _ => exact ⟨10, by decide, by decide, am_cnG_ok (gm_yJx4a65c_add_9ea2d_zb2 (li_gEl g)) rfl⟩
    | 3, _ => exact ⟨10, by decide, by decide, am_cnG_ok (gm_yJx4a65c_add_9ea2d_zb3 (li_gEl g)) rfl⟩
    | 4, _ => exact ⟨10, by decide, by decide, am_cnG_ok (gm_yJx4a65c_add_9ea2d_zb4 (li_gEl g)) rfl⟩
    | k + 5, hk => exact absurd hk (by show ¬ (((k + 5 : Nat) : Int) < 5); omega))
theorem li_remb_0 {l : Launch} {G : am_G} {X : ck_XT} (g : gE l G X) : ck_Con (ck_lift G (am_cn l G yJx4a65c_remove_915e3 (.code yJx4a65c_remove_915e3 prog_46_method_29_code 4 (some (.object "java/lang/Object"))) 3 82)) G li_X gT (li_rembK 0) :=
  li_remb_con (by decide) (am_cnG_ok (gm_yJx4a65c_remove_915e3_zb1 (li_gEl g)) rfl)
theorem li_addb_1 {l : Launch} {G : am_G} {X : ck_XT} (g : gE l G X) : ck_Con (ck_lift G (am_cn l G yJx4a65c_add_9ea2d (.code yJx4a65c_add_9ea2d prog_46_method_25_code 2 (some .boolean)) 8 230)) G li_X gT (li_addbK 1) :=
  li_addb_con (by decide) (am_cnG_ok (gm_yJx4a65c_add_9ea2d_zbe (li_gEl g)) rfl) (fun k hk => by
    match k, hk with
    | 0, _ => exact ⟨10, by decide, by decide, am_cnG_ok (gm_yJx4a65c_add_9ea2d_zb0 (li_gEl g)) rfl⟩
    | 1, _ => exact ⟨10, by decide, by decide, am_cnG_ok (gm_yJx4a65c_add_9ea2d_zb1 (li_gEl g)) rfl⟩
    | 2, _ => exact ⟨10, by decide, by decide, am_cnG_ok (gm_yJx4a65c_add_9ea2d_zb2 (li_gEl g)) rfl⟩
    | 3, _ => exact ⟨10, by decide, by decide, am_cnG_ok (gm_yJx4a65c_add_9ea2d_zb3 (li_gEl g)) rfl⟩
    | 4, _ => exact ⟨10, by decide, by decide, am_cnG_ok (gm_yJx4a65c_add_9ea2d_zb4 (li_gEl g)) rfl⟩
    | k + 5, hk => exact absurd hk (by show ¬ (((k + 5 : Nat) : Int) < 5); omega))
theorem li_remb_1 {l : Launch} {G : am_G} {X : ck_XT} (g : gE l G X) : ck_Con (ck_lift G (am_cn l G yJx4a65c_remove_915e3 (.code yJx4a65c_remove_915e3 prog_46_method_29_code 4 (some (.object "java/lang/Object"))) 3 82)) G li_X gT (li_rembK 1) :=
  li_remb_con (by decide) (am_cnG_ok (gm_yJx4a65c_remove_915e3_zb2 (li_gEl g)) rfl)
theorem li_addb_2 {l : Launch} {G : am_G} {X : ck_XT} (g : gE l G X) : ck_Con (ck_lift G (am_cn l G yJx4a65c_add_9ea2d (.code yJx4a65c_add_9ea2d prog_46_method_25_code 2 (some .boolean)) 8 230)) G li_X gT (li_addbK 2) :=
  li_addb_con (by decide) (am_cnG_ok (gm_yJx4a65c_add_9ea2d_zbe (li_gEl g)) rfl) (fun k hk => by
    match k, hk with
    | 0, _ => exact ⟨10, by decide, by decide, am_cnG_ok (gm_yJx4a65c_add_9ea2d_zb0 (li_gEl g)) rfl⟩
    | 1, _ => exact ⟨10, by decide, by decide, am_cnG_ok (gm_yJx4a65c_add_9ea2d_zb1 (li_gEl g)) rfl⟩
    | 2, _ => exact ⟨10, by decide, by decide, am_cnG_ok (gm_yJx4a65c_add_9ea2d_zb2 (li_gEl g)) rfl⟩
    | 3, _ => exact ⟨10, by decide, by decide, am_cnG_ok (gm_yJx4a65c_add_9ea2d_zb3 (li_gEl g)) rfl⟩
    | 4, _ => exact ⟨10, by decide, by decide, am_cnG_ok (gm_yJx4a65c_add_9ea2d_zb4 (li_gEl g)) rfl⟩
    | k + 5, hk => exact absurd hk (by show ¬ (((k + 5 : Nat) : Int) < 5); omega))
theorem li_remb_2 {l : Launch} {G : am_G} {X : ck_XT} (g : gE l G X) : ck_Con (ck_lift G (am_cn l G yJx4a65c_remove_915e3 (.code yJx4a65c_remove_915e3 prog_46_method_29_code 4 (some (.object "java/lang/Object"))) 3 82)) G li_X gT (li_rembK 2) :=
  li_remb_con (by decide) (am_cnG_ok (gm_yJx4a65c_remove_915e3_zb3 (li_gEl g)) rfl)
theorem li_addb_3 {l : Launch} {G : am_G} {X : ck_XT} (g : gE l G X) : ck_Con (ck_lift G (am_cn l G yJx4a65c_add_9ea2d (.code yJx4a65c_add_9ea2d prog_46_method_25_code 2 (some .boolean)) 8 230)) G li_X gT (li_addbK 3) :=
  li_addb_con (by decide) (am_cnG_ok (gm_yJx4a65c_add_9ea2d_zbe (li_gEl g)) rfl) (fun k hk => by
    match k, hk with
    | 0, _ => exact ⟨10, by decide, by decide, am_cnG_ok (gm_yJx4a65c_add_9ea2d_zb0 (li_gEl g)) rfl⟩
    | 1, _ => exact ⟨10, by decide, by decide, am_cnG_ok (gm_yJx4a65c_add_9ea2d_zb1 (li_gEl g)) rfl⟩
    | 2, _ => exact ⟨10, by decide, by decide, am_cnG_ok (gm_yJx4a65c_add_9ea2d_zb2 (li_gEl g)) rfl⟩
    | 3, _ => exact ⟨10, by decide, by decide, am_cnG_ok (gm_yJx4a65c_add_9ea2d_zb3 (li_gEl g)) rfl⟩
    | 4, _ => exact ⟨10, by decide, by decide, am_cnG_ok (gm_yJx4a65c_add_9ea2d_zb4 (li_gEl g)) rfl⟩
    | k + 5, hk => exact absurd hk (by show ¬ (((k + 5 : Nat) : Int) < 5); omega))
theorem li_remb_3 {l : Launch} {G : am_G} {X : ck_XT} (g : gE l G X) : ck_Con (ck_lift G (am_cn l G yJx4a65c_remove_915e3 (.code yJx4a65c_remove_915e3 prog_46_method_29_code 4 (some (.object "java/lang/Object"))) 3 82)) G li_X gT (li_rembK 3) :=
  li_remb_con (by decide) (am_cnG_ok (gm_yJx4a65c_remove_915e3_zb4 (li_gEl g)) rfl)
theorem li_addb_4 {l : Launch} {G : am_G} {X : ck_XT} (g : gE l G X) : ck_Con (ck_lift G (am_cn l G yJx4a65c_add_9ea2d (.code yJx4a65c_add_9ea2d prog_46_method_25_code 2 (some .boolean)) 8 230)) G li_X gT (li_addbK 4) :=
  li_addb_con (by decide) (am_cnG_ok (gm_yJx4a65c_add_9ea2d_zbe (li_gEl g)) rfl) (fun k hk => by
    match k, hk with
    | 0, _ => exact ⟨10, by decide, by decide, am_cnG_ok (gm_yJx4a65c_add_9ea2d_zb0 (li_gEl g)) rfl⟩
    | 1, _ => exact ⟨10, by decide, by decide, am_cnG_ok (gm_yJx4a65c_add_9ea2d_zb1 (li_gEl g)) rfl⟩
    | 2, _ => exact ⟨10, by decide, by decide, am_cnG_ok (gm_yJx4a65c_add_9ea2d_zb2 (li_gEl g)) rfl⟩
    | 3, _ => exact ⟨10, by decide, by decide, am_cnG_ok (gm_yJx4a65c_add_9ea2d_zb3 (li_gEl g)) rfl⟩
    | 4, _ => exact ⟨10, by decide, by decide, am_cnG_ok (gm_yJx4a65c_add_9ea2d_zb4 (li_gEl g)) rfl⟩
    | k + 5, hk => exact absurd hk (by show ¬ (((k + 5 : Nat) : Int) < 5); omega))
theorem li_remb_4 {l : Launch} {G : am_G} {X : ck_XT} (g : gE l G X) : ck_Con (ck_lift G (am_cn l G yJx4a65c_remove_915e3 (.code yJx4a65c_remove_915e3 prog_46_method_29_code 4 (some (.object "java/lang/Object"))) 3 82)) G li_X gT (li_rembK 4) :=
  li_remb_con (by decide) (am_cnG_ok (gm_yJx4a65c_remove_915e3_zb5 (li_gEl g)) rfl)
