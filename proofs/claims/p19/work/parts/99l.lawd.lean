/-! THE LAW'S INSTRUCTIONS -/
theorem gd_law_0 : ck_dec code gt_yLaw_a gx_law_0 = true := by decide +kernel
theorem gd_law_1 : ck_dec code gt_yLaw_a gx_law_1 = true := by decide +kernel
theorem gd_law_2 : ck_dec code gt_yLaw_a gx_law_2 = true := by decide +kernel
theorem gd_law_3 : ck_dec code gt_yLaw_a gx_law_3 = true := by decide +kernel
theorem gd_law_4 : ck_dec code gt_yLaw_a gx_law_4 = true := by decide +kernel
theorem gd_law_5 : ck_dec code gt_yLaw_a gx_law_5 = true := by decide +kernel
theorem gd_law_6 : ck_dec code gt_yLaw_a gx_law_6 = true := by decide +kernel
theorem gd_law_7 : ck_dec code gt_yLaw_a gx_law_7 = true := by decide +kernel
theorem gd_law_8 : ck_dec code gt_yLaw_a gx_law_8 = true := by decide +kernel
theorem gd_law_9 : ck_dec code gt_yLaw_a gx_law_9 = true := by decide +kernel
theorem gd_law_10 : ck_dec code gt_yLaw_a gx_law_10 = true := by decide +kernel
theorem gd_law_11 : ck_dec code gt_yLaw_a gx_law_11 = true := by decide +kernel
theorem gd_law_12 : ck_dec code gt_yLaw_a gx_law_12 = true := by decide +kernel
theorem gd_law_13 : ck_dec code gt_yLaw_a gx_law_13 = true := by decide +kernel
theorem gd_law_14 : ck_dec code gt_yLaw_a gx_law_14 = true := by decide +kernel
theorem gd_law_15 : ck_dec code gt_yLaw_a gx_law_15 = true := by decide +kernel
theorem gd_law_16 : ck_dec code gt_yLaw_a gx_law_16 = true := by decide +kernel
theorem gd_law_17 : ck_dec code gt_yLaw_a gx_law_17 = true := by decide +kernel
theorem gd_law_18 : ck_dec code gt_yLaw_a gx_law_18 = true := by decide +kernel
theorem gd_law_19 : ck_dec code gt_yLaw_a gx_law_19 = true := by decide +kernel
theorem gd_law_20 : ck_dec code gt_yLaw_a gx_law_20 = true := by decide +kernel
theorem gd_law_21 : ck_dec code gt_yLaw_a gx_law_21 = true := by decide +kernel
theorem gd_law_22 : ck_dec code gt_yLaw_a gx_law_22 = true := by decide +kernel
theorem gd_law_23 : ck_dec code gt_yLaw_a gx_law_23 = true := by decide +kernel
theorem gd_law_24 : ck_dec code gt_yLaw_a gx_law_24 = true := by decide +kernel
theorem gd_law_25 : ck_dec code gt_yLaw_a gx_law_25 = true := by decide +kernel
theorem gd_law_26 : ck_dec code gt_yLaw_a gx_law_26 = true := by decide +kernel
theorem gd_law_27 : ck_dec code gt_yLaw_a gx_law_27 = true := by decide +kernel
theorem gd_law_28 : ck_dec code gt_yLaw_a gx_law_28 = true := by decide +kernel
theorem gd_law_29 : ck_dec code gt_yLaw_a gx_law_29 = true := by decide +kernel
theorem gd_law_30 : ck_dec code gt_yLaw_a gx_law_30 = true := by decide +kernel
set_option maxRecDepth 200000 in
theorem gd_yLaw_a : ck_dec code gt_yLaw_a ge_yLaw_a.2.2.2.2.1 = true := (show ge_yLaw_a.2.2.2.2.1 = (gx_law_0 ++ (gx_law_1 ++ (gx_law_2 ++ (gx_law_3 ++ (gx_law_4 ++ (gx_law_5 ++ (gx_law_6 ++ (gx_law_7 ++ (gx_law_8 ++ (gx_law_9 ++ (gx_law_10 ++ (gx_law_11 ++ (gx_law_12 ++ (gx_law_13 ++ (gx_law_14 ++ (gx_law_15 ++ (gx_law_16 ++ (gx_law_17 ++ (gx_law_18 ++ (gx_law_19 ++ (gx_law_20 ++ (gx_law_21 ++ (gx_law_22 ++ (gx_law_23 ++ (gx_law_24 ++ (gx_law_25 ++ (gx_law_26 ++ (gx_law_27 ++ (gx_law_28 ++ (gx_law_29 ++ gx_law_30)))))))))))))))))))))))))))))) from rfl) ▸ (ck_dec_app gd_law_0 (ck_dec_app gd_law_1 (ck_dec_app gd_law_2 (ck_dec_app gd_law_3 (ck_dec_app gd_law_4 (ck_dec_app gd_law_5 (ck_dec_app gd_law_6 (ck_dec_app gd_law_7 (ck_dec_app gd_law_8 (ck_dec_app gd_law_9 (ck_dec_app gd_law_10 (ck_dec_app gd_law_11 (ck_dec_app gd_law_12 (ck_dec_app gd_law_13 (ck_dec_app gd_law_14 (ck_dec_app gd_law_15 (ck_dec_app gd_law_16 (ck_dec_app gd_law_17 (ck_dec_app gd_law_18 (ck_dec_app gd_law_19 (ck_dec_app gd_law_20 (ck_dec_app gd_law_21 (ck_dec_app gd_law_22 (ck_dec_app gd_law_23 (ck_dec_app gd_law_24 (ck_dec_app gd_law_25 (ck_dec_app gd_law_26 (ck_dec_app gd_law_27 (ck_dec_app gd_law_28 (ck_dec_app gd_law_29 gd_law_30))))))))))))))))))))))))))))))
