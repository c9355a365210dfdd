/-! THE LAW'S INSTRUCTIONS -/
def sp_law : List (Nat × Nat × Nat) := [(1494, 2, 1497), (1512, 1, 1515)]
theorem cl_app {α : Type} {p : α → Bool} {a b : List α} (h1 : a.all p = true) (h2 : b.all p = true) : (a ++ b).all p = true := by
  rw [List.all_append, h1, h2]
  rfl
theorem gd_law_0 : gx_law_0.all (cl_ok2 code gt_yLaw_a sp_law) = true := by decide +kernel
theorem gd_law_1 : gx_law_1.all (cl_ok2 code gt_yLaw_a sp_law) = true := by decide +kernel
theorem gd_law_2 : gx_law_2.all (cl_ok2 code gt_yLaw_a sp_law) = true := by decide +kernel
theorem gd_law_3 : gx_law_3.all (cl_ok2 code gt_yLaw_a sp_law) = true := by decide +kernel
theorem gd_law_4 : gx_law_4.all (cl_ok2 code gt_yLaw_a sp_law) = true := by decide +kernel
theorem gd_law_5 : gx_law_5.all (cl_ok2 code gt_yLaw_a sp_law) = true := by decide +kernel
theorem gd_law_6 : gx_law_6.all (cl_ok2 code gt_yLaw_a sp_law) = true := by decide +kernel
theorem gd_law_7 : gx_law_7.all (cl_ok2 code gt_yLaw_a sp_law) = true := by decide +kernel
theorem gd_law_8 : gx_law_8.all (cl_ok2 code gt_yLaw_a sp_law) = true := by decide +kernel
theorem gd_law_9 : gx_law_9.all (cl_ok2 code gt_yLaw_a sp_law) = true := by decide +kernel
theorem gd_law_10 : gx_law_10.all (cl_ok2 code gt_yLaw_a sp_law) = true := by decide +kernel
theorem gd_law_11 : gx_law_11.all (cl_ok2 code gt_yLaw_a sp_law) = true := by decide +kernel
theorem gd_law_12 : gx_law_12.all (cl_ok2 code gt_yLaw_a sp_law) = true := by decide +kernel
theorem gd_law_13 : gx_law_13.all (cl_ok2 code gt_yLaw_a sp_law) = true := by decide +kernel
theorem gd_law_14 : gx_law_14.all (cl_ok2 code gt_yLaw_a sp_law) = true := by decide +kernel
theorem gd_law_15 : gx_law_15.all (cl_ok2 code gt_yLaw_a sp_law) = true := by decide +kernel
theorem gd_law_16 : gx_law_16.all (cl_ok2 code gt_yLaw_a sp_law) = true := by decide +kernel
theorem gd_law_17 : gx_law_17.all (cl_ok2 code gt_yLaw_a sp_law) = true := by decide +kernel
theorem gd_law_18 : gx_law_18.all (cl_ok2 code gt_yLaw_a sp_law) = true := by decide +kernel
theorem gd_law_19 : gx_law_19.all (cl_ok2 code gt_yLaw_a sp_law) = true := by decide +kernel
theorem gd_law_20 : gx_law_20.all (cl_ok2 code gt_yLaw_a sp_law) = true := by decide +kernel
theorem gd_law_21 : gx_law_21.all (cl_ok2 code gt_yLaw_a sp_law) = true := by decide +kernel
theorem gd_law_22 : gx_law_22.all (cl_ok2 code gt_yLaw_a sp_law) = true := by decide +kernel
theorem gd_law_23 : gx_law_23.all (cl_ok2 code gt_yLaw_a sp_law) = true := by decide +kernel
theorem gd_law_24 : gx_law_24.all (cl_ok2 code gt_yLaw_a sp_law) = true := by decide +kernel
theorem gd_law_25 : gx_law_25.all (cl_ok2 code gt_yLaw_a sp_law) = true := by decide +kernel
theorem gd_law_26 : gx_law_26.all (cl_ok2 code gt_yLaw_a sp_law) = true := by decide +kernel
theorem gd_law_27 : gx_law_27.all (cl_ok2 code gt_yLaw_a sp_law) = true := by decide +kernel
theorem gd_law_28 : gx_law_28.all (cl_ok2 code gt_yLaw_a sp_law) = true := by decide +kernel
theorem gd_law_29 : gx_law_29.all (cl_ok2 code gt_yLaw_a sp_law) = true := by decide +kernel
theorem gd_law_30 : gx_law_30.all (cl_ok2 code gt_yLaw_a sp_law) = true := by decide +kernel
set_option maxRecDepth 200000 in
theorem gd_yLaw_a : ge_yLaw_a.2.2.2.2.1.all (cl_ok2 code gt_yLaw_a sp_law) = true := (show ge_yLaw_a.2.2.2.2.1 = (gx_law_0 ++ (gx_law_1 ++ (gx_law_2 ++ (gx_law_3 ++ (gx_law_4 ++ (gx_law_5 ++ (gx_law_6 ++ (gx_law_7 ++ (gx_law_8 ++ (gx_law_9 ++ (gx_law_10 ++ (gx_law_11 ++ (gx_law_12 ++ (gx_law_13 ++ (gx_law_14 ++ (gx_law_15 ++ (gx_law_16 ++ (gx_law_17 ++ (gx_law_18 ++ (gx_law_19 ++ (gx_law_20 ++ (gx_law_21 ++ (gx_law_22 ++ (gx_law_23 ++ (gx_law_24 ++ (gx_law_25 ++ (gx_law_26 ++ (gx_law_27 ++ (gx_law_28 ++ (gx_law_29 ++ gx_law_30)))))))))))))))))))))))))))))) from rfl) ▸ (cl_app gd_law_0 (cl_app gd_law_1 (cl_app gd_law_2 (cl_app gd_law_3 (cl_app gd_law_4 (cl_app gd_law_5 (cl_app gd_law_6 (cl_app gd_law_7 (cl_app gd_law_8 (cl_app gd_law_9 (cl_app gd_law_10 (cl_app gd_law_11 (cl_app gd_law_12 (cl_app gd_law_13 (cl_app gd_law_14 (cl_app gd_law_15 (cl_app gd_law_16 (cl_app gd_law_17 (cl_app gd_law_18 (cl_app gd_law_19 (cl_app gd_law_20 (cl_app gd_law_21 (cl_app gd_law_22 (cl_app gd_law_23 (cl_app gd_law_24 (cl_app gd_law_25 (cl_app gd_law_26 (cl_app gd_law_27 (cl_app gd_law_28 (cl_app gd_law_29 gd_law_30))))))))))))))))))))))))))))))
