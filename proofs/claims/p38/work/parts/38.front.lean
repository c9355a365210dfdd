/-! THROWABLES -/
theorem g_at_0 : ∀ w ∈ vx_atS "Clockhouse" 411 "java/lang/IndexOutOfBoundsException" g_sup, w ∈ lw_gw ∨ w ∈ lw_ng := ck_inT_ok (by decide +kernel)
theorem g_ot_0 : ∀ w ∈ vx_atS "Clockhouse" 411 "java/lang/IndexOutOfBoundsException" g_sup, vx_ot w = true := by decide +kernel
theorem g_at_1 : ∀ w ∈ vx_atS "Clockhouse" 79 "java/lang/IllegalArgumentException" g_sup, w ∈ lw_gw ∨ w ∈ lw_ng := ck_inT_ok (by decide +kernel)
theorem g_ot_1 : ∀ w ∈ vx_atS "Clockhouse" 79 "java/lang/IllegalArgumentException" g_sup, vx_ot w = true := by decide +kernel
theorem g_at_2 : ∀ w ∈ vx_atS "Clockhouse" 172 "java/lang/IllegalStateException" g_sup, w ∈ lw_gw ∨ w ∈ lw_ng := ck_inT_ok (by decide +kernel)
theorem g_ot_2 : ∀ w ∈ vx_atS "Clockhouse" 172 "java/lang/IllegalStateException" g_sup, vx_ot w = true := by decide +kernel
