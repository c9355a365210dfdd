/-! THE LAW'S WALK -/
theorem gk_law_27 : ck_go ge_yLaw_a (some gs_law_27.2.2) 1643 1 gs_law_27.1 gs_law_27.2.1 = true := by decide +kernel
theorem gk_law_296 : ck_go ge_yLaw_a (some gs_law_296.2.2) 1643 1 gs_law_296.1 gs_law_296.2.1 = true := by decide +kernel
theorem gk_law_324 : ck_go ge_yLaw_a (some gs_law_324.2.2) 1643 1 gs_law_324.1 gs_law_324.2.1 = true := by decide +kernel
theorem gk_law_364 : ck_go ge_yLaw_a (some gs_law_364.2.2) 1643 1 gs_law_364.1 gs_law_364.2.1 = true := by decide +kernel
theorem gk_law_404 : ck_go ge_yLaw_a (some gs_law_404.2.2) 1643 1 gs_law_404.1 gs_law_404.2.1 = true := by decide +kernel
theorem gk_law_444 : ck_go ge_yLaw_a (some gs_law_444.2.2) 1643 1 gs_law_444.1 gs_law_444.2.1 = true := by decide +kernel
theorem gk_law_484 : ck_go ge_yLaw_a (some gs_law_484.2.2) 1643 1 gs_law_484.1 gs_law_484.2.1 = true := by decide +kernel
theorem gk_law_512 : ck_go ge_yLaw_a (some gs_law_512.2.2) 1643 1 gs_law_512.1 gs_law_512.2.1 = true := by decide +kernel
theorem gk_law_540 : ck_go ge_yLaw_a (some gs_law_540.2.2) 1643 1 gs_law_540.1 gs_law_540.2.1 = true := by decide +kernel
theorem gk_law_580 : ck_go ge_yLaw_a (some gs_law_580.2.2) 1643 1 gs_law_580.1 gs_law_580.2.1 = true := by decide +kernel
theorem gk_law_620 : ck_go ge_yLaw_a (some gs_law_620.2.2) 1643 1 gs_law_620.1 gs_law_620.2.1 = true := by decide +kernel
theorem gk_law_660 : ck_go ge_yLaw_a (some gs_law_660.2.2) 1643 1 gs_law_660.1 gs_law_660.2.1 = true := by decide +kernel
theorem gk_law_688 : ck_go ge_yLaw_a (some gs_law_688.2.2) 1643 1 gs_law_688.1 gs_law_688.2.1 = true := by decide +kernel
theorem gk_law_728 : ck_go ge_yLaw_a (some gs_law_728.2.2) 1643 1 gs_law_728.1 gs_law_728.2.1 = true := by decide +kernel
theorem gk_law_804 : ck_go ge_yLaw_a (some gs_law_804.2.2) 1643 1 gs_law_804.1 gs_law_804.2.1 = true := by decide +kernel
theorem gk_law_832 : ck_go ge_yLaw_a (some gs_law_832.2.2) 1643 1 gs_law_832.1 gs_law_832.2.1 = true := by decide +kernel
theorem gk_law_860 : ck_go ge_yLaw_a (some gs_law_860.2.2) 1643 1 gs_law_860.1 gs_law_860.2.1 = true := by decide +kernel
theorem gk_law_876 : ck_go ge_yLaw_a (some gs_law_876.2.2) 1643 1 gs_law_876.1 gs_law_876.2.1 = true := by decide +kernel
theorem gk_law_892 : ck_go ge_yLaw_a (some gs_law_892.2.2) 1643 1 gs_law_892.1 gs_law_892.2.1 = true := by decide +kernel
theorem gk_law_905 : ck_go ge_yLaw_a (some gs_law_905.2.2) 1643 1 gs_law_905.1 gs_law_905.2.1 = true := by decide +kernel
theorem gk_law_933 : ck_go ge_yLaw_a (some gs_law_933.2.2) 1643 1 gs_law_933.1 gs_law_933.2.1 = true := by decide +kernel
theorem gk_law_961 : ck_go ge_yLaw_a (some gs_law_961.2.2) 1643 1 gs_law_961.1 gs_law_961.2.1 = true := by decide +kernel
theorem gk_law_1001 : ck_go ge_yLaw_a (some gs_law_1001.2.2) 1643 1 gs_law_1001.1 gs_law_1001.2.1 = true := by decide +kernel
theorem gk_law_1041 : ck_go ge_yLaw_a (some gs_law_1041.2.2) 1643 1 gs_law_1041.1 gs_law_1041.2.1 = true := by decide +kernel
theorem gk_law_1081 : ck_go ge_yLaw_a (some gs_law_1081.2.2) 1643 1 gs_law_1081.1 gs_law_1081.2.1 = true := by decide +kernel
theorem gk_law_1133 : ck_go ge_yLaw_a (some gs_law_1133.2.2) 1643 1 gs_law_1133.1 gs_law_1133.2.1 = true := by decide +kernel
theorem gk_law_1146 : ck_go ge_yLaw_a (some gs_law_1146.2.2) 1643 1 gs_law_1146.1 gs_law_1146.2.1 = true := by decide +kernel
theorem gk_law_1174 : ck_go ge_yLaw_a (some gs_law_1174.2.2) 1643 1 gs_law_1174.1 gs_law_1174.2.1 = true := by decide +kernel
theorem gk_law_1202 : ck_go ge_yLaw_a (some gs_law_1202.2.2) 1643 1 gs_law_1202.1 gs_law_1202.2.1 = true := by decide +kernel
theorem gk_law_1242 : ck_go ge_yLaw_a (some gs_law_1242.2.2) 1643 1 gs_law_1242.1 gs_law_1242.2.1 = true := by decide +kernel
theorem gk_law_1270 : ck_go ge_yLaw_a (some gs_law_1270.2.2) 1643 1 gs_law_1270.1 gs_law_1270.2.1 = true := by decide +kernel
theorem gk_law_1310 : ck_go ge_yLaw_a (some gs_law_1310.2.2) 1643 1 gs_law_1310.1 gs_law_1310.2.1 = true := by decide +kernel
theorem gk_law_1362 : ck_go ge_yLaw_a (some gs_law_1362.2.2) 1643 1 gs_law_1362.1 gs_law_1362.2.1 = true := by decide +kernel
theorem gk_law_1375 : ck_go ge_yLaw_a (some gs_law_1375.2.2) 1643 1 gs_law_1375.1 gs_law_1375.2.1 = true := by decide +kernel
theorem gk_law_1403 : ck_go ge_yLaw_a (some gs_law_1403.2.2) 1643 1 gs_law_1403.1 gs_law_1403.2.1 = true := by decide +kernel
theorem gk_law_1431 : ck_go ge_yLaw_a (some gs_law_1431.2.2) 1643 1 gs_law_1431.1 gs_law_1431.2.1 = true := by decide +kernel
theorem gk_law_1459 : ck_go ge_yLaw_a (some gs_law_1459.2.2) 1643 1 gs_law_1459.1 gs_law_1459.2.1 = true := by decide +kernel
theorem gk_law_1487 : ck_go ge_yLaw_a (some gs_law_1487.2.2) 1643 1 gs_law_1487.1 gs_law_1487.2.1 = true := by decide +kernel
theorem gk_law_1527 : ck_go ge_yLaw_a (some gs_law_1527.2.2) 1643 1 gs_law_1527.1 gs_law_1527.2.1 = true := by decide +kernel
theorem gk_law_1555 : ck_go ge_yLaw_a (some gs_law_1555.2.2) 1643 1 gs_law_1555.1 gs_law_1555.2.1 = true := by decide +kernel
theorem gk_law_1595 : ck_go ge_yLaw_a (some gs_law_1595.2.2) 1643 1 gs_law_1595.1 gs_law_1595.2.1 = true := by decide +kernel
theorem gk_law_1608 : ck_go ge_yLaw_a (some gs_law_1608.2.2) 1643 1 gs_law_1608.1 gs_law_1608.2.1 = true := by decide +kernel
theorem gk_law_1636 : ck_go ge_yLaw_a (some gs_law_1636.2.2) 1643 1 gs_law_1636.1 gs_law_1636.2.1 = true := by decide +kernel
theorem gk_law_1664 : ck_go ge_yLaw_a (some gs_law_1664.2.2) 1643 1 gs_law_1664.1 gs_law_1664.2.1 = true := by decide +kernel
theorem gk_law_1677 : ck_go ge_yLaw_a (some gs_law_1677.2.2) 1643 1 gs_law_1677.1 gs_law_1677.2.1 = true := by decide +kernel
theorem gk_law_1717 : ck_go ge_yLaw_a (some gs_law_1717.2.2) 1643 1 gs_law_1717.1 gs_law_1717.2.1 = true := by decide +kernel
theorem gk_law_1757 : ck_go ge_yLaw_a (some gs_law_1757.2.2) 1643 1 gs_law_1757.1 gs_law_1757.2.1 = true := by decide +kernel
theorem gk_law_1770 : ck_go ge_yLaw_a (some gs_law_1770.2.2) 1643 1 gs_law_1770.1 gs_law_1770.2.1 = true := by decide +kernel
theorem gk_law_1810 : ck_go ge_yLaw_a (some gs_law_1810.2.2) 1643 1 gs_law_1810.1 gs_law_1810.2.1 = true := by decide +kernel
theorem gk_law_1823 : ck_go ge_yLaw_a (some gs_law_1823.2.2) 1643 1 gs_law_1823.1 gs_law_1823.2.1 = true := by decide +kernel
theorem gk_law_1836 : ck_go ge_yLaw_a (some gs_law_1836.2.2) 1643 1 gs_law_1836.1 gs_law_1836.2.1 = true := by decide +kernel
theorem gk_law_1864 : ck_go ge_yLaw_a (some gs_law_1864.2.2) 1643 1 gs_law_1864.1 gs_law_1864.2.1 = true := by decide +kernel
theorem gk_law_1892 : ck_go ge_yLaw_a (some gs_law_1892.2.2) 1643 1 gs_law_1892.1 gs_law_1892.2.1 = true := by decide +kernel
theorem gk_law_1905 : ck_go ge_yLaw_a (some gs_law_1905.2.2) 1643 1 gs_law_1905.1 gs_law_1905.2.1 = true := by decide +kernel
theorem gk_law_1918 : ck_go ge_yLaw_a (some gs_law_1918.2.2) 1643 1 gs_law_1918.1 gs_law_1918.2.1 = true := by decide +kernel
theorem gk_law_1946 : ck_go ge_yLaw_a (some gs_law_1946.2.2) 1643 1 gs_law_1946.1 gs_law_1946.2.1 = true := by decide +kernel
theorem gk_law_1974 : ck_go ge_yLaw_a (some gs_law_1974.2.2) 1643 1 gs_law_1974.1 gs_law_1974.2.1 = true := by decide +kernel
theorem gk_law_2014 : ck_go ge_yLaw_a (some gs_law_2014.2.2) 1643 1 gs_law_2014.1 gs_law_2014.2.1 = true := by decide +kernel
theorem gk_law_2054 : ck_go ge_yLaw_a (some gs_law_2054.2.2) 1643 1 gs_law_2054.1 gs_law_2054.2.1 = true := by decide +kernel
theorem gk_law_2082 : ck_go ge_yLaw_a (some gs_law_2082.2.2) 1643 1 gs_law_2082.1 gs_law_2082.2.1 = true := by decide +kernel
theorem gk_law_2095 : ck_go ge_yLaw_a (some gs_law_2095.2.2) 1643 1 gs_law_2095.1 gs_law_2095.2.1 = true := by decide +kernel
theorem gk_law_s : ∀ c ∈ ([gs_law_27, gs_law_296, gs_law_324, gs_law_364, gs_law_404, gs_law_444, gs_law_484, gs_law_512, gs_law_540, gs_law_580, gs_law_620, gs_law_660, gs_law_688, gs_law_728, gs_law_804, gs_law_832, gs_law_860, gs_law_876, gs_law_892, gs_law_905, gs_law_933, gs_law_961, gs_law_1001, gs_law_1041, gs_law_1081, gs_law_1133, gs_law_1146, gs_law_1174, gs_law_1202, gs_law_1242, gs_law_1270, gs_law_1310, gs_law_1362, gs_law_1375, gs_law_1403, gs_law_1431, gs_law_1459, gs_law_1487, gs_law_1527, gs_law_1555, gs_law_1595, gs_law_1608, gs_law_1636, gs_law_1664, gs_law_1677, gs_law_1717, gs_law_1757, gs_law_1770, gs_law_1810, gs_law_1823, gs_law_1836, gs_law_1864, gs_law_1892, gs_law_1905, gs_law_1918, gs_law_1946, gs_law_1974, gs_law_2014, gs_law_2054, gs_law_2082, gs_law_2095] : List (Nat × ck_A × ck_L)), ck_go ge_yLaw_a (some c.2.2) 1643 1 c.1 c.2.1 = true := (List.forall_mem_cons.mpr ⟨gk_law_27, (List.forall_mem_cons.mpr ⟨gk_law_296, (List.forall_mem_cons.mpr ⟨gk_law_324, (List.forall_mem_cons.mpr ⟨gk_law_364, (List.forall_mem_cons.mpr ⟨gk_law_404, (List.forall_mem_cons.mpr ⟨gk_law_444, (List.forall_mem_cons.mpr ⟨gk_law_484, (List.forall_mem_cons.mpr ⟨gk_law_512, (List.forall_mem_cons.mpr ⟨gk_law_540, (List.forall_mem_cons.mpr ⟨gk_law_580, (List.forall_mem_cons.mpr ⟨gk_law_620, (List.forall_mem_cons.mpr ⟨gk_law_660, (List.forall_mem_cons.mpr ⟨gk_law_688, (List.forall_mem_cons.mpr ⟨gk_law_728, (List.forall_mem_cons.mpr ⟨gk_law_804, (List.forall_mem_cons.mpr ⟨gk_law_832, (List.forall_mem_cons.mpr ⟨gk_law_860, (List.forall_mem_cons.mpr ⟨gk_law_876, (List.forall_mem_cons.mpr ⟨gk_law_892, (List.forall_mem_cons.mpr ⟨gk_law_905, (List.forall_mem_cons.mpr ⟨gk_law_933, (List.forall_mem_cons.mpr ⟨gk_law_961, (List.forall_mem_cons.mpr ⟨gk_law_1001, (List.forall_mem_cons.mpr ⟨gk_law_1041, (List.forall_mem_cons.mpr ⟨gk_law_1081, (List.forall_mem_cons.mpr ⟨gk_law_1133, (List.forall_mem_cons.mpr ⟨gk_law_1146, (List.forall_mem_cons.mpr ⟨gk_law_1174, (List.forall_mem_cons.mpr ⟨gk_law_1202, (List.forall_mem_cons.mpr ⟨gk_law_1242, (List.forall_mem_cons.mpr ⟨gk_law_1270, (List.forall_mem_cons.mpr ⟨gk_law_1310, (List.forall_mem_cons.mpr ⟨gk_law_1362, (List.forall_mem_cons.mpr ⟨gk_law_1375, (List.forall_mem_cons.mpr ⟨gk_law_1403, (List.forall_mem_cons.mpr ⟨gk_law_1431, (List.forall_mem_cons.mpr ⟨gk_law_1459, (List.forall_mem_cons.mpr ⟨gk_law_1487, (List.forall_mem_cons.mpr ⟨gk_law_1527, (List.forall_mem_cons.mpr ⟨gk_law_1555, (List.forall_mem_cons.mpr ⟨gk_law_1595, (List.forall_mem_cons.mpr ⟨gk_law_1608, (List.forall_mem_cons.mpr ⟨gk_law_1636, (List.forall_mem_cons.mpr ⟨gk_law_1664, (List.forall_mem_cons.mpr ⟨gk_law_1677, (List.forall_mem_cons.mpr ⟨gk_law_1717, (List.forall_mem_cons.mpr ⟨gk_law_1757, (List.forall_mem_cons.mpr ⟨gk_law_1770, (List.forall_mem_cons.mpr ⟨gk_law_1810, (List.forall_mem_cons.mpr ⟨gk_law_1823, (List.forall_mem_cons.mpr ⟨gk_law_1836, (List.forall_mem_cons.mpr ⟨gk_law_1864, (List.forall_mem_cons.mpr ⟨gk_law_1892, (List.forall_mem_cons.mpr ⟨gk_law_1905, (List.forall_mem_cons.mpr ⟨gk_law_1918, (List.forall_mem_cons.mpr ⟨gk_law_1946, (List.forall_mem_cons.mpr ⟨gk_law_1974, (List.forall_mem_cons.mpr ⟨gk_law_2014, (List.forall_mem_cons.mpr ⟨gk_law_2054, (List.forall_mem_cons.mpr ⟨gk_law_2082, (List.forall_mem_cons.mpr ⟨gk_law_2095, (List.forall_mem_nil _)⟩)⟩)⟩)⟩)⟩)⟩)⟩)⟩)⟩)⟩)⟩)⟩)⟩)⟩)⟩)⟩)⟩)⟩)⟩)⟩)⟩)⟩)⟩)⟩)⟩)⟩)⟩)⟩)⟩)⟩)⟩)⟩)⟩)⟩)⟩)⟩)⟩)⟩)⟩)⟩)⟩)⟩)⟩)⟩)⟩)⟩)⟩)⟩)⟩)⟩)⟩)⟩)⟩)⟩)⟩)⟩)⟩)⟩)⟩)⟩)⟩)
theorem gk_law_r : (ck_go ge_yLaw_a none 1643 0 0 (ck_A0 ge_yLaw_a.2.2.1 ge_yLaw_a.2.2.2.1) && ((ge_yLaw_a.2.2.1.1.2.2.1.all fun q => !(Nat.beq q.1 5)) && ck_rtk ge_yLaw_a.2.2.1.2.2.2.1 ge_yLaw_a.2.2.1.1.2.2.2.1)) = true := by decide +kernel
theorem gk_yLaw_a : ck_chk ge_yLaw_a 1643 = true := by
  unfold ck_chk
  rw [Bool.and_eq_true]
  exact ⟨List.all_eq_true.mpr gk_law_s, gk_law_r⟩
