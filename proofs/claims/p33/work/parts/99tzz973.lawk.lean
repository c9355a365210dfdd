/-! THE LAW'S WALK -/
theorem gk_law_27 : ck_go ge_yLaw_a (some gs_law_27.2.2) 1594 1 gs_law_27.1 gs_law_27.2.1 = true := by decide +kernel
theorem gk_law_296 : ck_go ge_yLaw_a (some gs_law_296.2.2) 1594 1 gs_law_296.1 gs_law_296.2.1 = true := by decide +kernel
theorem gk_law_324 : ck_go ge_yLaw_a (some gs_law_324.2.2) 1594 1 gs_law_324.1 gs_law_324.2.1 = true := by decide +kernel
theorem gk_law_364 : ck_go ge_yLaw_a (some gs_law_364.2.2) 1594 1 gs_law_364.1 gs_law_364.2.1 = true := by decide +kernel
theorem gk_law_404 : ck_go ge_yLaw_a (some gs_law_404.2.2) 1594 1 gs_law_404.1 gs_law_404.2.1 = true := by decide +kernel
theorem gk_law_444 : ck_go ge_yLaw_a (some gs_law_444.2.2) 1594 1 gs_law_444.1 gs_law_444.2.1 = true := by decide +kernel
theorem gk_law_484 : ck_go ge_yLaw_a (some gs_law_484.2.2) 1594 1 gs_law_484.1 gs_law_484.2.1 = true := by decide +kernel
theorem gk_law_512 : ck_go ge_yLaw_a (some gs_law_512.2.2) 1594 1 gs_law_512.1 gs_law_512.2.1 = true := by decide +kernel
theorem gk_law_540 : ck_go ge_yLaw_a (some gs_law_540.2.2) 1594 1 gs_law_540.1 gs_law_540.2.1 = true := by decide +kernel
theorem gk_law_580 : ck_go ge_yLaw_a (some gs_law_580.2.2) 1594 1 gs_law_580.1 gs_law_580.2.1 = true := by decide +kernel
theorem gk_law_620 : ck_go ge_yLaw_a (some gs_law_620.2.2) 1594 1 gs_law_620.1 gs_law_620.2.1 = true := by decide +kernel
theorem gk_law_660 : ck_go ge_yLaw_a (some gs_law_660.2.2) 1594 1 gs_law_660.1 gs_law_660.2.1 = true := by decide +kernel
theorem gk_law_688 : ck_go ge_yLaw_a (some gs_law_688.2.2) 1594 1 gs_law_688.1 gs_law_688.2.1 = true := by decide +kernel
theorem gk_law_728 : ck_go ge_yLaw_a (some gs_law_728.2.2) 1594 1 gs_law_728.1 gs_law_728.2.1 = true := by decide +kernel
theorem gk_law_768 : ck_go ge_yLaw_a (some gs_law_768.2.2) 1594 1 gs_law_768.1 gs_law_768.2.1 = true := by decide +kernel
theorem gk_law_796 : ck_go ge_yLaw_a (some gs_law_796.2.2) 1594 1 gs_law_796.1 gs_law_796.2.1 = true := by decide +kernel
theorem gk_law_824 : ck_go ge_yLaw_a (some gs_law_824.2.2) 1594 1 gs_law_824.1 gs_law_824.2.1 = true := by decide +kernel
theorem gk_law_840 : ck_go ge_yLaw_a (some gs_law_840.2.2) 1594 1 gs_law_840.1 gs_law_840.2.1 = true := by decide +kernel
theorem gk_law_856 : ck_go ge_yLaw_a (some gs_law_856.2.2) 1594 1 gs_law_856.1 gs_law_856.2.1 = true := by decide +kernel
theorem gk_law_869 : ck_go ge_yLaw_a (some gs_law_869.2.2) 1594 1 gs_law_869.1 gs_law_869.2.1 = true := by decide +kernel
theorem gk_law_897 : ck_go ge_yLaw_a (some gs_law_897.2.2) 1594 1 gs_law_897.1 gs_law_897.2.1 = true := by decide +kernel
theorem gk_law_925 : ck_go ge_yLaw_a (some gs_law_925.2.2) 1594 1 gs_law_925.1 gs_law_925.2.1 = true := by decide +kernel
theorem gk_law_965 : ck_go ge_yLaw_a (some gs_law_965.2.2) 1594 1 gs_law_965.1 gs_law_965.2.1 = true := by decide +kernel
theorem gk_law_1005 : ck_go ge_yLaw_a (some gs_law_1005.2.2) 1594 1 gs_law_1005.1 gs_law_1005.2.1 = true := by decide +kernel
theorem gk_law_1045 : ck_go ge_yLaw_a (some gs_law_1045.2.2) 1594 1 gs_law_1045.1 gs_law_1045.2.1 = true := by decide +kernel
theorem gk_law_1097 : ck_go ge_yLaw_a (some gs_law_1097.2.2) 1594 1 gs_law_1097.1 gs_law_1097.2.1 = true := by decide +kernel
theorem gk_law_1110 : ck_go ge_yLaw_a (some gs_law_1110.2.2) 1594 1 gs_law_1110.1 gs_law_1110.2.1 = true := by decide +kernel
theorem gk_law_1138 : ck_go ge_yLaw_a (some gs_law_1138.2.2) 1594 1 gs_law_1138.1 gs_law_1138.2.1 = true := by decide +kernel
theorem gk_law_1166 : ck_go ge_yLaw_a (some gs_law_1166.2.2) 1594 1 gs_law_1166.1 gs_law_1166.2.1 = true := by decide +kernel
theorem gk_law_1206 : ck_go ge_yLaw_a (some gs_law_1206.2.2) 1594 1 gs_law_1206.1 gs_law_1206.2.1 = true := by decide +kernel
theorem gk_law_1234 : ck_go ge_yLaw_a (some gs_law_1234.2.2) 1594 1 gs_law_1234.1 gs_law_1234.2.1 = true := by decide +kernel
theorem gk_law_1274 : ck_go ge_yLaw_a (some gs_law_1274.2.2) 1594 1 gs_law_1274.1 gs_law_1274.2.1 = true := by decide +kernel
theorem gk_law_1326 : ck_go ge_yLaw_a (some gs_law_1326.2.2) 1594 1 gs_law_1326.1 gs_law_1326.2.1 = true := by decide +kernel
theorem gk_law_1339 : ck_go ge_yLaw_a (some gs_law_1339.2.2) 1594 1 gs_law_1339.1 gs_law_1339.2.1 = true := by decide +kernel
theorem gk_law_1367 : ck_go ge_yLaw_a (some gs_law_1367.2.2) 1594 1 gs_law_1367.1 gs_law_1367.2.1 = true := by decide +kernel
theorem gk_law_1395 : ck_go ge_yLaw_a (some gs_law_1395.2.2) 1594 1 gs_law_1395.1 gs_law_1395.2.1 = true := by decide +kernel
theorem gk_law_1423 : ck_go ge_yLaw_a (some gs_law_1423.2.2) 1594 1 gs_law_1423.1 gs_law_1423.2.1 = true := by decide +kernel
theorem gk_law_1451 : ck_go ge_yLaw_a (some gs_law_1451.2.2) 1594 1 gs_law_1451.1 gs_law_1451.2.1 = true := by decide +kernel
theorem gk_law_1491 : ck_go ge_yLaw_a (some gs_law_1491.2.2) 1594 1 gs_law_1491.1 gs_law_1491.2.1 = true := by decide +kernel
theorem gk_law_1519 : ck_go ge_yLaw_a (some gs_law_1519.2.2) 1594 1 gs_law_1519.1 gs_law_1519.2.1 = true := by decide +kernel
theorem gk_law_1559 : ck_go ge_yLaw_a (some gs_law_1559.2.2) 1594 1 gs_law_1559.1 gs_law_1559.2.1 = true := by decide +kernel
theorem gk_law_1572 : ck_go ge_yLaw_a (some gs_law_1572.2.2) 1594 1 gs_law_1572.1 gs_law_1572.2.1 = true := by decide +kernel
theorem gk_law_1600 : ck_go ge_yLaw_a (some gs_law_1600.2.2) 1594 1 gs_law_1600.1 gs_law_1600.2.1 = true := by decide +kernel
theorem gk_law_1628 : ck_go ge_yLaw_a (some gs_law_1628.2.2) 1594 1 gs_law_1628.1 gs_law_1628.2.1 = true := by decide +kernel
theorem gk_law_1641 : ck_go ge_yLaw_a (some gs_law_1641.2.2) 1594 1 gs_law_1641.1 gs_law_1641.2.1 = true := by decide +kernel
theorem gk_law_1681 : ck_go ge_yLaw_a (some gs_law_1681.2.2) 1594 1 gs_law_1681.1 gs_law_1681.2.1 = true := by decide +kernel
theorem gk_law_1721 : ck_go ge_yLaw_a (some gs_law_1721.2.2) 1594 1 gs_law_1721.1 gs_law_1721.2.1 = true := by decide +kernel
theorem gk_law_1734 : ck_go ge_yLaw_a (some gs_law_1734.2.2) 1594 1 gs_law_1734.1 gs_law_1734.2.1 = true := by decide +kernel
theorem gk_law_1774 : ck_go ge_yLaw_a (some gs_law_1774.2.2) 1594 1 gs_law_1774.1 gs_law_1774.2.1 = true := by decide +kernel
theorem gk_law_1787 : ck_go ge_yLaw_a (some gs_law_1787.2.2) 1594 1 gs_law_1787.1 gs_law_1787.2.1 = true := by decide +kernel
theorem gk_law_1800 : ck_go ge_yLaw_a (some gs_law_1800.2.2) 1594 1 gs_law_1800.1 gs_law_1800.2.1 = true := by decide +kernel
theorem gk_law_1828 : ck_go ge_yLaw_a (some gs_law_1828.2.2) 1594 1 gs_law_1828.1 gs_law_1828.2.1 = true := by decide +kernel
theorem gk_law_1856 : ck_go ge_yLaw_a (some gs_law_1856.2.2) 1594 1 gs_law_1856.1 gs_law_1856.2.1 = true := by decide +kernel
theorem gk_law_1869 : ck_go ge_yLaw_a (some gs_law_1869.2.2) 1594 1 gs_law_1869.1 gs_law_1869.2.1 = true := by decide +kernel
theorem gk_law_1882 : ck_go ge_yLaw_a (some gs_law_1882.2.2) 1594 1 gs_law_1882.1 gs_law_1882.2.1 = true := by decide +kernel
theorem gk_law_1910 : ck_go ge_yLaw_a (some gs_law_1910.2.2) 1594 1 gs_law_1910.1 gs_law_1910.2.1 = true := by decide +kernel
theorem gk_law_1938 : ck_go ge_yLaw_a (some gs_law_1938.2.2) 1594 1 gs_law_1938.1 gs_law_1938.2.1 = true := by decide +kernel
theorem gk_law_1978 : ck_go ge_yLaw_a (some gs_law_1978.2.2) 1594 1 gs_law_1978.1 gs_law_1978.2.1 = true := by decide +kernel
theorem gk_law_2018 : ck_go ge_yLaw_a (some gs_law_2018.2.2) 1594 1 gs_law_2018.1 gs_law_2018.2.1 = true := by decide +kernel
theorem gk_law_2046 : ck_go ge_yLaw_a (some gs_law_2046.2.2) 1594 1 gs_law_2046.1 gs_law_2046.2.1 = true := by decide +kernel
theorem gk_law_2059 : ck_go ge_yLaw_a (some gs_law_2059.2.2) 1594 1 gs_law_2059.1 gs_law_2059.2.1 = true := by decide +kernel
theorem gk_law_s : ∀ c ∈ ([gs_law_27, gs_law_296, gs_law_324, gs_law_364, gs_law_404, gs_law_444, gs_law_484, gs_law_512, gs_law_540, gs_law_580, gs_law_620, gs_law_660, gs_law_688, gs_law_728, gs_law_768, gs_law_796, gs_law_824, gs_law_840, gs_law_856, gs_law_869, gs_law_897, gs_law_925, gs_law_965, gs_law_1005, gs_law_1045, gs_law_1097, gs_law_1110, gs_law_1138, gs_law_1166, gs_law_1206, gs_law_1234, gs_law_1274, gs_law_1326, gs_law_1339, gs_law_1367, gs_law_1395, gs_law_1423, gs_law_1451, gs_law_1491, gs_law_1519, gs_law_1559, gs_law_1572, gs_law_1600, gs_law_1628, gs_law_1641, gs_law_1681, gs_law_1721, gs_law_1734, gs_law_1774, gs_law_1787, gs_law_1800, gs_law_1828, gs_law_1856, gs_law_1869, gs_law_1882, gs_law_1910, gs_law_1938, gs_law_1978, gs_law_2018, gs_law_2046, gs_law_2059] : List (Nat × ck_A × ck_L)), ck_go ge_yLaw_a (some c.2.2) 1594 1 c.1 c.2.1 = true := (List.forall_mem_cons.mpr ⟨gk_law_27, (List.forall_mem_cons.mpr ⟨gk_law_296, (List.forall_mem_cons.mpr ⟨gk_law_324, (List.forall_mem_cons.mpr ⟨gk_law_364, (List.forall_mem_cons.mpr ⟨gk_law_404, (List.forall_mem_cons.mpr ⟨gk_law_444, (List.forall_mem_cons.mpr ⟨gk_law_484, (List.forall_mem_cons.mpr ⟨gk_law_512, (List.forall_mem_cons.mpr ⟨gk_law_540, (List.forall_mem_cons.mpr ⟨gk_law_580, (List.forall_mem_cons.mpr ⟨gk_law_620, (List.forall_mem_cons.mpr ⟨gk_law_660, (List.forall_mem_cons.mpr ⟨gk_law_688, (List.forall_mem_cons.mpr ⟨gk_law_728, (List.forall_mem_cons.mpr ⟨gk_law_768, (List.forall_mem_cons.mpr ⟨gk_law_796, (List.forall_mem_cons.mpr ⟨gk_law_824, (List.forall_mem_cons.mpr ⟨gk_law_840, (List.forall_mem_cons.mpr ⟨gk_law_856, (List.forall_mem_cons.mpr ⟨gk_law_869, (List.forall_mem_cons.mpr ⟨gk_law_897, (List.forall_mem_cons.mpr ⟨gk_law_925, (List.forall_mem_cons.mpr ⟨gk_law_965, (List.forall_mem_cons.mpr ⟨gk_law_1005, (List.forall_mem_cons.mpr ⟨gk_law_1045, (List.forall_mem_cons.mpr ⟨gk_law_1097, (List.forall_mem_cons.mpr ⟨gk_law_1110, (List.forall_mem_cons.mpr ⟨gk_law_1138, (List.forall_mem_cons.mpr ⟨gk_law_1166, (List.forall_mem_cons.mpr ⟨gk_law_1206, (List.forall_mem_cons.mpr ⟨gk_law_1234, (List.forall_mem_cons.mpr ⟨gk_law_1274, (List.forall_mem_cons.mpr ⟨gk_law_1326, (List.forall_mem_cons.mpr ⟨gk_law_1339, (List.forall_mem_cons.mpr ⟨gk_law_1367, (List.forall_mem_cons.mpr ⟨gk_law_1395, (List.forall_mem_cons.mpr ⟨gk_law_1423, (List.forall_mem_cons.mpr ⟨gk_law_1451, (List.forall_mem_cons.mpr ⟨gk_law_1491, (List.forall_mem_cons.mpr ⟨gk_law_1519, (List.forall_mem_cons.mpr ⟨gk_law_1559, (List.forall_mem_cons.mpr ⟨gk_law_1572, (List.forall_mem_cons.mpr ⟨gk_law_1600, (List.forall_mem_cons.mpr ⟨gk_law_1628, (List.forall_mem_cons.mpr ⟨gk_law_1641, (List.forall_mem_cons.mpr ⟨gk_law_1681, (List.forall_mem_cons.mpr ⟨gk_law_1721, (List.forall_mem_cons.mpr ⟨gk_law_1734, (List.forall_mem_cons.mpr ⟨gk_law_1774, (List.forall_mem_cons.mpr ⟨gk_law_1787, (List.forall_mem_cons.mpr ⟨gk_law_1800, (List.forall_mem_cons.mpr ⟨gk_law_1828, (List.forall_mem_cons.mpr ⟨gk_law_1856, (List.forall_mem_cons.mpr ⟨gk_law_1869, (List.forall_mem_cons.mpr ⟨gk_law_1882, (List.forall_mem_cons.mpr ⟨gk_law_1910, (List.forall_mem_cons.mpr ⟨gk_law_1938, (List.forall_mem_cons.mpr ⟨gk_law_1978, (List.forall_mem_cons.mpr ⟨gk_law_2018, (List.forall_mem_cons.mpr ⟨gk_law_2046, (List.forall_mem_cons.mpr ⟨gk_law_2059, (List.forall_mem_nil _)⟩)⟩)⟩)⟩)⟩)⟩)⟩)⟩)⟩)⟩)⟩)⟩)⟩)⟩)⟩)⟩)⟩)⟩)⟩)⟩)⟩)⟩)⟩)⟩)⟩)⟩)⟩)⟩)⟩)⟩)⟩)⟩)⟩)⟩)⟩)⟩)⟩)⟩)⟩)⟩)⟩)⟩)⟩)⟩)⟩)⟩)⟩)⟩)⟩)⟩)⟩)⟩)⟩)⟩)⟩)⟩)⟩)⟩)⟩)⟩)⟩)
theorem gk_law_r : (ck_go ge_yLaw_a none 1594 0 0 (ck_A0 ge_yLaw_a.2.2.1 ge_yLaw_a.2.2.2.1) && ((ge_yLaw_a.2.2.1.1.2.2.1.all fun q => !(Nat.beq q.1 5)) && ck_rtk ge_yLaw_a.2.2.1.2.2.2.1 ge_yLaw_a.2.2.1.1.2.2.2.1)) = true := by decide +kernel
theorem gk_yLaw_a : ck_chk ge_yLaw_a 1594 = true := by
  unfold ck_chk
  rw [Bool.and_eq_true]
  exact ⟨List.all_eq_true.mpr gk_law_s, gk_law_r⟩
