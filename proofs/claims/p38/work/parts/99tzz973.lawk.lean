/-! THE LAW'S WALK -/
theorem gk_law_27 : ck_go ge_yLaw_a (some gs_law_27.2.2) 1625 1 gs_law_27.1 gs_law_27.2.1 = true := by decide +kernel
theorem gk_law_296 : ck_go ge_yLaw_a (some gs_law_296.2.2) 1625 1 gs_law_296.1 gs_law_296.2.1 = true := by decide +kernel
theorem gk_law_324 : ck_go ge_yLaw_a (some gs_law_324.2.2) 1625 1 gs_law_324.1 gs_law_324.2.1 = true := by decide +kernel
theorem gk_law_364 : ck_go ge_yLaw_a (some gs_law_364.2.2) 1625 1 gs_law_364.1 gs_law_364.2.1 = true := by decide +kernel
theorem gk_law_404 : ck_go ge_yLaw_a (some gs_law_404.2.2) 1625 1 gs_law_404.1 gs_law_404.2.1 = true := by decide +kernel
theorem gk_law_444 : ck_go ge_yLaw_a (some gs_law_444.2.2) 1625 1 gs_law_444.1 gs_law_444.2.1 = true := by decide +kernel
theorem gk_law_484 : ck_go ge_yLaw_a (some gs_law_484.2.2) 1625 1 gs_law_484.1 gs_law_484.2.1 = true := by decide +kernel
theorem gk_law_512 : ck_go ge_yLaw_a (some gs_law_512.2.2) 1625 1 gs_law_512.1 gs_law_512.2.1 = true := by decide +kernel
theorem gk_law_540 : ck_go ge_yLaw_a (some gs_law_540.2.2) 1625 1 gs_law_540.1 gs_law_540.2.1 = true := by decide +kernel
theorem gk_law_580 : ck_go ge_yLaw_a (some gs_law_580.2.2) 1625 1 gs_law_580.1 gs_law_580.2.1 = true := by decide +kernel
theorem gk_law_620 : ck_go ge_yLaw_a (some gs_law_620.2.2) 1625 1 gs_law_620.1 gs_law_620.2.1 = true := by decide +kernel
theorem gk_law_660 : ck_go ge_yLaw_a (some gs_law_660.2.2) 1625 1 gs_law_660.1 gs_law_660.2.1 = true := by decide +kernel
theorem gk_law_688 : ck_go ge_yLaw_a (some gs_law_688.2.2) 1625 1 gs_law_688.1 gs_law_688.2.1 = true := by decide +kernel
theorem gk_law_728 : ck_go ge_yLaw_a (some gs_law_728.2.2) 1625 1 gs_law_728.1 gs_law_728.2.1 = true := by decide +kernel
theorem gk_law_768 : ck_go ge_yLaw_a (some gs_law_768.2.2) 1625 1 gs_law_768.1 gs_law_768.2.1 = true := by decide +kernel
theorem gk_law_796 : ck_go ge_yLaw_a (some gs_law_796.2.2) 1625 1 gs_law_796.1 gs_law_796.2.1 = true := by decide +kernel
theorem gk_law_824 : ck_go ge_yLaw_a (some gs_law_824.2.2) 1625 1 gs_law_824.1 gs_law_824.2.1 = true := by decide +kernel
theorem gk_law_840 : ck_go ge_yLaw_a (some gs_law_840.2.2) 1625 1 gs_law_840.1 gs_law_840.2.1 = true := by decide +kernel
theorem gk_law_856 : ck_go ge_yLaw_a (some gs_law_856.2.2) 1625 1 gs_law_856.1 gs_law_856.2.1 = true := by decide +kernel
theorem gk_law_869 : ck_go ge_yLaw_a (some gs_law_869.2.2) 1625 1 gs_law_869.1 gs_law_869.2.1 = true := by decide +kernel
theorem gk_law_897 : ck_go ge_yLaw_a (some gs_law_897.2.2) 1625 1 gs_law_897.1 gs_law_897.2.1 = true := by decide +kernel
theorem gk_law_925 : ck_go ge_yLaw_a (some gs_law_925.2.2) 1625 1 gs_law_925.1 gs_law_925.2.1 = true := by decide +kernel
theorem gk_law_965 : ck_go ge_yLaw_a (some gs_law_965.2.2) 1625 1 gs_law_965.1 gs_law_965.2.1 = true := by decide +kernel
theorem gk_law_1005 : ck_go ge_yLaw_a (some gs_law_1005.2.2) 1625 1 gs_law_1005.1 gs_law_1005.2.1 = true := by decide +kernel
theorem gk_law_1045 : ck_go ge_yLaw_a (some gs_law_1045.2.2) 1625 1 gs_law_1045.1 gs_law_1045.2.1 = true := by decide +kernel
theorem gk_law_1097 : ck_go ge_yLaw_a (some gs_law_1097.2.2) 1625 1 gs_law_1097.1 gs_law_1097.2.1 = true := by decide +kernel
theorem gk_law_1110 : ck_go ge_yLaw_a (some gs_law_1110.2.2) 1625 1 gs_law_1110.1 gs_law_1110.2.1 = true := by decide +kernel
theorem gk_law_1138 : ck_go ge_yLaw_a (some gs_law_1138.2.2) 1625 1 gs_law_1138.1 gs_law_1138.2.1 = true := by decide +kernel
theorem gk_law_1166 : ck_go ge_yLaw_a (some gs_law_1166.2.2) 1625 1 gs_law_1166.1 gs_law_1166.2.1 = true := by decide +kernel
theorem gk_law_1206 : ck_go ge_yLaw_a (some gs_law_1206.2.2) 1625 1 gs_law_1206.1 gs_law_1206.2.1 = true := by decide +kernel
theorem gk_law_1234 : ck_go ge_yLaw_a (some gs_law_1234.2.2) 1625 1 gs_law_1234.1 gs_law_1234.2.1 = true := by decide +kernel
theorem gk_law_1274 : ck_go ge_yLaw_a (some gs_law_1274.2.2) 1625 1 gs_law_1274.1 gs_law_1274.2.1 = true := by decide +kernel
theorem gk_law_1326 : ck_go ge_yLaw_a (some gs_law_1326.2.2) 1625 1 gs_law_1326.1 gs_law_1326.2.1 = true := by decide +kernel
theorem gk_law_1339 : ck_go ge_yLaw_a (some gs_law_1339.2.2) 1625 1 gs_law_1339.1 gs_law_1339.2.1 = true := by decide +kernel
theorem gk_law_1367 : ck_go ge_yLaw_a (some gs_law_1367.2.2) 1625 1 gs_law_1367.1 gs_law_1367.2.1 = true := by decide +kernel
theorem gk_law_1395 : ck_go ge_yLaw_a (some gs_law_1395.2.2) 1625 1 gs_law_1395.1 gs_law_1395.2.1 = true := by decide +kernel
theorem gk_law_1423 : ck_go ge_yLaw_a (some gs_law_1423.2.2) 1625 1 gs_law_1423.1 gs_law_1423.2.1 = true := by decide +kernel
theorem gk_law_1451 : ck_go ge_yLaw_a (some gs_law_1451.2.2) 1625 1 gs_law_1451.1 gs_law_1451.2.1 = true := by decide +kernel
theorem gk_law_1520 : ck_go ge_yLaw_a (some gs_law_1520.2.2) 1625 1 gs_law_1520.1 gs_law_1520.2.1 = true := by decide +kernel
theorem gk_law_1548 : ck_go ge_yLaw_a (some gs_law_1548.2.2) 1625 1 gs_law_1548.1 gs_law_1548.2.1 = true := by decide +kernel
theorem gk_law_1588 : ck_go ge_yLaw_a (some gs_law_1588.2.2) 1625 1 gs_law_1588.1 gs_law_1588.2.1 = true := by decide +kernel
theorem gk_law_1601 : ck_go ge_yLaw_a (some gs_law_1601.2.2) 1625 1 gs_law_1601.1 gs_law_1601.2.1 = true := by decide +kernel
theorem gk_law_1629 : ck_go ge_yLaw_a (some gs_law_1629.2.2) 1625 1 gs_law_1629.1 gs_law_1629.2.1 = true := by decide +kernel
theorem gk_law_1657 : ck_go ge_yLaw_a (some gs_law_1657.2.2) 1625 1 gs_law_1657.1 gs_law_1657.2.1 = true := by decide +kernel
theorem gk_law_1670 : ck_go ge_yLaw_a (some gs_law_1670.2.2) 1625 1 gs_law_1670.1 gs_law_1670.2.1 = true := by decide +kernel
theorem gk_law_1710 : ck_go ge_yLaw_a (some gs_law_1710.2.2) 1625 1 gs_law_1710.1 gs_law_1710.2.1 = true := by decide +kernel
theorem gk_law_1750 : ck_go ge_yLaw_a (some gs_law_1750.2.2) 1625 1 gs_law_1750.1 gs_law_1750.2.1 = true := by decide +kernel
theorem gk_law_1763 : ck_go ge_yLaw_a (some gs_law_1763.2.2) 1625 1 gs_law_1763.1 gs_law_1763.2.1 = true := by decide +kernel
theorem gk_law_1803 : ck_go ge_yLaw_a (some gs_law_1803.2.2) 1625 1 gs_law_1803.1 gs_law_1803.2.1 = true := by decide +kernel
theorem gk_law_1816 : ck_go ge_yLaw_a (some gs_law_1816.2.2) 1625 1 gs_law_1816.1 gs_law_1816.2.1 = true := by decide +kernel
theorem gk_law_1829 : ck_go ge_yLaw_a (some gs_law_1829.2.2) 1625 1 gs_law_1829.1 gs_law_1829.2.1 = true := by decide +kernel
theorem gk_law_1857 : ck_go ge_yLaw_a (some gs_law_1857.2.2) 1625 1 gs_law_1857.1 gs_law_1857.2.1 = true := by decide +kernel
theorem gk_law_1885 : ck_go ge_yLaw_a (some gs_law_1885.2.2) 1625 1 gs_law_1885.1 gs_law_1885.2.1 = true := by decide +kernel
theorem gk_law_1898 : ck_go ge_yLaw_a (some gs_law_1898.2.2) 1625 1 gs_law_1898.1 gs_law_1898.2.1 = true := by decide +kernel
theorem gk_law_1911 : ck_go ge_yLaw_a (some gs_law_1911.2.2) 1625 1 gs_law_1911.1 gs_law_1911.2.1 = true := by decide +kernel
theorem gk_law_1939 : ck_go ge_yLaw_a (some gs_law_1939.2.2) 1625 1 gs_law_1939.1 gs_law_1939.2.1 = true := by decide +kernel
theorem gk_law_1967 : ck_go ge_yLaw_a (some gs_law_1967.2.2) 1625 1 gs_law_1967.1 gs_law_1967.2.1 = true := by decide +kernel
theorem gk_law_2007 : ck_go ge_yLaw_a (some gs_law_2007.2.2) 1625 1 gs_law_2007.1 gs_law_2007.2.1 = true := by decide +kernel
theorem gk_law_2047 : ck_go ge_yLaw_a (some gs_law_2047.2.2) 1625 1 gs_law_2047.1 gs_law_2047.2.1 = true := by decide +kernel
theorem gk_law_2075 : ck_go ge_yLaw_a (some gs_law_2075.2.2) 1625 1 gs_law_2075.1 gs_law_2075.2.1 = true := by decide +kernel
theorem gk_law_2088 : ck_go ge_yLaw_a (some gs_law_2088.2.2) 1625 1 gs_law_2088.1 gs_law_2088.2.1 = true := by decide +kernel
theorem gk_law_s : ∀ c ∈ ([gs_law_27, gs_law_296, gs_law_324, gs_law_364, gs_law_404, gs_law_444, gs_law_484, gs_law_512, gs_law_540, gs_law_580, gs_law_620, gs_law_660, gs_law_688, gs_law_728, gs_law_768, gs_law_796, gs_law_824, gs_law_840, gs_law_856, gs_law_869, gs_law_897, gs_law_925, gs_law_965, gs_law_1005, gs_law_1045, gs_law_1097, gs_law_1110, gs_law_1138, gs_law_1166, gs_law_1206, gs_law_1234, gs_law_1274, gs_law_1326, gs_law_1339, gs_law_1367, gs_law_1395, gs_law_1423, gs_law_1451, gs_law_1520, gs_law_1548, gs_law_1588, gs_law_1601, gs_law_1629, gs_law_1657, gs_law_1670, gs_law_1710, gs_law_1750, gs_law_1763, gs_law_1803, gs_law_1816, gs_law_1829, gs_law_1857, gs_law_1885, gs_law_1898, gs_law_1911, gs_law_1939, gs_law_1967, gs_law_2007, gs_law_2047, gs_law_2075, gs_law_2088] : List (Nat × ck_A × ck_L)), ck_go ge_yLaw_a (some c.2.2) 1625 1 c.1 c.2.1 = true := (List.forall_mem_cons.mpr ⟨gk_law_27, (List.forall_mem_cons.mpr ⟨gk_law_296, (List.forall_mem_cons.mpr ⟨gk_law_324, (List.forall_mem_cons.mpr ⟨gk_law_364, (List.forall_mem_cons.mpr ⟨gk_law_404, (List.forall_mem_cons.mpr ⟨gk_law_444, (List.forall_mem_cons.mpr ⟨gk_law_484, (List.forall_mem_cons.mpr ⟨gk_law_512, (List.forall_mem_cons.mpr ⟨gk_law_540, (List.forall_mem_cons.mpr ⟨gk_law_580, (List.forall_mem_cons.mpr ⟨gk_law_620, (List.forall_mem_cons.mpr ⟨gk_law_660, (List.forall_mem_cons.mpr ⟨gk_law_688, (List.forall_mem_cons.mpr ⟨gk_law_728, (List.forall_mem_cons.mpr ⟨gk_law_768, (List.forall_mem_cons.mpr ⟨gk_law_796, (List.forall_mem_cons.mpr ⟨gk_law_824, (List.forall_mem_cons.mpr ⟨gk_law_840, (List.forall_mem_cons.mpr ⟨gk_law_856, (List.forall_mem_cons.mpr ⟨gk_law_869, (List.forall_mem_cons.mpr ⟨gk_law_897, (List.forall_mem_cons.mpr ⟨gk_law_925, (List.forall_mem_cons.mpr ⟨gk_law_965, (List.forall_mem_cons.mpr ⟨gk_law_1005, (List.forall_mem_cons.mpr ⟨gk_law_1045, (List.forall_mem_cons.mpr ⟨gk_law_1097, (List.forall_mem_cons.mpr ⟨gk_law_1110, (List.forall_mem_cons.mpr ⟨gk_law_1138, (List.forall_mem_cons.mpr ⟨gk_law_1166, (List.forall_mem_cons.mpr ⟨gk_law_1206, (List.forall_mem_cons.mpr ⟨gk_law_1234, (List.forall_mem_cons.mpr ⟨gk_law_1274, (List.forall_mem_cons.mpr ⟨gk_law_1326, (List.forall_mem_cons.mpr ⟨gk_law_1339, (List.forall_mem_cons.mpr ⟨gk_law_1367, (List.forall_mem_cons.mpr ⟨gk_law_1395, (List.forall_mem_cons.mpr ⟨gk_law_1423, (List.forall_mem_cons.mpr ⟨gk_law_1451, (List.forall_mem_cons.mpr ⟨gk_law_1520, (List.forall_mem_cons.mpr ⟨gk_law_1548, (List.forall_mem_cons.mpr ⟨gk_law_1588, (List.forall_mem_cons.mpr ⟨gk_law_1601, (List.forall_mem_cons.mpr ⟨gk_law_1629, (List.forall_mem_cons.mpr ⟨gk_law_1657, (List.forall_mem_cons.mpr ⟨gk_law_1670, (List.forall_mem_cons.mpr ⟨gk_law_1710, (List.forall_mem_cons.mpr ⟨gk_law_1750, (List.forall_mem_cons.mpr ⟨gk_law_1763, (List.forall_mem_cons.mpr ⟨gk_law_1803, (List.forall_mem_cons.mpr ⟨gk_law_1816, (List.forall_mem_cons.mpr ⟨gk_law_1829, (List.forall_mem_cons.mpr ⟨gk_law_1857, (List.forall_mem_cons.mpr ⟨gk_law_1885, (List.forall_mem_cons.mpr ⟨gk_law_1898, (List.forall_mem_cons.mpr ⟨gk_law_1911, (List.forall_mem_cons.mpr ⟨gk_law_1939, (List.forall_mem_cons.mpr ⟨gk_law_1967, (List.forall_mem_cons.mpr ⟨gk_law_2007, (List.forall_mem_cons.mpr ⟨gk_law_2047, (List.forall_mem_cons.mpr ⟨gk_law_2075, (List.forall_mem_cons.mpr ⟨gk_law_2088, (List.forall_mem_nil _)⟩)⟩)⟩)⟩)⟩)⟩)⟩)⟩)⟩)⟩)⟩)⟩)⟩)⟩)⟩)⟩)⟩)⟩)⟩)⟩)⟩)⟩)⟩)⟩)⟩)⟩)⟩)⟩)⟩)⟩)⟩)⟩)⟩)⟩)⟩)⟩)⟩)⟩)⟩)⟩)⟩)⟩)⟩)⟩)⟩)⟩)⟩)⟩)⟩)⟩)⟩)⟩)⟩)⟩)⟩)⟩)⟩)⟩)⟩)⟩)⟩)
theorem gk_law_r : (ck_go ge_yLaw_a none 1625 0 0 (ck_A0 ge_yLaw_a.2.2.1 ge_yLaw_a.2.2.2.1) && ((ge_yLaw_a.2.2.1.1.2.2.1.all fun q => !(Nat.beq q.1 5)) && ck_rtk ge_yLaw_a.2.2.1.2.2.2.1 ge_yLaw_a.2.2.1.1.2.2.2.1)) = true := by decide +kernel
theorem gk_yLaw_a : ck_chk ge_yLaw_a 1625 = true := by
  unfold ck_chk
  rw [Bool.and_eq_true]
  exact ⟨List.all_eq_true.mpr gk_law_s, gk_law_r⟩
