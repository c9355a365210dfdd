/-! THE LAW'S WALK -/
theorem gk_law_27 : ck_go ge_yLaw_a (some gs_law_27.2.2) 1625 1 gs_law_27.1 gs_law_27.2.1 = true := by decide +kernel
theorem gk_law_296 : ck_go ge_yLaw_a (some gs_law_296.2.2) 1625 1 gs_law_296.1 gs_law_296.2.1 = true := by decide +kernel
theorem gk_law_324 : ck_go ge_yLaw_a (some gs_law_324.2.2) 1625 1 gs_law_324.1 gs_law_324.2.1 = true := by decide +kernel
theorem gk_law_393 : ck_go ge_yLaw_a (some gs_law_393.2.2) 1625 1 gs_law_393.1 gs_law_393.2.1 = true := by decide +kernel
theorem gk_law_433 : ck_go ge_yLaw_a (some gs_law_433.2.2) 1625 1 gs_law_433.1 gs_law_433.2.1 = true := by decide +kernel
theorem gk_law_473 : ck_go ge_yLaw_a (some gs_law_473.2.2) 1625 1 gs_law_473.1 gs_law_473.2.1 = true := by decide +kernel
theorem gk_law_513 : ck_go ge_yLaw_a (some gs_law_513.2.2) 1625 1 gs_law_513.1 gs_law_513.2.1 = true := by decide +kernel
theorem gk_law_541 : ck_go ge_yLaw_a (some gs_law_541.2.2) 1625 1 gs_law_541.1 gs_law_541.2.1 = true := by decide +kernel
theorem gk_law_569 : ck_go ge_yLaw_a (some gs_law_569.2.2) 1625 1 gs_law_569.1 gs_law_569.2.1 = true := by decide +kernel
theorem gk_law_609 : ck_go ge_yLaw_a (some gs_law_609.2.2) 1625 1 gs_law_609.1 gs_law_609.2.1 = true := by decide +kernel
theorem gk_law_649 : ck_go ge_yLaw_a (some gs_law_649.2.2) 1625 1 gs_law_649.1 gs_law_649.2.1 = true := by decide +kernel
theorem gk_law_689 : ck_go ge_yLaw_a (some gs_law_689.2.2) 1625 1 gs_law_689.1 gs_law_689.2.1 = true := by decide +kernel
theorem gk_law_717 : ck_go ge_yLaw_a (some gs_law_717.2.2) 1625 1 gs_law_717.1 gs_law_717.2.1 = true := by decide +kernel
theorem gk_law_757 : ck_go ge_yLaw_a (some gs_law_757.2.2) 1625 1 gs_law_757.1 gs_law_757.2.1 = true := by decide +kernel
theorem gk_law_797 : ck_go ge_yLaw_a (some gs_law_797.2.2) 1625 1 gs_law_797.1 gs_law_797.2.1 = true := by decide +kernel
theorem gk_law_825 : ck_go ge_yLaw_a (some gs_law_825.2.2) 1625 1 gs_law_825.1 gs_law_825.2.1 = true := by decide +kernel
theorem gk_law_853 : ck_go ge_yLaw_a (some gs_law_853.2.2) 1625 1 gs_law_853.1 gs_law_853.2.1 = true := by decide +kernel
theorem gk_law_869 : ck_go ge_yLaw_a (some gs_law_869.2.2) 1625 1 gs_law_869.1 gs_law_869.2.1 = true := by decide +kernel
theorem gk_law_885 : ck_go ge_yLaw_a (some gs_law_885.2.2) 1625 1 gs_law_885.1 gs_law_885.2.1 = true := by decide +kernel
theorem gk_law_898 : ck_go ge_yLaw_a (some gs_law_898.2.2) 1625 1 gs_law_898.1 gs_law_898.2.1 = true := by decide +kernel
theorem gk_law_926 : ck_go ge_yLaw_a (some gs_law_926.2.2) 1625 1 gs_law_926.1 gs_law_926.2.1 = true := by decide +kernel
theorem gk_law_954 : ck_go ge_yLaw_a (some gs_law_954.2.2) 1625 1 gs_law_954.1 gs_law_954.2.1 = true := by decide +kernel
theorem gk_law_994 : ck_go ge_yLaw_a (some gs_law_994.2.2) 1625 1 gs_law_994.1 gs_law_994.2.1 = true := by decide +kernel
theorem gk_law_1034 : ck_go ge_yLaw_a (some gs_law_1034.2.2) 1625 1 gs_law_1034.1 gs_law_1034.2.1 = true := by decide +kernel
theorem gk_law_1074 : ck_go ge_yLaw_a (some gs_law_1074.2.2) 1625 1 gs_law_1074.1 gs_law_1074.2.1 = true := by decide +kernel
theorem gk_law_1126 : ck_go ge_yLaw_a (some gs_law_1126.2.2) 1625 1 gs_law_1126.1 gs_law_1126.2.1 = true := by decide +kernel
theorem gk_law_1139 : ck_go ge_yLaw_a (some gs_law_1139.2.2) 1625 1 gs_law_1139.1 gs_law_1139.2.1 = true := by decide +kernel
theorem gk_law_1167 : ck_go ge_yLaw_a (some gs_law_1167.2.2) 1625 1 gs_law_1167.1 gs_law_1167.2.1 = true := by decide +kernel
theorem gk_law_1195 : ck_go ge_yLaw_a (some gs_law_1195.2.2) 1625 1 gs_law_1195.1 gs_law_1195.2.1 = true := by decide +kernel
theorem gk_law_1235 : ck_go ge_yLaw_a (some gs_law_1235.2.2) 1625 1 gs_law_1235.1 gs_law_1235.2.1 = true := by decide +kernel
theorem gk_law_1263 : ck_go ge_yLaw_a (some gs_law_1263.2.2) 1625 1 gs_law_1263.1 gs_law_1263.2.1 = true := by decide +kernel
theorem gk_law_1303 : ck_go ge_yLaw_a (some gs_law_1303.2.2) 1625 1 gs_law_1303.1 gs_law_1303.2.1 = true := by decide +kernel
theorem gk_law_1355 : ck_go ge_yLaw_a (some gs_law_1355.2.2) 1625 1 gs_law_1355.1 gs_law_1355.2.1 = true := by decide +kernel
theorem gk_law_1368 : ck_go ge_yLaw_a (some gs_law_1368.2.2) 1625 1 gs_law_1368.1 gs_law_1368.2.1 = true := by decide +kernel
theorem gk_law_1396 : ck_go ge_yLaw_a (some gs_law_1396.2.2) 1625 1 gs_law_1396.1 gs_law_1396.2.1 = true := by decide +kernel
theorem gk_law_1424 : ck_go ge_yLaw_a (some gs_law_1424.2.2) 1625 1 gs_law_1424.1 gs_law_1424.2.1 = true := by decide +kernel
theorem gk_law_1452 : ck_go ge_yLaw_a (some gs_law_1452.2.2) 1625 1 gs_law_1452.1 gs_law_1452.2.1 = true := by decide +kernel
theorem gk_law_1480 : ck_go ge_yLaw_a (some gs_law_1480.2.2) 1625 1 gs_law_1480.1 gs_law_1480.2.1 = true := by decide +kernel
theorem gk_law_1520 : ck_go ge_yLaw_a (some gs_law_1520.2.2) 1625 1 gs_law_1520.1 gs_law_1520.2.1 = true := by decide +kernel
theorem gk_law_1548 : ck_go ge_yLaw_a (some gs_law_1548.2.2) 1625 1 gs_law_1548.1 gs_law_1548.2.1 = true := by decide +kernel
theorem gk_law_1588 : ck_go ge_yLaw_a (some gs_law_1588.2.2) 1625 1 gs_law_1588.1 gs_law_1588.2.1 = true := by decide +kernel
theorem gk_law_1601 : ck_go ge_yLaw_a (some gs_law_1601.2.2) 1625 1 gs_law_1601.1 gs_law_1601.2.1 = true := by decide +kernel
theorem gk_law_1629 : ck_go ge_yLaw_a (some gs_law_1629.2.2) 1625 1 gs_law_1629.1 gs_law_1629.2.1 = true := by decide +kernel
theorem gk_law_1657 : ck_go ge_yLaw_a (some gs_law_1657.2.2) 1625 1 gs_law_1657.1 gs_law_1657.2.1 = true := by decide +kernel
theorem gk_law_1670 : ck_go ge_yLaw_a (some gs_law_1670.2.2) 1625 1 gs_law_1670.1 gs_law_1670.2.1 = true := by decide +kernel
theorem gk_law_1710 : ck_go ge_yLaw_a (some gs_law_1710.2.2) 1625 1 gs_law_1710.1 gs_law_1710.2.1 = true := by decide +kernel
theorem gk_law_1750 : ck_go ge_yLaw_a (some gs_law_1750.2.2) 1625 1 gs_law_1750.1 gs_law_1750.2.1 = true := by decide +kernel
theorem gk_law_1763 : ck_go ge_yLaw_a (some gs_law_1763.2.2) 1625 1 gs_law_1763.1 gs_law_1763.2.1 = true := by decide +kernel
theorem gk_law_1803 : ck_go ge_yLaw_a (some gs_law_1803.2.2) 1625 1 gs_law_1803.1 gs_law_1803.2.1 = true := by decide +kernel
theorem gk_law_1816 : ck_go ge_yLaw_a (some gs_law_1816.2.2) 1625 1 gs_law_1816.1 gs_law_1816.2.1 = true := by decide +kernel
theorem gk_law_1829 : ck_go ge_yLaw_a (some gs_law_1829.2.2) 1625 1 gs_law_1829.1 gs_law_1829.2.1 = true := by decide +kernel
theorem gk_law_1857 : ck_go ge_yLaw_a (some gs_law_1857.2.2) 1625 1 gs_law_1857.1 gs_law_1857.2.1 = true := by decide +kernel
theorem gk_law_1885 : ck_go ge_yLaw_a (some gs_law_1885.2.2) 1625 1 gs_law_1885.1 gs_law_1885.2.1 = true := by decide +kernel
theorem gk_law_1898 : ck_go ge_yLaw_a (some gs_law_1898.2.2) 1625 1 gs_law_1898.1 gs_law_1898.2.1 = true := by decide +kernel
theorem gk_law_1911 : ck_go ge_yLaw_a (some gs_law_1911.2.2) 1625 1 gs_law_1911.1 gs_law_1911.2.1 = true := by decide +kernel
theorem gk_law_1939 : ck_go ge_yLaw_a (some gs_law_1939.2.2) 1625 1 gs_law_1939.1 gs_law_1939.2.1 = true := by decide +kernel
theorem gk_law_1967 : ck_go ge_yLaw_a (some gs_law_1967.2.2) 1625 1 gs_law_1967.1 gs_law_1967.2.1 = true := by decide +kernel
theorem gk_law_2007 : ck_go ge_yLaw_a (some gs_law_2007.2.2) 1625 1 gs_law_2007.1 gs_law_2007.2.1 = true := by decide +kernel
theorem gk_law_2047 : ck_go ge_yLaw_a (some gs_law_2047.2.2) 1625 1 gs_law_2047.1 gs_law_2047.2.1 = true := by decide +kernel
theorem gk_law_2075 : ck_go ge_yLaw_a (some gs_law_2075.2.2) 1625 1 gs_law_2075.1 gs_law_2075.2.1 = true := by decide +kernel
theorem gk_law_2088 : ck_go ge_yLaw_a (some gs_law_2088.2.2) 1625 1 gs_law_2088.1 gs_law_2088.2.1 = true := by decide +kernel
theorem gk_law_s : ∀ c ∈ ([gs_law_27, gs_law_296, gs_law_324, gs_law_393, gs_law_433, gs_law_473, gs_law_513, gs_law_541, gs_law_569, gs_law_609, gs_law_649, gs_law_689, gs_law_717, gs_law_757, gs_law_797, gs_law_825, gs_law_853, gs_law_869, gs_law_885, gs_law_898, gs_law_926, gs_law_954, gs_law_994, gs_law_1034, gs_law_1074, gs_law_1126, gs_law_1139, gs_law_1167, gs_law_1195, gs_law_1235, gs_law_1263, gs_law_1303, gs_law_1355, gs_law_1368, gs_law_1396, gs_law_1424, gs_law_1452, gs_law_1480, gs_law_1520, gs_law_1548, gs_law_1588, gs_law_1601, gs_law_1629, gs_law_1657, gs_law_1670, gs_law_1710, gs_law_1750, gs_law_1763, gs_law_1803, gs_law_1816, gs_law_1829, gs_law_1857, gs_law_1885, gs_law_1898, gs_law_1911, gs_law_1939, gs_law_1967, gs_law_2007, gs_law_2047, gs_law_2075, gs_law_2088] : List (Nat × ck_A × ck_L)), ck_go ge_yLaw_a (some c.2.2) 1625 1 c.1 c.2.1 = true := (List.forall_mem_cons.mpr ⟨gk_law_27, (List.forall_mem_cons.mpr ⟨gk_law_296, (List.forall_mem_cons.mpr ⟨gk_law_324, (List.forall_mem_cons.mpr ⟨gk_law_393, (List.forall_mem_cons.mpr ⟨gk_law_433, (List.forall_mem_cons.mpr ⟨gk_law_473, (List.forall_mem_cons.mpr ⟨gk_law_513, (List.forall_mem_cons.mpr ⟨gk_law_541, (List.forall_mem_cons.mpr ⟨gk_law_569, (List.forall_mem_cons.mpr ⟨gk_law_609, (List.forall_mem_cons.mpr ⟨gk_law_649, (List.forall_mem_cons.mpr ⟨gk_law_689, (List.forall_mem_cons.mpr ⟨gk_law_717, (List.forall_mem_cons.mpr ⟨gk_law_757, (List.forall_mem_cons.mpr ⟨gk_law_797, (List.forall_mem_cons.mpr ⟨gk_law_825, (List.forall_mem_cons.mpr ⟨gk_law_853, (List.forall_mem_cons.mpr ⟨gk_law_869, (List.forall_mem_cons.mpr ⟨gk_law_885, (List.forall_mem_cons.mpr ⟨gk_law_898, (List.forall_mem_cons.mpr ⟨gk_law_926, (List.forall_mem_cons.mpr ⟨gk_law_954, (List.forall_mem_cons.mpr ⟨gk_law_994, (List.forall_mem_cons.mpr ⟨gk_law_1034, (List.forall_mem_cons.mpr ⟨gk_law_1074, (List.forall_mem_cons.mpr ⟨gk_law_1126, (List.forall_mem_cons.mpr ⟨gk_law_1139, (List.forall_mem_cons.mpr ⟨gk_law_1167, (List.forall_mem_cons.mpr ⟨gk_law_1195, (List.forall_mem_cons.mpr ⟨gk_law_1235, (List.forall_mem_cons.mpr ⟨gk_law_1263, (List.forall_mem_cons.mpr ⟨gk_law_1303, (List.forall_mem_cons.mpr ⟨gk_law_1355, (List.forall_mem_cons.mpr ⟨gk_law_1368, (List.forall_mem_cons.mpr ⟨gk_law_1396, (List.forall_mem_cons.mpr ⟨gk_law_1424, (List.forall_mem_cons.mpr ⟨gk_law_1452, (List.forall_mem_cons.mpr ⟨gk_law_1480, (List.forall_mem_cons.mpr ⟨gk_law_1520, (List.forall_mem_cons.mpr ⟨gk_law_1548, (List.forall_mem_cons.mpr ⟨gk_law_1588, (List.forall_mem_cons.mpr ⟨gk_law_1601, (List.forall_mem_cons.mpr ⟨gk_law_1629, (List.forall_mem_cons.mpr ⟨gk_law_1657, (List.forall_mem_cons.mpr ⟨gk_law_1670, (List.forall_mem_cons.mpr ⟨gk_law_1710, (List.forall_mem_cons.mpr ⟨gk_law_1750, (List.forall_mem_cons.mpr ⟨gk_law_1763, (List.forall_mem_cons.mpr ⟨gk_law_1803, (List.forall_mem_cons.mpr ⟨gk_law_1816, (List.forall_mem_cons.mpr ⟨gk_law_1829, (List.forall_mem_cons.mpr ⟨gk_law_1857, (List.forall_mem_cons.mpr ⟨gk_law_1885, (List.forall_mem_cons.mpr ⟨gk_law_1898, (List.forall_mem_cons.mpr ⟨gk_law_1911, (List.forall_mem_cons.mpr ⟨gk_law_1939, (List.forall_mem_cons.mpr ⟨gk_law_1967, (List.forall_mem_cons.mpr ⟨gk_law_2007, (List.forall_mem_cons.mpr ⟨gk_law_2047, (List.forall_mem_cons.mpr ⟨gk_law_2075, (List.forall_mem_cons.mpr ⟨gk_law_2088, (List.forall_mem_nil _)⟩)⟩)⟩)⟩)⟩)⟩)⟩)⟩)⟩)⟩)⟩)⟩)⟩)⟩)⟩)⟩)⟩)⟩)⟩)⟩)⟩)⟩)⟩)⟩)⟩)⟩)⟩)⟩)⟩)⟩)⟩)⟩)⟩)⟩)⟩)⟩)⟩)⟩)⟩)⟩)⟩)⟩)⟩)⟩)⟩)⟩)⟩)⟩)⟩)⟩)⟩)⟩)⟩)⟩)⟩)⟩)⟩)⟩)⟩)⟩)⟩)
theorem gk_law_r : (ck_go ge_yLaw_a none 1625 0 0 (ck_A0 ge_yLaw_a.2.2.1 ge_yLaw_a.2.2.2.1) && ((ge_yLaw_a.2.2.1.1.2.2.1.all fun q => !(Nat.beq q.1 5)) && ck_rtk ge_yLaw_a.2.2.1.2.2.2.1 ge_yLaw_a.2.2.1.1.2.2.2.1)) = true := by decide +kernel
theorem gk_yLaw_a : ck_chk ge_yLaw_a 1625 = true := by
  unfold ck_chk
  rw [Bool.and_eq_true]
  exact ⟨List.all_eq_true.mpr gk_law_s, gk_law_r⟩
