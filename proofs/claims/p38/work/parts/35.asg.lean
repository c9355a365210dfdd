/-! WHAT MAY STAND IN AN ARRAY -/
theorem am_asg_own {G : am_G} {s : State} (hk : am_kon G s) {ka ci : Nat} {C : String} {T : u_T} {N : Nat} (h1 : 50 ≤ ka) (h2 : ka < 58) (hty : am_aty ka = .object C) (hcl : am_cl[ci]? = some (C, T, N)) (hci : ci < 50) : am_asg G s ka ci := by
  obtain ⟨hK, hT⟩ := hk.1
  obtain ⟨-, hra⟩ := hT _ _ (am_tys_at G h1 h2)
  have hra : va_RA s (G.2.1 ka) (am_aty ka) := hra
  rw [hty] at hra
  obtain ⟨kA, comp, e1, e2, e3, -⟩ := hra
  obtain ⟨-, hca⟩ := hK ci _ hcl
  obtain ⟨e4, kV, e5, -⟩ := hca
  have e4 : s.vm.findClass C = some (G.1.1 ci) := e4
  rw [e3] at e4
  cases e4
  exact ⟨kA, kV, kV, _, _, e1, by rw [hty]; exact e2, e5, by rw [if_pos hci], e5, by first | exact Vm.assignable_self _ _ | exact Free.SBG.assignable_self _ _ | (unfold Vm.assignable; simp)⟩
