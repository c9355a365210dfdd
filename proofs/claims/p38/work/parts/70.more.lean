/-! MORE THAT THE REFERENCE NEEDS: calls of interfaces, rows of rows -/
section AMF
variable {l : Launch} {G : am_G} {own : String} {nL : Nat} {y : MethodName} {bytes : ByteArray} {maxL n : Nat} {rt : Option FieldType} {fr lo fr' lo' i : Nat}
theorem ck_kF {ci : Nat} {C : String} {T : u_T} {N : Nat} {x : MethodName} (hy : ck_y y bytes maxL n rt) (hl : Cond.methodLink own i x ∈ lw_gw) (hse : Cond.selects C x y ∈ lw_gw) (hin : Cond.instanceMethod y ∈ lw_gw) (n1 : Cond.declares x ∈ lw_ng) (n2 : Cond.interfaceMethod x.cls x.cls x.name x.desc ∈ lw_ng) (n3 : Cond.publicMethod y ∈ lw_ng) (n4 : Cond.unhidden C x.name x.desc ∈ lw_ng) (n5 : Cond.castable C x.cls ∈ lw_ng)
    (hx : x.cls ≠ "java/lang/invoke/MethodHandle" ∧ x.cls ≠ "java/lang/invoke/VarHandle" ∧ x.desc = y.desc) (hcl : am_cl[ci]? = some (C, T, N)) (hci : ci < 50) (hf : fr' + 1 ≤ fr) (ho : 8 + (maxL + 11) + lo' ≤ lo) : ∀ cn, ck_any l G own nL fr lo (.invokeinterface i cn) 5 (some ci) (n + 1) (am_cn l G y (.code y bytes maxL rt) fr' lo') := by
  intro cn p e s m args below meth c mc ms Post cc ret pc X d a L st h k n9 mc' ms' P hM hna hL hst hrc hk hn kr kx
  obtain ⟨b, tb, vb, h1, h2, h3⟩ := hrc
  obtain ⟨a1, rfl, h5⟩ := ck_head h1 hna
  rw [ck_revst]
  exact am_R.callF X a1 hM.1 hM.2 hy.1 hl hse hin hy.2.1 n1 n2 n3 n4 n5 ⟨hx.1, hx.2.1, by rw [h5, hx.2.2]; exact hy.2.2.2.2⟩ ⟨hf, ho⟩ hL hst h2 (by omega) (by rw [h3]; exact hcl) ⟨hk, hn⟩ d kr
end AMF
theorem am_asg_int {G : am_G} {s : State} (hk : am_kon G s) (hw : Cond.arrayOver (.array .int) ∈ lw_ng) : am_asg G s 57 50 := by
  obtain ⟨hK, hT⟩ := hk.1
  have e1 := am_RAn (hT _ _ (am_tys_at G (show 50 ≤ 57 by decide) (by decide))).2
  have e2 := am_RAn (hT _ _ (am_tys_at G (show 50 ≤ 50 by decide) (by decide))).2
  have e1 : s.vm.findClass ("[" ++ (FieldType.array .int).toString) = some (G.2.1 57) := e1
  have e2 : s.vm.findClass ("[" ++ (FieldType.int).toString) = some (G.2.1 50) := e2
  have e3 : ("[" ++ (FieldType.int).toString) = (FieldType.array .int).toString := by decide
  rw [e3] at e2
  have h : (Cond.arrayOver (.array .int)).before #[] s = true := hk.2.2.2.2.2.2.2 _ hw
  simp only [Cond.before, Cond.holds, Cond.value, beq_iff_eq, e2, Option.bind_some, Option.bind_eq_some_iff, Option.map_eq_some_iff] at h
  obtain ⟨cc, hi, k, hk1, hk2⟩ := h
  obtain ⟨hlt, hp, -⟩ := Array.findIdx?_eq_some_iff_getElem.mp hi
  have hkk : s.vm.classes[cc] = k := (Array.getElem?_eq_some_iff.mp hk1).2
  rw [hkk] at hp
  obtain ⟨kC, hkC, -⟩ := Vm.findClass_spec e2
  cases hkind : k.kind with
  | array component ty =>
    rw [hkind] at hk2 hp
    simp at hk2 hp
    obtain ⟨rfl, h5⟩ := hk2
    rw [e1] at h5
    cases h5
    exact ⟨k, kC, kC, _, _, hk1, by rw [hkind, hp]; rfl, hkC, by rw [if_neg (by decide)], hkC, va_asg _ _⟩
  | _ => rw [hkind] at hk2; simp at hk2
theorem am_isa_obj {G : am_G} {s : State} (hk : am_kon G s) {ci : Nat} {C : String} {T : u_T} {N : Nat} (hcl : am_cl[ci]? = some (C, T, N)) (hci : ci < 50) : ci < 59 ∧ am_isa G s ci C := by
  obtain ⟨hK, -⟩ := id hk.1
  obtain ⟨-, hca⟩ := hK ci _ hcl
  exact ⟨by omega, G.1.1 ci, G.1.1 ci, by rw [if_pos hci], hca.1, va_asg _ _⟩
/-- nothing is in it -/
def li_exp0K (F : li_F) : ck_KK := (([(0, 0)], [], [(2, 0, 0, F.1, (0, 0, (3, []))), (3, 0, 2, F.1, (1, 0, (0, [(1, 0)])))], 1, [(3, 0, (0, []))]), ((0, []), (0, [])), [], [], ([], [], [], 0, []), [])
theorem li_exp0_con {G : am_G} {F : li_F} : ck_Con (ck_lem G) G li_X gT (li_exp0K F) := by
  intro K r s a h hH hV hC hFc hn hS mc ms hmc hms
  exact ⟨h, ck_rh.rf _, hH, ck_Kp.rf, Nat.le_refl _, [], [], li_in0, (fun c hc => nomatch hc), List.forall_mem_nil _, rfl, trivial⟩
/-- the cells of Integer's cache, and their numbers -/
def li_KC (G : am_G) : Prop := ∃ vs : List Value, G.2.2.2.2[1]? = some (43058, vs) ∧ ∀ j : Nat, j < 256 → ∃ c : Nat, vs[j]? = some (.ref c) ∧ c < 1000 ∧ G.2.2.2.2[c]? = some (41002, [.int (Int32.ofInt ((j : Int) - 128))])
def gM (l : Launch) (G : am_G) (X : ck_XT) : Prop := gE l G X ∧ X = li_X ∧ li_KC G
