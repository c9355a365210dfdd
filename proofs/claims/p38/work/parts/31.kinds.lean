/-! KINDS OF CALLS -/
section AMK
variable {l : Launch} {G : am_G} {own : String} {nL fr lo i : Nat} {y : MethodName} {bytes : ByteArray} {maxL fr' lo' n : Nat} {rt : Option FieldType}
/-- what all calls of y rest on -/
def ck_y (y : MethodName) (bytes : ByteArray) (maxL n : Nat) (rt : Option FieldType) : Prop := Cond.code y bytes maxL rt ∈ lw_gw ∧ Cond.initialized y.cls ∈ lw_gw ∧ (y.cls ≠ "java/lang/invoke/MethodHandle" ∧ y.cls ≠ "java/lang/invoke/VarHandle" ∧ (parseMethodDescriptor y.desc).map (fun d => d.parameters.length) = some n)
theorem ck_head {a : List Value} {b n : Nat} (h : a.head? = some (.ref b)) (hl : a.length = n + 1) : ∃ a1, a = .ref b :: a1 ∧ a1.length = n := by
  cases a with
  | nil => cases h
  | cons v u => cases h; exact ⟨u, rfl, by simpa using hl⟩
theorem ck_revst (a1 : List Value) (v : Value) (st : List Value) : (v :: a1).reverse ++ st = a1.reverse ++ v :: st := by simp
theorem ck_kV {ci : Nat} {T : u_T} {N : Nat} (hy : ck_y y bytes maxL n rt) (hl : Cond.methodLink own i y ∈ lw_gw) (hin : Cond.instanceMethod y ∈ lw_gw) (hse : Cond.selects y.cls y y ∈ lw_gw) (hcl : am_cl[ci]? = some (y.cls, T, N)) (hci : ci < 50) (hf : fr' + 1 ≤ fr) (ho : 8 + (maxL + 11) + lo' ≤ lo) : ck_any l G own nL fr lo (.invokevirtual i) 3 (some ci) (n + 1) (am_cm l G y (.code y bytes maxL rt) fr' lo') := by
  intro p e s m args below meth c mc ms Post cc ret pc X d a L st h k n9 mc' ms' P hM hna hL hst hrc hk hn kr kx
  obtain ⟨b, tb, vb, h1, h2, h3⟩ := hrc
  obtain ⟨a1, rfl, h5⟩ := ck_head h1 hna
  rw [ck_revst]
  exact am_R.callV X a1 hM hy.1 hl hin hse hy.2.1 ⟨hy.2.2.1, hy.2.2.2.1, by rw [h5]; exact hy.2.2.2.2⟩ ⟨hf, ho⟩ hL hst h2 (by omega) (by rw [h3]; exact hcl) ⟨hk, hn⟩ d kr kx
theorem ck_kU {ci : Nat} {C : String} {T : u_T} {N : Nat} (hy : ck_y y bytes maxL n rt) (hl : Cond.methodLink own i y ∈ lw_gw) (hsm : Cond.sameMethod y.cls y.cls y.name y.desc ∈ lw_gw) (hin : Cond.instanceMethod y ∈ lw_gw) (hse : Cond.selects C y y ∈ lw_gw) (hcl : am_cl[ci]? = some (C, T, N)) (hci : ci < 50) (hf : fr' + 1 ≤ fr) (ho : 8 + (maxL + 11) + lo' ≤ lo) : ck_any l G own nL fr lo (.invokevirtual i) 3 (some ci) (n + 1) (am_cn l G y (.code y bytes maxL rt) fr' lo') := by
  intro p e s m args below meth c mc ms Post cc ret pc X d a L st h k n9 mc' ms' P hM hna hL hst hrc hk hn kr kx
  obtain ⟨b, tb, vb, h1, h2, h3⟩ := hrc
  obtain ⟨a1, rfl, h5⟩ := ck_head h1 hna
  rw [ck_revst]
  exact am_R.callU X a1 hM.1 hM.2 hy.1 hl hsm hin hse hy.2.1 ⟨hy.2.2.1, hy.2.2.2.1, by rw [h5]; exact hy.2.2.2.2⟩ ⟨hf, ho⟩ hL hst h2 (by omega) (by rw [h3]; exact hcl) ⟨hk, hn⟩ d kr
theorem ck_kU2 {ci : Nat} {C : String} {T : u_T} {N : Nat} {x : MethodName} {bx : ByteArray} {mx : Nat} {rx : Option FieldType} (hy : ck_y y bytes maxL n rt) (hcx : Cond.code x bx mx rx ∈ lw_gw) (hl : Cond.methodLink own i x ∈ lw_gw) (hsm : Cond.sameMethod x.cls x.cls x.name x.desc ∈ lw_gw) (hinx : Cond.instanceMethod x ∈ lw_gw) (hin : Cond.instanceMethod y ∈ lw_gw) (hse : Cond.selects C x y ∈ lw_gw)
    (hx : x.cls ≠ "java/lang/invoke/MethodHandle" ∧ x.cls ≠ "java/lang/invoke/VarHandle" ∧ x.desc = y.desc) (hcl : am_cl[ci]? = some (C, T, N)) (hci : ci < 50) (hf : fr' + 1 ≤ fr) (ho : 8 + (maxL + 11) + lo' ≤ lo) : ck_any l G own nL fr lo (.invokevirtual i) 3 (some ci) (n + 1) (am_cn l G y (.code y bytes maxL rt) fr' lo') := by
  intro p e s m args below meth c mc ms Post cc ret pc X d a L st h k n9 mc' ms' P hM hna hL hst hrc hk hn kr kx
  obtain ⟨b, tb, vb, h1, h2, h3⟩ := hrc
  obtain ⟨a1, rfl, h5⟩ := ck_head h1 hna
  rw [ck_revst]
  exact am_R.callU2 X a1 hM.1 hM.2 hy.1 hcx hl hsm hinx hin hse hy.2.1 ⟨hx.1, hx.2.1, by rw [h5, hx.2.2]; exact hy.2.2.2.2⟩ ⟨hf, ho⟩ hL hst h2 (by omega) (by rw [h3]; exact hcl) ⟨hk, hn⟩ d kr
theorem ck_kSU {ci : Nat} {C : String} {T : u_T} {N : Nat} (hy : ck_y y bytes maxL n rt) (hl : Cond.methodLink own i y ∈ lw_gw) (hsm : Cond.sameMethod y.cls y.cls y.name y.desc ∈ lw_gw) (hsu : Cond.superclass own y.cls ∈ lw_gw) (hin : Cond.instanceMethod y ∈ lw_gw) (hnm : y.name ≠ "<init>") (hcl : am_cl[ci]? = some (C, T, N)) (hci : ci < 50) (hf : fr' + 1 ≤ fr) (ho : 8 + (maxL + 11) + lo' ≤ lo) : ck_any l G own nL fr lo (.invokespecial i) 3 (some ci) (n + 1) (am_cn l G y (.code y bytes maxL rt) fr' lo') := by
  intro p e s m args below meth c mc ms Post cc ret pc X d a L st h k n9 mc' ms' P hM hna hL hst hrc hk hn kr kx
  obtain ⟨b, tb, vb, h1, h2, h3⟩ := hrc
  obtain ⟨a1, rfl, h5⟩ := ck_head h1 hna
  rw [ck_revst]
  exact am_R.callSU X a1 hM.1 hM.2 hy.1 hl hsm hsu hin hy.2.1 ⟨hnm, by rw [h5]; exact hy.2.2.2.2⟩ ⟨hf, ho⟩ hL hst h2 (by omega) (by rw [h3]; exact hcl) ⟨hk, hn⟩ d kr
theorem ck_kS (hy : ck_y y bytes maxL n rt) (hl : Cond.methodLink own i y ∈ lw_gw) (hsta : Cond.static y ∈ lw_gw) (hf : fr' + 1 ≤ fr) (ho : 8 + (maxL + 11) + lo' ≤ lo) : ck_any l G own nL fr lo (.invokestatic i) 3 none n (am_cm l G y (.code y bytes maxL rt) fr' lo') := by
  intro p e s m args below meth c mc ms Post cc ret pc X d a L st h k n9 mc' ms' P hM hna hL hst hrc hk hn kr kx
  exact am_R.callS X a hM hy.1 hl hsta hy.2.1 ⟨hy.2.2.1, hy.2.2.2.1, by rw [hna]; exact hy.2.2.2.2⟩ ⟨hf, ho⟩ hL hst ⟨hk, hn⟩ d kr kx
theorem ck_kSN {host : String} (hy : ck_y y bytes maxL n rt) (hl : Cond.methodLinkNest own i y host ∈ lw_ng) (hsta : Cond.static y ∈ lw_gw) (hf : fr' + 1 ≤ fr) (ho : 8 + (maxL + 11) + lo' ≤ lo) : ck_any l G own nL fr lo (.invokestatic i) 3 none n (am_cn l G y (.code y bytes maxL rt) fr' lo') := by
  intro p e s m args below meth c mc ms Post cc ret pc X d a L st h k n9 mc' ms' P hM hna hL hst hrc hk hn kr kx
  exact am_R.callSN X a hM.1 hM.2 hy.1 hl hsta hy.2.1 ⟨hy.2.2.1, hy.2.2.2.1, by rw [hna]; exact hy.2.2.2.2⟩ ⟨hf, ho⟩ hL hst ⟨hk, hn⟩ d kr
def ck_yW (y : MethodName) (bytes : ByteArray) (maxL n : Nat) (rt : Option FieldType) (hh : List (Nat × Nat × Nat × Nat)) : Prop := Cond.codeWith y bytes maxL rt hh ∈ lw_gw ∧ Cond.initialized y.cls ∈ lw_gw ∧ (y.cls ≠ "java/lang/invoke/MethodHandle" ∧ y.cls ≠ "java/lang/invoke/VarHandle" ∧ (parseMethodDescriptor y.desc).map (fun d => d.parameters.length) = some n)
theorem ck_kSW {hh : List (Nat × Nat × Nat × Nat)} (hy : ck_yW y bytes maxL n rt hh) (hl : Cond.methodLink own i y ∈ lw_gw) (hsta : Cond.static y ∈ lw_gw) (hf : fr' + 1 ≤ fr) (ho : 8 + (maxL + 11) + lo' ≤ lo) : ck_any l G own nL fr lo (.invokestatic i) 3 none n (am_cn l G y (.codeWith y bytes maxL rt hh) fr' lo') := by
  intro p e s m args below meth c mc ms Post cc ret pc X d a L st h k n9 mc' ms' P hM hna hL hst hrc hk hn kr kx
  exact am_R.callSW X a hM.1 hM.2 hy.1 hl hsta hy.2.1 ⟨hy.2.2.1, hy.2.2.2.1, by rw [hna]; exact hy.2.2.2.2⟩ ⟨hf, ho⟩ hL hst ⟨hk, hn⟩ d kr
/-- constructors: the first argument is a reference to a cell of the kind ci -/
theorem ck_kI {ci : Nat} (hy : ck_y y bytes maxL n none) (hl : Cond.methodLink own i y ∈ lw_gw) (hin : Cond.instanceMethod y ∈ lw_gw) (hnm : y.name = "<init>") (hf : fr' + 1 ≤ fr) (ho : 8 + (maxL + 11) + lo' ≤ lo) : ck_any l G own nL fr lo (.invokespecial i) 3 (some ci) (n + 1) (am_cn l G y (.code y bytes maxL none) fr' lo') := by
  intro p e s m args below meth c mc ms Post cc ret pc X d a L st h k n9 mc' ms' P hM hna hL hst hrc hk hn kr kx
  obtain ⟨b, tb, vb, h1, h2, h3⟩ := hrc
  obtain ⟨a1, rfl, h5⟩ := ck_head h1 hna
  rw [ck_revst]
  exact am_R.callI X a1 hM.1 hM.2 hy.1 hl hin hy.2.1 hnm ⟨hy.2.2.1, hy.2.2.2.1, by rw [h5]; exact hy.2.2.2.2⟩ ⟨hf, ho⟩ hL hst ⟨hk, hn⟩ d kr
theorem ck_kIN {ci : Nat} {host : String} (hy : ck_y y bytes maxL n none) (hl : Cond.methodLinkNest own i y host ∈ lw_ng) (hin : Cond.instanceMethod y ∈ lw_gw) (hnm : y.name = "<init>") (hf : fr' + 1 ≤ fr) (ho : 8 + (maxL + 11) + lo' ≤ lo) : ck_any l G own nL fr lo (.invokespecial i) 3 (some ci) (n + 1) (am_cn l G y (.code y bytes maxL none) fr' lo') := by
  intro p e s m args below meth c mc ms Post cc ret pc X d a L st h k n9 mc' ms' P hM hna hL hst hrc hk hn kr kx
  obtain ⟨b, tb, vb, h1, h2, h3⟩ := hrc
  obtain ⟨a1, rfl, h5⟩ := ck_head h1 hna
  rw [ck_revst]
  exact am_R.callIN X a1 hM.1 hM.2 hy.1 hl hin hy.2.1 hnm ⟨hy.2.2.1, hy.2.2.2.1, by rw [h5]; exact hy.2.2.2.2⟩ ⟨hf, ho⟩ hL hst ⟨hk, hn⟩ d kr
end AMK
