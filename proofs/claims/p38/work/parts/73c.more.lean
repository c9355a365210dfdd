/-! A CALL OF WHAT THROWS NOTHING -/
theorem ck_any_cn {l : Launch} {G : am_G} {own : String} {nL fr lo : Nat} {ins : Instr} {len : Nat} {rc : Option Nat} {na : Nat} {y : MethodName} {cw : Jvm.Cond} {fr' lo' : Nat} (h : ck_any l G own nL fr lo ins len rc na (am_cm l G y cw fr' lo')) : ck_any l G own nL fr lo ins len rc na (am_cn l G y cw fr' lo') :=
  fun p e s m args below meth c mc ms Post cc ret pc X d a L st h9 k n mc' ms' P hM => h p e s m args below meth c mc ms Post cc ret pc X d a L st h9 k n mc' ms' P hM.1
