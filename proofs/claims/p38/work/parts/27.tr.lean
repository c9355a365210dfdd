/-! FROM INSTRUCTIONS TO STEPS -/
def ck_lu {α : Type} (i : Nat) : List (Nat × α) → Option α
  | [] => none
  | x :: u => bif Nat.beq x.1 i then some x.2 else ck_lu i u
theorem ck_lu_mem {α : Type} {i : Nat} {a : α} : ∀ {l : List (Nat × α)}, ck_lu i l = some a → (i, a) ∈ l := by
  intro l
  induction l with
  | nil => intro h; cases h
  | cons x u ih =>
    intro h
    unfold ck_lu at h
    cases hc : Nat.beq x.1 i
    · rw [hc, cond_false] at h
      exact List.mem_cons_of_mem _ (ih h)
    · rw [hc, cond_true] at h
      cases h
      rw [← ck_beq hc]
      exact List.mem_cons_self
/-- numbers; longs; constant references; fields read; fields written; classes; rows of references; casts; calls (0 virtual, 1 special, 2 static, 3 interface); throws; Object's makers; statics; the answer's kind -/
abbrev ck_TB : Type := List (Nat × Int) × List (Nat × Int) × List (Nat × Nat) × List (Nat × Nat × Nat) × List (Nat × Nat × Nat × Nat) × List (Nat × Nat × List Nat) × List (Nat × Nat) × List (Nat × List Nat) × (List (Nat × Nat) × List (Nat × Nat) × List (Nat × Nat) × List (Nat × Nat)) × List (Nat × Nat) × List Nat × List (Nat × Nat × Int) × Nat
def ck_to (pc : Nat) (off : Int) : Option Nat := match (pc : Int) + off with
  | .ofNat n => some n
  | .negSucc _ => none
theorem ck_to_ok {pc n : Nat} {off : Int} (h : ck_to pc off = some n) : (pc : Int) + off = (n : Int) := by
  unfold ck_to at h
  split at h
  · next m e => cases h; rw [e]; rfl
  · cases h
def ck_cc (c : Jvm.ClassFile.Cond) : Nat := match c with
  | .eq => 0
  | .ne => 1
  | .lt => 2
  | .ge => 3
  | .gt => 4
  | .le => 5
def ck_sw2 (pc : Nat) (low : Int) : List Int → Option (List (Int × Nat))
  | [] => some []
  | o :: u => match ck_to pc o, ck_sw2 pc (low + 1) u with
    | some t, some r => some ((low, t) :: r)
    | _, _ => none
def ck_tr (tb : ck_TB) (pc : Nat) (ins : Instr) (len : Nat) : Option ck_O := match tb with
  | (ints, longs, refs, gets, puts, news, anews, casts, (cv, ci, cs, cf), thr, oi, sts, jt) => match ck_lu pc thr with
    | some f => some (17, f, 0, 0, 0, 0, [])
    | none => match ins with
      | .iconst i => bif Nat.beq len 1 then some (0, 0, 0, i, pc + 1, 0, []) else none
      | .bipush i => bif Nat.beq len 2 && decide ((Int8.ofInt i).toInt32 = Int32.ofInt i) then some (0, 0, 0, i, pc + 2, 0, []) else none
      | .sipush i => bif Nat.beq len 3 && decide ((Int16.ofInt i).toInt32 = Int32.ofInt i) then some (0, 0, 0, i, pc + 3, 0, []) else none
      | .lconst i => bif Nat.beq len 1 then some (0, 1, 0, ((i : Nat) : Int), pc + 1, 0, []) else none
      | .ldc i => bif Nat.beq len 2 then (match ck_lu i ints with
        | some v => some (0, 0, 0, v, pc + 2, 0, [])
        | none => match ck_lu i refs with
          | some q => some (0, 22, q, 0, pc + 2, 0, [])
          | none => none) else none
      | .ldc_w i => bif Nat.beq len 3 then (match ck_lu i ints with
        | some v => some (0, 0, 0, v, pc + 3, 0, [])
        | none => match ck_lu i refs with
          | some q => bif Nat.beq q 5 then none else some (0, 22, q, 0, pc + 3, 0, [])
          | none => none) else none
      | .ldc2_w i => bif Nat.beq len 3 then (match ck_lu i longs with
        | some v => some (0, 1, 0, v, pc + 3, 0, [])
        | none => none) else none
      | .aconst_null => bif Nat.beq len 1 then some (0, 2, 0, 0, pc + 1, 0, []) else none
      | .iload_n i => bif Nat.beq len 1 then some (0, 3, i, 0, pc + 1, 0, []) else none
      | .iload i => bif Nat.beq len 2 then some (0, 3, i, 0, pc + 2, 0, []) else none
      | .lload_n i => bif Nat.beq len 1 then some (0, 4, i, 0, pc + 1, 0, []) else none
      | .lload i => bif Nat.beq len 2 then some (0, 4, i, 0, pc + 2, 0, []) else none
      | .aload_n i => bif Nat.beq len 1 then some (0, 5, i, 0, pc + 1, 0, []) else none
      | .aload i => bif Nat.beq len 2 then some (0, 5, i, 0, pc + 2, 0, []) else none
      | .istore_n i => bif Nat.beq len 1 then some (0, 6, i, 0, pc + 1, 0, []) else none
      | .istore i => bif Nat.beq len 2 then some (0, 6, i, 0, pc + 2, 0, []) else none
      | .lstore_n i => bif Nat.beq len 1 then some (0, 7, i, 0, pc + 1, 0, []) else none
      | .lstore i => bif Nat.beq len 2 then some (0, 7, i, 0, pc + 2, 0, []) else none
      | .astore_n i => bif Nat.beq len 1 then some (0, 8, i, 0, pc + 1, 0, []) else none
      | .astore i => bif Nat.beq len 2 then some (0, 8, i, 0, pc + 2, 0, []) else none
      | .iinc i j => bif Nat.beq len 3 then some (0, 9, i, j, pc + 3, 0, []) else none
      | .pop => bif Nat.beq len 1 then some (0, 10, 0, 0, pc + 1, 0, []) else none
      | .dup => bif Nat.beq len 1 then some (0, 12, 0, 0, pc + 1, 0, []) else none
      | .dup_x1 => bif Nat.beq len 1 then some (0, 13, 0, 0, pc + 1, 0, []) else none
      | .dup2 => bif Nat.beq len 1 then some (0, 14, 0, 0, pc + 1, 0, []) else none
      | .iadd => bif Nat.beq len 1 then some (0, 15, 0, 0, pc + 1, 0, []) else none
      | .isub => bif Nat.beq len 1 then some (0, 15, 1, 0, pc + 1, 0, []) else none
      | .imul => bif Nat.beq len 1 then some (0, 15, 2, 0, pc + 1, 0, []) else none
      | .idiv => bif Nat.beq len 1 then some (0, 15, 3, 0, pc + 1, 0, []) else none
      | .irem => bif Nat.beq len 1 then some (0, 15, 4, 0, pc + 1, 0, []) else none
      | .iand => bif Nat.beq len 1 then some (0, 15, 5, 0, pc + 1, 0, []) else none
      | .ior => bif Nat.beq len 1 then some (0, 15, 6, 0, pc + 1, 0, []) else none
      | .ixor => bif Nat.beq len 1 then some (0, 15, 7, 0, pc + 1, 0, []) else none
      | .ishl => bif Nat.beq len 1 then some (0, 15, 8, 0, pc + 1, 0, []) else none
      | .ishr => bif Nat.beq len 1 then some (0, 15, 9, 0, pc + 1, 0, []) else none
      | .iushr => bif Nat.beq len 1 then some (0, 15, 10, 0, pc + 1, 0, []) else none
      | .ladd => bif Nat.beq len 1 then some (0, 16, 0, 0, pc + 1, 0, []) else none
      | .lsub => bif Nat.beq len 1 then some (0, 16, 1, 0, pc + 1, 0, []) else none
      | .lmul => bif Nat.beq len 1 then some (0, 16, 2, 0, pc + 1, 0, []) else none
      | .ldiv => bif Nat.beq len 1 then some (0, 16, 3, 0, pc + 1, 0, []) else none
      | .lrem => bif Nat.beq len 1 then some (0, 16, 4, 0, pc + 1, 0, []) else none
      | .lxor => bif Nat.beq len 1 then some (0, 16, 7, 0, pc + 1, 0, []) else none
      | .ineg => bif Nat.beq len 1 then some (0, 17, 0, 0, pc + 1, 0, []) else none
      | .i2b => bif Nat.beq len 1 then some (0, 17, 1, 0, pc + 1, 0, []) else none
      | .i2c => bif Nat.beq len 1 then some (0, 17, 2, 0, pc + 1, 0, []) else none
      | .lneg => bif Nat.beq len 1 then some (0, 18, 0, 0, pc + 1, 0, []) else none
      | .i2l => bif Nat.beq len 1 then some (0, 19, 0, 0, pc + 1, 0, []) else none
      | .l2i => bif Nat.beq len 1 then some (0, 20, 0, 0, pc + 1, 0, []) else none
      | .lcmp => bif Nat.beq len 1 then some (0, 21, 0, 0, pc + 1, 0, []) else none
      | .ifCond c off => bif Nat.beq len 3 then (ck_to pc off).bind fun t => some (1, ck_cc c, 0, 0, pc + 3, t, []) else none
      | .if_icmp c off => bif Nat.beq len 3 then (ck_to pc off).bind fun t => some (2, ck_cc c, 0, 0, pc + 3, t, []) else none
      | .goto off => bif Nat.beq len 3 then (ck_to pc off).bind fun t => some (3, 0, 0, 0, 0, t, []) else none
      | .ifnull off => bif Nat.beq len 3 then (ck_to pc off).bind fun t => some (4, 0, 0, 0, pc + 3, t, []) else none
      | .if_acmp .eq off => bif Nat.beq len 3 then (ck_to pc off).bind fun t => some (20, 1, 0, 0, pc + 3, t, []) else none
      | .if_acmp .ne off => bif Nat.beq len 3 then (ck_to pc off).bind fun t => some (20, 0, 0, 0, pc + 3, t, []) else none
      | .ifnonnull off => bif Nat.beq len 3 then (ck_to pc off).bind fun t => some (5, 0, 0, 0, pc + 3, t, []) else none
      | .tableswitch d lo hi offs => bif decide (hi - lo + 1 = (offs.toList.length : Int)) then (ck_to pc d).bind fun t => (ck_sw2 pc lo offs.toList).bind fun m => some (6, 0, 0, 0, 0, t, m) else none
      | .getfield i => bif Nat.beq len 3 then (ck_lu i gets).bind fun q => some (7, q.1, q.2, 0, pc + 3, 0, []) else none
      | .putfield i => bif Nat.beq len 3 then (ck_lu i puts).bind fun q => some (8, q.1, q.2.1, q.2.2, pc + 3, 0, []) else none
      | .new i => bif Nat.beq len 3 then (ck_lu i news).bind fun q => some (9, q.1, q.1, 0, pc + 3, 0, q.2.map fun d => ((0 : Int), d)) else none
      | .newarray .int => bif Nat.beq len 2 then some (10, 50, 0, 0, pc + 2, 0, []) else none
      | .newarray .byte => bif Nat.beq len 2 then some (10, 51, 0, 0, pc + 2, 0, []) else none
      | .newarray .long => bif Nat.beq len 2 then some (10, 52, 0, 1, pc + 2, 0, []) else none
      | .anewarray i => bif Nat.beq len 3 then (ck_lu i anews).bind fun q => some (10, q, 0, 2, pc + 3, 0, []) else none
      | .arraylength => bif Nat.beq len 1 then some (11, 0, 0, 0, pc + 1, 0, []) else none
      | .iaload => bif Nat.beq len 1 then some (12, 50, 50, 0, pc + 1, 0, []) else none
      | .baload => bif Nat.beq len 1 then some (12, 51, 51, 0, pc + 1, 0, []) else none
      | .laload => bif Nat.beq len 1 then some (12, 52, 52, 0, pc + 1, 0, []) else none
      | .aaload => bif Nat.beq len 1 then some (12, 53, 58, 0, pc + 1, 0, []) else none
      | .iastore => bif Nat.beq len 1 then some (13, 50, 50, 0, pc + 1, 0, []) else none
      | .bastore => bif Nat.beq len 1 then some (13, 51, 51, 0, pc + 1, 0, []) else none
      | .lastore => bif Nat.beq len 1 then some (13, 52, 52, 0, pc + 1, 0, []) else none
      | .aastore => bif Nat.beq len 1 then some (13, 53, 57, 0, pc + 1, 0, []) else none
      | .ireturn => bif Nat.beq len 1 && Nat.ble jt 2 then some (14, 0, 0, jt, 0, 0, []) else none
      | .lreturn => bif Nat.beq len 1 && Nat.beq jt 3 then some (14, 0, 0, 3, 0, 0, []) else none
      | .areturn => bif Nat.beq len 1 && Nat.beq jt 4 then some (14, 0, 0, 4, 0, 0, []) else none
      | .return_ => bif Nat.beq len 1 && Nat.beq jt 9 then some (15, 0, 0, 0, 0, 0, []) else none
      | .invokevirtual i => bif Nat.beq len 3 then (ck_lu i cv).bind fun f => some (16, f, 0, 0, pc + 3, 0, []) else none
      | .invokespecial i => bif Nat.beq len 3 then (bif oi.any (Nat.beq i) then some (18, 0, 0, 0, pc + 3, 0, []) else (ck_lu i ci).bind fun f => some (16, f, 0, 0, pc + 3, 0, [])) else none
      | .invokestatic i => bif Nat.beq len 3 then (ck_lu i cs).bind fun f => some (16, f, 0, 0, pc + 3, 0, []) else none
      | .invokeinterface i _ => bif Nat.beq len 5 then (ck_lu i cf).bind fun f => some (16, f, 0, 0, pc + 5, 0, []) else none
      | .checkcast i => bif Nat.beq len 3 then (ck_lu i casts).bind fun q => some (19, 0, 0, 0, pc + 3, 0, q.map fun d => ((0 : Int), d)) else none
      | .getstatic i => bif Nat.beq len 3 then (ck_lu i sts).bind fun q => (match q with
        | (0, v) => some (0, 0, 0, v, pc + 3, 0, [])
        | (1, .ofNat v) => some (0, 22, v, 0, pc + 3, 0, [])
        | _ => none) else none
      | _ => none
def ck_ie (a b : Int) : Bool := match a, b with
  | .ofNat m, .ofNat n => Nat.beq m n
  | .negSucc m, .negSucc n => Nat.beq m n
  | _, _ => false
theorem ck_ie_ok {a b : Int} (h : ck_ie a b = true) : a = b := by
  unfold ck_ie at h
  split at h
  · rw [ck_beq h]
  · rw [ck_beq h]
  · cases h
def ck_le2 : List (Int × Nat) → List (Int × Nat) → Bool
  | [], [] => true
  | a :: u, b :: w => (ck_ie a.1 b.1 && Nat.beq a.2 b.2) && ck_le2 u w
  | _, _ => false
theorem ck_le2_ok : ∀ {a b : List (Int × Nat)}, ck_le2 a b = true → a = b := by
  intro a
  induction a with
  | nil => intro b h; cases b with
    | nil => rfl
    | cons x u => cases h
  | cons x u ih => intro b h; cases b with
    | nil => cases h
    | cons y w =>
      obtain ⟨h1, h2⟩ := Bool.and_eq_true_iff.mp h
      obtain ⟨h1, h3⟩ := Bool.and_eq_true_iff.mp h1
      rw [ih h2, show x = y from Prod.ext (ck_ie_ok h1) (ck_beq h3)]
/-- a made cell's kind is the walk's own choice -/
def ck_same (a b : ck_O) : Bool := (Nat.beq a.1 b.1 && (Nat.beq a.2.1 b.2.1 && (Nat.beq a.2.2.1 b.2.2.1 || (Nat.beq a.1 9 || Nat.beq a.1 10)))) && (((ck_ie a.2.2.2.1 b.2.2.2.1 || (Nat.beq a.1 0 && (Nat.beq a.2.1 15 || Nat.beq a.2.1 16))) && Nat.beq a.2.2.2.2.1 b.2.2.2.2.1) && (Nat.beq a.2.2.2.2.2.1 b.2.2.2.2.2.1 && ck_le2 a.2.2.2.2.2.2 b.2.2.2.2.2.2))
theorem ck_same_ok {a b : ck_O} (h : ck_same a b = true) : ∃ (c3 : Nat) (c4 : Int), b = (a.1, a.2.1, c3, c4, a.2.2.2.2) ∧ (c3 = a.2.2.1 ∨ a.1 = 9 ∨ a.1 = 10) ∧ (c4 = a.2.2.2.1 ∨ (a.1 = 0 ∧ (a.2.1 = 15 ∨ a.2.1 = 16))) := by
  unfold ck_same at h
  simp only [Bool.and_eq_true, Bool.or_eq_true] at h
  obtain ⟨⟨h1, h2, h3⟩, ⟨h4, h5⟩, h6, h7⟩ := h
  obtain ⟨a1, a2, a3, a4, a5, a6, a7⟩ := a
  obtain ⟨b1, b2, b3, b4, b5, b6, b7⟩ := b
  obtain rfl : a1 = b1 := ck_beq h1
  obtain rfl : a2 = b2 := ck_beq h2
  obtain rfl : a5 = b5 := ck_beq h5
  obtain rfl : a6 = b6 := ck_beq h6
  obtain rfl : a7 = b7 := ck_le2_ok h7
  refine ⟨b3, b4, rfl, h3.imp (fun z => (ck_beq z).symm) (fun z => z.imp ck_beq ck_beq), h4.imp (fun z => (ck_ie_ok z).symm) (fun z => ⟨ck_beq z.1, z.2.imp ck_beq ck_beq⟩)⟩
def ck_dec (cc : ByteArray) (tb : ck_TB) (l : List (Nat × ck_O)) : Bool := l.all fun x => match decode cc x.1 with
  | .ok (ins, len) => match ck_tr tb x.1 ins len with
    | some o => ck_same o x.2
    | none => false
  | .error _ => false
-- kinds of fields and answers
def ck_jt (jt : Nat) (ty : FieldType) : Prop := match jt with
  | 0 => ty = .int
  | 1 => ty = .boolean
  | 2 => ty = .byte
  | 3 => ty = .long
  | 4 => (∃ n, ty = .object n) ∨ ∃ u, ty = .array u
  | _ => False
theorem ck_jt_ok {G : am_G} {jt : Nat} {ty : FieldType} {v : Value} (h : ck_jt jt ty) (hv : ck_fv jt v) : narrow ty (am_rv G v) = am_rv G v ∧ fits ty (am_rv G v) = true := by
  unfold ck_jt at h
  unfold ck_fv at hv
  split at h
  · obtain ⟨x, rfl⟩ := hv; subst h; exact ⟨rfl, rfl⟩
  · obtain ⟨x, rfl, h0, h1⟩ := hv
    subst h
    rcases ck_bit x h0 h1 with rfl | rfl <;> exact ⟨rfl, rfl⟩
  · obtain ⟨x, rfl, h0, h1⟩ := hv
    subst h
    have e : x.toInt8.toInt32 = x := Int32.toInt_inj.mp ((ck_i8 x).1 ⟨h0, h1⟩)
    refine ⟨by show Value.int x.toInt8.toInt32 = Value.int x; rw [e], ?_⟩
    show (decide ((-128 : Int32) ≤ x) && decide (x ≤ 127)) = true
    rw [Bool.and_eq_true, decide_eq_true_eq, decide_eq_true_eq, Int32.le_iff_toInt_le, Int32.le_iff_toInt_le]
    exact ⟨h0, h1⟩
  · obtain ⟨x, rfl⟩ := hv; subst h; exact ⟨rfl, rfl⟩
  · rcases hv with ⟨q, rfl⟩ | rfl
    · rcases h with ⟨n, rfl⟩ | ⟨u, rfl⟩ <;> exact ⟨rfl, rfl⟩
    · rcases h with ⟨n, rfl⟩ | ⟨u, rfl⟩ <;> exact ⟨rfl, rfl⟩
  · exact h.elim
def ck_rj (jt : Nat) (ret : Option FieldType) : Prop := match jt with
  | 9 => ret = none
  | jt => ∃ t, ret = some t ∧ ck_jt jt t
