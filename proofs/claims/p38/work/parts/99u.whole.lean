/-! THE CLAIM OUT OF ONE WALK OF THE LAW'S BODY. Your part is whole_start (and what it stands on); all else here is the same for every law, but numbers. -/
def R_law : String := "ClockhouseLaw"
def lw_P (b : Addr) (xs : List Int32) (args : Array Value) (s : State) : Prop := args = #[.ref b] ∧ s.IntsAt b xs ∧ xs.length ≤ 256 ∧ (Jvm.Cond.and given_1 narrow_1).before args s = true ∧ heapFits s = true
def lw_Q (_ : Array Value) (s : State) (o : Outcome) (t : State) : Prop := o = .returned (some (.int 1)) ∧ Framed s o t [] 600128 7301098
def lw_Z (below : List Frame) (a : Array Value) (s : State) : State → Prop := fun t => ∃ o, t.status = .running ∧ Ended t below o ∧ lw_Q a s o t
/-- what holds at the law's entry: the machine, the code, the tables' words (any of lw_tbl by 'hts w (by decide +kernel)'), the script of L ints xs at the cell b, what the Statement gives of the start (any of its parts by flat_of_before) -/
def lw_At (p : Program) (s : State) (m : MethodId) (meth : Method) (c : Code) (b L : Nat) (xs : Nat → Int32) : Prop :=
  p.tables.exec = Jvm.exec ∧ c.code = code ∧ meth.sig.returnType = ret ∧ c.maxLocals = 7 ∧ s.vm.findClass R_law = some m.cls ∧ (∀ w ∈ lw_tbl, w.before #[Value.ref b] s = true) ∧ va_X b L xs s s.heap ∧ b < s.heap.size ∧ meth.locks = false ∧ (Jvm.Cond.and given_1 narrow_1).before #[Value.ref b] s = true
/-- from the entry, for every script of at most 256 ints, the law comes to its end with true -/
theorem whole_start {p : Program} {e : Env} {s : State} {m : MethodId} {below : List Frame} {meth : Method} {c : Code} (l : Launch) (hflags : l.flags = flags0) (hfit : heapFits s = true) {b L : Nat} {xs : Nat → Int32} (hL : L ≤ 256) (C0 : lw_At p s m meth c b L xs) : W p l e room_1 s m #[Value.ref b] below meth c s.heap [] 0 0 (lw_Z below #[Value.ref b] s) (entryFrame m ([Value.ref b] : List Value).toArray 7) := by
  obtain ⟨hx, hcode, hret, hml, hown, hts, hX, hbl, hlocks, hgv⟩ := C0
  obtain ⟨G, ⟨g1, g2⟩, hkon, hKT, hKC, hHT, vs, v1, v2⟩ := st_start hfit hts (flat_of_before _ hgv) hX hL
  have hst : l.stackTraces = false := by unfold Launch.stackTraces; rw [hflags]; decide +kernel
  have gm : gM l G li_X := ⟨⟨hst, li_XO, li_X0, hKT⟩, rfl, hKC⟩
  have X9 : am_Cx l G p s m #[Value.ref b] meth c "ClockhouseLaw" code 7 ret := ⟨hx, hcode, hml, hown, fun w hw => hts w (List.mem_filter.mp hw).1, hkon, hlocks, hst, hret⟩
  have hV : ck_In gc_yLaw_a.1.1 [(L : Int)] := ⟨rfl, fun i a z x h1 h2 => by
    match i, h1, h2 with
    | 0, h1, h2 =>
      cases h1
      cases h2
      exact ⟨Int.natCast_nonneg L, Int.ofNat_le.mpr hL⟩
    | i + 1, h1, h2 => cases h2⟩
  have hC : ck_Co gc_yLaw_a.1.2.1 [(L : Int)] := fun c hc => nomatch hc
  have hF : ∀ f ∈ gc_yLaw_a.1.2.2.1, ck_fa (am_g G []) 0 [(L : Int)] [0] f := by
    intro f hf
    cases List.mem_singleton.mp hf
    refine ⟨0, vs, rfl, v1, ?_, ?_⟩
    · show ck_Sc 1 [(1, 0)]
      unfold ck_Sc
      decide
    · rw [v2]
      simp [ck_ev]
  have hS : ck_stk [(L : Int)] [0] gc_yLaw_a.1.2.2.2.2 [.ref 0] := ⟨⟨0, rfl, rfl⟩, trivial⟩
  have hr9 : ∀ (j : Int32) (v : Value), cs_sc G j = some v → ∃ x : Int32, v = .int x := fun j v hj => by
    unfold cs_sc at hj
    rw [v1] at hj
    have hj_ : vs[j.toInt.toNat]? = some v := hj
    have y_ : ∃ x : Int32, v = .int x ∧ -2147483648 ≤ x.toInt ∧ x.toInt ≤ 2147483647 := zt_ty hHT v1 hj_ (rfl : ck_lk gT 3059 = some (3, 0, 256, [(1, 0, -2147483648, 2147483647)])) rfl
    obtain ⟨x_, hx_, -⟩ := y_
    exact ⟨x_, hx_⟩
  have hI0 : cs_I G ct_tab 0 (am_ent [.ref 0] 7) [] [] := ⟨((0, 0), cs_A0, []), rfl, (0, 0, 0, 0, zi_T, fun _ => 0, 0, 0, 0), trivial, fun j s hs => by
    unfold cs_A0 at hs
    match j, hs with
    | 0, hs =>
      cases hs
      exact Or.inr ⟨by decide, _, rfl, rfl⟩
    | 1, hs =>
      cases hs
      exact Or.inl rfl
    | 2, hs =>
      cases hs
      exact Or.inl rfl
    | 3, hs =>
      cases hs
      exact Or.inl rfl
    | 4, hs =>
      cases hs
      exact Or.inl rfl
    | 5, hs =>
      cases hs
      exact Or.inl rfl
    | 6, hs =>
      cases hs
      exact Or.inl rfl, rfl⟩
  have key := gl_law gm X9 (below := below) (e := e) (K := 0) (h := []) hHT hV hC hF rfl hS hr9 hI0
  have hent : am_L G ((lg_sl ([Value.ref 0].map (am_rv G)) ++ List.replicate (7 - (lg_sl ([Value.ref 0].map (am_rv G))).length) Slot.unset).toArray) (am_ent [.ref 0] 7) := am_L.entry (by decide)
  have hb : [Value.ref 0].map (am_rv G) = [Value.ref b] := by
    show [Value.ref (am_ad G 0)] = _
    rw [g2]
  rw [hb] at hent
  rw [lg_entry_eq]
  have hH : am_H G [] s.heap := ⟨g1.symm, fun i c h => by cases h⟩
  have hW := key _ s.heap [] hent hH va_S.rf
  intro T hT X
  obtain ⟨t, a1, o, b1, b2, b3⟩ := hW T hT X
  refine ⟨t, a1, o, b1, b2, ?_⟩
  rcases b3 with ⟨⟨rv, h', rfl, hP, -, -⟩, Lc, ⟨-, hw, hs⟩, hfree⟩ | ⟨q, -, E, ce, Lc, ⟨h', hP, -⟩, -⟩
  · obtain ⟨-, -, -, q, pq, -, -, -, -, hk⟩ := hP
    match rv, hk with
    | some v, hk =>
      obtain ⟨x, rfl, -, hx1⟩ := hk.1
      have hx2 : x.toInt = (1 : Int32).toInt := by
        rw [hx1]
        simp [ck_ev, gc_yLaw_a]
      have hx3 : x = 1 := Int32.toInt_inj.mp hx2
      subst hx3
      exact ⟨rfl, ⟨_, rfl⟩, hw, st_forget hs fun z hz => by have := hfree z hz; unfold am_A at this; rw [g1] at this; exact this⟩
  · exact absurd hP.2.2.2 List.not_mem_nil
set_option maxHeartbeats 4000000 in
theorem lw_walk (l : Launch) (hflags : l.flags = flags0) (b : Addr) (xs : List Int32) : MetFree l x (headSpec (Jvm.Cond.code x code maxLocals ret :: tables_1) room_1) (lw_P b xs) (fun _ _ _ _ _ => True) lw_Q := by
  refine MetFree.of_bodyS (code := code) (maxLocals := maxLocals) (ret := ret) (by decide) ?_ ?_
  · intro args s m h hn
    obtain ⟨meth, c, h1, h2, h3, h4, h5, h6, -, -⟩ := Cond.code_spec hn (atoms_spec (ws := Jvm.Cond.code x code maxLocals ret :: tables_1) h _ List.mem_cons_self)
    exact ⟨meth, c, h1, h2, h3, h4, h5, h6⟩
  · intro p e s m args below meth c s₁ B hml0 hP _
    obtain ⟨rfl, hx, hbd, hgv, hfit⟩ := hP
    obtain ⟨scr, harrAt, hlist, hof, hsmall⟩ := hx
    obtain ⟨hcb, hkn, -, -⟩ := State.arrayAt?_spec harrAt
    have hown : s.vm.findClass R_law = some m.cls := findClass_of_methodNamed B.named
    have hts0 : ∀ c ∈ (Jvm.Cond.code x code maxLocals ret :: tables_1), c.before #[Value.ref b] s = true := atoms_spec (ws := Jvm.Cond.code x code maxLocals ret :: tables_1) B.pre
    have hts : ∀ w ∈ lw_tbl, w.before #[Value.ref b] s = true := st_tbl (fun w hw => hts0 w (List.mem_cons_of_mem _ hw)) (flat_of_before _ hgv)
    have hml : c.maxLocals = 7 := B.maxLocals_eq (hts0 _ List.mem_cons_self)
    have X₀ : Stand p l e room_1 s m #[Value.ref b] below meth c s₁ [] 0 0 := Stand.of_body B
    have hh0 : s₁.heap = s.heap := by rw [B.state]; rfl
    have hsz : scr.slots.size = xs.length := by rw [← Array.length_toList, hlist, List.length_map]
    have hval : ∀ j : Nat, j < xs.length → scr.slots[j]? = some (.int (xs.getD j 0)) := fun j hj => by
      rw [← Array.getElem?_toList, hlist]
      simp [hj]
    have hbl : b < s.heap.size := (Array.getElem?_eq_some_iff.mp hcb).1
    have hX : va_X b xs.length (fun j => xs.getD j 0) s s.heap := ⟨scr, hcb, hof, hkn, hsz, hval⟩
    have K : W p l e room_1 s m #[Value.ref b] below meth c s₁.heap [] 0 0 (lw_Z below #[Value.ref b] s) (entryFrame m ([Value.ref b] : List Value).toArray 7) := by
      rw [hh0]
      exact whole_start l hflags hfit hbd ⟨B.exec, B.bytes, B.returns, hml, hown, hts, hX, hbl, B.notSynchronized, hgv⟩
    obtain ⟨t, a1, o, b1, b2, b3⟩ := K s₁ rfl X₀
    exact ⟨t, o, a1, b1, b2, b3⟩
theorem lw_pre_spec {args : Array Value} {s : State} (hfit : heapFits s = true) (h : (Jvm.Cond.and given_1 narrow_1).before args s = true) (hr : rest_1_c.before args s = true) : ∃ (b : Addr) (xs : List Int32), lw_P b xs args s := by
  have hs := flat_of_before _ h
  have hq := flat_of_before _ hr
  have hc : (Cond.count 1).before args s = true := hs _ (by decide +kernel)
  have harr : (Cond.arrayOf (.arg 0) .int).before args s = true := hs _ (by decide +kernel)
  have hle : (Cond.le (.length (.arg 0)) (.int 256)).before args s = true := hs _ (by decide +kernel)
  have hlen : (Cond.isInt (.length (.arg 0))).before args s = true := hq _ (by decide +kernel)
  have hall : (Cond.all (.arg 0) (.isInt (.elem (.arg 0) (.index 0)))).before args s = true := hq _ (by decide +kernel)
  obtain ⟨b, xs, hb, hx⟩ := State.ints_of_pre rfl harr hlen hall
  have hsm : xs.length < 2 ^ 31 := hx.choose_spec.2.2.2
  have hev : (Term.length (.arg 0)).eval args s none [] s = some (.int xs.length.toInt32) := hx.length_eval hb
  have hv := Cond.le_ints hev (show (Term.int 256).eval args s none [] s = some (.int 256) from rfl)
  have hd : xs.length.toInt32 ≤ 256 := by
    simpa [Cond.before, Cond.holds, hv] using hle
  have hN : xs.length ≤ 256 := (Int32.ofNat_le_ofNat hsm (by decide)).mp (show Int32.ofNat xs.length ≤ Int32.ofNat 256 from hd)
  exact ⟨b, xs, Cond.one_arg hc (show args[0]? = some (.ref b) from hb), hx, hN, h, hfit⟩
theorem lw_comes (l : Launch) (hflags : l.flags = flags0) : Comes l x (Jvm.Cond.code x code maxLocals ret :: tables_1) room_1 (fun tb e args s => Calls_1 tb e args s ∧ rest_1 tb e args s ∧ Pre_1 tb e args s)
    (fun _ _ args s o t => lw_Q args s o t) := by
  intro p e ha hc hk s m args below hf hfit hheap happ hpre
  obtain ⟨b, xs, hP⟩ := lw_pre_spec hheap hpre.2.2 hpre.2.1
  obtain ⟨k, o, h1, h2, h3, hQ⟩ := lw_walk l hflags b xs p e ha hc hk s m args below hf ((Spec.applies_iff_loose hf).mp happ).1 hP trivial
  exact ⟨k, o, h1, h2, h3, hQ⟩
theorem lw_frame {s t : State} {o : Outcome} {args : Array Value} (h : Framed s o t [] 600128 7301098) :
    Framed s o t (fieldLocs frame_1_writes args s ++ arrayLocs frame_1_arrays args s ++ staticLocs frame_1_statics s) 600128 7301098 := h
theorem lw_limb (L : Cond) (hL : ∀ (args : Array Value) (s t : State), L.after args s (.returned (some (.int 1))) t = true) :
    ArmFor flags0 classFile x code maxLocals ret World_1 tables_1 room_1 Calls_1 rest_1 Pre_1
      (fun tb e a s o t => postC L tb e a s o t ∧ Framed s o t (fieldLocs frame_1_writes a s ++ arrayLocs frame_1_arrays a s ++ staticLocs frame_1_statics s) 600128 7301098) := by
  intro l hflags _ _ p e ha hc hk s m args below hf hfit hheap happ hpre
  obtain ⟨k, o, h1, h2, h3, rfl, hF⟩ := lw_comes l hflags p e ha hc hk s m args below hf hfit hheap happ hpre
  exact ⟨k, _, h1, h2, h3, hL args s _, lw_frame hF⟩
theorem i_vc : Claimed_1_1 ∧ Claimed_1_2 := ⟨lw_limb limb_1_1 (fun args s t => by simp [limb_1_1, Cond.after, Cond.holds, Cond.value]), lw_limb limb_1_2 (fun args s t => Cond.after_iff.mpr (by
  first | (rw [show limb_1_2 = Cond.eq .result (.int 1) from rfl, Cond.eq_ints (x := 1) (y := 1) rfl rfl]; simp; done) | (simp [limb_1_2, Cond.value, Term.eval]; done)))⟩
