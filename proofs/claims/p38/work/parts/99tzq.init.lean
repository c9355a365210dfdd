/-! THE CONSTRUCTOR OF THE REFERENCE -/
theorem zm_fr.w6 {G : am_G} {h h' : List am_C} {q t : Nat} {vs : List Value} {c : am_C} (w : hd_w G h h' q c) (hg : am_g G h q = some (t, vs)) (ht : t % 100 = 6 ∨ t % 100 = 56) : zm_fr G h h' := ⟨Nat.le_of_eq w.1.symm, fun y t2 v2 e hn => (w.ne fun y_ => by
  rw [y_, hg] at e
  have e2_ := congrArg Prod.fst (Option.some.inj e)
  dsimp only at e2_
  omega).trans e⟩
theorem zm_fr.zk {G : am_G} {h h' : List am_C} {q t : Nat} {vs : List Value} (k : zk G h h' (fun y => y = q)) (hg : am_g G h q = some (t, vs)) (ht : t % 100 = 18) : zm_fr G h h' := ⟨k.1, fun y t2 v2 e hn => k.2 _ _ e fun (y_ : y = q) => by
  rw [y_, hg] at e
  have e2_ := congrArg Prod.fst (Option.some.inj e)
  dsimp only at e2_
  omega⟩
def sp_0 : sp_S := (12, [0, 0, 0, 0, 0, 0], [], [])
/-- an empty list, just made -/
theorem zm_l.nil {l : Launch} {G : am_G} {X : ck_XT} (g : gM l G X) {h : List am_C} {o : Nat → Nat} {q lab : Nat} (hg : am_g G h q = some (6, [.int (Int32.ofInt 0), .ref 4, .int 0])) (hq : 1000 ≤ q) (hl : o q = lab) : zm_l G h o q lab [] := ⟨4, 0, 6, 43056, 0, hg, rfl, zl_k4 g, rfl, ⟨Nat.le_refl _, hq⟩, Or.inl ⟨rfl, rfl⟩, hl, fun z => absurd z (by decide)⟩
set_option maxHeartbeats 4000000 in
theorem zm_init_M {l : Launch} {G : am_G} {X : ck_XT} (g : gM l G X) {x tx : Nat} {h : List am_C} (hg : am_g G h x = some (tx, [.int 0, .null, .null, .int 0, .int 0, .int 0])) (ht : tx % 100 = 19) (hx_ : 1000 ≤ x) {mc ms : Nat} {Post : am_O → List am_C → Prop} (hmc : 23 ≤ mc) (hms : 271 ≤ ms)
    (hP : ∀ h', zm_fr G h h' → zm_X G h' x 0 0 0 0 sp_0 [] → Post (.inl none) h') :
    am_M l G yX14_init (.code yX14_init prog_14_method_1_code 1 none) 5 101 mc ms [.ref x] h Post := by
  refine gh_yX14_init_X g (Nat.le_of_ble_eq_true rfl) fun S SX hs hr hw hx => ?_
  have rv : ∀ x : Int32, ck_fv 0 (.int x) := fun x => ⟨_, rfl⟩
  have lx_ := zg_lt hg
  refine hs 0 _ rfl _ _ _ _ _ _ _ rfl ?_
  refine hs 1 _ rfl _ _ _ _ _ _ rfl (Nat.le_of_ble_eq_true rfl) ?_
  refine hs 2 _ rfl _ _ _ _ _ _ _ rfl ?_
  refine zw_W (G := G) (hs 3 _ rfl) (t := 18) (vs := [.int 0, .null, .null, .null]) (m := 4) rfl rfl rfl (by omega) (by omega) fun hz333 az334 ez335 lz336 gz337 cz338 => ?_
  refine hs 4 _ rfl _ _ _ _ _ _ _ rfl ?_
  refine hs 5 _ rfl _ _ _ _ _ _ _ rfl ?_
  refine zw_E2 (G := G) (hs 6 _ rfl) (t := 55) (N := 6) rfl (by omega) (by omega) (by omega) (by omega) fun hz339 az340 ez341 lz342 gz343 cz344 => ?_
  refine hs 7 _ rfl _ _ _ _ _ _ _ rfl ?_
  refine hs 8 _ rfl _ _ _ _ _ _ _ rfl ?_
  refine hs 9 _ rfl _ _ _ _ _ _ _ rfl ?_
  refine zw_cm (hs 10 _ rfl) (a := [.long (Int64.ofInt (0 : Int))]) (st := [.int (Int32.ofInt (0 : Int)), .ref az340, .ref az340, .ref az334, .ref az334, .ref x]) 3 42 rfl rfl (Nat.le_of_ble_eq_true rfl) trivial (by omega) (by omega) (zn_of_M g (v := 0) (by omega) (by omega) (by omega) (by omega) fun hn0_ qn0_ gn0_ zn0_ => ?_)
  have lgn0_ := gn0_.1
  obtain ⟨ct0_, _, _, _, _, cg0_, ck0_, -⟩ := id zn0_
  show S 20 [some (.ref x)] [.ref qn0_, .int (Int32.ofInt (0 : Int)), .ref az340, .ref az340, .ref az334, .ref az334, .ref x] _ _ _
  refine zw_Br (hs 11 _ rfl) (by omega) ((gn0_.2 _ _ cz344)) (by first | decide | (rw [rfl]; decide)) (by first | decide | (rw [rfl]; decide)) (j := 0) (by omega) (by omega) (by simp only [List.length_set, List.length_replicate]; decide) (Or.inr (Or.inr (Or.inr (Or.inr ⟨_, _, _, rfl, cg0_, by rw [ck0_]; decide⟩)))) fun hz345 wz346 => ?_
  have lwz346 := wz346.1
  refine hs 12 _ rfl _ _ _ _ _ _ _ rfl ?_
  refine hs 13 _ rfl _ _ _ _ _ _ _ rfl ?_
  refine hs 14 _ rfl _ _ _ _ _ _ _ rfl ?_
  refine zw_cm (hs 15 _ rfl) (a := [.long (Int64.ofInt (0 : Int))]) (st := [.int (Int32.ofInt (1 : Int)), .ref az340, .ref az340, .ref az334, .ref az334, .ref x]) 3 42 rfl rfl (Nat.le_of_ble_eq_true rfl) trivial (by omega) (by omega) (zn_of_M g (v := 0) (by omega) (by omega) (by omega) (by omega) fun hn1_ qn1_ gn1_ zn1_ => ?_)
  have lgn1_ := gn1_.1
  obtain ⟨ct1_, _, _, _, _, cg1_, ck1_, -⟩ := id zn1_
  show S 27 [some (.ref x)] [.ref qn1_, .int (Int32.ofInt (1 : Int)), .ref az340, .ref az340, .ref az334, .ref az334, .ref x] _ _ _
  refine zw_Br (hs 16 _ rfl) (by omega) ((gn1_.2 _ _ wz346.at)) (by first | decide | (rw [rfl]; decide)) (by first | decide | (rw [rfl]; decide)) (j := 1) (by omega) (by omega) (by simp only [List.length_set, List.length_replicate]; decide) (Or.inr (Or.inr (Or.inr (Or.inr ⟨_, _, _, rfl, cg1_, by rw [ck1_]; decide⟩)))) fun hz347 wz348 => ?_
  have lwz348 := wz348.1
  refine hs 17 _ rfl _ _ _ _ _ _ _ rfl ?_
  refine hs 18 _ rfl _ _ _ _ _ _ _ rfl ?_
  refine hs 19 _ rfl _ _ _ _ _ _ _ rfl ?_
  refine zw_cm (hs 20 _ rfl) (a := [.long (Int64.ofInt (0 : Int))]) (st := [.int (Int32.ofInt (2 : Int)), .ref az340, .ref az340, .ref az334, .ref az334, .ref x]) 3 42 rfl rfl (Nat.le_of_ble_eq_true rfl) trivial (by omega) (by omega) (zn_of_M g (v := 0) (by omega) (by omega) (by omega) (by omega) fun hn2_ qn2_ gn2_ zn2_ => ?_)
  have lgn2_ := gn2_.1
  obtain ⟨ct2_, _, _, _, _, cg2_, ck2_, -⟩ := id zn2_
  show S 34 [some (.ref x)] [.ref qn2_, .int (Int32.ofInt (2 : Int)), .ref az340, .ref az340, .ref az334, .ref az334, .ref x] _ _ _
  refine zw_Br (hs 21 _ rfl) (by omega) ((gn2_.2 _ _ wz348.at)) (by first | decide | (rw [rfl]; decide)) (by first | decide | (rw [rfl]; decide)) (j := 2) (by omega) (by omega) (by simp only [List.length_set, List.length_replicate]; decide) (Or.inr (Or.inr (Or.inr (Or.inr ⟨_, _, _, rfl, cg2_, by rw [ck2_]; decide⟩)))) fun hz349 wz350 => ?_
  have lwz350 := wz350.1
  refine hs 22 _ rfl _ _ _ _ _ _ _ rfl ?_
  refine hs 23 _ rfl _ _ _ _ _ _ _ rfl ?_
  refine hs 24 _ rfl _ _ _ _ _ _ _ rfl ?_
  refine zw_cm (hs 25 _ rfl) (a := [.long (Int64.ofInt (0 : Int))]) (st := [.int (Int32.ofInt (3 : Int)), .ref az340, .ref az340, .ref az334, .ref az334, .ref x]) 3 42 rfl rfl (Nat.le_of_ble_eq_true rfl) trivial (by omega) (by omega) (zn_of_M g (v := 0) (by omega) (by omega) (by omega) (by omega) fun hn3_ qn3_ gn3_ zn3_ => ?_)
  have lgn3_ := gn3_.1
  obtain ⟨ct3_, _, _, _, _, cg3_, ck3_, -⟩ := id zn3_
  show S 41 [some (.ref x)] [.ref qn3_, .int (Int32.ofInt (3 : Int)), .ref az340, .ref az340, .ref az334, .ref az334, .ref x] _ _ _
  refine zw_Br (hs 26 _ rfl) (by omega) ((gn3_.2 _ _ wz350.at)) (by first | decide | (rw [rfl]; decide)) (by first | decide | (rw [rfl]; decide)) (j := 3) (by omega) (by omega) (by simp only [List.length_set, List.length_replicate]; decide) (Or.inr (Or.inr (Or.inr (Or.inr ⟨_, _, _, rfl, cg3_, by rw [ck3_]; decide⟩)))) fun hz351 wz352 => ?_
  have lwz352 := wz352.1
  refine hs 27 _ rfl _ _ _ _ _ _ _ rfl ?_
  refine hs 28 _ rfl _ _ _ _ _ _ _ rfl ?_
  refine hs 29 _ rfl _ _ _ _ _ _ _ rfl ?_
  refine zw_cm (hs 30 _ rfl) (a := [.long (Int64.ofInt (0 : Int))]) (st := [.int (Int32.ofInt (4 : Int)), .ref az340, .ref az340, .ref az334, .ref az334, .ref x]) 3 42 rfl rfl (Nat.le_of_ble_eq_true rfl) trivial (by omega) (by omega) (zn_of_M g (v := 0) (by omega) (by omega) (by omega) (by omega) fun hn4_ qn4_ gn4_ zn4_ => ?_)
  have lgn4_ := gn4_.1
  obtain ⟨ct4_, _, _, _, _, cg4_, ck4_, -⟩ := id zn4_
  show S 48 [some (.ref x)] [.ref qn4_, .int (Int32.ofInt (4 : Int)), .ref az340, .ref az340, .ref az334, .ref az334, .ref x] _ _ _
  refine zw_Br (hs 31 _ rfl) (by omega) ((gn4_.2 _ _ wz352.at)) (by first | decide | (rw [rfl]; decide)) (by first | decide | (rw [rfl]; decide)) (j := 4) (by omega) (by omega) (by simp only [List.length_set, List.length_replicate]; decide) (Or.inr (Or.inr (Or.inr (Or.inr ⟨_, _, _, rfl, cg4_, by rw [ck4_]; decide⟩)))) fun hz353 wz354 => ?_
  have lwz354 := wz354.1
  refine hs 32 _ rfl _ _ _ _ _ _ _ rfl ?_
  refine hs 33 _ rfl _ _ _ _ _ _ _ rfl ?_
  refine hs 34 _ rfl _ _ _ _ _ _ _ rfl ?_
  refine zw_cm (hs 35 _ rfl) (a := [.long (Int64.ofInt (0 : Int))]) (st := [.int (Int32.ofInt (5 : Int)), .ref az340, .ref az340, .ref az334, .ref az334, .ref x]) 3 42 rfl rfl (Nat.le_of_ble_eq_true rfl) trivial (by omega) (by omega) (zn_of_M g (v := 0) (by omega) (by omega) (by omega) (by omega) fun hn5_ qn5_ gn5_ zn5_ => ?_)
  have lgn5_ := gn5_.1
  obtain ⟨ct5_, _, _, _, _, cg5_, ck5_, -⟩ := id zn5_
  show S 55 [some (.ref x)] [.ref qn5_, .int (Int32.ofInt (5 : Int)), .ref az340, .ref az340, .ref az334, .ref az334, .ref x] _ _ _
  refine zw_Br (hs 36 _ rfl) (by omega) ((gn5_.2 _ _ wz354.at)) (by first | decide | (rw [rfl]; decide)) (by first | decide | (rw [rfl]; decide)) (j := 5) (by omega) (by omega) (by simp only [List.length_set, List.length_replicate]; decide) (Or.inr (Or.inr (Or.inr (Or.inr ⟨_, _, _, rfl, cg5_, by rw [ck5_]; decide⟩)))) fun hz355 wz356 => ?_
  have lwz356 := wz356.1
  refine zw_cmn (hs 37 _ rfl) (a := [.ref az334, .ref az340]) (st := [.ref az334, .ref x]) 2 6 rfl rfl (Nat.le_of_ble_eq_true rfl) ⟨_, _, _, rfl, ((wz356.ne (by omega)).trans ((gn5_.2 _ _ ((wz354.ne (by omega)).trans ((gn4_.2 _ _ ((wz352.ne (by omega)).trans ((gn3_.2 _ _ ((wz350.ne (by omega)).trans ((gn2_.2 _ _ ((wz348.ne (by omega)).trans ((gn1_.2 _ _ ((wz346.ne (by omega)).trans ((gn0_.2 _ _ ((gz343.2 _ _ cz338)))))))))))))))))))), rfl⟩ (by omega) (by omega) (⟨zs_init_M g ((wz356.ne (by omega)).trans ((gn5_.2 _ _ ((wz354.ne (by omega)).trans ((gn4_.2 _ _ ((wz352.ne (by omega)).trans ((gn3_.2 _ _ ((wz350.ne (by omega)).trans ((gn2_.2 _ _ ((wz348.ne (by omega)).trans ((gn1_.2 _ _ ((wz346.ne (by omega)).trans ((gn0_.2 _ _ ((gz343.2 _ _ cz338)))))))))))))))))))) rfl (by omega) (by omega) (by omega) fun hi_ ai_ bi_ ki_ li_ mi_ ni_ ci_ di_ ei_ => ?_, fun _ _ h9 => h9⟩)
  have lki_ := ki_.1
  have lai_ := zg_lt di_
  have lbi_ := zg_lt ei_
  show S 59 [some (.ref x)] [.ref az334, .ref x] _ _ _
  refine zw_U (hs 38 _ rfl) (by omega) ((ki_.2 _ _ ((wz356.ne (by omega)).trans ((gn5_.2 _ _ ((wz354.ne (by omega)).trans ((gn4_.2 _ _ ((wz352.ne (by omega)).trans ((gn3_.2 _ _ ((wz350.ne (by omega)).trans ((gn2_.2 _ _ ((wz348.ne (by omega)).trans ((gn1_.2 _ _ ((wz346.ne (by omega)).trans ((gn0_.2 _ _ ((gz343.2 _ _ ((gz337.2 _ _ hg)))))))))))))))))))))) (by omega))) ht (Or.inl ⟨_, rfl⟩) fun hz357 wz358 => ?_
  have wz358 : hd_w G hi_ hz357 x (tx, [.int 0, .ref az334, .null, .int 0, .int 0, .int 0]) := wz358
  have lwz358 := wz358.1
  refine hs 39 _ rfl _ _ _ _ _ _ _ rfl ?_
  refine zw_W (G := G) (hs 40 _ rfl) (t := 6) (vs := [.int 0, .null, .int 0]) (m := 3) rfl rfl rfl (by omega) (by omega) fun hz359 az360 ez361 lz362 gz363 cz364 => ?_
  refine hs 41 _ rfl _ _ _ _ _ _ _ rfl ?_
  refine zw_cn (hs 42 _ rfl) (a := [.ref az360]) (st := [.ref az360, .ref x]) rfl rfl (Nat.le_of_ble_eq_true rfl) ⟨_, _, _, rfl, (cz364), rfl⟩ (by omega) (by omega) (⟨zl_init_M g (cz364) rfl (by omega) fun hl9_ wl9_ => ?_, fun _ _ h9 => h9⟩)
  have lwl9_ := wl9_.1
  show S 70 [some (.ref x)] [.ref az360, .ref x] _ _ _
  refine zw_U (hs 43 _ rfl) (by omega) ((wl9_.ne (by omega)).trans ((gz363.2 _ _ wz358.at))) ht (Or.inl ⟨_, rfl⟩) fun hz365 wz366 => ?_
  have wz366 : hd_w G hl9_ hz365 x (tx, [.int 0, .ref az334, .ref az360, .int 0, .int 0, .int 0]) := wz366
  have lwz366 := wz366.1
  have fr18_ := (zm_fr.w wz366 ((wl9_.ne (by omega)).trans ((gz363.2 _ _ wz358.at))) (by first | decide | omega)).tr zm_fr.rf
  have fr17_ := (zm_fr.w6 wl9_ (cz364) (Or.inl rfl)).tr fr18_
  have fr16_ := (zm_fr.g gz363).tr fr17_
  have fr15_ := (zm_fr.w wz358 ((ki_.2 _ _ ((wz356.ne (by omega)).trans ((gn5_.2 _ _ ((wz354.ne (by omega)).trans ((gn4_.2 _ _ ((wz352.ne (by omega)).trans ((gn3_.2 _ _ ((wz350.ne (by omega)).trans ((gn2_.2 _ _ ((wz348.ne (by omega)).trans ((gn1_.2 _ _ ((wz346.ne (by omega)).trans ((gn0_.2 _ _ ((gz343.2 _ _ ((gz337.2 _ _ hg)))))))))))))))))))))) (by omega))) (by first | decide | omega)).tr fr16_
  have fr14_ := (zm_fr.zk ki_ ((wz356.ne (by omega)).trans ((gn5_.2 _ _ ((wz354.ne (by omega)).trans ((gn4_.2 _ _ ((wz352.ne (by omega)).trans ((gn3_.2 _ _ ((wz350.ne (by omega)).trans ((gn2_.2 _ _ ((wz348.ne (by omega)).trans ((gn1_.2 _ _ ((wz346.ne (by omega)).trans ((gn0_.2 _ _ ((gz343.2 _ _ cz338)))))))))))))))))))) rfl).tr fr15_
  have fr13_ := (zm_fr.w wz356 ((gn5_.2 _ _ wz354.at)) (by first | decide | omega)).tr fr14_
  have fr12_ := (zm_fr.g gn5_).tr fr13_
  have fr11_ := (zm_fr.w wz354 ((gn4_.2 _ _ wz352.at)) (by first | decide | omega)).tr fr12_
  have fr10_ := (zm_fr.g gn4_).tr fr11_
  have fr9_ := (zm_fr.w wz352 ((gn3_.2 _ _ wz350.at)) (by first | decide | omega)).tr fr10_
  have fr8_ := (zm_fr.g gn3_).tr fr9_
  have fr7_ := (zm_fr.w wz350 ((gn2_.2 _ _ wz348.at)) (by first | decide | omega)).tr fr8_
  have fr6_ := (zm_fr.g gn2_).tr fr7_
  have fr5_ := (zm_fr.w wz348 ((gn1_.2 _ _ wz346.at)) (by first | decide | omega)).tr fr6_
  have fr4_ := (zm_fr.g gn1_).tr fr5_
  have fr3_ := (zm_fr.w wz346 ((gn0_.2 _ _ cz344)) (by first | decide | omega)).tr fr4_
  have fr2_ := (zm_fr.g gn0_).tr fr3_
  have fr1_ := (zm_fr.g gz343).tr fr2_
  have fr0_ := (zm_fr.g gz337).tr fr1_
  have n1_ := (wz366.at)
  have n2_ := ((wz366.ne (by omega)).trans ((wl9_.ne (by omega)).trans ((gz363.2 _ _ ((wz358.ne (by omega)).trans ci_)))))
  have n3_ := ((wz366.ne (by omega)).trans ((wl9_.ne (by omega)).trans ((gz363.2 _ _ ((wz358.ne (by omega)).trans ((ki_.2 _ _ (wz356.at) (by omega))))))))
  have n4_ := ((wz366.ne (by omega)).trans ((wl9_.ne (by omega)).trans ((gz363.2 _ _ ((wz358.ne (by omega)).trans di_)))))
  have n5_ := ((wz366.ne (by omega)).trans ((wl9_.ne (by omega)).trans ((gz363.2 _ _ ((wz358.ne (by omega)).trans ei_)))))
  have n6_ := ((wz366.ne (by omega)).trans wl9_.at)
  have m1_ := zg_ne n2_ n1_ (by first | decide | (rw [ht]; decide))
  refine hs 44 _ rfl _ _ _ _ (by omega) (by omega) (hP _ fr0_ ⟨fun y => if y = az340 then 8 * az334 + 1 else if y = ai_ then 8 * az334 + 2 else if y = bi_ then 8 * az334 + 3 else 5, tx, az334, az360, n1_, ⟨ht, hx_⟩, ⟨18, az340, 55, ai_, bi_, [qn0_, qn1_, qn2_, qn3_, qn4_, qn5_], [], [], n2_, ⟨rfl, by omega⟩, ⟨n3_, rfl, by omega, if_pos rfl⟩, ⟨zm_l.nil g n4_ (by omega) ?_, zm_l.nil g n5_ (by omega) ?_⟩, ⟨rfl, ?_⟩, ⟨rfl, fun i v r z _ => by rw [List.getElem?_nil] at z; cases z⟩, ⟨rfl, fun i v r z _ => by rw [List.getElem?_nil] at z; cases z⟩⟩, ⟨[], zm_l.nil g n6_ (by omega) ?_, rfl, (fun i v r z _ => by rw [List.getElem?_nil] at z; cases z), (fun i j v z _ => by rw [List.getElem?_nil] at z; cases z), (fun i z => by rw [List.getElem?_nil] at z; cases z)⟩⟩)
  · show (if ai_ = az340 then _ else _) = _
    rw [if_neg (by omega), if_pos rfl]
  · show (if bi_ = az340 then _ else _) = _
    rw [if_neg (by omega), if_neg (fun z => ni_ z.symm), if_pos rfl]
  · intro i v z h1 h2
    have hz_ : z = 0 := by
      have := List.mem_of_getElem? h2
      simp only [sp_0, List.mem_cons, List.not_mem_nil, or_false] at this
      omega
    rw [hz_]
    match i, h1 with
    | 0, h1 => cases h1; exact fr3_.num zn0_
    | 1, h1 => cases h1; exact fr5_.num zn1_
    | 2, h1 => cases h1; exact fr7_.num zn2_
    | 3, h1 => cases h1; exact fr9_.num zn3_
    | 4, h1 => cases h1; exact fr11_.num zn4_
    | 5, h1 => cases h1; exact fr13_.num zn5_
    | i + 6, h1 => cases h1
  · show (if az360 = az340 then _ else _) = _
    rw [if_neg (by omega), if_neg (by omega), if_neg (by omega)]
